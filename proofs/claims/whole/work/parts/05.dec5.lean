theorem d_MO_contents_174 : decode b_MO_contents 174 = .ok (.lload_n 2, 1) := by decide +kernel
theorem d_MO_contents_175 : decode b_MO_contents 175 = .ok (.ladd, 1) := by decide +kernel
theorem d_MO_contents_176 : decode b_MO_contents 176 = .ok (.lastore, 1) := by decide +kernel
theorem d_MO_contents_177 : decode b_MO_contents 177 = .ok (.aload_n 0, 1) := by decide +kernel
theorem d_MO_contents_178 : decode b_MO_contents 178 = .ok (.getfield 83, 3) := by decide +kernel
theorem d_MO_contents_181 : decode b_MO_contents 181 = .ok (.iconst 4, 1) := by decide +kernel
theorem d_MO_contents_182 : decode b_MO_contents 182 = .ok (.ldc2_w 210, 3) := by decide +kernel
theorem d_MO_contents_185 : decode b_MO_contents 185 = .ok (.aload_n 0, 1) := by decide +kernel
theorem d_MO_contents_186 : decode b_MO_contents 186 = .ok (.getfield 83, 3) := by decide +kernel
theorem d_MO_contents_189 : decode b_MO_contents 189 = .ok (.iconst 4, 1) := by decide +kernel
theorem d_MO_contents_190 : decode b_MO_contents 190 = .ok (.laload, 1) := by decide +kernel
theorem d_MO_contents_191 : decode b_MO_contents 191 = .ok (.lmul, 1) := by decide +kernel
theorem d_MO_contents_192 : decode b_MO_contents 192 = .ok (.lload_n 2, 1) := by decide +kernel
theorem d_MO_contents_193 : decode b_MO_contents 193 = .ok (.ladd, 1) := by decide +kernel
theorem d_MO_contents_194 : decode b_MO_contents 194 = .ok (.lastore, 1) := by decide +kernel
theorem d_MO_contents_195 : decode b_MO_contents 195 = .ok (.aload_n 0, 1) := by decide +kernel
theorem d_MO_contents_196 : decode b_MO_contents 196 = .ok (.getfield 86, 3) := by decide +kernel
theorem d_MO_contents_199 : decode b_MO_contents 199 = .ok (.iload_n 1, 1) := by decide +kernel
theorem d_MO_contents_200 : decode b_MO_contents 200 = .ok (.iconst 0, 1) := by decide +kernel
theorem d_MO_contents_201 : decode b_MO_contents 201 = .ok (.bastore, 1) := by decide +kernel
theorem d_MO_contents_202 : decode b_MO_contents 202 = .ok (.goto (-180), 3) := by decide +kernel
theorem d_MO_contents_205 : decode b_MO_contents 205 = .ok (.return_, 1) := by decide +kernel
theorem d_MO_tell_0 : decode b_MO_tell 0 = .ok (.aload_n 0, 1) := by decide +kernel
theorem d_MO_tell_1 : decode b_MO_tell 1 = .ok (.getfield 212, 3) := by decide +kernel
theorem d_MO_tell_4 : decode b_MO_tell 4 = .ok (.sipush 400, 3) := by decide +kernel
theorem d_MO_tell_7 : decode b_MO_tell 7 = .ok (.if_icmp .ne 47, 3) := by decide +kernel
theorem d_MO_tell_10 : decode b_MO_tell 10 = .ok (.iconst 0, 1) := by decide +kernel
theorem d_MO_tell_11 : decode b_MO_tell 11 = .ok (.istore 8, 2) := by decide +kernel
theorem d_MO_tell_13 : decode b_MO_tell 13 = .ok (.iload 8, 2) := by decide +kernel
theorem d_MO_tell_15 : decode b_MO_tell 15 = .ok (.sipush 3990, 3) := by decide +kernel
theorem d_MO_tell_18 : decode b_MO_tell 18 = .ok (.if_icmp .ge 26, 3) := by decide +kernel
theorem d_MO_tell_21 : decode b_MO_tell 21 = .ok (.aload_n 0, 1) := by decide +kernel
theorem d_MO_tell_22 : decode b_MO_tell 22 = .ok (.getfield 74, 3) := by decide +kernel
theorem d_MO_tell_25 : decode b_MO_tell 25 = .ok (.iload 8, 2) := by decide +kernel
theorem d_MO_tell_27 : decode b_MO_tell 27 = .ok (.aload_n 0, 1) := by decide +kernel
theorem d_MO_tell_28 : decode b_MO_tell 28 = .ok (.getfield 74, 3) := by decide +kernel
theorem d_MO_tell_31 : decode b_MO_tell 31 = .ok (.iload 8, 2) := by decide +kernel
theorem d_MO_tell_33 : decode b_MO_tell 33 = .ok (.bipush 10, 2) := by decide +kernel
theorem d_MO_tell_35 : decode b_MO_tell 35 = .ok (.iadd, 1) := by decide +kernel
theorem d_MO_tell_36 : decode b_MO_tell 36 = .ok (.laload, 1) := by decide +kernel
theorem d_MO_tell_37 : decode b_MO_tell 37 = .ok (.lastore, 1) := by decide +kernel
theorem d_MO_tell_38 : decode b_MO_tell 38 = .ok (.iinc 8 1, 3) := by decide +kernel
theorem d_MO_tell_41 : decode b_MO_tell 41 = .ok (.goto (-28), 3) := by decide +kernel
theorem d_MO_tell_44 : decode b_MO_tell 44 = .ok (.aload_n 0, 1) := by decide +kernel
theorem d_MO_tell_45 : decode b_MO_tell 45 = .ok (.dup, 1) := by decide +kernel
theorem d_MO_tell_46 : decode b_MO_tell 46 = .ok (.getfield 212, 3) := by decide +kernel
theorem d_MO_tell_49 : decode b_MO_tell 49 = .ok (.iconst 1, 1) := by decide +kernel
theorem d_MO_tell_50 : decode b_MO_tell 50 = .ok (.isub, 1) := by decide +kernel
theorem d_MO_tell_51 : decode b_MO_tell 51 = .ok (.putfield 212, 3) := by decide +kernel
theorem d_MO_tell_54 : decode b_MO_tell 54 = .ok (.bipush 10, 2) := by decide +kernel
theorem d_MO_tell_56 : decode b_MO_tell 56 = .ok (.aload_n 0, 1) := by decide +kernel
theorem d_MO_tell_57 : decode b_MO_tell 57 = .ok (.getfield 212, 3) := by decide +kernel
theorem d_MO_tell_60 : decode b_MO_tell 60 = .ok (.imul, 1) := by decide +kernel
theorem d_MO_tell_61 : decode b_MO_tell 61 = .ok (.istore 8, 2) := by decide +kernel
theorem d_MO_tell_63 : decode b_MO_tell 63 = .ok (.aload_n 0, 1) := by decide +kernel
theorem d_MO_tell_64 : decode b_MO_tell 64 = .ok (.getfield 74, 3) := by decide +kernel
theorem d_MO_tell_67 : decode b_MO_tell 67 = .ok (.iload 8, 2) := by decide +kernel
theorem d_MO_tell_69 : decode b_MO_tell 69 = .ok (.iload_n 1, 1) := by decide +kernel
theorem d_MO_tell_70 : decode b_MO_tell 70 = .ok (.i2l, 1) := by decide +kernel
theorem d_MO_tell_71 : decode b_MO_tell 71 = .ok (.lastore, 1) := by decide +kernel
theorem d_MO_tell_72 : decode b_MO_tell 72 = .ok (.aload_n 0, 1) := by decide +kernel
theorem d_MO_tell_73 : decode b_MO_tell 73 = .ok (.getfield 74, 3) := by decide +kernel
theorem d_MO_tell_76 : decode b_MO_tell 76 = .ok (.iload 8, 2) := by decide +kernel
theorem d_MO_tell_78 : decode b_MO_tell 78 = .ok (.iconst 1, 1) := by decide +kernel
theorem d_MO_tell_79 : decode b_MO_tell 79 = .ok (.iadd, 1) := by decide +kernel
theorem d_MO_tell_80 : decode b_MO_tell 80 = .ok (.lload_n 2, 1) := by decide +kernel
theorem d_MO_tell_81 : decode b_MO_tell 81 = .ok (.lastore, 1) := by decide +kernel
theorem d_MO_tell_82 : decode b_MO_tell 82 = .ok (.aload_n 0, 1) := by decide +kernel
theorem d_MO_tell_83 : decode b_MO_tell 83 = .ok (.getfield 74, 3) := by decide +kernel
theorem d_MO_tell_86 : decode b_MO_tell 86 = .ok (.iload 8, 2) := by decide +kernel
theorem d_MO_tell_88 : decode b_MO_tell 88 = .ok (.iconst 2, 1) := by decide +kernel
theorem d_MO_tell_89 : decode b_MO_tell 89 = .ok (.iadd, 1) := by decide +kernel
theorem d_MO_tell_90 : decode b_MO_tell 90 = .ok (.lload 4, 2) := by decide +kernel
theorem d_MO_tell_92 : decode b_MO_tell 92 = .ok (.lastore, 1) := by decide +kernel
theorem d_MO_tell_93 : decode b_MO_tell 93 = .ok (.aload_n 0, 1) := by decide +kernel
theorem d_MO_tell_94 : decode b_MO_tell 94 = .ok (.getfield 74, 3) := by decide +kernel
theorem d_MO_tell_97 : decode b_MO_tell 97 = .ok (.iload 8, 2) := by decide +kernel
theorem d_MO_tell_99 : decode b_MO_tell 99 = .ok (.iconst 3, 1) := by decide +kernel
theorem d_MO_tell_100 : decode b_MO_tell 100 = .ok (.iadd, 1) := by decide +kernel
theorem d_MO_tell_101 : decode b_MO_tell 101 = .ok (.iload 6, 2) := by decide +kernel
theorem d_MO_tell_103 : decode b_MO_tell 103 = .ok (.i2l, 1) := by decide +kernel
theorem d_MO_tell_104 : decode b_MO_tell 104 = .ok (.lastore, 1) := by decide +kernel
theorem d_MO_tell_105 : decode b_MO_tell 105 = .ok (.iconst 0, 1) := by decide +kernel
theorem d_MO_tell_106 : decode b_MO_tell 106 = .ok (.istore 9, 2) := by decide +kernel
theorem d_MO_tell_108 : decode b_MO_tell 108 = .ok (.iload 9, 2) := by decide +kernel
theorem d_MO_tell_110 : decode b_MO_tell 110 = .ok (.iconst 5, 1) := by decide +kernel
theorem d_MO_tell_111 : decode b_MO_tell 111 = .ok (.if_icmp .ge 28, 3) := by decide +kernel
theorem d_MO_tell_114 : decode b_MO_tell 114 = .ok (.aload_n 0, 1) := by decide +kernel
theorem d_MO_tell_115 : decode b_MO_tell 115 = .ok (.getfield 74, 3) := by decide +kernel
theorem d_MO_tell_118 : decode b_MO_tell 118 = .ok (.iload 8, 2) := by decide +kernel
theorem d_MO_tell_120 : decode b_MO_tell 120 = .ok (.iconst 4, 1) := by decide +kernel
theorem d_MO_tell_121 : decode b_MO_tell 121 = .ok (.iadd, 1) := by decide +kernel
theorem d_MO_tell_122 : decode b_MO_tell 122 = .ok (.iload 9, 2) := by decide +kernel
theorem d_MO_tell_124 : decode b_MO_tell 124 = .ok (.iadd, 1) := by decide +kernel
theorem d_MO_tell_125 : decode b_MO_tell 125 = .ok (.aload_n 0, 1) := by decide +kernel
theorem d_MO_tell_126 : decode b_MO_tell 126 = .ok (.getfield 83, 3) := by decide +kernel
theorem d_MO_tell_129 : decode b_MO_tell 129 = .ok (.iload 9, 2) := by decide +kernel
theorem d_MO_tell_131 : decode b_MO_tell 131 = .ok (.laload, 1) := by decide +kernel
theorem d_MO_tell_132 : decode b_MO_tell 132 = .ok (.lastore, 1) := by decide +kernel
theorem d_MO_tell_133 : decode b_MO_tell 133 = .ok (.iinc 9 1, 3) := by decide +kernel
theorem d_MO_tell_136 : decode b_MO_tell 136 = .ok (.goto (-28), 3) := by decide +kernel
theorem d_MO_tell_139 : decode b_MO_tell 139 = .ok (.aload_n 0, 1) := by decide +kernel
theorem d_MO_tell_140 : decode b_MO_tell 140 = .ok (.getfield 74, 3) := by decide +kernel
theorem d_MO_tell_143 : decode b_MO_tell 143 = .ok (.iload 8, 2) := by decide +kernel
theorem d_MO_tell_145 : decode b_MO_tell 145 = .ok (.bipush 9, 2) := by decide +kernel
theorem d_MO_tell_147 : decode b_MO_tell 147 = .ok (.iadd, 1) := by decide +kernel
theorem d_MO_tell_148 : decode b_MO_tell 148 = .ok (.iload 7, 2) := by decide +kernel
theorem d_MO_tell_150 : decode b_MO_tell 150 = .ok (.i2l, 1) := by decide +kernel
theorem d_MO_tell_151 : decode b_MO_tell 151 = .ok (.lastore, 1) := by decide +kernel
theorem d_MO_tell_152 : decode b_MO_tell 152 = .ok (.aload_n 0, 1) := by decide +kernel
theorem d_MO_tell_153 : decode b_MO_tell 153 = .ok (.dup, 1) := by decide +kernel
theorem d_MO_tell_154 : decode b_MO_tell 154 = .ok (.getfield 212, 3) := by decide +kernel
theorem d_MO_tell_157 : decode b_MO_tell 157 = .ok (.iconst 1, 1) := by decide +kernel
theorem d_MO_tell_158 : decode b_MO_tell 158 = .ok (.iadd, 1) := by decide +kernel
theorem d_MO_tell_159 : decode b_MO_tell 159 = .ok (.putfield 212, 3) := by decide +kernel
theorem d_MO_tell_162 : decode b_MO_tell 162 = .ok (.aload_n 0, 1) := by decide +kernel
theorem d_MO_tell_163 : decode b_MO_tell 163 = .ok (.dup, 1) := by decide +kernel
theorem d_MO_tell_164 : decode b_MO_tell 164 = .ok (.getfield 215, 3) := by decide +kernel
theorem d_MO_tell_167 : decode b_MO_tell 167 = .ok (.iconst 1, 1) := by decide +kernel
theorem d_MO_tell_168 : decode b_MO_tell 168 = .ok (.iadd, 1) := by decide +kernel
theorem d_MO_tell_169 : decode b_MO_tell 169 = .ok (.putfield 215, 3) := by decide +kernel
theorem d_MO_tell_172 : decode b_MO_tell 172 = .ok (.aload_n 0, 1) := by decide +kernel
theorem d_MO_tell_173 : decode b_MO_tell 173 = .ok (.dup, 1) := by decide +kernel
theorem d_MO_tell_174 : decode b_MO_tell 174 = .ok (.getfield 218, 3) := by decide +kernel
theorem d_MO_tell_177 : decode b_MO_tell 177 = .ok (.iload 6, 2) := by decide +kernel
theorem d_MO_tell_179 : decode b_MO_tell 179 = .ok (.ifCond .ne 7, 3) := by decide +kernel
theorem d_MO_tell_182 : decode b_MO_tell 182 = .ok (.iconst 1, 1) := by decide +kernel
theorem d_MO_tell_183 : decode b_MO_tell 183 = .ok (.goto 4, 3) := by decide +kernel
theorem d_MO_tell_186 : decode b_MO_tell 186 = .ok (.iconst 0, 1) := by decide +kernel
theorem d_MO_tell_187 : decode b_MO_tell 187 = .ok (.iadd, 1) := by decide +kernel
theorem d_MO_tell_188 : decode b_MO_tell 188 = .ok (.putfield 218, 3) := by decide +kernel
theorem d_MO_tell_191 : decode b_MO_tell 191 = .ok (.aload_n 0, 1) := by decide +kernel
theorem d_MO_tell_192 : decode b_MO_tell 192 = .ok (.dup, 1) := by decide +kernel
theorem d_MO_tell_193 : decode b_MO_tell 193 = .ok (.getfield 221, 3) := by decide +kernel
theorem d_MO_tell_196 : decode b_MO_tell 196 = .ok (.iload 6, 2) := by decide +kernel
theorem d_MO_tell_198 : decode b_MO_tell 198 = .ok (.iconst 2, 1) := by decide +kernel
theorem d_MO_tell_199 : decode b_MO_tell 199 = .ok (.if_icmp .ne 7, 3) := by decide +kernel
theorem d_MO_tell_202 : decode b_MO_tell 202 = .ok (.iconst 1, 1) := by decide +kernel
theorem d_MO_tell_203 : decode b_MO_tell 203 = .ok (.goto 4, 3) := by decide +kernel
theorem d_MO_tell_206 : decode b_MO_tell 206 = .ok (.iconst 0, 1) := by decide +kernel
theorem d_MO_tell_207 : decode b_MO_tell 207 = .ok (.iadd, 1) := by decide +kernel
theorem d_MO_tell_208 : decode b_MO_tell 208 = .ok (.putfield 221, 3) := by decide +kernel
theorem d_MO_tell_211 : decode b_MO_tell 211 = .ok (.return_, 1) := by decide +kernel
theorem d_MO_fire_0 : decode b_MO_fire 0 = .ok (.iconst 0, 1) := by decide +kernel
theorem d_MO_fire_1 : decode b_MO_fire 1 = .ok (.istore_n 3, 1) := by decide +kernel
theorem d_MO_fire_2 : decode b_MO_fire 2 = .ok (.iload_n 3, 1) := by decide +kernel
theorem d_MO_fire_3 : decode b_MO_fire 3 = .ok (.sipush 300, 3) := by decide +kernel
theorem d_MO_fire_6 : decode b_MO_fire 6 = .ok (.if_icmp .ge 70, 3) := by decide +kernel
theorem d_MO_fire_9 : decode b_MO_fire 9 = .ok (.sipush 300, 3) := by decide +kernel
theorem d_MO_fire_12 : decode b_MO_fire 12 = .ok (.iload_n 1, 1) := by decide +kernel
theorem d_MO_fire_13 : decode b_MO_fire 13 = .ok (.imul, 1) := by decide +kernel
theorem d_MO_fire_14 : decode b_MO_fire 14 = .ok (.iload_n 3, 1) := by decide +kernel
theorem d_MO_fire_15 : decode b_MO_fire 15 = .ok (.iadd, 1) := by decide +kernel
theorem d_MO_fire_16 : decode b_MO_fire 16 = .ok (.istore 4, 2) := by decide +kernel
theorem d_MO_fire_18 : decode b_MO_fire 18 = .ok (.aload_n 0, 1) := by decide +kernel
theorem d_MO_fire_19 : decode b_MO_fire 19 = .ok (.getfield 86, 3) := by decide +kernel
theorem d_MO_fire_22 : decode b_MO_fire 22 = .ok (.iload_n 3, 1) := by decide +kernel
theorem d_MO_fire_23 : decode b_MO_fire 23 = .ok (.aload_n 0, 1) := by decide +kernel
theorem d_MO_fire_24 : decode b_MO_fire 24 = .ok (.getfield 62, 3) := by decide +kernel
theorem d_MO_fire_27 : decode b_MO_fire 27 = .ok (.iload 4, 2) := by decide +kernel
theorem d_MO_fire_29 : decode b_MO_fire 29 = .ok (.baload, 1) := by decide +kernel
theorem d_MO_fire_30 : decode b_MO_fire 30 = .ok (.ifCond .eq 24, 3) := by decide +kernel
theorem d_MO_fire_33 : decode b_MO_fire 33 = .ok (.aload_n 0, 1) := by decide +kernel
theorem d_MO_fire_34 : decode b_MO_fire 34 = .ok (.getfield 129, 3) := by decide +kernel
theorem d_MO_fire_37 : decode b_MO_fire 37 = .ok (.ifCond .eq 13, 3) := by decide +kernel
theorem d_MO_fire_40 : decode b_MO_fire 40 = .ok (.aload_n 0, 1) := by decide +kernel
theorem d_MO_fire_41 : decode b_MO_fire 41 = .ok (.getfield 65, 3) := by decide +kernel
theorem d_MO_fire_44 : decode b_MO_fire 44 = .ok (.iload 4, 2) := by decide +kernel
theorem d_MO_fire_46 : decode b_MO_fire 46 = .ok (.baload, 1) := by decide +kernel
theorem d_MO_fire_47 : decode b_MO_fire 47 = .ok (.ifCond .ne 7, 3) := by decide +kernel
theorem d_MO_fire_50 : decode b_MO_fire 50 = .ok (.iconst 1, 1) := by decide +kernel
theorem d_MO_fire_51 : decode b_MO_fire 51 = .ok (.goto 4, 3) := by decide +kernel
theorem d_MO_fire_54 : decode b_MO_fire 54 = .ok (.iconst 0, 1) := by decide +kernel
theorem d_MO_fire_55 : decode b_MO_fire 55 = .ok (.bastore, 1) := by decide +kernel
theorem d_MO_fire_56 : decode b_MO_fire 56 = .ok (.aload_n 0, 1) := by decide +kernel
theorem d_MO_fire_57 : decode b_MO_fire 57 = .ok (.getfield 65, 3) := by decide +kernel
theorem d_MO_fire_60 : decode b_MO_fire 60 = .ok (.iload 4, 2) := by decide +kernel
theorem d_MO_fire_62 : decode b_MO_fire 62 = .ok (.aload_n 0, 1) := by decide +kernel
theorem d_MO_fire_63 : decode b_MO_fire 63 = .ok (.getfield 62, 3) := by decide +kernel
theorem d_MO_fire_66 : decode b_MO_fire 66 = .ok (.iload 4, 2) := by decide +kernel
theorem d_MO_fire_68 : decode b_MO_fire 68 = .ok (.baload, 1) := by decide +kernel
theorem d_MO_fire_69 : decode b_MO_fire 69 = .ok (.bastore, 1) := by decide +kernel
theorem d_MO_fire_70 : decode b_MO_fire 70 = .ok (.iinc 3 1, 3) := by decide +kernel
theorem d_MO_fire_73 : decode b_MO_fire 73 = .ok (.goto (-71), 3) := by decide +kernel
theorem d_MO_fire_76 : decode b_MO_fire 76 = .ok (.aload_n 0, 1) := by decide +kernel
theorem d_MO_fire_77 : decode b_MO_fire 77 = .ok (.invokevirtual 224, 3) := by decide +kernel
theorem d_MO_fire_80 : decode b_MO_fire 80 = .ok (.aload_n 0, 1) := by decide +kernel
theorem d_MO_fire_81 : decode b_MO_fire 81 = .ok (.getfield 51, 3) := by decide +kernel
theorem d_MO_fire_84 : decode b_MO_fire 84 = .ok (.iload_n 1, 1) := by decide +kernel
theorem d_MO_fire_85 : decode b_MO_fire 85 = .ok (.dup2, 1) := by decide +kernel
theorem d_MO_fire_86 : decode b_MO_fire 86 = .ok (.iaload, 1) := by decide +kernel
theorem d_MO_fire_87 : decode b_MO_fire 87 = .ok (.iconst 1, 1) := by decide +kernel
theorem d_MO_fire_88 : decode b_MO_fire 88 = .ok (.iadd, 1) := by decide +kernel
theorem d_MO_fire_89 : decode b_MO_fire 89 = .ok (.iastore, 1) := by decide +kernel
theorem d_MO_fire_90 : decode b_MO_fire 90 = .ok (.aload_n 0, 1) := by decide +kernel
theorem d_MO_fire_91 : decode b_MO_fire 91 = .ok (.getfield 54, 3) := by decide +kernel
theorem d_MO_fire_94 : decode b_MO_fire 94 = .ok (.iload_n 1, 1) := by decide +kernel
theorem d_MO_fire_95 : decode b_MO_fire 95 = .ok (.iconst 0, 1) := by decide +kernel
theorem d_MO_fire_96 : decode b_MO_fire 96 = .ok (.iastore, 1) := by decide +kernel
theorem d_MO_fire_97 : decode b_MO_fire 97 = .ok (.aload_n 0, 1) := by decide +kernel
theorem d_MO_fire_98 : decode b_MO_fire 98 = .ok (.getfield 57, 3) := by decide +kernel
theorem d_MO_fire_101 : decode b_MO_fire 101 = .ok (.iload_n 1, 1) := by decide +kernel
theorem d_MO_fire_102 : decode b_MO_fire 102 = .ok (.aload_n 0, 1) := by decide +kernel
theorem d_MO_fire_103 : decode b_MO_fire 103 = .ok (.getfield 57, 3) := by decide +kernel
theorem d_MO_fire_106 : decode b_MO_fire 106 = .ok (.iload_n 1, 1) := by decide +kernel
theorem d_MO_fire_107 : decode b_MO_fire 107 = .ok (.baload, 1) := by decide +kernel
theorem d_MO_fire_108 : decode b_MO_fire 108 = .ok (.ifCond .ne 7, 3) := by decide +kernel
theorem d_MO_fire_111 : decode b_MO_fire 111 = .ok (.iload_n 2, 1) := by decide +kernel
theorem d_MO_fire_112 : decode b_MO_fire 112 = .ok (.ifCond .le 7, 3) := by decide +kernel
theorem d_MO_fire_115 : decode b_MO_fire 115 = .ok (.iconst 1, 1) := by decide +kernel
theorem d_MO_fire_116 : decode b_MO_fire 116 = .ok (.goto 4, 3) := by decide +kernel
theorem d_MO_fire_119 : decode b_MO_fire 119 = .ok (.iconst 0, 1) := by decide +kernel
theorem d_MO_fire_120 : decode b_MO_fire 120 = .ok (.bastore, 1) := by decide +kernel
theorem d_MO_fire_121 : decode b_MO_fire 121 = .ok (.aload_n 0, 1) := by decide +kernel
theorem d_MO_fire_122 : decode b_MO_fire 122 = .ok (.aload_n 0, 1) := by decide +kernel
theorem d_MO_fire_123 : decode b_MO_fire 123 = .ok (.getfield 42, 3) := by decide +kernel
theorem d_MO_fire_126 : decode b_MO_fire 126 = .ok (.iload_n 1, 1) := by decide +kernel
theorem d_MO_fire_127 : decode b_MO_fire 127 = .ok (.iaload, 1) := by decide +kernel
theorem d_MO_fire_128 : decode b_MO_fire 128 = .ok (.aload_n 0, 1) := by decide +kernel
theorem d_MO_fire_129 : decode b_MO_fire 129 = .ok (.getfield 45, 3) := by decide +kernel
theorem d_MO_fire_132 : decode b_MO_fire 132 = .ok (.iload_n 1, 1) := by decide +kernel
theorem d_MO_fire_133 : decode b_MO_fire 133 = .ok (.laload, 1) := by decide +kernel
theorem d_MO_fire_134 : decode b_MO_fire 134 = .ok (.aload_n 0, 1) := by decide +kernel
theorem d_MO_fire_135 : decode b_MO_fire 135 = .ok (.getfield 48, 3) := by decide +kernel
theorem d_MO_fire_138 : decode b_MO_fire 138 = .ok (.iload_n 1, 1) := by decide +kernel
theorem d_MO_fire_139 : decode b_MO_fire 139 = .ok (.laload, 1) := by decide +kernel
theorem d_MO_fire_140 : decode b_MO_fire 140 = .ok (.iload_n 2, 1) := by decide +kernel
theorem d_MO_fire_141 : decode b_MO_fire 141 = .ok (.aload_n 0, 1) := by decide +kernel
theorem d_MO_fire_142 : decode b_MO_fire 142 = .ok (.getfield 51, 3) := by decide +kernel
theorem d_MO_fire_145 : decode b_MO_fire 145 = .ok (.iload_n 1, 1) := by decide +kernel
theorem d_MO_fire_146 : decode b_MO_fire 146 = .ok (.iaload, 1) := by decide +kernel
theorem d_MO_fire_147 : decode b_MO_fire 147 = .ok (.invokevirtual 227, 3) := by decide +kernel
theorem d_MO_fire_150 : decode b_MO_fire 150 = .ok (.return_, 1) := by decide +kernel
theorem d_MO_putInto_0 : decode b_MO_putInto 0 = .ok (.aload_n 0, 1) := by decide +kernel
theorem d_MO_putInto_1 : decode b_MO_putInto 1 = .ok (.getfield 62, 3) := by decide +kernel
theorem d_MO_putInto_4 : decode b_MO_putInto 4 = .ok (.sipush 300, 3) := by decide +kernel
theorem d_MO_putInto_7 : decode b_MO_putInto 7 = .ok (.iload_n 1, 1) := by decide +kernel
theorem d_MO_putInto_8 : decode b_MO_putInto 8 = .ok (.imul, 1) := by decide +kernel
theorem d_MO_putInto_9 : decode b_MO_putInto 9 = .ok (.iload_n 2, 1) := by decide +kernel
theorem d_MO_putInto_10 : decode b_MO_putInto 10 = .ok (.iadd, 1) := by decide +kernel
theorem d_MO_putInto_11 : decode b_MO_putInto 11 = .ok (.iconst 1, 1) := by decide +kernel
theorem d_MO_putInto_12 : decode b_MO_putInto 12 = .ok (.bastore, 1) := by decide +kernel
theorem d_MO_putInto_13 : decode b_MO_putInto 13 = .ok (.aload_n 0, 1) := by decide +kernel
theorem d_MO_putInto_14 : decode b_MO_putInto 14 = .ok (.getfield 54, 3) := by decide +kernel
theorem d_MO_putInto_17 : decode b_MO_putInto 17 = .ok (.iload_n 1, 1) := by decide +kernel
theorem d_MO_putInto_18 : decode b_MO_putInto 18 = .ok (.dup2, 1) := by decide +kernel
theorem d_MO_putInto_19 : decode b_MO_putInto 19 = .ok (.iaload, 1) := by decide +kernel
theorem d_MO_putInto_20 : decode b_MO_putInto 20 = .ok (.iconst 1, 1) := by decide +kernel
theorem d_MO_putInto_21 : decode b_MO_putInto 21 = .ok (.iadd, 1) := by decide +kernel
theorem d_MO_putInto_22 : decode b_MO_putInto 22 = .ok (.iastore, 1) := by decide +kernel
theorem d_MO_putInto_23 : decode b_MO_putInto 23 = .ok (.aload_n 0, 1) := by decide +kernel
theorem d_MO_putInto_24 : decode b_MO_putInto 24 = .ok (.getfield 48, 3) := by decide +kernel
theorem d_MO_putInto_27 : decode b_MO_putInto 27 = .ok (.iload_n 1, 1) := by decide +kernel
theorem d_MO_putInto_28 : decode b_MO_putInto 28 = .ok (.laload, 1) := by decide +kernel
theorem d_MO_putInto_29 : decode b_MO_putInto 29 = .ok (.aload_n 0, 1) := by decide +kernel
theorem d_MO_putInto_30 : decode b_MO_putInto 30 = .ok (.getfield 23, 3) := by decide +kernel
theorem d_MO_putInto_33 : decode b_MO_putInto 33 = .ok (.lcmp, 1) := by decide +kernel
theorem d_MO_putInto_34 : decode b_MO_putInto 34 = .ok (.ifCond .le 32, 3) := by decide +kernel
theorem d_MO_putInto_37 : decode b_MO_putInto 37 = .ok (.aload_n 0, 1) := by decide +kernel
theorem d_MO_putInto_38 : decode b_MO_putInto 38 = .ok (.getfield 126, 3) := by decide +kernel
theorem d_MO_putInto_41 : decode b_MO_putInto 41 = .ok (.ifCond .le 38, 3) := by decide +kernel
theorem d_MO_putInto_44 : decode b_MO_putInto 44 = .ok (.aload_n 0, 1) := by decide +kernel
theorem d_MO_putInto_45 : decode b_MO_putInto 45 = .ok (.getfield 54, 3) := by decide +kernel
theorem d_MO_putInto_48 : decode b_MO_putInto 48 = .ok (.iload_n 1, 1) := by decide +kernel
theorem d_MO_putInto_49 : decode b_MO_putInto 49 = .ok (.iaload, 1) := by decide +kernel
theorem d_MO_putInto_50 : decode b_MO_putInto 50 = .ok (.aload_n 0, 1) := by decide +kernel
theorem d_MO_putInto_51 : decode b_MO_putInto 51 = .ok (.getfield 126, 3) := by decide +kernel
theorem d_MO_putInto_54 : decode b_MO_putInto 54 = .ok (.if_icmp .lt 25, 3) := by decide +kernel
theorem d_MO_putInto_57 : decode b_MO_putInto 57 = .ok (.aload_n 0, 1) := by decide +kernel
theorem d_MO_putInto_58 : decode b_MO_putInto 58 = .ok (.iload_n 1, 1) := by decide +kernel
theorem d_MO_putInto_59 : decode b_MO_putInto 59 = .ok (.iconst 0, 1) := by decide +kernel
theorem d_MO_putInto_60 : decode b_MO_putInto 60 = .ok (.invokevirtual 231, 3) := by decide +kernel
theorem d_MO_putInto_63 : decode b_MO_putInto 63 = .ok (.goto 16, 3) := by decide +kernel
theorem d_MO_putInto_66 : decode b_MO_putInto 66 = .ok (.aload_n 0, 1) := by decide +kernel
theorem d_MO_putInto_67 : decode b_MO_putInto 67 = .ok (.getfield 7, 3) := by decide +kernel
theorem d_MO_putInto_70 : decode b_MO_putInto 70 = .ok (.ifCond .eq 9, 3) := by decide +kernel
theorem d_MO_putInto_73 : decode b_MO_putInto 73 = .ok (.aload_n 0, 1) := by decide +kernel
theorem d_MO_putInto_74 : decode b_MO_putInto 74 = .ok (.iload_n 1, 1) := by decide +kernel
theorem d_MO_putInto_75 : decode b_MO_putInto 75 = .ok (.iconst 2, 1) := by decide +kernel
theorem d_MO_putInto_76 : decode b_MO_putInto 76 = .ok (.invokevirtual 231, 3) := by decide +kernel
theorem d_MO_putInto_79 : decode b_MO_putInto 79 = .ok (.return_, 1) := by decide +kernel
theorem d_MO_drop_0 : decode b_MO_drop 0 = .ok (.aload_n 0, 1) := by decide +kernel
theorem d_MO_drop_1 : decode b_MO_drop 1 = .ok (.dup, 1) := by decide +kernel
theorem d_MO_drop_2 : decode b_MO_drop 2 = .ok (.getfield 115, 3) := by decide +kernel
theorem d_MO_drop_5 : decode b_MO_drop 5 = .ok (.iconst 1, 1) := by decide +kernel
theorem d_MO_drop_6 : decode b_MO_drop 6 = .ok (.iadd, 1) := by decide +kernel
theorem d_MO_drop_7 : decode b_MO_drop 7 = .ok (.putfield 115, 3) := by decide +kernel
theorem d_MO_drop_10 : decode b_MO_drop 10 = .ok (.aload_n 0, 1) := by decide +kernel
theorem d_MO_drop_11 : decode b_MO_drop 11 = .ok (.dup, 1) := by decide +kernel
theorem d_MO_drop_12 : decode b_MO_drop 12 = .ok (.getfield 254, 3) := by decide +kernel
theorem d_MO_drop_15 : decode b_MO_drop 15 = .ok (.iconst 1, 1) := by decide +kernel
theorem d_MO_drop_16 : decode b_MO_drop 16 = .ok (.iadd, 1) := by decide +kernel
theorem d_MO_drop_17 : decode b_MO_drop 17 = .ok (.putfield 254, 3) := by decide +kernel
theorem d_MO_drop_20 : decode b_MO_drop 20 = .ok (.iconst 0, 1) := by decide +kernel
theorem d_MO_drop_21 : decode b_MO_drop 21 = .ok (.ireturn, 1) := by decide +kernel
theorem d_MO_counted_0 : decode b_MO_counted 0 = .ok (.lload_n 2, 1) := by decide +kernel
theorem d_MO_counted_1 : decode b_MO_counted 1 = .ok (.aload_n 0, 1) := by decide +kernel
theorem d_MO_counted_2 : decode b_MO_counted 2 = .ok (.getfield 23, 3) := by decide +kernel
theorem d_MO_counted_5 : decode b_MO_counted 5 = .ok (.lcmp, 1) := by decide +kernel
theorem d_MO_counted_6 : decode b_MO_counted 6 = .ok (.ifCond .ge 8, 3) := by decide +kernel
theorem d_MO_counted_9 : decode b_MO_counted 9 = .ok (.aload_n 0, 1) := by decide +kernel
theorem d_MO_counted_10 : decode b_MO_counted 10 = .ok (.invokevirtual 257, 3) := by decide +kernel
theorem d_MO_counted_13 : decode b_MO_counted 13 = .ok (.ireturn, 1) := by decide +kernel
theorem d_MO_counted_14 : decode b_MO_counted 14 = .ok (.aload_n 0, 1) := by decide +kernel
theorem d_MO_counted_15 : decode b_MO_counted 15 = .ok (.getfield 203, 3) := by decide +kernel
theorem d_MO_counted_18 : decode b_MO_counted 18 = .ok (.sipush 300, 3) := by decide +kernel
theorem d_MO_counted_21 : decode b_MO_counted 21 = .ok (.if_icmp .ne 6, 3) := by decide +kernel
theorem d_MO_counted_24 : decode b_MO_counted 24 = .ok (.bipush (-4), 2) := by decide +kernel
theorem d_MO_counted_26 : decode b_MO_counted 26 = .ok (.ireturn, 1) := by decide +kernel
theorem d_MO_counted_27 : decode b_MO_counted 27 = .ok (.aload_n 0, 1) := by decide +kernel
theorem d_MO_counted_28 : decode b_MO_counted 28 = .ok (.iload_n 1, 1) := by decide +kernel
theorem d_MO_counted_29 : decode b_MO_counted 29 = .ok (.lload_n 2, 1) := by decide +kernel
theorem d_MO_counted_30 : decode b_MO_counted 30 = .ok (.lload 4, 2) := by decide +kernel
theorem d_MO_counted_32 : decode b_MO_counted 32 = .ok (.invokevirtual 261, 3) := by decide +kernel
theorem d_MO_counted_35 : decode b_MO_counted 35 = .ok (.istore 6, 2) := by decide +kernel
theorem d_MO_counted_37 : decode b_MO_counted 37 = .ok (.aload_n 0, 1) := by decide +kernel
theorem d_MO_counted_38 : decode b_MO_counted 38 = .ok (.dup, 1) := by decide +kernel
theorem d_MO_counted_39 : decode b_MO_counted 39 = .ok (.getfield 115, 3) := by decide +kernel
theorem d_MO_counted_42 : decode b_MO_counted 42 = .ok (.iconst 1, 1) := by decide +kernel
theorem d_MO_counted_43 : decode b_MO_counted 43 = .ok (.iadd, 1) := by decide +kernel
theorem d_MO_counted_44 : decode b_MO_counted 44 = .ok (.putfield 115, 3) := by decide +kernel
theorem d_MO_counted_47 : decode b_MO_counted 47 = .ok (.iconst 1, 1) := by decide +kernel
theorem d_MO_counted_48 : decode b_MO_counted 48 = .ok (.ireturn, 1) := by decide +kernel
theorem d_MO_join_0 : decode b_MO_join 0 = .ok (.iconst 0, 1) := by decide +kernel
theorem d_MO_join_1 : decode b_MO_join 1 = .ok (.istore_n 3, 1) := by decide +kernel
theorem d_MO_join_2 : decode b_MO_join 2 = .ok (.iload_n 3, 1) := by decide +kernel
theorem d_MO_join_3 : decode b_MO_join 3 = .ok (.sipush 300, 3) := by decide +kernel
theorem d_MO_join_6 : decode b_MO_join 6 = .ok (.if_icmp .ge 59, 3) := by decide +kernel
theorem d_MO_join_9 : decode b_MO_join 9 = .ok (.sipush 300, 3) := by decide +kernel
theorem d_MO_join_12 : decode b_MO_join 12 = .ok (.iload_n 1, 1) := by decide +kernel
theorem d_MO_join_13 : decode b_MO_join 13 = .ok (.imul, 1) := by decide +kernel
theorem d_MO_join_14 : decode b_MO_join 14 = .ok (.iload_n 3, 1) := by decide +kernel
theorem d_MO_join_15 : decode b_MO_join 15 = .ok (.iadd, 1) := by decide +kernel
theorem d_MO_join_16 : decode b_MO_join 16 = .ok (.istore 4, 2) := by decide +kernel
theorem d_MO_join_18 : decode b_MO_join 18 = .ok (.sipush 300, 3) := by decide +kernel
theorem d_MO_join_21 : decode b_MO_join 21 = .ok (.iload_n 2, 1) := by decide +kernel
theorem d_MO_join_22 : decode b_MO_join 22 = .ok (.imul, 1) := by decide +kernel
theorem d_MO_join_23 : decode b_MO_join 23 = .ok (.iload_n 3, 1) := by decide +kernel
theorem d_MO_join_24 : decode b_MO_join 24 = .ok (.iadd, 1) := by decide +kernel
theorem d_MO_join_25 : decode b_MO_join 25 = .ok (.istore 5, 2) := by decide +kernel
theorem d_MO_join_27 : decode b_MO_join 27 = .ok (.aload_n 0, 1) := by decide +kernel
theorem d_MO_join_28 : decode b_MO_join 28 = .ok (.getfield 62, 3) := by decide +kernel
theorem d_MO_join_31 : decode b_MO_join 31 = .ok (.iload 5, 2) := by decide +kernel
theorem d_MO_join_33 : decode b_MO_join 33 = .ok (.baload, 1) := by decide +kernel
theorem d_MO_join_34 : decode b_MO_join 34 = .ok (.ifCond .eq 25, 3) := by decide +kernel
theorem d_MO_join_37 : decode b_MO_join 37 = .ok (.aload_n 0, 1) := by decide +kernel
theorem d_MO_join_38 : decode b_MO_join 38 = .ok (.getfield 62, 3) := by decide +kernel
theorem d_MO_join_41 : decode b_MO_join 41 = .ok (.iload 4, 2) := by decide +kernel
theorem d_MO_join_43 : decode b_MO_join 43 = .ok (.iconst 1, 1) := by decide +kernel
theorem d_MO_join_44 : decode b_MO_join 44 = .ok (.bastore, 1) := by decide +kernel
theorem d_MO_join_45 : decode b_MO_join 45 = .ok (.aload_n 0, 1) := by decide +kernel
theorem d_MO_join_46 : decode b_MO_join 46 = .ok (.getfield 65, 3) := by decide +kernel
theorem d_MO_join_49 : decode b_MO_join 49 = .ok (.iload 4, 2) := by decide +kernel
theorem d_MO_join_51 : decode b_MO_join 51 = .ok (.aload_n 0, 1) := by decide +kernel
theorem d_MO_join_52 : decode b_MO_join 52 = .ok (.getfield 65, 3) := by decide +kernel
theorem d_MO_join_55 : decode b_MO_join 55 = .ok (.iload 5, 2) := by decide +kernel
theorem d_MO_join_57 : decode b_MO_join 57 = .ok (.baload, 1) := by decide +kernel
theorem d_MO_join_58 : decode b_MO_join 58 = .ok (.bastore, 1) := by decide +kernel
theorem d_MO_join_59 : decode b_MO_join 59 = .ok (.iinc 3 1, 3) := by decide +kernel
theorem d_MO_join_62 : decode b_MO_join 62 = .ok (.goto (-60), 3) := by decide +kernel
theorem d_MO_join_65 : decode b_MO_join 65 = .ok (.aload_n 0, 1) := by decide +kernel
theorem d_MO_join_66 : decode b_MO_join 66 = .ok (.getfield 51, 3) := by decide +kernel
theorem d_MO_join_69 : decode b_MO_join 69 = .ok (.iload_n 1, 1) := by decide +kernel
theorem d_MO_join_70 : decode b_MO_join 70 = .ok (.aload_n 0, 1) := by decide +kernel
theorem d_MO_join_71 : decode b_MO_join 71 = .ok (.getfield 51, 3) := by decide +kernel
theorem d_MO_join_74 : decode b_MO_join 74 = .ok (.iload_n 2, 1) := by decide +kernel
theorem d_MO_join_75 : decode b_MO_join 75 = .ok (.iaload, 1) := by decide +kernel
theorem d_MO_join_76 : decode b_MO_join 76 = .ok (.aload_n 0, 1) := by decide +kernel
theorem d_MO_join_77 : decode b_MO_join 77 = .ok (.getfield 51, 3) := by decide +kernel
theorem d_MO_join_80 : decode b_MO_join 80 = .ok (.iload_n 1, 1) := by decide +kernel
theorem d_MO_join_81 : decode b_MO_join 81 = .ok (.iaload, 1) := by decide +kernel
theorem d_MO_join_82 : decode b_MO_join 82 = .ok (.if_icmp .le 12, 3) := by decide +kernel
theorem d_MO_join_85 : decode b_MO_join 85 = .ok (.aload_n 0, 1) := by decide +kernel
theorem d_MO_join_86 : decode b_MO_join 86 = .ok (.getfield 51, 3) := by decide +kernel
theorem d_MO_join_89 : decode b_MO_join 89 = .ok (.iload_n 2, 1) := by decide +kernel
theorem d_MO_join_90 : decode b_MO_join 90 = .ok (.iaload, 1) := by decide +kernel
theorem d_MO_join_91 : decode b_MO_join 91 = .ok (.goto 9, 3) := by decide +kernel
theorem d_MO_join_94 : decode b_MO_join 94 = .ok (.aload_n 0, 1) := by decide +kernel
theorem d_MO_join_95 : decode b_MO_join 95 = .ok (.getfield 51, 3) := by decide +kernel
theorem d_MO_join_98 : decode b_MO_join 98 = .ok (.iload_n 1, 1) := by decide +kernel
theorem d_MO_join_99 : decode b_MO_join 99 = .ok (.iaload, 1) := by decide +kernel
theorem d_MO_join_100 : decode b_MO_join 100 = .ok (.iastore, 1) := by decide +kernel
theorem d_MO_join_101 : decode b_MO_join 101 = .ok (.aload_n 0, 1) := by decide +kernel
theorem d_MO_join_102 : decode b_MO_join 102 = .ok (.getfield 54, 3) := by decide +kernel
theorem d_MO_join_105 : decode b_MO_join 105 = .ok (.iload_n 1, 1) := by decide +kernel
theorem d_MO_join_106 : decode b_MO_join 106 = .ok (.dup2, 1) := by decide +kernel
theorem d_MO_join_107 : decode b_MO_join 107 = .ok (.iaload, 1) := by decide +kernel
theorem d_MO_join_108 : decode b_MO_join 108 = .ok (.aload_n 0, 1) := by decide +kernel
theorem d_MO_join_109 : decode b_MO_join 109 = .ok (.getfield 54, 3) := by decide +kernel
theorem d_MO_join_112 : decode b_MO_join 112 = .ok (.iload_n 2, 1) := by decide +kernel
theorem d_MO_join_113 : decode b_MO_join 113 = .ok (.iaload, 1) := by decide +kernel
theorem d_MO_join_114 : decode b_MO_join 114 = .ok (.iadd, 1) := by decide +kernel
theorem d_MO_join_115 : decode b_MO_join 115 = .ok (.iastore, 1) := by decide +kernel
theorem d_MO_join_116 : decode b_MO_join 116 = .ok (.aload_n 0, 1) := by decide +kernel
theorem d_MO_join_117 : decode b_MO_join 117 = .ok (.getfield 57, 3) := by decide +kernel
theorem d_MO_join_120 : decode b_MO_join 120 = .ok (.iload_n 1, 1) := by decide +kernel
theorem d_MO_join_121 : decode b_MO_join 121 = .ok (.aload_n 0, 1) := by decide +kernel
theorem d_MO_join_122 : decode b_MO_join 122 = .ok (.getfield 57, 3) := by decide +kernel
theorem d_MO_join_125 : decode b_MO_join 125 = .ok (.iload_n 1, 1) := by decide +kernel
theorem d_MO_join_126 : decode b_MO_join 126 = .ok (.baload, 1) := by decide +kernel
theorem d_MO_join_127 : decode b_MO_join 127 = .ok (.ifCond .ne 12, 3) := by decide +kernel
theorem d_MO_join_130 : decode b_MO_join 130 = .ok (.aload_n 0, 1) := by decide +kernel
theorem d_MO_join_131 : decode b_MO_join 131 = .ok (.getfield 57, 3) := by decide +kernel
theorem d_MO_join_134 : decode b_MO_join 134 = .ok (.iload_n 2, 1) := by decide +kernel
theorem d_MO_join_135 : decode b_MO_join 135 = .ok (.baload, 1) := by decide +kernel
theorem d_MO_join_136 : decode b_MO_join 136 = .ok (.ifCond .eq 7, 3) := by decide +kernel
theorem d_MO_join_139 : decode b_MO_join 139 = .ok (.iconst 1, 1) := by decide +kernel
theorem d_MO_join_140 : decode b_MO_join 140 = .ok (.goto 4, 3) := by decide +kernel
theorem d_MO_join_143 : decode b_MO_join 143 = .ok (.iconst 0, 1) := by decide +kernel
theorem d_MO_join_144 : decode b_MO_join 144 = .ok (.bastore, 1) := by decide +kernel
theorem d_MO_join_145 : decode b_MO_join 145 = .ok (.aload_n 0, 1) := by decide +kernel
theorem d_MO_join_146 : decode b_MO_join 146 = .ok (.getfield 42, 3) := by decide +kernel
theorem d_MO_join_149 : decode b_MO_join 149 = .ok (.iload_n 2, 1) := by decide +kernel
theorem d_MO_join_150 : decode b_MO_join 150 = .ok (.iconst (-1), 1) := by decide +kernel
theorem d_MO_join_151 : decode b_MO_join 151 = .ok (.iastore, 1) := by decide +kernel
theorem d_MO_join_152 : decode b_MO_join 152 = .ok (.aload_n 0, 1) := by decide +kernel
theorem d_MO_join_153 : decode b_MO_join 153 = .ok (.dup, 1) := by decide +kernel
theorem d_MO_join_154 : decode b_MO_join 154 = .ok (.getfield 200, 3) := by decide +kernel
theorem d_MO_join_157 : decode b_MO_join 157 = .ok (.iconst 1, 1) := by decide +kernel
theorem d_MO_join_158 : decode b_MO_join 158 = .ok (.isub, 1) := by decide +kernel
theorem d_MO_join_159 : decode b_MO_join 159 = .ok (.putfield 200, 3) := by decide +kernel
theorem d_MO_join_162 : decode b_MO_join 162 = .ok (.return_, 1) := by decide +kernel
theorem d_MO_gap_0 : decode b_MO_gap 0 = .ok (.aload_n 0, 1) := by decide +kernel
theorem d_MO_gap_1 : decode b_MO_gap 1 = .ok (.getfield 77, 3) := by decide +kernel
theorem d_MO_gap_4 : decode b_MO_gap 4 = .ok (.iconst 0, 1) := by decide +kernel
theorem d_MO_gap_5 : decode b_MO_gap 5 = .ok (.laload, 1) := by decide +kernel
theorem d_MO_gap_6 : decode b_MO_gap 6 = .ok (.lstore 6, 2) := by decide +kernel
theorem d_MO_gap_8 : decode b_MO_gap 8 = .ok (.aload_n 0, 1) := by decide +kernel
theorem d_MO_gap_9 : decode b_MO_gap 9 = .ok (.getfield 80, 3) := by decide +kernel
theorem d_MO_gap_12 : decode b_MO_gap 12 = .ok (.iconst 0, 1) := by decide +kernel
theorem d_MO_gap_13 : decode b_MO_gap 13 = .ok (.laload, 1) := by decide +kernel
theorem d_MO_gap_14 : decode b_MO_gap 14 = .ok (.lstore 8, 2) := by decide +kernel
theorem d_MO_gap_16 : decode b_MO_gap 16 = .ok (.iconst 0, 1) := by decide +kernel
theorem d_MO_gap_17 : decode b_MO_gap 17 = .ok (.istore 10, 2) := by decide +kernel
theorem d_MO_gap_19 : decode b_MO_gap 19 = .ok (.iconst 0, 1) := by decide +kernel
theorem d_MO_gap_20 : decode b_MO_gap 20 = .ok (.istore 11, 2) := by decide +kernel
theorem d_MO_gap_22 : decode b_MO_gap 22 = .ok (.iload 11, 2) := by decide +kernel
theorem d_MO_gap_24 : decode b_MO_gap 24 = .ok (.sipush 200, 3) := by decide +kernel
theorem d_MO_gap_27 : decode b_MO_gap 27 = .ok (.if_icmp .ge 111, 3) := by decide +kernel
theorem d_MO_gap_30 : decode b_MO_gap 30 = .ok (.aload_n 0, 1) := by decide +kernel
theorem d_MO_gap_31 : decode b_MO_gap 31 = .ok (.getfield 42, 3) := by decide +kernel
theorem d_MO_gap_34 : decode b_MO_gap 34 = .ok (.iload 11, 2) := by decide +kernel
theorem d_MO_gap_36 : decode b_MO_gap 36 = .ok (.iaload, 1) := by decide +kernel
theorem d_MO_gap_37 : decode b_MO_gap 37 = .ok (.iload_n 1, 1) := by decide +kernel
theorem d_MO_gap_38 : decode b_MO_gap 38 = .ok (.if_icmp .ne 94, 3) := by decide +kernel
theorem d_MO_gap_41 : decode b_MO_gap 41 = .ok (.aload_n 0, 1) := by decide +kernel
theorem d_MO_gap_42 : decode b_MO_gap 42 = .ok (.getfield 45, 3) := by decide +kernel
theorem d_MO_gap_45 : decode b_MO_gap 45 = .ok (.iload 11, 2) := by decide +kernel
theorem d_MO_gap_47 : decode b_MO_gap 47 = .ok (.laload, 1) := by decide +kernel
theorem d_MO_gap_48 : decode b_MO_gap 48 = .ok (.aload_n 0, 1) := by decide +kernel
theorem d_MO_gap_49 : decode b_MO_gap 49 = .ok (.getfield 80, 3) := by decide +kernel
theorem d_MO_gap_52 : decode b_MO_gap 52 = .ok (.iconst 0, 1) := by decide +kernel
theorem d_MO_gap_53 : decode b_MO_gap 53 = .ok (.laload, 1) := by decide +kernel
theorem d_MO_gap_54 : decode b_MO_gap 54 = .ok (.lcmp, 1) := by decide +kernel
theorem d_MO_gap_55 : decode b_MO_gap 55 = .ok (.ifCond .ge 77, 3) := by decide +kernel
theorem d_MO_gap_58 : decode b_MO_gap 58 = .ok (.aload_n 0, 1) := by decide +kernel
theorem d_MO_gap_59 : decode b_MO_gap 59 = .ok (.getfield 77, 3) := by decide +kernel
theorem d_MO_gap_62 : decode b_MO_gap 62 = .ok (.iconst 0, 1) := by decide +kernel
theorem d_MO_gap_63 : decode b_MO_gap 63 = .ok (.laload, 1) := by decide +kernel
theorem d_MO_gap_64 : decode b_MO_gap 64 = .ok (.aload_n 0, 1) := by decide +kernel
theorem d_MO_gap_65 : decode b_MO_gap 65 = .ok (.getfield 48, 3) := by decide +kernel
theorem d_MO_gap_68 : decode b_MO_gap 68 = .ok (.iload 11, 2) := by decide +kernel
theorem d_MO_gap_70 : decode b_MO_gap 70 = .ok (.laload, 1) := by decide +kernel
theorem d_MO_gap_71 : decode b_MO_gap 71 = .ok (.lcmp, 1) := by decide +kernel
theorem d_MO_gap_72 : decode b_MO_gap 72 = .ok (.ifCond .ge 60, 3) := by decide +kernel
theorem d_MO_gap_75 : decode b_MO_gap 75 = .ok (.aload_n 0, 1) := by decide +kernel
theorem d_MO_gap_76 : decode b_MO_gap 76 = .ok (.getfield 45, 3) := by decide +kernel
theorem d_MO_gap_79 : decode b_MO_gap 79 = .ok (.iload 11, 2) := by decide +kernel
theorem d_MO_gap_81 : decode b_MO_gap 81 = .ok (.laload, 1) := by decide +kernel
theorem d_MO_gap_82 : decode b_MO_gap 82 = .ok (.lload 6, 2) := by decide +kernel
theorem d_MO_gap_84 : decode b_MO_gap 84 = .ok (.lcmp, 1) := by decide +kernel
theorem d_MO_gap_85 : decode b_MO_gap 85 = .ok (.ifCond .ge 13, 3) := by decide +kernel
theorem d_MO_gap_88 : decode b_MO_gap 88 = .ok (.aload_n 0, 1) := by decide +kernel
theorem d_MO_gap_89 : decode b_MO_gap 89 = .ok (.getfield 45, 3) := by decide +kernel
theorem d_MO_gap_92 : decode b_MO_gap 92 = .ok (.iload 11, 2) := by decide +kernel
theorem d_MO_gap_94 : decode b_MO_gap 94 = .ok (.laload, 1) := by decide +kernel
theorem d_MO_gap_95 : decode b_MO_gap 95 = .ok (.goto 5, 3) := by decide +kernel
theorem d_MO_gap_98 : decode b_MO_gap 98 = .ok (.lload 6, 2) := by decide +kernel
theorem d_MO_gap_100 : decode b_MO_gap 100 = .ok (.lstore 6, 2) := by decide +kernel
theorem d_MO_gap_102 : decode b_MO_gap 102 = .ok (.aload_n 0, 1) := by decide +kernel
theorem d_MO_gap_103 : decode b_MO_gap 103 = .ok (.getfield 48, 3) := by decide +kernel
theorem d_MO_gap_106 : decode b_MO_gap 106 = .ok (.iload 11, 2) := by decide +kernel
theorem d_MO_gap_108 : decode b_MO_gap 108 = .ok (.laload, 1) := by decide +kernel
theorem d_MO_gap_109 : decode b_MO_gap 109 = .ok (.lload 8, 2) := by decide +kernel
theorem d_MO_gap_111 : decode b_MO_gap 111 = .ok (.lcmp, 1) := by decide +kernel
theorem d_MO_gap_112 : decode b_MO_gap 112 = .ok (.ifCond .le 13, 3) := by decide +kernel
theorem d_MO_gap_115 : decode b_MO_gap 115 = .ok (.aload_n 0, 1) := by decide +kernel
theorem d_MO_gap_116 : decode b_MO_gap 116 = .ok (.getfield 48, 3) := by decide +kernel
theorem d_MO_gap_119 : decode b_MO_gap 119 = .ok (.iload 11, 2) := by decide +kernel
theorem d_MO_gap_121 : decode b_MO_gap 121 = .ok (.laload, 1) := by decide +kernel
theorem d_MO_gap_122 : decode b_MO_gap 122 = .ok (.goto 5, 3) := by decide +kernel
theorem d_MO_gap_125 : decode b_MO_gap 125 = .ok (.lload 8, 2) := by decide +kernel
theorem d_MO_gap_127 : decode b_MO_gap 127 = .ok (.lstore 8, 2) := by decide +kernel
theorem d_MO_gap_129 : decode b_MO_gap 129 = .ok (.iinc 10 1, 3) := by decide +kernel
theorem d_MO_gap_132 : decode b_MO_gap 132 = .ok (.iinc 11 1, 3) := by decide +kernel
theorem d_MO_gap_135 : decode b_MO_gap 135 = .ok (.goto (-113), 3) := by decide +kernel
theorem d_MO_gap_138 : decode b_MO_gap 138 = .ok (.lload 8, 2) := by decide +kernel
theorem d_MO_gap_140 : decode b_MO_gap 140 = .ok (.aload_n 0, 1) := by decide +kernel
theorem d_MO_gap_141 : decode b_MO_gap 141 = .ok (.getfield 121, 3) := by decide +kernel
theorem d_MO_gap_144 : decode b_MO_gap 144 = .ok (.ladd, 1) := by decide +kernel
theorem d_MO_gap_145 : decode b_MO_gap 145 = .ok (.aload_n 0, 1) := by decide +kernel
theorem d_MO_gap_146 : decode b_MO_gap 146 = .ok (.getfield 23, 3) := by decide +kernel
theorem d_MO_gap_149 : decode b_MO_gap 149 = .ok (.lcmp, 1) := by decide +kernel
theorem d_MO_gap_150 : decode b_MO_gap 150 = .ok (.ifCond .gt 8, 3) := by decide +kernel
theorem d_MO_gap_153 : decode b_MO_gap 153 = .ok (.aload_n 0, 1) := by decide +kernel
theorem d_MO_gap_154 : decode b_MO_gap 154 = .ok (.invokevirtual 257, 3) := by decide +kernel
theorem d_MO_gap_157 : decode b_MO_gap 157 = .ok (.ireturn, 1) := by decide +kernel
theorem d_MO_gap_158 : decode b_MO_gap 158 = .ok (.aload_n 0, 1) := by decide +kernel
theorem d_MO_gap_159 : decode b_MO_gap 159 = .ok (.getfield 203, 3) := by decide +kernel
theorem d_MO_gap_162 : decode b_MO_gap 162 = .ok (.sipush 300, 3) := by decide +kernel
theorem d_MO_gap_165 : decode b_MO_gap 165 = .ok (.if_icmp .eq 18, 3) := by decide +kernel
theorem d_MO_gap_168 : decode b_MO_gap 168 = .ok (.aload_n 0, 1) := by decide +kernel
theorem d_MO_gap_169 : decode b_MO_gap 169 = .ok (.getfield 200, 3) := by decide +kernel
theorem d_MO_gap_172 : decode b_MO_gap 172 = .ok (.iload 10, 2) := by decide +kernel
theorem d_MO_gap_174 : decode b_MO_gap 174 = .ok (.isub, 1) := by decide +kernel
theorem d_MO_gap_175 : decode b_MO_gap 175 = .ok (.iconst 1, 1) := by decide +kernel
theorem d_MO_gap_176 : decode b_MO_gap 176 = .ok (.iadd, 1) := by decide +kernel
theorem d_MO_gap_177 : decode b_MO_gap 177 = .ok (.sipush 200, 3) := by decide +kernel
theorem d_MO_gap_180 : decode b_MO_gap 180 = .ok (.if_icmp .le 6, 3) := by decide +kernel
theorem d_MO_gap_183 : decode b_MO_gap 183 = .ok (.bipush (-4), 2) := by decide +kernel
theorem d_MO_gap_185 : decode b_MO_gap 185 = .ok (.ireturn, 1) := by decide +kernel
theorem d_MO_gap_186 : decode b_MO_gap 186 = .ok (.aload_n 0, 1) := by decide +kernel
theorem d_MO_gap_187 : decode b_MO_gap 187 = .ok (.iload_n 1, 1) := by decide +kernel
theorem d_MO_gap_188 : decode b_MO_gap 188 = .ok (.lload_n 2, 1) := by decide +kernel
theorem d_MO_gap_189 : decode b_MO_gap 189 = .ok (.lload 4, 2) := by decide +kernel
theorem d_MO_gap_191 : decode b_MO_gap 191 = .ok (.invokevirtual 261, 3) := by decide +kernel
theorem d_MO_gap_194 : decode b_MO_gap 194 = .ok (.istore 11, 2) := by decide +kernel
theorem d_MO_gap_196 : decode b_MO_gap 196 = .ok (.aload_n 0, 1) := by decide +kernel
theorem d_MO_gap_197 : decode b_MO_gap 197 = .ok (.dup, 1) := by decide +kernel
theorem d_MO_gap_198 : decode b_MO_gap 198 = .ok (.getfield 115, 3) := by decide +kernel
theorem d_MO_gap_201 : decode b_MO_gap 201 = .ok (.iconst 1, 1) := by decide +kernel
theorem d_MO_gap_202 : decode b_MO_gap 202 = .ok (.iadd, 1) := by decide +kernel
theorem d_MO_gap_203 : decode b_MO_gap 203 = .ok (.putfield 115, 3) := by decide +kernel
theorem d_MO_gap_206 : decode b_MO_gap 206 = .ok (.iconst (-1), 1) := by decide +kernel
theorem d_MO_gap_207 : decode b_MO_gap 207 = .ok (.istore 12, 2) := by decide +kernel
theorem d_MO_gap_209 : decode b_MO_gap 209 = .ok (.iconst 0, 1) := by decide +kernel
theorem d_MO_gap_210 : decode b_MO_gap 210 = .ok (.istore 13, 2) := by decide +kernel
theorem d_MO_gap_212 : decode b_MO_gap 212 = .ok (.iload 13, 2) := by decide +kernel
theorem d_MO_gap_214 : decode b_MO_gap 214 = .ok (.sipush 200, 3) := by decide +kernel
theorem d_MO_gap_217 : decode b_MO_gap 217 = .ok (.if_icmp .ge 75, 3) := by decide +kernel
theorem d_MO_gap_220 : decode b_MO_gap 220 = .ok (.aload_n 0, 1) := by decide +kernel
theorem d_MO_gap_221 : decode b_MO_gap 221 = .ok (.getfield 42, 3) := by decide +kernel
theorem d_MO_gap_224 : decode b_MO_gap 224 = .ok (.iload 13, 2) := by decide +kernel
theorem d_MO_gap_226 : decode b_MO_gap 226 = .ok (.iaload, 1) := by decide +kernel
theorem d_MO_gap_227 : decode b_MO_gap 227 = .ok (.iload_n 1, 1) := by decide +kernel
theorem d_MO_gap_228 : decode b_MO_gap 228 = .ok (.if_icmp .ne 58, 3) := by decide +kernel
theorem d_MO_gap_231 : decode b_MO_gap 231 = .ok (.aload_n 0, 1) := by decide +kernel
theorem d_MO_gap_232 : decode b_MO_gap 232 = .ok (.getfield 45, 3) := by decide +kernel
theorem d_MO_gap_235 : decode b_MO_gap 235 = .ok (.iload 13, 2) := by decide +kernel
theorem d_MO_gap_237 : decode b_MO_gap 237 = .ok (.laload, 1) := by decide +kernel
theorem d_MO_gap_238 : decode b_MO_gap 238 = .ok (.aload_n 0, 1) := by decide +kernel
theorem d_MO_gap_239 : decode b_MO_gap 239 = .ok (.getfield 80, 3) := by decide +kernel
theorem d_MO_gap_242 : decode b_MO_gap 242 = .ok (.iconst 0, 1) := by decide +kernel
theorem d_MO_gap_243 : decode b_MO_gap 243 = .ok (.laload, 1) := by decide +kernel
theorem d_MO_gap_244 : decode b_MO_gap 244 = .ok (.lcmp, 1) := by decide +kernel
theorem d_MO_gap_245 : decode b_MO_gap 245 = .ok (.ifCond .ge 41, 3) := by decide +kernel
theorem d_MO_gap_248 : decode b_MO_gap 248 = .ok (.aload_n 0, 1) := by decide +kernel
theorem d_MO_gap_249 : decode b_MO_gap 249 = .ok (.getfield 77, 3) := by decide +kernel
theorem d_MO_gap_252 : decode b_MO_gap 252 = .ok (.iconst 0, 1) := by decide +kernel
theorem d_MO_gap_253 : decode b_MO_gap 253 = .ok (.laload, 1) := by decide +kernel
theorem d_MO_gap_254 : decode b_MO_gap 254 = .ok (.aload_n 0, 1) := by decide +kernel
theorem d_MO_gap_255 : decode b_MO_gap 255 = .ok (.getfield 48, 3) := by decide +kernel
theorem d_MO_gap_258 : decode b_MO_gap 258 = .ok (.iload 13, 2) := by decide +kernel
theorem d_MO_gap_260 : decode b_MO_gap 260 = .ok (.laload, 1) := by decide +kernel
theorem d_MO_gap_261 : decode b_MO_gap 261 = .ok (.lcmp, 1) := by decide +kernel
theorem d_MO_gap_262 : decode b_MO_gap 262 = .ok (.ifCond .ge 24, 3) := by decide +kernel
theorem d_MO_gap_265 : decode b_MO_gap 265 = .ok (.iload 12, 2) := by decide +kernel
theorem d_MO_gap_267 : decode b_MO_gap 267 = .ok (.iconst (-1), 1) := by decide +kernel
theorem d_MO_gap_268 : decode b_MO_gap 268 = .ok (.if_icmp .ne 10, 3) := by decide +kernel
theorem d_MO_gap_271 : decode b_MO_gap 271 = .ok (.iload 13, 2) := by decide +kernel
theorem d_MO_gap_273 : decode b_MO_gap 273 = .ok (.istore 12, 2) := by decide +kernel
theorem d_MO_gap_275 : decode b_MO_gap 275 = .ok (.goto 11, 3) := by decide +kernel
theorem d_MO_gap_278 : decode b_MO_gap 278 = .ok (.aload_n 0, 1) := by decide +kernel
theorem d_MO_gap_279 : decode b_MO_gap 279 = .ok (.iload 12, 2) := by decide +kernel
theorem d_MO_gap_281 : decode b_MO_gap 281 = .ok (.iload 13, 2) := by decide +kernel
theorem d_MO_gap_283 : decode b_MO_gap 283 = .ok (.invokevirtual 273, 3) := by decide +kernel
theorem d_MO_gap_286 : decode b_MO_gap 286 = .ok (.iinc 13 1, 3) := by decide +kernel
theorem d_MO_gap_289 : decode b_MO_gap 289 = .ok (.goto (-77), 3) := by decide +kernel
theorem d_MO_gap_292 : decode b_MO_gap 292 = .ok (.iload 12, 2) := by decide +kernel
theorem d_MO_gap_294 : decode b_MO_gap 294 = .ok (.iconst (-1), 1) := by decide +kernel
theorem d_MO_gap_295 : decode b_MO_gap 295 = .ok (.if_icmp .ne 14, 3) := by decide +kernel
theorem d_MO_gap_298 : decode b_MO_gap 298 = .ok (.aload_n 0, 1) := by decide +kernel
theorem d_MO_gap_299 : decode b_MO_gap 299 = .ok (.iload_n 1, 1) := by decide +kernel
theorem d_MO_gap_300 : decode b_MO_gap 300 = .ok (.lload 6, 2) := by decide +kernel
theorem d_MO_gap_302 : decode b_MO_gap 302 = .ok (.lload 8, 2) := by decide +kernel
theorem d_MO_gap_304 : decode b_MO_gap 304 = .ok (.invokevirtual 267, 3) := by decide +kernel
theorem d_MO_gap_307 : decode b_MO_gap 307 = .ok (.istore 12, 2) := by decide +kernel
theorem d_MO_gap_309 : decode b_MO_gap 309 = .ok (.aload_n 0, 1) := by decide +kernel
theorem d_MO_gap_310 : decode b_MO_gap 310 = .ok (.getfield 45, 3) := by decide +kernel
theorem d_MO_gap_313 : decode b_MO_gap 313 = .ok (.iload 12, 2) := by decide +kernel
theorem d_MO_gap_315 : decode b_MO_gap 315 = .ok (.lload 6, 2) := by decide +kernel
theorem d_MO_gap_317 : decode b_MO_gap 317 = .ok (.lastore, 1) := by decide +kernel
theorem d_MO_gap_318 : decode b_MO_gap 318 = .ok (.aload_n 0, 1) := by decide +kernel
theorem d_MO_gap_319 : decode b_MO_gap 319 = .ok (.getfield 48, 3) := by decide +kernel
theorem d_MO_gap_322 : decode b_MO_gap 322 = .ok (.iload 12, 2) := by decide +kernel
theorem d_MO_gap_324 : decode b_MO_gap 324 = .ok (.lload 8, 2) := by decide +kernel
theorem d_MO_gap_326 : decode b_MO_gap 326 = .ok (.lastore, 1) := by decide +kernel
theorem d_MO_gap_327 : decode b_MO_gap 327 = .ok (.aload_n 0, 1) := by decide +kernel
theorem d_MO_gap_328 : decode b_MO_gap 328 = .ok (.getfield 57, 3) := by decide +kernel
theorem d_MO_gap_331 : decode b_MO_gap 331 = .ok (.iload 12, 2) := by decide +kernel
theorem d_MO_gap_333 : decode b_MO_gap 333 = .ok (.aload_n 0, 1) := by decide +kernel
theorem d_MO_gap_334 : decode b_MO_gap 334 = .ok (.getfield 57, 3) := by decide +kernel
theorem d_MO_gap_337 : decode b_MO_gap 337 = .ok (.iload 12, 2) := by decide +kernel
theorem d_MO_gap_339 : decode b_MO_gap 339 = .ok (.baload, 1) := by decide +kernel
theorem d_MO_gap_340 : decode b_MO_gap 340 = .ok (.ifCond .eq 17, 3) := by decide +kernel
theorem d_MO_gap_343 : decode b_MO_gap 343 = .ok (.lload 8, 2) := by decide +kernel
theorem d_MO_gap_345 : decode b_MO_gap 345 = .ok (.aload_n 0, 1) := by decide +kernel
theorem d_MO_gap_346 : decode b_MO_gap 346 = .ok (.getfield 23, 3) := by decide +kernel
theorem d_MO_gap_349 : decode b_MO_gap 349 = .ok (.lcmp, 1) := by decide +kernel
theorem d_MO_gap_350 : decode b_MO_gap 350 = .ok (.ifCond .gt 7, 3) := by decide +kernel
theorem d_MO_gap_353 : decode b_MO_gap 353 = .ok (.iconst 1, 1) := by decide +kernel
theorem d_MO_gap_354 : decode b_MO_gap 354 = .ok (.goto 4, 3) := by decide +kernel
theorem d_MO_gap_357 : decode b_MO_gap 357 = .ok (.iconst 0, 1) := by decide +kernel
theorem d_MO_gap_358 : decode b_MO_gap 358 = .ok (.bastore, 1) := by decide +kernel
theorem d_MO_gap_359 : decode b_MO_gap 359 = .ok (.aload_n 0, 1) := by decide +kernel
theorem d_MO_gap_360 : decode b_MO_gap 360 = .ok (.iload 12, 2) := by decide +kernel
theorem d_MO_gap_362 : decode b_MO_gap 362 = .ok (.iload 11, 2) := by decide +kernel
theorem d_MO_gap_364 : decode b_MO_gap 364 = .ok (.invokevirtual 270, 3) := by decide +kernel
theorem d_MO_gap_367 : decode b_MO_gap 367 = .ok (.iconst 1, 1) := by decide +kernel
theorem d_MO_gap_368 : decode b_MO_gap 368 = .ok (.ireturn, 1) := by decide +kernel
theorem d_MO_plain_0 : decode b_MO_plain 0 = .ok (.iconst 0, 1) := by decide +kernel
theorem d_MO_plain_1 : decode b_MO_plain 1 = .ok (.istore 6, 2) := by decide +kernel
theorem d_MO_plain_3 : decode b_MO_plain 3 = .ok (.iconst 0, 1) := by decide +kernel
theorem d_MO_plain_4 : decode b_MO_plain 4 = .ok (.istore 7, 2) := by decide +kernel
theorem d_MO_plain_6 : decode b_MO_plain 6 = .ok (.iconst 0, 1) := by decide +kernel
theorem d_MO_plain_7 : decode b_MO_plain 7 = .ok (.istore 8, 2) := by decide +kernel
theorem d_MO_plain_9 : decode b_MO_plain 9 = .ok (.iload 8, 2) := by decide +kernel
theorem d_MO_plain_11 : decode b_MO_plain 11 = .ok (.aload_n 0, 1) := by decide +kernel
theorem d_MO_plain_12 : decode b_MO_plain 12 = .ok (.getfield 183, 3) := by decide +kernel
theorem d_MO_plain_15 : decode b_MO_plain 15 = .ok (.if_icmp .ge 65, 3) := by decide +kernel
theorem d_MO_plain_18 : decode b_MO_plain 18 = .ok (.aload_n 0, 1) := by decide +kernel
theorem d_MO_plain_19 : decode b_MO_plain 19 = .ok (.getfield 80, 3) := by decide +kernel
theorem d_MO_plain_22 : decode b_MO_plain 22 = .ok (.iload 8, 2) := by decide +kernel
theorem d_MO_plain_24 : decode b_MO_plain 24 = .ok (.laload, 1) := by decide +kernel
theorem d_MO_plain_25 : decode b_MO_plain 25 = .ok (.aload_n 0, 1) := by decide +kernel
theorem d_MO_plain_26 : decode b_MO_plain 26 = .ok (.getfield 121, 3) := by decide +kernel
theorem d_MO_plain_29 : decode b_MO_plain 29 = .ok (.ladd, 1) := by decide +kernel
theorem d_MO_plain_30 : decode b_MO_plain 30 = .ok (.aload_n 0, 1) := by decide +kernel
theorem d_MO_plain_31 : decode b_MO_plain 31 = .ok (.getfield 23, 3) := by decide +kernel
theorem d_MO_plain_34 : decode b_MO_plain 34 = .ok (.lcmp, 1) := by decide +kernel
theorem d_MO_plain_35 : decode b_MO_plain 35 = .ok (.ifCond .le 39, 3) := by decide +kernel
theorem d_MO_plain_38 : decode b_MO_plain 38 = .ok (.iinc 6 1, 3) := by decide +kernel
theorem d_MO_plain_41 : decode b_MO_plain 41 = .ok (.iload 7, 2) := by decide +kernel
theorem d_MO_plain_43 : decode b_MO_plain 43 = .ok (.aload_n 0, 1) := by decide +kernel
theorem d_MO_plain_44 : decode b_MO_plain 44 = .ok (.iload_n 1, 1) := by decide +kernel
theorem d_MO_plain_45 : decode b_MO_plain 45 = .ok (.aload_n 0, 1) := by decide +kernel
theorem d_MO_plain_46 : decode b_MO_plain 46 = .ok (.getfield 77, 3) := by decide +kernel
theorem d_MO_plain_49 : decode b_MO_plain 49 = .ok (.iload 8, 2) := by decide +kernel
theorem d_MO_plain_51 : decode b_MO_plain 51 = .ok (.laload, 1) := by decide +kernel
theorem d_MO_plain_52 : decode b_MO_plain 52 = .ok (.aload_n 0, 1) := by decide +kernel
theorem d_MO_plain_53 : decode b_MO_plain 53 = .ok (.getfield 80, 3) := by decide +kernel
theorem d_MO_plain_56 : decode b_MO_plain 56 = .ok (.iload 8, 2) := by decide +kernel
theorem d_MO_plain_58 : decode b_MO_plain 58 = .ok (.laload, 1) := by decide +kernel
theorem d_MO_plain_59 : decode b_MO_plain 59 = .ok (.invokevirtual 264, 3) := by decide +kernel
theorem d_MO_plain_62 : decode b_MO_plain 62 = .ok (.iconst (-1), 1) := by decide +kernel
theorem d_MO_plain_63 : decode b_MO_plain 63 = .ok (.if_icmp .ne 7, 3) := by decide +kernel
theorem d_MO_plain_66 : decode b_MO_plain 66 = .ok (.iconst 1, 1) := by decide +kernel
theorem d_MO_plain_67 : decode b_MO_plain 67 = .ok (.goto 4, 3) := by decide +kernel
theorem d_MO_plain_70 : decode b_MO_plain 70 = .ok (.iconst 0, 1) := by decide +kernel
theorem d_MO_plain_71 : decode b_MO_plain 71 = .ok (.iadd, 1) := by decide +kernel
theorem d_MO_plain_72 : decode b_MO_plain 72 = .ok (.istore 7, 2) := by decide +kernel
theorem d_MO_plain_74 : decode b_MO_plain 74 = .ok (.iinc 8 1, 3) := by decide +kernel
theorem d_MO_plain_77 : decode b_MO_plain 77 = .ok (.goto (-68), 3) := by decide +kernel
theorem d_MO_plain_80 : decode b_MO_plain 80 = .ok (.iload 6, 2) := by decide +kernel
theorem d_MO_plain_82 : decode b_MO_plain 82 = .ok (.ifCond .ne 8, 3) := by decide +kernel
theorem d_MO_plain_85 : decode b_MO_plain 85 = .ok (.aload_n 0, 1) := by decide +kernel
theorem d_MO_plain_86 : decode b_MO_plain 86 = .ok (.invokevirtual 257, 3) := by decide +kernel
theorem d_MO_plain_89 : decode b_MO_plain 89 = .ok (.ireturn, 1) := by decide +kernel
theorem d_MO_plain_90 : decode b_MO_plain 90 = .ok (.aload_n 0, 1) := by decide +kernel
theorem d_MO_plain_91 : decode b_MO_plain 91 = .ok (.getfield 203, 3) := by decide +kernel
theorem d_MO_plain_94 : decode b_MO_plain 94 = .ok (.sipush 300, 3) := by decide +kernel
theorem d_MO_plain_97 : decode b_MO_plain 97 = .ok (.if_icmp .eq 16, 3) := by decide +kernel
theorem d_MO_plain_100 : decode b_MO_plain 100 = .ok (.aload_n 0, 1) := by decide +kernel
theorem d_MO_plain_101 : decode b_MO_plain 101 = .ok (.getfield 200, 3) := by decide +kernel
theorem d_MO_plain_104 : decode b_MO_plain 104 = .ok (.iload 7, 2) := by decide +kernel
theorem d_MO_plain_106 : decode b_MO_plain 106 = .ok (.iadd, 1) := by decide +kernel
theorem d_MO_plain_107 : decode b_MO_plain 107 = .ok (.sipush 200, 3) := by decide +kernel
theorem d_MO_plain_110 : decode b_MO_plain 110 = .ok (.if_icmp .le 6, 3) := by decide +kernel
theorem d_MO_plain_113 : decode b_MO_plain 113 = .ok (.bipush (-4), 2) := by decide +kernel
theorem d_MO_plain_115 : decode b_MO_plain 115 = .ok (.ireturn, 1) := by decide +kernel
theorem d_MO_plain_116 : decode b_MO_plain 116 = .ok (.aload_n 0, 1) := by decide +kernel
theorem d_MO_plain_117 : decode b_MO_plain 117 = .ok (.iload_n 1, 1) := by decide +kernel
theorem d_MO_plain_118 : decode b_MO_plain 118 = .ok (.lload_n 2, 1) := by decide +kernel
theorem d_MO_plain_119 : decode b_MO_plain 119 = .ok (.lload 4, 2) := by decide +kernel
theorem d_MO_plain_121 : decode b_MO_plain 121 = .ok (.invokevirtual 261, 3) := by decide +kernel
theorem d_MO_plain_124 : decode b_MO_plain 124 = .ok (.istore 8, 2) := by decide +kernel
theorem d_MO_plain_126 : decode b_MO_plain 126 = .ok (.aload_n 0, 1) := by decide +kernel
theorem d_MO_plain_127 : decode b_MO_plain 127 = .ok (.dup, 1) := by decide +kernel
theorem d_MO_plain_128 : decode b_MO_plain 128 = .ok (.getfield 115, 3) := by decide +kernel
theorem d_MO_plain_131 : decode b_MO_plain 131 = .ok (.iconst 1, 1) := by decide +kernel
theorem d_MO_plain_132 : decode b_MO_plain 132 = .ok (.iadd, 1) := by decide +kernel
theorem d_MO_plain_133 : decode b_MO_plain 133 = .ok (.putfield 115, 3) := by decide +kernel
theorem d_MO_plain_136 : decode b_MO_plain 136 = .ok (.iconst 0, 1) := by decide +kernel
theorem d_MO_plain_137 : decode b_MO_plain 137 = .ok (.istore 9, 2) := by decide +kernel
theorem d_MO_plain_139 : decode b_MO_plain 139 = .ok (.iload 9, 2) := by decide +kernel
theorem d_MO_plain_141 : decode b_MO_plain 141 = .ok (.aload_n 0, 1) := by decide +kernel
theorem d_MO_plain_142 : decode b_MO_plain 142 = .ok (.getfield 183, 3) := by decide +kernel
theorem d_MO_plain_145 : decode b_MO_plain 145 = .ok (.if_icmp .ge 86, 3) := by decide +kernel
theorem d_MO_plain_148 : decode b_MO_plain 148 = .ok (.aload_n 0, 1) := by decide +kernel
theorem d_MO_plain_149 : decode b_MO_plain 149 = .ok (.getfield 80, 3) := by decide +kernel
theorem d_MO_plain_152 : decode b_MO_plain 152 = .ok (.iload 9, 2) := by decide +kernel
theorem d_MO_plain_154 : decode b_MO_plain 154 = .ok (.laload, 1) := by decide +kernel
theorem d_MO_plain_155 : decode b_MO_plain 155 = .ok (.aload_n 0, 1) := by decide +kernel
theorem d_MO_plain_156 : decode b_MO_plain 156 = .ok (.getfield 121, 3) := by decide +kernel
theorem d_MO_plain_159 : decode b_MO_plain 159 = .ok (.ladd, 1) := by decide +kernel
theorem d_MO_plain_160 : decode b_MO_plain 160 = .ok (.aload_n 0, 1) := by decide +kernel
theorem d_MO_plain_161 : decode b_MO_plain 161 = .ok (.getfield 23, 3) := by decide +kernel
theorem d_MO_plain_164 : decode b_MO_plain 164 = .ok (.lcmp, 1) := by decide +kernel
theorem d_MO_plain_165 : decode b_MO_plain 165 = .ok (.ifCond .le 60, 3) := by decide +kernel
theorem d_MO_plain_168 : decode b_MO_plain 168 = .ok (.aload_n 0, 1) := by decide +kernel
theorem d_MO_plain_169 : decode b_MO_plain 169 = .ok (.iload_n 1, 1) := by decide +kernel
theorem d_MO_plain_170 : decode b_MO_plain 170 = .ok (.aload_n 0, 1) := by decide +kernel
theorem d_MO_plain_171 : decode b_MO_plain 171 = .ok (.getfield 77, 3) := by decide +kernel
theorem d_MO_plain_174 : decode b_MO_plain 174 = .ok (.iload 9, 2) := by decide +kernel
theorem d_MO_plain_176 : decode b_MO_plain 176 = .ok (.laload, 1) := by decide +kernel
theorem d_MO_plain_177 : decode b_MO_plain 177 = .ok (.aload_n 0, 1) := by decide +kernel
theorem d_MO_plain_178 : decode b_MO_plain 178 = .ok (.getfield 80, 3) := by decide +kernel
theorem d_MO_plain_181 : decode b_MO_plain 181 = .ok (.iload 9, 2) := by decide +kernel
theorem d_MO_plain_183 : decode b_MO_plain 183 = .ok (.laload, 1) := by decide +kernel
theorem d_MO_plain_184 : decode b_MO_plain 184 = .ok (.invokevirtual 264, 3) := by decide +kernel
theorem d_MO_plain_187 : decode b_MO_plain 187 = .ok (.istore 10, 2) := by decide +kernel
theorem d_MO_plain_189 : decode b_MO_plain 189 = .ok (.aload_n 0, 1) := by decide +kernel
theorem d_MO_plain_190 : decode b_MO_plain 190 = .ok (.iload 10, 2) := by decide +kernel
theorem d_MO_plain_192 : decode b_MO_plain 192 = .ok (.iconst (-1), 1) := by decide +kernel
theorem d_MO_plain_193 : decode b_MO_plain 193 = .ok (.if_icmp .ne 25, 3) := by decide +kernel
theorem d_MO_plain_196 : decode b_MO_plain 196 = .ok (.aload_n 0, 1) := by decide +kernel
theorem d_MO_plain_197 : decode b_MO_plain 197 = .ok (.iload_n 1, 1) := by decide +kernel
theorem d_MO_plain_198 : decode b_MO_plain 198 = .ok (.aload_n 0, 1) := by decide +kernel
theorem d_MO_plain_199 : decode b_MO_plain 199 = .ok (.getfield 77, 3) := by decide +kernel
theorem d_MO_plain_202 : decode b_MO_plain 202 = .ok (.iload 9, 2) := by decide +kernel
theorem d_MO_plain_204 : decode b_MO_plain 204 = .ok (.laload, 1) := by decide +kernel
theorem d_MO_plain_205 : decode b_MO_plain 205 = .ok (.aload_n 0, 1) := by decide +kernel
theorem d_MO_plain_206 : decode b_MO_plain 206 = .ok (.getfield 80, 3) := by decide +kernel
theorem d_MO_plain_209 : decode b_MO_plain 209 = .ok (.iload 9, 2) := by decide +kernel
theorem d_MO_plain_211 : decode b_MO_plain 211 = .ok (.laload, 1) := by decide +kernel
theorem d_MO_plain_212 : decode b_MO_plain 212 = .ok (.invokevirtual 267, 3) := by decide +kernel
theorem d_MO_plain_215 : decode b_MO_plain 215 = .ok (.goto 5, 3) := by decide +kernel
theorem d_MO_plain_218 : decode b_MO_plain 218 = .ok (.iload 10, 2) := by decide +kernel
theorem d_MO_plain_220 : decode b_MO_plain 220 = .ok (.iload 8, 2) := by decide +kernel
theorem d_MO_plain_222 : decode b_MO_plain 222 = .ok (.invokevirtual 270, 3) := by decide +kernel
theorem d_MO_plain_225 : decode b_MO_plain 225 = .ok (.iinc 9 1, 3) := by decide +kernel
theorem d_MO_plain_228 : decode b_MO_plain 228 = .ok (.goto (-89), 3) := by decide +kernel
theorem d_MO_plain_231 : decode b_MO_plain 231 = .ok (.iload 6, 2) := by decide +kernel
theorem d_MO_plain_233 : decode b_MO_plain 233 = .ok (.ireturn, 1) := by decide +kernel
theorem d_MO_row_0 : decode b_MO_row 0 = .ok (.aload_n 0, 1) := by decide +kernel
theorem d_MO_row_1 : decode b_MO_row 1 = .ok (.iconst 0, 1) := by decide +kernel
theorem d_MO_row_2 : decode b_MO_row 2 = .ok (.putfield 104, 3) := by decide +kernel
theorem d_MO_row_5 : decode b_MO_row 5 = .ok (.iload_n 1, 1) := by decide +kernel
theorem d_MO_row_6 : decode b_MO_row 6 = .ok (.i2l, 1) := by decide +kernel
theorem d_MO_row_7 : decode b_MO_row 7 = .ok (.lconst 0, 1) := by decide +kernel
theorem d_MO_row_8 : decode b_MO_row 8 = .ok (.ldc2_w 235, 3) := by decide +kernel
theorem d_MO_row_11 : decode b_MO_row 11 = .ok (.invokestatic 111, 3) := by decide +kernel
theorem d_MO_row_14 : decode b_MO_row 14 = .ok (.ifCond .ne 5, 3) := by decide +kernel
theorem d_MO_row_17 : decode b_MO_row 17 = .ok (.iconst (-1), 1) := by decide +kernel
theorem d_MO_row_18 : decode b_MO_row 18 = .ok (.ireturn, 1) := by decide +kernel
theorem d_MO_row_19 : decode b_MO_row 19 = .ok (.aload_n 0, 1) := by decide +kernel
theorem d_MO_row_20 : decode b_MO_row 20 = .ok (.getfield 93, 3) := by decide +kernel
theorem d_MO_row_23 : decode b_MO_row 23 = .ok (.iconst 4, 1) := by decide +kernel
theorem d_MO_row_24 : decode b_MO_row 24 = .ok (.if_icmp .ne 9, 3) := by decide +kernel
theorem d_MO_row_27 : decode b_MO_row 27 = .ok (.ldc2_w 237, 3) := by decide +kernel
theorem d_MO_row_30 : decode b_MO_row 30 = .ok (.goto 6, 3) := by decide +kernel
theorem d_MO_row_33 : decode b_MO_row 33 = .ok (.ldc2_w 239, 3) := by decide +kernel
theorem d_MO_row_36 : decode b_MO_row 36 = .ok (.lstore 6, 2) := by decide +kernel
theorem d_MO_row_38 : decode b_MO_row 38 = .ok (.lload_n 2, 1) := by decide +kernel
theorem d_MO_row_39 : decode b_MO_row 39 = .ok (.lload 6, 2) := by decide +kernel
theorem d_MO_row_41 : decode b_MO_row 41 = .ok (.lneg, 1) := by decide +kernel
theorem d_MO_row_42 : decode b_MO_row 42 = .ok (.lload 6, 2) := by decide +kernel
theorem d_MO_row_44 : decode b_MO_row 44 = .ok (.invokestatic 111, 3) := by decide +kernel
theorem d_MO_row_47 : decode b_MO_row 47 = .ok (.ifCond .ne 6, 3) := by decide +kernel
theorem d_MO_row_50 : decode b_MO_row 50 = .ok (.bipush (-2), 2) := by decide +kernel
theorem d_MO_row_52 : decode b_MO_row 52 = .ok (.ireturn, 1) := by decide +kernel
theorem d_MO_row_53 : decode b_MO_row 53 = .ok (.aload_n 0, 1) := by decide +kernel
theorem d_MO_row_54 : decode b_MO_row 54 = .ok (.getfield 93, 3) := by decide +kernel
theorem d_MO_row_57 : decode b_MO_row 57 = .ok (.iconst 5, 1) := by decide +kernel
theorem d_MO_row_58 : decode b_MO_row 58 = .ok (.if_icmp .ne 23, 3) := by decide +kernel
theorem d_MO_row_61 : decode b_MO_row 61 = .ok (.aload_n 0, 1) := by decide +kernel
theorem d_MO_row_62 : decode b_MO_row 62 = .ok (.aload_n 0, 1) := by decide +kernel
theorem d_MO_row_63 : decode b_MO_row 63 = .ok (.getfield 134, 3) := by decide +kernel
theorem d_MO_row_66 : decode b_MO_row 66 = .ok (.lload 4, 2) := by decide +kernel
theorem d_MO_row_68 : decode b_MO_row 68 = .ok (.invokevirtual 137, 3) := by decide +kernel
theorem d_MO_row_71 : decode b_MO_row 71 = .ok (.ifCond .eq 10, 3) := by decide +kernel
theorem d_MO_row_74 : decode b_MO_row 74 = .ok (.aload_n 0, 1) := by decide +kernel
theorem d_MO_row_75 : decode b_MO_row 75 = .ok (.iconst 1, 1) := by decide +kernel
theorem d_MO_row_76 : decode b_MO_row 76 = .ok (.putfield 104, 3) := by decide +kernel
theorem d_MO_row_79 : decode b_MO_row 79 = .ok (.iconst 0, 1) := by decide +kernel
theorem d_MO_row_80 : decode b_MO_row 80 = .ok (.ireturn, 1) := by decide +kernel
theorem d_MO_row_81 : decode b_MO_row 81 = .ok (.aload_n 0, 1) := by decide +kernel
theorem d_MO_row_82 : decode b_MO_row 82 = .ok (.getfield 93, 3) := by decide +kernel
theorem d_MO_row_85 : decode b_MO_row 85 = .ok (.iconst 3, 1) := by decide +kernel
theorem d_MO_row_86 : decode b_MO_row 86 = .ok (.if_icmp .ne 12, 3) := by decide +kernel
theorem d_MO_row_89 : decode b_MO_row 89 = .ok (.aload_n 0, 1) := by decide +kernel
theorem d_MO_row_90 : decode b_MO_row 90 = .ok (.iload_n 1, 1) := by decide +kernel
theorem d_MO_row_91 : decode b_MO_row 91 = .ok (.lload_n 2, 1) := by decide +kernel
theorem d_MO_row_92 : decode b_MO_row 92 = .ok (.lload 4, 2) := by decide +kernel
theorem d_MO_row_94 : decode b_MO_row 94 = .ok (.invokevirtual 241, 3) := by decide +kernel
theorem d_MO_row_97 : decode b_MO_row 97 = .ok (.ireturn, 1) := by decide +kernel
theorem d_MO_row_98 : decode b_MO_row 98 = .ok (.aload_n 0, 1) := by decide +kernel
theorem d_MO_row_99 : decode b_MO_row 99 = .ok (.lload_n 2, 1) := by decide +kernel
theorem d_MO_row_100 : decode b_MO_row 100 = .ok (.lload 4, 2) := by decide +kernel
theorem d_MO_row_102 : decode b_MO_row 102 = .ok (.invokevirtual 245, 3) := by decide +kernel
theorem d_MO_row_105 : decode b_MO_row 105 = .ok (.aload_n 0, 1) := by decide +kernel
theorem d_MO_row_106 : decode b_MO_row 106 = .ok (.getfield 93, 3) := by decide +kernel
theorem d_MO_row_109 : decode b_MO_row 109 = .ok (.iconst 2, 1) := by decide +kernel
theorem d_MO_row_110 : decode b_MO_row 110 = .ok (.if_icmp .ne 14, 3) := by decide +kernel
theorem d_MO_row_113 : decode b_MO_row 113 = .ok (.aload_n 0, 1) := by decide +kernel
theorem d_MO_row_114 : decode b_MO_row 114 = .ok (.iload_n 1, 1) := by decide +kernel
theorem d_MO_row_115 : decode b_MO_row 115 = .ok (.lload_n 2, 1) := by decide +kernel
theorem d_MO_row_116 : decode b_MO_row 116 = .ok (.lload 4, 2) := by decide +kernel
theorem d_MO_row_118 : decode b_MO_row 118 = .ok (.invokevirtual 248, 3) := by decide +kernel
theorem d_MO_row_121 : decode b_MO_row 121 = .ok (.goto 11, 3) := by decide +kernel
theorem d_MO_row_124 : decode b_MO_row 124 = .ok (.aload_n 0, 1) := by decide +kernel
theorem d_MO_row_125 : decode b_MO_row 125 = .ok (.iload_n 1, 1) := by decide +kernel
theorem d_MO_row_126 : decode b_MO_row 126 = .ok (.lload_n 2, 1) := by decide +kernel
theorem d_MO_row_127 : decode b_MO_row 127 = .ok (.lload 4, 2) := by decide +kernel
theorem d_MO_row_129 : decode b_MO_row 129 = .ok (.invokevirtual 251, 3) := by decide +kernel
theorem d_MO_row_132 : decode b_MO_row 132 = .ok (.ireturn, 1) := by decide +kernel
theorem d_MO_isFirst_0 : decode b_MO_isFirst 0 = .ok (.aload_n 0, 1) := by decide +kernel
theorem d_MO_isFirst_1 : decode b_MO_isFirst 1 = .ok (.getfield 48, 3) := by decide +kernel
theorem d_MO_isFirst_4 : decode b_MO_isFirst 4 = .ok (.iload_n 1, 1) := by decide +kernel
theorem d_MO_isFirst_5 : decode b_MO_isFirst 5 = .ok (.laload, 1) := by decide +kernel
theorem d_MO_isFirst_6 : decode b_MO_isFirst 6 = .ok (.aload_n 0, 1) := by decide +kernel
theorem d_MO_isFirst_7 : decode b_MO_isFirst 7 = .ok (.getfield 48, 3) := by decide +kernel
theorem d_MO_isFirst_10 : decode b_MO_isFirst 10 = .ok (.iload_n 2, 1) := by decide +kernel
theorem d_MO_isFirst_11 : decode b_MO_isFirst 11 = .ok (.laload, 1) := by decide +kernel
theorem d_MO_isFirst_12 : decode b_MO_isFirst 12 = .ok (.lcmp, 1) := by decide +kernel
theorem d_MO_isFirst_13 : decode b_MO_isFirst 13 = .ok (.ifCond .lt 65, 3) := by decide +kernel
theorem d_MO_isFirst_16 : decode b_MO_isFirst 16 = .ok (.aload_n 0, 1) := by decide +kernel
theorem d_MO_isFirst_17 : decode b_MO_isFirst 17 = .ok (.getfield 48, 3) := by decide +kernel
theorem d_MO_isFirst_20 : decode b_MO_isFirst 20 = .ok (.iload_n 1, 1) := by decide +kernel
theorem d_MO_isFirst_21 : decode b_MO_isFirst 21 = .ok (.laload, 1) := by decide +kernel
theorem d_MO_isFirst_22 : decode b_MO_isFirst 22 = .ok (.aload_n 0, 1) := by decide +kernel
theorem d_MO_isFirst_23 : decode b_MO_isFirst 23 = .ok (.getfield 48, 3) := by decide +kernel
theorem d_MO_isFirst_26 : decode b_MO_isFirst 26 = .ok (.iload_n 2, 1) := by decide +kernel
theorem d_MO_isFirst_27 : decode b_MO_isFirst 27 = .ok (.laload, 1) := by decide +kernel
theorem d_MO_isFirst_28 : decode b_MO_isFirst 28 = .ok (.lcmp, 1) := by decide +kernel
theorem d_MO_isFirst_29 : decode b_MO_isFirst 29 = .ok (.ifCond .ne 53, 3) := by decide +kernel
theorem d_MO_isFirst_32 : decode b_MO_isFirst 32 = .ok (.aload_n 0, 1) := by decide +kernel
theorem d_MO_isFirst_33 : decode b_MO_isFirst 33 = .ok (.getfield 42, 3) := by decide +kernel
theorem d_MO_isFirst_36 : decode b_MO_isFirst 36 = .ok (.iload_n 1, 1) := by decide +kernel
theorem d_MO_isFirst_37 : decode b_MO_isFirst 37 = .ok (.iaload, 1) := by decide +kernel
theorem d_MO_isFirst_38 : decode b_MO_isFirst 38 = .ok (.aload_n 0, 1) := by decide +kernel
theorem d_MO_isFirst_39 : decode b_MO_isFirst 39 = .ok (.getfield 42, 3) := by decide +kernel
theorem d_MO_isFirst_42 : decode b_MO_isFirst 42 = .ok (.iload_n 2, 1) := by decide +kernel
theorem d_MO_isFirst_43 : decode b_MO_isFirst 43 = .ok (.iaload, 1) := by decide +kernel
theorem d_MO_isFirst_44 : decode b_MO_isFirst 44 = .ok (.if_icmp .lt 34, 3) := by decide +kernel
theorem d_MO_isFirst_47 : decode b_MO_isFirst 47 = .ok (.aload_n 0, 1) := by decide +kernel
theorem d_MO_isFirst_48 : decode b_MO_isFirst 48 = .ok (.getfield 42, 3) := by decide +kernel
theorem d_MO_isFirst_51 : decode b_MO_isFirst 51 = .ok (.iload_n 1, 1) := by decide +kernel
theorem d_MO_isFirst_52 : decode b_MO_isFirst 52 = .ok (.iaload, 1) := by decide +kernel
theorem d_MO_isFirst_53 : decode b_MO_isFirst 53 = .ok (.aload_n 0, 1) := by decide +kernel
theorem d_MO_isFirst_54 : decode b_MO_isFirst 54 = .ok (.getfield 42, 3) := by decide +kernel
theorem d_MO_isFirst_57 : decode b_MO_isFirst 57 = .ok (.iload_n 2, 1) := by decide +kernel
theorem d_MO_isFirst_58 : decode b_MO_isFirst 58 = .ok (.iaload, 1) := by decide +kernel
theorem d_MO_isFirst_59 : decode b_MO_isFirst 59 = .ok (.if_icmp .ne 23, 3) := by decide +kernel
theorem d_MO_isFirst_62 : decode b_MO_isFirst 62 = .ok (.aload_n 0, 1) := by decide +kernel
theorem d_MO_isFirst_63 : decode b_MO_isFirst 63 = .ok (.getfield 45, 3) := by decide +kernel
theorem d_MO_isFirst_66 : decode b_MO_isFirst 66 = .ok (.iload_n 1, 1) := by decide +kernel
theorem d_MO_isFirst_67 : decode b_MO_isFirst 67 = .ok (.laload, 1) := by decide +kernel
theorem d_MO_isFirst_68 : decode b_MO_isFirst 68 = .ok (.aload_n 0, 1) := by decide +kernel
theorem d_MO_isFirst_69 : decode b_MO_isFirst 69 = .ok (.getfield 45, 3) := by decide +kernel
theorem d_MO_isFirst_72 : decode b_MO_isFirst 72 = .ok (.iload_n 2, 1) := by decide +kernel
theorem d_MO_isFirst_73 : decode b_MO_isFirst 73 = .ok (.laload, 1) := by decide +kernel
theorem d_MO_isFirst_74 : decode b_MO_isFirst 74 = .ok (.lcmp, 1) := by decide +kernel
theorem d_MO_isFirst_75 : decode b_MO_isFirst 75 = .ok (.ifCond .ge 7, 3) := by decide +kernel
theorem d_MO_isFirst_78 : decode b_MO_isFirst 78 = .ok (.iconst 1, 1) := by decide +kernel
theorem d_MO_isFirst_79 : decode b_MO_isFirst 79 = .ok (.goto 4, 3) := by decide +kernel
theorem d_MO_isFirst_82 : decode b_MO_isFirst 82 = .ok (.iconst 0, 1) := by decide +kernel
theorem d_MO_isFirst_83 : decode b_MO_isFirst 83 = .ok (.ireturn, 1) := by decide +kernel
theorem d_MO_isWanted_0 : decode b_MO_isWanted 0 = .ok (.iload_n 2, 1) := by decide +kernel
theorem d_MO_isWanted_1 : decode b_MO_isWanted 1 = .ok (.aload_n 0, 1) := by decide +kernel
theorem d_MO_isWanted_2 : decode b_MO_isWanted 2 = .ok (.getfield 101, 3) := by decide +kernel
theorem d_MO_isWanted_5 : decode b_MO_isWanted 5 = .ok (.idiv, 1) := by decide +kernel
theorem d_MO_isWanted_6 : decode b_MO_isWanted 6 = .ok (.i2l, 1) := by decide +kernel
theorem d_MO_isWanted_7 : decode b_MO_isWanted 7 = .ok (.lstore_n 3, 1) := by decide +kernel
theorem d_MO_isWanted_8 : decode b_MO_isWanted 8 = .ok (.lload_n 3, 1) := by decide +kernel
theorem d_MO_isWanted_9 : decode b_MO_isWanted 9 = .ok (.aload_n 0, 1) := by decide +kernel
theorem d_MO_isWanted_10 : decode b_MO_isWanted 10 = .ok (.getfield 71, 3) := by decide +kernel
theorem d_MO_isWanted_13 : decode b_MO_isWanted 13 = .ok (.iload_n 1, 1) := by decide +kernel
theorem d_MO_isWanted_14 : decode b_MO_isWanted 14 = .ok (.iaload, 1) := by decide +kernel
theorem d_MO_isWanted_15 : decode b_MO_isWanted 15 = .ok (.i2l, 1) := by decide +kernel
theorem d_MO_isWanted_16 : decode b_MO_isWanted 16 = .ok (.lcmp, 1) := by decide +kernel
theorem d_MO_isWanted_17 : decode b_MO_isWanted 17 = .ok (.ifCond .lt 22, 3) := by decide +kernel
theorem d_MO_isWanted_20 : decode b_MO_isWanted 20 = .ok (.iload_n 2, 1) := by decide +kernel
theorem d_MO_isWanted_21 : decode b_MO_isWanted 21 = .ok (.i2l, 1) := by decide +kernel
theorem d_MO_isWanted_22 : decode b_MO_isWanted 22 = .ok (.lload_n 3, 1) := by decide +kernel
theorem d_MO_isWanted_23 : decode b_MO_isWanted 23 = .ok (.aload_n 0, 1) := by decide +kernel
theorem d_MO_isWanted_24 : decode b_MO_isWanted 24 = .ok (.getfield 101, 3) := by decide +kernel
theorem d_MO_isWanted_27 : decode b_MO_isWanted 27 = .ok (.i2l, 1) := by decide +kernel
theorem d_MO_isWanted_28 : decode b_MO_isWanted 28 = .ok (.lmul, 1) := by decide +kernel
theorem d_MO_isWanted_29 : decode b_MO_isWanted 29 = .ok (.aload_n 0, 1) := by decide +kernel
theorem d_MO_isWanted_30 : decode b_MO_isWanted 30 = .ok (.getfield 98, 3) := by decide +kernel
theorem d_MO_isWanted_33 : decode b_MO_isWanted 33 = .ok (.i2l, 1) := by decide +kernel
theorem d_MO_isWanted_34 : decode b_MO_isWanted 34 = .ok (.ladd, 1) := by decide +kernel
theorem d_MO_isWanted_35 : decode b_MO_isWanted 35 = .ok (.lcmp, 1) := by decide +kernel
theorem d_MO_isWanted_36 : decode b_MO_isWanted 36 = .ok (.ifCond .lt 41, 3) := by decide +kernel
theorem d_MO_isWanted_39 : decode b_MO_isWanted 39 = .ok (.aload_n 0, 1) := by decide +kernel
theorem d_MO_isWanted_40 : decode b_MO_isWanted 40 = .ok (.getfield 101, 3) := by decide +kernel
theorem d_MO_isWanted_43 : decode b_MO_isWanted 43 = .ok (.i2l, 1) := by decide +kernel
theorem d_MO_isWanted_44 : decode b_MO_isWanted 44 = .ok (.aload_n 0, 1) := by decide +kernel
theorem d_MO_isWanted_45 : decode b_MO_isWanted 45 = .ok (.getfield 71, 3) := by decide +kernel
