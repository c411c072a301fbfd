theorem d_MO_isWanted_48 : decode b_MO_isWanted 48 = .ok (.iload_n 1, 1) := by decide +kernel
theorem d_MO_isWanted_49 : decode b_MO_isWanted 49 = .ok (.iaload, 1) := by decide +kernel
theorem d_MO_isWanted_50 : decode b_MO_isWanted 50 = .ok (.i2l, 1) := by decide +kernel
theorem d_MO_isWanted_51 : decode b_MO_isWanted 51 = .ok (.lmul, 1) := by decide +kernel
theorem d_MO_isWanted_52 : decode b_MO_isWanted 52 = .ok (.iload_n 2, 1) := by decide +kernel
theorem d_MO_isWanted_53 : decode b_MO_isWanted 53 = .ok (.i2l, 1) := by decide +kernel
theorem d_MO_isWanted_54 : decode b_MO_isWanted 54 = .ok (.lcmp, 1) := by decide +kernel
theorem d_MO_isWanted_55 : decode b_MO_isWanted 55 = .ok (.ifCond .gt 26, 3) := by decide +kernel
theorem d_MO_isWanted_58 : decode b_MO_isWanted 58 = .ok (.iload_n 2, 1) := by decide +kernel
theorem d_MO_isWanted_59 : decode b_MO_isWanted 59 = .ok (.i2l, 1) := by decide +kernel
theorem d_MO_isWanted_60 : decode b_MO_isWanted 60 = .ok (.aload_n 0, 1) := by decide +kernel
theorem d_MO_isWanted_61 : decode b_MO_isWanted 61 = .ok (.getfield 101, 3) := by decide +kernel
theorem d_MO_isWanted_64 : decode b_MO_isWanted 64 = .ok (.i2l, 1) := by decide +kernel
theorem d_MO_isWanted_65 : decode b_MO_isWanted 65 = .ok (.lload_n 3, 1) := by decide +kernel
theorem d_MO_isWanted_66 : decode b_MO_isWanted 66 = .ok (.lmul, 1) := by decide +kernel
theorem d_MO_isWanted_67 : decode b_MO_isWanted 67 = .ok (.aload_n 0, 1) := by decide +kernel
theorem d_MO_isWanted_68 : decode b_MO_isWanted 68 = .ok (.getfield 98, 3) := by decide +kernel
theorem d_MO_isWanted_71 : decode b_MO_isWanted 71 = .ok (.i2l, 1) := by decide +kernel
theorem d_MO_isWanted_72 : decode b_MO_isWanted 72 = .ok (.ladd, 1) := by decide +kernel
theorem d_MO_isWanted_73 : decode b_MO_isWanted 73 = .ok (.lcmp, 1) := by decide +kernel
theorem d_MO_isWanted_74 : decode b_MO_isWanted 74 = .ok (.ifCond .ge 7, 3) := by decide +kernel
theorem d_MO_isWanted_77 : decode b_MO_isWanted 77 = .ok (.iconst 1, 1) := by decide +kernel
theorem d_MO_isWanted_78 : decode b_MO_isWanted 78 = .ok (.goto 4, 3) := by decide +kernel
theorem d_MO_isWanted_81 : decode b_MO_isWanted 81 = .ok (.iconst 0, 1) := by decide +kernel
theorem d_MO_isWanted_82 : decode b_MO_isWanted 82 = .ok (.ireturn, 1) := by decide +kernel
theorem d_MO_countedMark_0 : decode b_MO_countedMark 0 = .ok (.iconst 0, 1) := by decide +kernel
theorem d_MO_countedMark_1 : decode b_MO_countedMark 1 = .ok (.istore_n 1, 1) := by decide +kernel
theorem d_MO_countedMark_2 : decode b_MO_countedMark 2 = .ok (.iload_n 1, 1) := by decide +kernel
theorem d_MO_countedMark_3 : decode b_MO_countedMark 3 = .ok (.bipush 8, 2) := by decide +kernel
theorem d_MO_countedMark_5 : decode b_MO_countedMark 5 = .ok (.if_icmp .ge 113, 3) := by decide +kernel
theorem d_MO_countedMark_8 : decode b_MO_countedMark 8 = .ok (.iconst 0, 1) := by decide +kernel
theorem d_MO_countedMark_9 : decode b_MO_countedMark 9 = .ok (.istore_n 2, 1) := by decide +kernel
theorem d_MO_countedMark_10 : decode b_MO_countedMark 10 = .ok (.iload_n 2, 1) := by decide +kernel
theorem d_MO_countedMark_11 : decode b_MO_countedMark 11 = .ok (.iconst (-1), 1) := by decide +kernel
theorem d_MO_countedMark_12 : decode b_MO_countedMark 12 = .ok (.if_icmp .eq 100, 3) := by decide +kernel
theorem d_MO_countedMark_15 : decode b_MO_countedMark 15 = .ok (.iconst (-1), 1) := by decide +kernel
theorem d_MO_countedMark_16 : decode b_MO_countedMark 16 = .ok (.istore_n 2, 1) := by decide +kernel
theorem d_MO_countedMark_17 : decode b_MO_countedMark 17 = .ok (.iconst 0, 1) := by decide +kernel
theorem d_MO_countedMark_18 : decode b_MO_countedMark 18 = .ok (.istore_n 3, 1) := by decide +kernel
theorem d_MO_countedMark_19 : decode b_MO_countedMark 19 = .ok (.iload_n 3, 1) := by decide +kernel
theorem d_MO_countedMark_20 : decode b_MO_countedMark 20 = .ok (.sipush 300, 3) := by decide +kernel
theorem d_MO_countedMark_23 : decode b_MO_countedMark 23 = .ok (.if_icmp .ge 59, 3) := by decide +kernel
theorem d_MO_countedMark_26 : decode b_MO_countedMark 26 = .ok (.aload_n 0, 1) := by decide +kernel
theorem d_MO_countedMark_27 : decode b_MO_countedMark 27 = .ok (.getfield 27, 3) := by decide +kernel
theorem d_MO_countedMark_30 : decode b_MO_countedMark 30 = .ok (.iload_n 3, 1) := by decide +kernel
theorem d_MO_countedMark_31 : decode b_MO_countedMark 31 = .ok (.iaload, 1) := by decide +kernel
theorem d_MO_countedMark_32 : decode b_MO_countedMark 32 = .ok (.iload_n 1, 1) := by decide +kernel
theorem d_MO_countedMark_33 : decode b_MO_countedMark 33 = .ok (.if_icmp .ne 43, 3) := by decide +kernel
theorem d_MO_countedMark_36 : decode b_MO_countedMark 36 = .ok (.aload_n 0, 1) := by decide +kernel
theorem d_MO_countedMark_37 : decode b_MO_countedMark 37 = .ok (.getfield 39, 3) := by decide +kernel
theorem d_MO_countedMark_40 : decode b_MO_countedMark 40 = .ok (.iload_n 3, 1) := by decide +kernel
theorem d_MO_countedMark_41 : decode b_MO_countedMark 41 = .ok (.iaload, 1) := by decide +kernel
theorem d_MO_countedMark_42 : decode b_MO_countedMark 42 = .ok (.iconst (-1), 1) := by decide +kernel
theorem d_MO_countedMark_43 : decode b_MO_countedMark 43 = .ok (.if_icmp .ne 33, 3) := by decide +kernel
theorem d_MO_countedMark_46 : decode b_MO_countedMark 46 = .ok (.aload_n 0, 1) := by decide +kernel
theorem d_MO_countedMark_47 : decode b_MO_countedMark 47 = .ok (.getfield 30, 3) := by decide +kernel
theorem d_MO_countedMark_50 : decode b_MO_countedMark 50 = .ok (.iload_n 3, 1) := by decide +kernel
theorem d_MO_countedMark_51 : decode b_MO_countedMark 51 = .ok (.laload, 1) := by decide +kernel
theorem d_MO_countedMark_52 : decode b_MO_countedMark 52 = .ok (.aload_n 0, 1) := by decide +kernel
theorem d_MO_countedMark_53 : decode b_MO_countedMark 53 = .ok (.getfield 23, 3) := by decide +kernel
theorem d_MO_countedMark_56 : decode b_MO_countedMark 56 = .ok (.lcmp, 1) := by decide +kernel
theorem d_MO_countedMark_57 : decode b_MO_countedMark 57 = .ok (.ifCond .ge 19, 3) := by decide +kernel
theorem d_MO_countedMark_60 : decode b_MO_countedMark 60 = .ok (.iload_n 2, 1) := by decide +kernel
theorem d_MO_countedMark_61 : decode b_MO_countedMark 61 = .ok (.iconst (-1), 1) := by decide +kernel
theorem d_MO_countedMark_62 : decode b_MO_countedMark 62 = .ok (.if_icmp .eq 12, 3) := by decide +kernel
theorem d_MO_countedMark_65 : decode b_MO_countedMark 65 = .ok (.aload_n 0, 1) := by decide +kernel
theorem d_MO_countedMark_66 : decode b_MO_countedMark 66 = .ok (.iload_n 3, 1) := by decide +kernel
theorem d_MO_countedMark_67 : decode b_MO_countedMark 67 = .ok (.iload_n 2, 1) := by decide +kernel
theorem d_MO_countedMark_68 : decode b_MO_countedMark 68 = .ok (.invokevirtual 206, 3) := by decide +kernel
theorem d_MO_countedMark_71 : decode b_MO_countedMark 71 = .ok (.ifCond .eq 5, 3) := by decide +kernel
theorem d_MO_countedMark_74 : decode b_MO_countedMark 74 = .ok (.iload_n 3, 1) := by decide +kernel
theorem d_MO_countedMark_75 : decode b_MO_countedMark 75 = .ok (.istore_n 2, 1) := by decide +kernel
theorem d_MO_countedMark_76 : decode b_MO_countedMark 76 = .ok (.iinc 3 1, 3) := by decide +kernel
theorem d_MO_countedMark_79 : decode b_MO_countedMark 79 = .ok (.goto (-60), 3) := by decide +kernel
theorem d_MO_countedMark_82 : decode b_MO_countedMark 82 = .ok (.iload_n 2, 1) := by decide +kernel
theorem d_MO_countedMark_83 : decode b_MO_countedMark 83 = .ok (.iconst (-1), 1) := by decide +kernel
theorem d_MO_countedMark_84 : decode b_MO_countedMark 84 = .ok (.if_icmp .eq (-74), 3) := by decide +kernel
theorem d_MO_countedMark_87 : decode b_MO_countedMark 87 = .ok (.aload_n 0, 1) := by decide +kernel
theorem d_MO_countedMark_88 : decode b_MO_countedMark 88 = .ok (.getfield 39, 3) := by decide +kernel
theorem d_MO_countedMark_91 : decode b_MO_countedMark 91 = .ok (.iload_n 2, 1) := by decide +kernel
theorem d_MO_countedMark_92 : decode b_MO_countedMark 92 = .ok (.aload_n 0, 1) := by decide +kernel
theorem d_MO_countedMark_93 : decode b_MO_countedMark 93 = .ok (.getfield 68, 3) := by decide +kernel
theorem d_MO_countedMark_96 : decode b_MO_countedMark 96 = .ok (.iload_n 1, 1) := by decide +kernel
theorem d_MO_countedMark_97 : decode b_MO_countedMark 97 = .ok (.iaload, 1) := by decide +kernel
theorem d_MO_countedMark_98 : decode b_MO_countedMark 98 = .ok (.iastore, 1) := by decide +kernel
theorem d_MO_countedMark_99 : decode b_MO_countedMark 99 = .ok (.aload_n 0, 1) := by decide +kernel
theorem d_MO_countedMark_100 : decode b_MO_countedMark 100 = .ok (.getfield 68, 3) := by decide +kernel
theorem d_MO_countedMark_103 : decode b_MO_countedMark 103 = .ok (.iload_n 1, 1) := by decide +kernel
theorem d_MO_countedMark_104 : decode b_MO_countedMark 104 = .ok (.dup2, 1) := by decide +kernel
theorem d_MO_countedMark_105 : decode b_MO_countedMark 105 = .ok (.iaload, 1) := by decide +kernel
theorem d_MO_countedMark_106 : decode b_MO_countedMark 106 = .ok (.iconst 1, 1) := by decide +kernel
theorem d_MO_countedMark_107 : decode b_MO_countedMark 107 = .ok (.iadd, 1) := by decide +kernel
theorem d_MO_countedMark_108 : decode b_MO_countedMark 108 = .ok (.iastore, 1) := by decide +kernel
theorem d_MO_countedMark_109 : decode b_MO_countedMark 109 = .ok (.goto (-99), 3) := by decide +kernel
theorem d_MO_countedMark_112 : decode b_MO_countedMark 112 = .ok (.iinc 1 1, 3) := by decide +kernel
theorem d_MO_countedMark_115 : decode b_MO_countedMark 115 = .ok (.goto (-113), 3) := by decide +kernel
theorem d_MO_countedMark_118 : decode b_MO_countedMark 118 = .ok (.iconst 0, 1) := by decide +kernel
theorem d_MO_countedMark_119 : decode b_MO_countedMark 119 = .ok (.istore_n 1, 1) := by decide +kernel
theorem d_MO_countedMark_120 : decode b_MO_countedMark 120 = .ok (.iconst 0, 1) := by decide +kernel
theorem d_MO_countedMark_121 : decode b_MO_countedMark 121 = .ok (.istore_n 2, 1) := by decide +kernel
theorem d_MO_countedMark_122 : decode b_MO_countedMark 122 = .ok (.iload_n 2, 1) := by decide +kernel
theorem d_MO_countedMark_123 : decode b_MO_countedMark 123 = .ok (.bipush 8, 2) := by decide +kernel
theorem d_MO_countedMark_125 : decode b_MO_countedMark 125 = .ok (.if_icmp .ge 160, 3) := by decide +kernel
theorem d_MO_countedMark_128 : decode b_MO_countedMark 128 = .ok (.aload_n 0, 1) := by decide +kernel
theorem d_MO_countedMark_129 : decode b_MO_countedMark 129 = .ok (.getfield 101, 3) := by decide +kernel
theorem d_MO_countedMark_132 : decode b_MO_countedMark 132 = .ok (.i2l, 1) := by decide +kernel
theorem d_MO_countedMark_133 : decode b_MO_countedMark 133 = .ok (.aload_n 0, 1) := by decide +kernel
theorem d_MO_countedMark_134 : decode b_MO_countedMark 134 = .ok (.getfield 71, 3) := by decide +kernel
theorem d_MO_countedMark_137 : decode b_MO_countedMark 137 = .ok (.iload_n 2, 1) := by decide +kernel
theorem d_MO_countedMark_138 : decode b_MO_countedMark 138 = .ok (.iaload, 1) := by decide +kernel
theorem d_MO_countedMark_139 : decode b_MO_countedMark 139 = .ok (.i2l, 1) := by decide +kernel
theorem d_MO_countedMark_140 : decode b_MO_countedMark 140 = .ok (.lmul, 1) := by decide +kernel
theorem d_MO_countedMark_141 : decode b_MO_countedMark 141 = .ok (.aload_n 0, 1) := by decide +kernel
theorem d_MO_countedMark_142 : decode b_MO_countedMark 142 = .ok (.getfield 98, 3) := by decide +kernel
theorem d_MO_countedMark_145 : decode b_MO_countedMark 145 = .ok (.i2l, 1) := by decide +kernel
theorem d_MO_countedMark_146 : decode b_MO_countedMark 146 = .ok (.ladd, 1) := by decide +kernel
theorem d_MO_countedMark_147 : decode b_MO_countedMark 147 = .ok (.aload_n 0, 1) := by decide +kernel
theorem d_MO_countedMark_148 : decode b_MO_countedMark 148 = .ok (.getfield 68, 3) := by decide +kernel
theorem d_MO_countedMark_151 : decode b_MO_countedMark 151 = .ok (.iload_n 2, 1) := by decide +kernel
theorem d_MO_countedMark_152 : decode b_MO_countedMark 152 = .ok (.iaload, 1) := by decide +kernel
theorem d_MO_countedMark_153 : decode b_MO_countedMark 153 = .ok (.i2l, 1) := by decide +kernel
theorem d_MO_countedMark_154 : decode b_MO_countedMark 154 = .ok (.lcmp, 1) := by decide +kernel
theorem d_MO_countedMark_155 : decode b_MO_countedMark 155 = .ok (.ifCond .gt 124, 3) := by decide +kernel
theorem d_MO_countedMark_158 : decode b_MO_countedMark 158 = .ok (.aload_n 0, 1) := by decide +kernel
theorem d_MO_countedMark_159 : decode b_MO_countedMark 159 = .ok (.getfield 101, 3) := by decide +kernel
theorem d_MO_countedMark_162 : decode b_MO_countedMark 162 = .ok (.i2l, 1) := by decide +kernel
theorem d_MO_countedMark_163 : decode b_MO_countedMark 163 = .ok (.aload_n 0, 1) := by decide +kernel
theorem d_MO_countedMark_164 : decode b_MO_countedMark 164 = .ok (.getfield 71, 3) := by decide +kernel
theorem d_MO_countedMark_167 : decode b_MO_countedMark 167 = .ok (.iload_n 2, 1) := by decide +kernel
theorem d_MO_countedMark_168 : decode b_MO_countedMark 168 = .ok (.iaload, 1) := by decide +kernel
theorem d_MO_countedMark_169 : decode b_MO_countedMark 169 = .ok (.i2l, 1) := by decide +kernel
theorem d_MO_countedMark_170 : decode b_MO_countedMark 170 = .ok (.lmul, 1) := by decide +kernel
theorem d_MO_countedMark_171 : decode b_MO_countedMark 171 = .ok (.lstore_n 3, 1) := by decide +kernel
theorem d_MO_countedMark_172 : decode b_MO_countedMark 172 = .ok (.iconst 0, 1) := by decide +kernel
theorem d_MO_countedMark_173 : decode b_MO_countedMark 173 = .ok (.istore 5, 2) := by decide +kernel
theorem d_MO_countedMark_175 : decode b_MO_countedMark 175 = .ok (.iload 5, 2) := by decide +kernel
theorem d_MO_countedMark_177 : decode b_MO_countedMark 177 = .ok (.sipush 300, 3) := by decide +kernel
theorem d_MO_countedMark_180 : decode b_MO_countedMark 180 = .ok (.if_icmp .ge 64, 3) := by decide +kernel
theorem d_MO_countedMark_183 : decode b_MO_countedMark 183 = .ok (.aload_n 0, 1) := by decide +kernel
theorem d_MO_countedMark_184 : decode b_MO_countedMark 184 = .ok (.getfield 86, 3) := by decide +kernel
theorem d_MO_countedMark_187 : decode b_MO_countedMark 187 = .ok (.iload 5, 2) := by decide +kernel
theorem d_MO_countedMark_189 : decode b_MO_countedMark 189 = .ok (.aload_n 0, 1) := by decide +kernel
theorem d_MO_countedMark_190 : decode b_MO_countedMark 190 = .ok (.getfield 27, 3) := by decide +kernel
theorem d_MO_countedMark_193 : decode b_MO_countedMark 193 = .ok (.iload 5, 2) := by decide +kernel
theorem d_MO_countedMark_195 : decode b_MO_countedMark 195 = .ok (.iaload, 1) := by decide +kernel
theorem d_MO_countedMark_196 : decode b_MO_countedMark 196 = .ok (.iload_n 2, 1) := by decide +kernel
theorem d_MO_countedMark_197 : decode b_MO_countedMark 197 = .ok (.if_icmp .ne 39, 3) := by decide +kernel
theorem d_MO_countedMark_200 : decode b_MO_countedMark 200 = .ok (.aload_n 0, 1) := by decide +kernel
theorem d_MO_countedMark_201 : decode b_MO_countedMark 201 = .ok (.getfield 39, 3) := by decide +kernel
theorem d_MO_countedMark_204 : decode b_MO_countedMark 204 = .ok (.iload 5, 2) := by decide +kernel
theorem d_MO_countedMark_206 : decode b_MO_countedMark 206 = .ok (.iaload, 1) := by decide +kernel
theorem d_MO_countedMark_207 : decode b_MO_countedMark 207 = .ok (.i2l, 1) := by decide +kernel
theorem d_MO_countedMark_208 : decode b_MO_countedMark 208 = .ok (.lload_n 3, 1) := by decide +kernel
theorem d_MO_countedMark_209 : decode b_MO_countedMark 209 = .ok (.lcmp, 1) := by decide +kernel
theorem d_MO_countedMark_210 : decode b_MO_countedMark 210 = .ok (.ifCond .lt 26, 3) := by decide +kernel
theorem d_MO_countedMark_213 : decode b_MO_countedMark 213 = .ok (.aload_n 0, 1) := by decide +kernel
theorem d_MO_countedMark_214 : decode b_MO_countedMark 214 = .ok (.getfield 39, 3) := by decide +kernel
theorem d_MO_countedMark_217 : decode b_MO_countedMark 217 = .ok (.iload 5, 2) := by decide +kernel
theorem d_MO_countedMark_219 : decode b_MO_countedMark 219 = .ok (.iaload, 1) := by decide +kernel
theorem d_MO_countedMark_220 : decode b_MO_countedMark 220 = .ok (.i2l, 1) := by decide +kernel
theorem d_MO_countedMark_221 : decode b_MO_countedMark 221 = .ok (.lload_n 3, 1) := by decide +kernel
theorem d_MO_countedMark_222 : decode b_MO_countedMark 222 = .ok (.aload_n 0, 1) := by decide +kernel
theorem d_MO_countedMark_223 : decode b_MO_countedMark 223 = .ok (.getfield 98, 3) := by decide +kernel
theorem d_MO_countedMark_226 : decode b_MO_countedMark 226 = .ok (.i2l, 1) := by decide +kernel
theorem d_MO_countedMark_227 : decode b_MO_countedMark 227 = .ok (.ladd, 1) := by decide +kernel
theorem d_MO_countedMark_228 : decode b_MO_countedMark 228 = .ok (.lcmp, 1) := by decide +kernel
theorem d_MO_countedMark_229 : decode b_MO_countedMark 229 = .ok (.ifCond .ge 7, 3) := by decide +kernel
theorem d_MO_countedMark_232 : decode b_MO_countedMark 232 = .ok (.iconst 1, 1) := by decide +kernel
theorem d_MO_countedMark_233 : decode b_MO_countedMark 233 = .ok (.goto 4, 3) := by decide +kernel
theorem d_MO_countedMark_236 : decode b_MO_countedMark 236 = .ok (.iconst 0, 1) := by decide +kernel
theorem d_MO_countedMark_237 : decode b_MO_countedMark 237 = .ok (.bastore, 1) := by decide +kernel
theorem d_MO_countedMark_238 : decode b_MO_countedMark 238 = .ok (.iinc 5 1, 3) := by decide +kernel
theorem d_MO_countedMark_241 : decode b_MO_countedMark 241 = .ok (.goto (-66), 3) := by decide +kernel
theorem d_MO_countedMark_244 : decode b_MO_countedMark 244 = .ok (.aload_n 0, 1) := by decide +kernel
theorem d_MO_countedMark_245 : decode b_MO_countedMark 245 = .ok (.invokevirtual 224, 3) := by decide +kernel
theorem d_MO_countedMark_248 : decode b_MO_countedMark 248 = .ok (.aload_n 0, 1) := by decide +kernel
theorem d_MO_countedMark_249 : decode b_MO_countedMark 249 = .ok (.iload_n 2, 1) := by decide +kernel
theorem d_MO_countedMark_250 : decode b_MO_countedMark 250 = .ok (.lload_n 3, 1) := by decide +kernel
theorem d_MO_countedMark_251 : decode b_MO_countedMark 251 = .ok (.lload_n 3, 1) := by decide +kernel
theorem d_MO_countedMark_252 : decode b_MO_countedMark 252 = .ok (.aload_n 0, 1) := by decide +kernel
theorem d_MO_countedMark_253 : decode b_MO_countedMark 253 = .ok (.getfield 98, 3) := by decide +kernel
theorem d_MO_countedMark_256 : decode b_MO_countedMark 256 = .ok (.i2l, 1) := by decide +kernel
theorem d_MO_countedMark_257 : decode b_MO_countedMark 257 = .ok (.ladd, 1) := by decide +kernel
theorem d_MO_countedMark_258 : decode b_MO_countedMark 258 = .ok (.iconst 1, 1) := by decide +kernel
theorem d_MO_countedMark_259 : decode b_MO_countedMark 259 = .ok (.iconst 1, 1) := by decide +kernel
theorem d_MO_countedMark_260 : decode b_MO_countedMark 260 = .ok (.invokevirtual 227, 3) := by decide +kernel
theorem d_MO_countedMark_263 : decode b_MO_countedMark 263 = .ok (.aload_n 0, 1) := by decide +kernel
theorem d_MO_countedMark_264 : decode b_MO_countedMark 264 = .ok (.getfield 71, 3) := by decide +kernel
theorem d_MO_countedMark_267 : decode b_MO_countedMark 267 = .ok (.iload_n 2, 1) := by decide +kernel
theorem d_MO_countedMark_268 : decode b_MO_countedMark 268 = .ok (.dup2, 1) := by decide +kernel
theorem d_MO_countedMark_269 : decode b_MO_countedMark 269 = .ok (.iaload, 1) := by decide +kernel
theorem d_MO_countedMark_270 : decode b_MO_countedMark 270 = .ok (.iconst 1, 1) := by decide +kernel
theorem d_MO_countedMark_271 : decode b_MO_countedMark 271 = .ok (.iadd, 1) := by decide +kernel
theorem d_MO_countedMark_272 : decode b_MO_countedMark 272 = .ok (.iastore, 1) := by decide +kernel
theorem d_MO_countedMark_273 : decode b_MO_countedMark 273 = .ok (.iinc 1 1, 3) := by decide +kernel
theorem d_MO_countedMark_276 : decode b_MO_countedMark 276 = .ok (.goto (-148), 3) := by decide +kernel
theorem d_MO_countedMark_279 : decode b_MO_countedMark 279 = .ok (.iinc 2 1, 3) := by decide +kernel
theorem d_MO_countedMark_282 : decode b_MO_countedMark 282 = .ok (.goto (-160), 3) := by decide +kernel
theorem d_MO_countedMark_285 : decode b_MO_countedMark 285 = .ok (.iconst 0, 1) := by decide +kernel
theorem d_MO_countedMark_286 : decode b_MO_countedMark 286 = .ok (.istore_n 2, 1) := by decide +kernel
theorem d_MO_countedMark_287 : decode b_MO_countedMark 287 = .ok (.iload_n 2, 1) := by decide +kernel
theorem d_MO_countedMark_288 : decode b_MO_countedMark 288 = .ok (.sipush 300, 3) := by decide +kernel
theorem d_MO_countedMark_291 : decode b_MO_countedMark 291 = .ok (.if_icmp .ge 65, 3) := by decide +kernel
theorem d_MO_countedMark_294 : decode b_MO_countedMark 294 = .ok (.aload_n 0, 1) := by decide +kernel
theorem d_MO_countedMark_295 : decode b_MO_countedMark 295 = .ok (.getfield 27, 3) := by decide +kernel
theorem d_MO_countedMark_298 : decode b_MO_countedMark 298 = .ok (.iload_n 2, 1) := by decide +kernel
theorem d_MO_countedMark_299 : decode b_MO_countedMark 299 = .ok (.iaload, 1) := by decide +kernel
theorem d_MO_countedMark_300 : decode b_MO_countedMark 300 = .ok (.iconst (-1), 1) := by decide +kernel
theorem d_MO_countedMark_301 : decode b_MO_countedMark 301 = .ok (.if_icmp .eq 49, 3) := by decide +kernel
theorem d_MO_countedMark_304 : decode b_MO_countedMark 304 = .ok (.aload_n 0, 1) := by decide +kernel
theorem d_MO_countedMark_305 : decode b_MO_countedMark 305 = .ok (.getfield 39, 3) := by decide +kernel
theorem d_MO_countedMark_308 : decode b_MO_countedMark 308 = .ok (.iload_n 2, 1) := by decide +kernel
theorem d_MO_countedMark_309 : decode b_MO_countedMark 309 = .ok (.iaload, 1) := by decide +kernel
theorem d_MO_countedMark_310 : decode b_MO_countedMark 310 = .ok (.iconst (-1), 1) := by decide +kernel
theorem d_MO_countedMark_311 : decode b_MO_countedMark 311 = .ok (.if_icmp .eq 39, 3) := by decide +kernel
theorem d_MO_countedMark_314 : decode b_MO_countedMark 314 = .ok (.aload_n 0, 1) := by decide +kernel
theorem d_MO_countedMark_315 : decode b_MO_countedMark 315 = .ok (.aload_n 0, 1) := by decide +kernel
theorem d_MO_countedMark_316 : decode b_MO_countedMark 316 = .ok (.getfield 27, 3) := by decide +kernel
theorem d_MO_countedMark_319 : decode b_MO_countedMark 319 = .ok (.iload_n 2, 1) := by decide +kernel
theorem d_MO_countedMark_320 : decode b_MO_countedMark 320 = .ok (.iaload, 1) := by decide +kernel
theorem d_MO_countedMark_321 : decode b_MO_countedMark 321 = .ok (.aload_n 0, 1) := by decide +kernel
theorem d_MO_countedMark_322 : decode b_MO_countedMark 322 = .ok (.getfield 39, 3) := by decide +kernel
theorem d_MO_countedMark_325 : decode b_MO_countedMark 325 = .ok (.iload_n 2, 1) := by decide +kernel
theorem d_MO_countedMark_326 : decode b_MO_countedMark 326 = .ok (.iaload, 1) := by decide +kernel
theorem d_MO_countedMark_327 : decode b_MO_countedMark 327 = .ok (.invokevirtual 284, 3) := by decide +kernel
theorem d_MO_countedMark_330 : decode b_MO_countedMark 330 = .ok (.ifCond .ne 20, 3) := by decide +kernel
theorem d_MO_countedMark_333 : decode b_MO_countedMark 333 = .ok (.aload_n 0, 1) := by decide +kernel
theorem d_MO_countedMark_334 : decode b_MO_countedMark 334 = .ok (.getfield 27, 3) := by decide +kernel
theorem d_MO_countedMark_337 : decode b_MO_countedMark 337 = .ok (.iload_n 2, 1) := by decide +kernel
theorem d_MO_countedMark_338 : decode b_MO_countedMark 338 = .ok (.iconst (-1), 1) := by decide +kernel
theorem d_MO_countedMark_339 : decode b_MO_countedMark 339 = .ok (.iastore, 1) := by decide +kernel
theorem d_MO_countedMark_340 : decode b_MO_countedMark 340 = .ok (.aload_n 0, 1) := by decide +kernel
theorem d_MO_countedMark_341 : decode b_MO_countedMark 341 = .ok (.dup, 1) := by decide +kernel
theorem d_MO_countedMark_342 : decode b_MO_countedMark 342 = .ok (.getfield 203, 3) := by decide +kernel
theorem d_MO_countedMark_345 : decode b_MO_countedMark 345 = .ok (.iconst 1, 1) := by decide +kernel
theorem d_MO_countedMark_346 : decode b_MO_countedMark 346 = .ok (.isub, 1) := by decide +kernel
theorem d_MO_countedMark_347 : decode b_MO_countedMark 347 = .ok (.putfield 203, 3) := by decide +kernel
theorem d_MO_countedMark_350 : decode b_MO_countedMark 350 = .ok (.iinc 2 1, 3) := by decide +kernel
theorem d_MO_countedMark_353 : decode b_MO_countedMark 353 = .ok (.goto (-66), 3) := by decide +kernel
theorem d_MO_countedMark_356 : decode b_MO_countedMark 356 = .ok (.iload_n 1, 1) := by decide +kernel
theorem d_MO_countedMark_357 : decode b_MO_countedMark 357 = .ok (.ireturn, 1) := by decide +kernel
theorem d_MO_mark_0 : decode b_MO_mark 0 = .ok (.aload_n 0, 1) := by decide +kernel
theorem d_MO_mark_1 : decode b_MO_mark 1 = .ok (.iconst 0, 1) := by decide +kernel
theorem d_MO_mark_2 : decode b_MO_mark 2 = .ok (.putfield 104, 3) := by decide +kernel
theorem d_MO_mark_5 : decode b_MO_mark 5 = .ok (.lload_n 1, 1) := by decide +kernel
theorem d_MO_mark_6 : decode b_MO_mark 6 = .ok (.ldc2_w 21, 3) := by decide +kernel
theorem d_MO_mark_9 : decode b_MO_mark 9 = .ok (.ldc2_w 276, 3) := by decide +kernel
theorem d_MO_mark_12 : decode b_MO_mark 12 = .ok (.invokestatic 111, 3) := by decide +kernel
theorem d_MO_mark_15 : decode b_MO_mark 15 = .ok (.ifCond .ne 6, 3) := by decide +kernel
theorem d_MO_mark_18 : decode b_MO_mark 18 = .ok (.bipush (-2), 2) := by decide +kernel
theorem d_MO_mark_20 : decode b_MO_mark 20 = .ok (.ireturn, 1) := by decide +kernel
theorem d_MO_mark_21 : decode b_MO_mark 21 = .ok (.lload_n 1, 1) := by decide +kernel
theorem d_MO_mark_22 : decode b_MO_mark 22 = .ok (.aload_n 0, 1) := by decide +kernel
theorem d_MO_mark_23 : decode b_MO_mark 23 = .ok (.getfield 23, 3) := by decide +kernel
theorem d_MO_mark_26 : decode b_MO_mark 26 = .ok (.lcmp, 1) := by decide +kernel
theorem d_MO_mark_27 : decode b_MO_mark 27 = .ok (.ifCond .ge 6, 3) := by decide +kernel
theorem d_MO_mark_30 : decode b_MO_mark 30 = .ok (.bipush (-3), 2) := by decide +kernel
theorem d_MO_mark_32 : decode b_MO_mark 32 = .ok (.ireturn, 1) := by decide +kernel
theorem d_MO_mark_33 : decode b_MO_mark 33 = .ok (.aload_n 0, 1) := by decide +kernel
theorem d_MO_mark_34 : decode b_MO_mark 34 = .ok (.lload_n 1, 1) := by decide +kernel
theorem d_MO_mark_35 : decode b_MO_mark 35 = .ok (.putfield 23, 3) := by decide +kernel
theorem d_MO_mark_38 : decode b_MO_mark 38 = .ok (.aload_n 0, 1) := by decide +kernel
theorem d_MO_mark_39 : decode b_MO_mark 39 = .ok (.getfield 93, 3) := by decide +kernel
theorem d_MO_mark_42 : decode b_MO_mark 42 = .ok (.iconst 3, 1) := by decide +kernel
theorem d_MO_mark_43 : decode b_MO_mark 43 = .ok (.if_icmp .ne 8, 3) := by decide +kernel
theorem d_MO_mark_46 : decode b_MO_mark 46 = .ok (.aload_n 0, 1) := by decide +kernel
theorem d_MO_mark_47 : decode b_MO_mark 47 = .ok (.invokevirtual 278, 3) := by decide +kernel
theorem d_MO_mark_50 : decode b_MO_mark 50 = .ok (.ireturn, 1) := by decide +kernel
theorem d_MO_mark_51 : decode b_MO_mark 51 = .ok (.iconst 0, 1) := by decide +kernel
theorem d_MO_mark_52 : decode b_MO_mark 52 = .ok (.istore_n 3, 1) := by decide +kernel
theorem d_MO_mark_53 : decode b_MO_mark 53 = .ok (.iconst 0, 1) := by decide +kernel
theorem d_MO_mark_54 : decode b_MO_mark 54 = .ok (.istore 4, 2) := by decide +kernel
theorem d_MO_mark_56 : decode b_MO_mark 56 = .ok (.iload 4, 2) := by decide +kernel
theorem d_MO_mark_58 : decode b_MO_mark 58 = .ok (.iconst (-1), 1) := by decide +kernel
theorem d_MO_mark_59 : decode b_MO_mark 59 = .ok (.if_icmp .eq 99, 3) := by decide +kernel
theorem d_MO_mark_62 : decode b_MO_mark 62 = .ok (.iconst (-1), 1) := by decide +kernel
theorem d_MO_mark_63 : decode b_MO_mark 63 = .ok (.istore 4, 2) := by decide +kernel
theorem d_MO_mark_65 : decode b_MO_mark 65 = .ok (.iconst 0, 1) := by decide +kernel
theorem d_MO_mark_66 : decode b_MO_mark 66 = .ok (.istore 5, 2) := by decide +kernel
theorem d_MO_mark_68 : decode b_MO_mark 68 = .ok (.iload 5, 2) := by decide +kernel
theorem d_MO_mark_70 : decode b_MO_mark 70 = .ok (.sipush 200, 3) := by decide +kernel
theorem d_MO_mark_73 : decode b_MO_mark 73 = .ok (.if_icmp .ge 66, 3) := by decide +kernel
theorem d_MO_mark_76 : decode b_MO_mark 76 = .ok (.aload_n 0, 1) := by decide +kernel
theorem d_MO_mark_77 : decode b_MO_mark 77 = .ok (.getfield 42, 3) := by decide +kernel
theorem d_MO_mark_80 : decode b_MO_mark 80 = .ok (.iload 5, 2) := by decide +kernel
theorem d_MO_mark_82 : decode b_MO_mark 82 = .ok (.iaload, 1) := by decide +kernel
theorem d_MO_mark_83 : decode b_MO_mark 83 = .ok (.iconst (-1), 1) := by decide +kernel
theorem d_MO_mark_84 : decode b_MO_mark 84 = .ok (.if_icmp .eq 49, 3) := by decide +kernel
theorem d_MO_mark_87 : decode b_MO_mark 87 = .ok (.aload_n 0, 1) := by decide +kernel
theorem d_MO_mark_88 : decode b_MO_mark 88 = .ok (.getfield 57, 3) := by decide +kernel
theorem d_MO_mark_91 : decode b_MO_mark 91 = .ok (.iload 5, 2) := by decide +kernel
theorem d_MO_mark_93 : decode b_MO_mark 93 = .ok (.baload, 1) := by decide +kernel
theorem d_MO_mark_94 : decode b_MO_mark 94 = .ok (.ifCond .ne 39, 3) := by decide +kernel
theorem d_MO_mark_97 : decode b_MO_mark 97 = .ok (.aload_n 0, 1) := by decide +kernel
theorem d_MO_mark_98 : decode b_MO_mark 98 = .ok (.getfield 48, 3) := by decide +kernel
theorem d_MO_mark_101 : decode b_MO_mark 101 = .ok (.iload 5, 2) := by decide +kernel
theorem d_MO_mark_103 : decode b_MO_mark 103 = .ok (.laload, 1) := by decide +kernel
theorem d_MO_mark_104 : decode b_MO_mark 104 = .ok (.aload_n 0, 1) := by decide +kernel
theorem d_MO_mark_105 : decode b_MO_mark 105 = .ok (.getfield 23, 3) := by decide +kernel
theorem d_MO_mark_108 : decode b_MO_mark 108 = .ok (.lcmp, 1) := by decide +kernel
theorem d_MO_mark_109 : decode b_MO_mark 109 = .ok (.ifCond .gt 24, 3) := by decide +kernel
theorem d_MO_mark_112 : decode b_MO_mark 112 = .ok (.iload 4, 2) := by decide +kernel
theorem d_MO_mark_114 : decode b_MO_mark 114 = .ok (.iconst (-1), 1) := by decide +kernel
theorem d_MO_mark_115 : decode b_MO_mark 115 = .ok (.if_icmp .eq 14, 3) := by decide +kernel
theorem d_MO_mark_118 : decode b_MO_mark 118 = .ok (.aload_n 0, 1) := by decide +kernel
theorem d_MO_mark_119 : decode b_MO_mark 119 = .ok (.iload 5, 2) := by decide +kernel
theorem d_MO_mark_121 : decode b_MO_mark 121 = .ok (.iload 4, 2) := by decide +kernel
theorem d_MO_mark_123 : decode b_MO_mark 123 = .ok (.invokevirtual 281, 3) := by decide +kernel
theorem d_MO_mark_126 : decode b_MO_mark 126 = .ok (.ifCond .eq 7, 3) := by decide +kernel
theorem d_MO_mark_129 : decode b_MO_mark 129 = .ok (.iload 5, 2) := by decide +kernel
theorem d_MO_mark_131 : decode b_MO_mark 131 = .ok (.istore 4, 2) := by decide +kernel
theorem d_MO_mark_133 : decode b_MO_mark 133 = .ok (.iinc 5 1, 3) := by decide +kernel
theorem d_MO_mark_136 : decode b_MO_mark 136 = .ok (.goto (-68), 3) := by decide +kernel
theorem d_MO_mark_139 : decode b_MO_mark 139 = .ok (.iload 4, 2) := by decide +kernel
theorem d_MO_mark_141 : decode b_MO_mark 141 = .ok (.iconst (-1), 1) := by decide +kernel
theorem d_MO_mark_142 : decode b_MO_mark 142 = .ok (.if_icmp .eq (-86), 3) := by decide +kernel
theorem d_MO_mark_145 : decode b_MO_mark 145 = .ok (.aload_n 0, 1) := by decide +kernel
theorem d_MO_mark_146 : decode b_MO_mark 146 = .ok (.iload 4, 2) := by decide +kernel
theorem d_MO_mark_148 : decode b_MO_mark 148 = .ok (.iconst 1, 1) := by decide +kernel
theorem d_MO_mark_149 : decode b_MO_mark 149 = .ok (.invokevirtual 231, 3) := by decide +kernel
theorem d_MO_mark_152 : decode b_MO_mark 152 = .ok (.iinc 3 1, 3) := by decide +kernel
theorem d_MO_mark_155 : decode b_MO_mark 155 = .ok (.goto (-99), 3) := by decide +kernel
theorem d_MO_mark_158 : decode b_MO_mark 158 = .ok (.iconst 0, 1) := by decide +kernel
theorem d_MO_mark_159 : decode b_MO_mark 159 = .ok (.istore 5, 2) := by decide +kernel
theorem d_MO_mark_161 : decode b_MO_mark 161 = .ok (.iload 5, 2) := by decide +kernel
theorem d_MO_mark_163 : decode b_MO_mark 163 = .ok (.sipush 200, 3) := by decide +kernel
theorem d_MO_mark_166 : decode b_MO_mark 166 = .ok (.if_icmp .ge 58, 3) := by decide +kernel
theorem d_MO_mark_169 : decode b_MO_mark 169 = .ok (.aload_n 0, 1) := by decide +kernel
theorem d_MO_mark_170 : decode b_MO_mark 170 = .ok (.getfield 42, 3) := by decide +kernel
theorem d_MO_mark_173 : decode b_MO_mark 173 = .ok (.iload 5, 2) := by decide +kernel
theorem d_MO_mark_175 : decode b_MO_mark 175 = .ok (.iaload, 1) := by decide +kernel
theorem d_MO_mark_176 : decode b_MO_mark 176 = .ok (.iconst (-1), 1) := by decide +kernel
theorem d_MO_mark_177 : decode b_MO_mark 177 = .ok (.if_icmp .eq 41, 3) := by decide +kernel
theorem d_MO_mark_180 : decode b_MO_mark 180 = .ok (.aload_n 0, 1) := by decide +kernel
theorem d_MO_mark_181 : decode b_MO_mark 181 = .ok (.getfield 48, 3) := by decide +kernel
theorem d_MO_mark_184 : decode b_MO_mark 184 = .ok (.iload 5, 2) := by decide +kernel
theorem d_MO_mark_186 : decode b_MO_mark 186 = .ok (.laload, 1) := by decide +kernel
theorem d_MO_mark_187 : decode b_MO_mark 187 = .ok (.aload_n 0, 1) := by decide +kernel
theorem d_MO_mark_188 : decode b_MO_mark 188 = .ok (.getfield 121, 3) := by decide +kernel
theorem d_MO_mark_191 : decode b_MO_mark 191 = .ok (.ladd, 1) := by decide +kernel
theorem d_MO_mark_192 : decode b_MO_mark 192 = .ok (.aload_n 0, 1) := by decide +kernel
theorem d_MO_mark_193 : decode b_MO_mark 193 = .ok (.getfield 23, 3) := by decide +kernel
theorem d_MO_mark_196 : decode b_MO_mark 196 = .ok (.lcmp, 1) := by decide +kernel
theorem d_MO_mark_197 : decode b_MO_mark 197 = .ok (.ifCond .gt 21, 3) := by decide +kernel
theorem d_MO_mark_200 : decode b_MO_mark 200 = .ok (.aload_n 0, 1) := by decide +kernel
theorem d_MO_mark_201 : decode b_MO_mark 201 = .ok (.getfield 42, 3) := by decide +kernel
theorem d_MO_mark_204 : decode b_MO_mark 204 = .ok (.iload 5, 2) := by decide +kernel
theorem d_MO_mark_206 : decode b_MO_mark 206 = .ok (.iconst (-1), 1) := by decide +kernel
theorem d_MO_mark_207 : decode b_MO_mark 207 = .ok (.iastore, 1) := by decide +kernel
theorem d_MO_mark_208 : decode b_MO_mark 208 = .ok (.aload_n 0, 1) := by decide +kernel
theorem d_MO_mark_209 : decode b_MO_mark 209 = .ok (.dup, 1) := by decide +kernel
theorem d_MO_mark_210 : decode b_MO_mark 210 = .ok (.getfield 200, 3) := by decide +kernel
theorem d_MO_mark_213 : decode b_MO_mark 213 = .ok (.iconst 1, 1) := by decide +kernel
theorem d_MO_mark_214 : decode b_MO_mark 214 = .ok (.isub, 1) := by decide +kernel
theorem d_MO_mark_215 : decode b_MO_mark 215 = .ok (.putfield 200, 3) := by decide +kernel
theorem d_MO_mark_218 : decode b_MO_mark 218 = .ok (.iinc 5 1, 3) := by decide +kernel
theorem d_MO_mark_221 : decode b_MO_mark 221 = .ok (.goto (-60), 3) := by decide +kernel
theorem d_MO_mark_224 : decode b_MO_mark 224 = .ok (.iconst 0, 1) := by decide +kernel
theorem d_MO_mark_225 : decode b_MO_mark 225 = .ok (.istore 5, 2) := by decide +kernel
theorem d_MO_mark_227 : decode b_MO_mark 227 = .ok (.iload 5, 2) := by decide +kernel
theorem d_MO_mark_229 : decode b_MO_mark 229 = .ok (.sipush 300, 3) := by decide +kernel
theorem d_MO_mark_232 : decode b_MO_mark 232 = .ok (.if_icmp .ge 103, 3) := by decide +kernel
theorem d_MO_mark_235 : decode b_MO_mark 235 = .ok (.iconst 0, 1) := by decide +kernel
theorem d_MO_mark_236 : decode b_MO_mark 236 = .ok (.istore 6, 2) := by decide +kernel
theorem d_MO_mark_238 : decode b_MO_mark 238 = .ok (.iconst 0, 1) := by decide +kernel
theorem d_MO_mark_239 : decode b_MO_mark 239 = .ok (.istore 7, 2) := by decide +kernel
theorem d_MO_mark_241 : decode b_MO_mark 241 = .ok (.iload 7, 2) := by decide +kernel
theorem d_MO_mark_243 : decode b_MO_mark 243 = .ok (.sipush 200, 3) := by decide +kernel
theorem d_MO_mark_246 : decode b_MO_mark 246 = .ok (.if_icmp .ge 49, 3) := by decide +kernel
theorem d_MO_mark_249 : decode b_MO_mark 249 = .ok (.iload 6, 2) := by decide +kernel
theorem d_MO_mark_251 : decode b_MO_mark 251 = .ok (.ifCond .ne 31, 3) := by decide +kernel
theorem d_MO_mark_254 : decode b_MO_mark 254 = .ok (.aload_n 0, 1) := by decide +kernel
theorem d_MO_mark_255 : decode b_MO_mark 255 = .ok (.getfield 42, 3) := by decide +kernel
theorem d_MO_mark_258 : decode b_MO_mark 258 = .ok (.iload 7, 2) := by decide +kernel
theorem d_MO_mark_260 : decode b_MO_mark 260 = .ok (.iaload, 1) := by decide +kernel
theorem d_MO_mark_261 : decode b_MO_mark 261 = .ok (.iconst (-1), 1) := by decide +kernel
theorem d_MO_mark_262 : decode b_MO_mark 262 = .ok (.if_icmp .eq 24, 3) := by decide +kernel
theorem d_MO_mark_265 : decode b_MO_mark 265 = .ok (.aload_n 0, 1) := by decide +kernel
theorem d_MO_mark_266 : decode b_MO_mark 266 = .ok (.getfield 62, 3) := by decide +kernel
theorem d_MO_mark_269 : decode b_MO_mark 269 = .ok (.sipush 300, 3) := by decide +kernel
theorem d_MO_mark_272 : decode b_MO_mark 272 = .ok (.iload 7, 2) := by decide +kernel
theorem d_MO_mark_274 : decode b_MO_mark 274 = .ok (.imul, 1) := by decide +kernel
theorem d_MO_mark_275 : decode b_MO_mark 275 = .ok (.iload 5, 2) := by decide +kernel
theorem d_MO_mark_277 : decode b_MO_mark 277 = .ok (.iadd, 1) := by decide +kernel
theorem d_MO_mark_278 : decode b_MO_mark 278 = .ok (.baload, 1) := by decide +kernel
theorem d_MO_mark_279 : decode b_MO_mark 279 = .ok (.ifCond .eq 7, 3) := by decide +kernel
theorem d_MO_mark_282 : decode b_MO_mark 282 = .ok (.iconst 1, 1) := by decide +kernel
theorem d_MO_mark_283 : decode b_MO_mark 283 = .ok (.goto 4, 3) := by decide +kernel
theorem d_MO_mark_286 : decode b_MO_mark 286 = .ok (.iconst 0, 1) := by decide +kernel
theorem d_MO_mark_287 : decode b_MO_mark 287 = .ok (.istore 6, 2) := by decide +kernel
theorem d_MO_mark_289 : decode b_MO_mark 289 = .ok (.iinc 7 1, 3) := by decide +kernel
theorem d_MO_mark_292 : decode b_MO_mark 292 = .ok (.goto (-51), 3) := by decide +kernel
theorem d_MO_mark_295 : decode b_MO_mark 295 = .ok (.aload_n 0, 1) := by decide +kernel
theorem d_MO_mark_296 : decode b_MO_mark 296 = .ok (.getfield 27, 3) := by decide +kernel
theorem d_MO_mark_299 : decode b_MO_mark 299 = .ok (.iload 5, 2) := by decide +kernel
theorem d_MO_mark_301 : decode b_MO_mark 301 = .ok (.iaload, 1) := by decide +kernel
theorem d_MO_mark_302 : decode b_MO_mark 302 = .ok (.iconst (-1), 1) := by decide +kernel
theorem d_MO_mark_303 : decode b_MO_mark 303 = .ok (.if_icmp .eq 26, 3) := by decide +kernel
theorem d_MO_mark_306 : decode b_MO_mark 306 = .ok (.iload 6, 2) := by decide +kernel
theorem d_MO_mark_308 : decode b_MO_mark 308 = .ok (.ifCond .ne 21, 3) := by decide +kernel
theorem d_MO_mark_311 : decode b_MO_mark 311 = .ok (.aload_n 0, 1) := by decide +kernel
theorem d_MO_mark_312 : decode b_MO_mark 312 = .ok (.getfield 27, 3) := by decide +kernel
theorem d_MO_mark_315 : decode b_MO_mark 315 = .ok (.iload 5, 2) := by decide +kernel
theorem d_MO_mark_317 : decode b_MO_mark 317 = .ok (.iconst (-1), 1) := by decide +kernel
theorem d_MO_mark_318 : decode b_MO_mark 318 = .ok (.iastore, 1) := by decide +kernel
theorem d_MO_mark_319 : decode b_MO_mark 319 = .ok (.aload_n 0, 1) := by decide +kernel
theorem d_MO_mark_320 : decode b_MO_mark 320 = .ok (.dup, 1) := by decide +kernel
theorem d_MO_mark_321 : decode b_MO_mark 321 = .ok (.getfield 203, 3) := by decide +kernel
theorem d_MO_mark_324 : decode b_MO_mark 324 = .ok (.iconst 1, 1) := by decide +kernel
theorem d_MO_mark_325 : decode b_MO_mark 325 = .ok (.isub, 1) := by decide +kernel
theorem d_MO_mark_326 : decode b_MO_mark 326 = .ok (.putfield 203, 3) := by decide +kernel
theorem d_MO_mark_329 : decode b_MO_mark 329 = .ok (.iinc 5 1, 3) := by decide +kernel
theorem d_MO_mark_332 : decode b_MO_mark 332 = .ok (.goto (-105), 3) := by decide +kernel
theorem d_MO_mark_335 : decode b_MO_mark 335 = .ok (.iload_n 3, 1) := by decide +kernel
theorem d_MO_mark_336 : decode b_MO_mark 336 = .ok (.ireturn, 1) := by decide +kernel
theorem d_MO_count_0 : decode b_MO_count 0 = .ok (.aload_n 0, 1) := by decide +kernel
theorem d_MO_count_1 : decode b_MO_count 1 = .ok (.iconst 0, 1) := by decide +kernel
theorem d_MO_count_2 : decode b_MO_count 2 = .ok (.putfield 104, 3) := by decide +kernel
theorem d_MO_count_5 : decode b_MO_count 5 = .ok (.iload_n 1, 1) := by decide +kernel
theorem d_MO_count_6 : decode b_MO_count 6 = .ok (.tableswitch 86 0 7 #[46, 51, 56, 61, 66, 71, 76, 81], 46) := by decide +kernel
theorem d_MO_count_52 : decode b_MO_count 52 = .ok (.aload_n 0, 1) := by decide +kernel
theorem d_MO_count_53 : decode b_MO_count 53 = .ok (.getfield 203, 3) := by decide +kernel
theorem d_MO_count_56 : decode b_MO_count 56 = .ok (.ireturn, 1) := by decide +kernel
theorem d_MO_count_57 : decode b_MO_count 57 = .ok (.aload_n 0, 1) := by decide +kernel
theorem d_MO_count_58 : decode b_MO_count 58 = .ok (.getfield 200, 3) := by decide +kernel
theorem d_MO_count_61 : decode b_MO_count 61 = .ok (.ireturn, 1) := by decide +kernel
theorem d_MO_count_62 : decode b_MO_count 62 = .ok (.aload_n 0, 1) := by decide +kernel
theorem d_MO_count_63 : decode b_MO_count 63 = .ok (.getfield 215, 3) := by decide +kernel
theorem d_MO_count_66 : decode b_MO_count 66 = .ok (.ireturn, 1) := by decide +kernel
theorem d_MO_count_67 : decode b_MO_count 67 = .ok (.aload_n 0, 1) := by decide +kernel
theorem d_MO_count_68 : decode b_MO_count 68 = .ok (.getfield 254, 3) := by decide +kernel
theorem d_MO_count_71 : decode b_MO_count 71 = .ok (.ireturn, 1) := by decide +kernel
theorem d_MO_count_72 : decode b_MO_count 72 = .ok (.aload_n 0, 1) := by decide +kernel
theorem d_MO_count_73 : decode b_MO_count 73 = .ok (.getfield 115, 3) := by decide +kernel
theorem d_MO_count_76 : decode b_MO_count 76 = .ok (.ireturn, 1) := by decide +kernel
theorem d_MO_count_77 : decode b_MO_count 77 = .ok (.aload_n 0, 1) := by decide +kernel
theorem d_MO_count_78 : decode b_MO_count 78 = .ok (.getfield 212, 3) := by decide +kernel
theorem d_MO_count_81 : decode b_MO_count 81 = .ok (.ireturn, 1) := by decide +kernel
theorem d_MO_count_82 : decode b_MO_count 82 = .ok (.aload_n 0, 1) := by decide +kernel
theorem d_MO_count_83 : decode b_MO_count 83 = .ok (.getfield 218, 3) := by decide +kernel
theorem d_MO_count_86 : decode b_MO_count 86 = .ok (.ireturn, 1) := by decide +kernel
theorem d_MO_count_87 : decode b_MO_count 87 = .ok (.aload_n 0, 1) := by decide +kernel
theorem d_MO_count_88 : decode b_MO_count 88 = .ok (.getfield 221, 3) := by decide +kernel
theorem d_MO_count_91 : decode b_MO_count 91 = .ok (.ireturn, 1) := by decide +kernel
theorem d_MO_count_92 : decode b_MO_count 92 = .ok (.bipush (-2), 2) := by decide +kernel
theorem d_MO_count_94 : decode b_MO_count 94 = .ok (.ireturn, 1) := by decide +kernel
theorem d_MO_fired_0 : decode b_MO_fired 0 = .ok (.aload_n 0, 1) := by decide +kernel
theorem d_MO_fired_1 : decode b_MO_fired 1 = .ok (.iconst 0, 1) := by decide +kernel
theorem d_MO_fired_2 : decode b_MO_fired 2 = .ok (.putfield 104, 3) := by decide +kernel
theorem d_MO_fired_5 : decode b_MO_fired 5 = .ok (.iload_n 1, 1) := by decide +kernel
theorem d_MO_fired_6 : decode b_MO_fired 6 = .ok (.ifCond .lt 11, 3) := by decide +kernel
theorem d_MO_fired_9 : decode b_MO_fired 9 = .ok (.iload_n 1, 1) := by decide +kernel
theorem d_MO_fired_10 : decode b_MO_fired 10 = .ok (.aload_n 0, 1) := by decide +kernel
theorem d_MO_fired_11 : decode b_MO_fired 11 = .ok (.getfield 212, 3) := by decide +kernel
theorem d_MO_fired_14 : decode b_MO_fired 14 = .ok (.if_icmp .lt 7, 3) := by decide +kernel
theorem d_MO_fired_17 : decode b_MO_fired 17 = .ok (.ldc2_w 287, 3) := by decide +kernel
theorem d_MO_fired_20 : decode b_MO_fired 20 = .ok (.lreturn, 1) := by decide +kernel
theorem d_MO_fired_21 : decode b_MO_fired 21 = .ok (.iload_n 2, 1) := by decide +kernel
theorem d_MO_fired_22 : decode b_MO_fired 22 = .ok (.ifCond .lt 9, 3) := by decide +kernel
theorem d_MO_fired_25 : decode b_MO_fired 25 = .ok (.iload_n 2, 1) := by decide +kernel
theorem d_MO_fired_26 : decode b_MO_fired 26 = .ok (.bipush 9, 2) := by decide +kernel
theorem d_MO_fired_28 : decode b_MO_fired 28 = .ok (.if_icmp .le 9, 3) := by decide +kernel
theorem d_MO_fired_31 : decode b_MO_fired 31 = .ok (.ldc2_w 289, 3) := by decide +kernel
theorem d_MO_fired_34 : decode b_MO_fired 34 = .ok (.goto 14, 3) := by decide +kernel
theorem d_MO_fired_37 : decode b_MO_fired 37 = .ok (.aload_n 0, 1) := by decide +kernel
theorem d_MO_fired_38 : decode b_MO_fired 38 = .ok (.getfield 74, 3) := by decide +kernel
theorem d_MO_fired_41 : decode b_MO_fired 41 = .ok (.bipush 10, 2) := by decide +kernel
theorem d_MO_fired_43 : decode b_MO_fired 43 = .ok (.iload_n 1, 1) := by decide +kernel
theorem d_MO_fired_44 : decode b_MO_fired 44 = .ok (.imul, 1) := by decide +kernel
theorem d_MO_fired_45 : decode b_MO_fired 45 = .ok (.iload_n 2, 1) := by decide +kernel
theorem d_MO_fired_46 : decode b_MO_fired 46 = .ok (.iadd, 1) := by decide +kernel
theorem d_MO_fired_47 : decode b_MO_fired 47 = .ok (.laload, 1) := by decide +kernel
theorem d_MO_fired_48 : decode b_MO_fired 48 = .ok (.lreturn, 1) := by decide +kernel
theorem d_MO_spans_0 : decode b_MO_spans 0 = .ok (.aload_n 0, 1) := by decide +kernel
theorem d_MO_spans_1 : decode b_MO_spans 1 = .ok (.iconst 0, 1) := by decide +kernel
theorem d_MO_spans_2 : decode b_MO_spans 2 = .ok (.putfield 104, 3) := by decide +kernel
theorem d_MO_spans_5 : decode b_MO_spans 5 = .ok (.iload_n 1, 1) := by decide +kernel
theorem d_MO_spans_6 : decode b_MO_spans 6 = .ok (.i2l, 1) := by decide +kernel
theorem d_MO_spans_7 : decode b_MO_spans 7 = .ok (.lconst 0, 1) := by decide +kernel
theorem d_MO_spans_8 : decode b_MO_spans 8 = .ok (.ldc2_w 235, 3) := by decide +kernel
theorem d_MO_spans_11 : decode b_MO_spans 11 = .ok (.invokestatic 111, 3) := by decide +kernel
theorem d_MO_spans_14 : decode b_MO_spans 14 = .ok (.ifCond .ne 5, 3) := by decide +kernel
theorem d_MO_spans_17 : decode b_MO_spans 17 = .ok (.iconst (-1), 1) := by decide +kernel
theorem d_MO_spans_18 : decode b_MO_spans 18 = .ok (.ireturn, 1) := by decide +kernel
theorem d_MO_spans_19 : decode b_MO_spans 19 = .ok (.aload_n 0, 1) := by decide +kernel
theorem d_MO_spans_20 : decode b_MO_spans 20 = .ok (.getfield 93, 3) := by decide +kernel
theorem d_MO_spans_23 : decode b_MO_spans 23 = .ok (.iconst 3, 1) := by decide +kernel
theorem d_MO_spans_24 : decode b_MO_spans 24 = .ok (.if_icmp .ne 10, 3) := by decide +kernel
theorem d_MO_spans_27 : decode b_MO_spans 27 = .ok (.aload_n 0, 1) := by decide +kernel
theorem d_MO_spans_28 : decode b_MO_spans 28 = .ok (.getfield 68, 3) := by decide +kernel
theorem d_MO_spans_31 : decode b_MO_spans 31 = .ok (.iload_n 1, 1) := by decide +kernel
theorem d_MO_spans_32 : decode b_MO_spans 32 = .ok (.iaload, 1) := by decide +kernel
theorem d_MO_spans_33 : decode b_MO_spans 33 = .ok (.ireturn, 1) := by decide +kernel
theorem d_MO_spans_34 : decode b_MO_spans 34 = .ok (.iconst 0, 1) := by decide +kernel
theorem d_MO_spans_35 : decode b_MO_spans 35 = .ok (.istore_n 2, 1) := by decide +kernel
theorem d_MO_spans_36 : decode b_MO_spans 36 = .ok (.iconst 0, 1) := by decide +kernel
theorem d_MO_spans_37 : decode b_MO_spans 37 = .ok (.istore_n 3, 1) := by decide +kernel
theorem d_MO_spans_38 : decode b_MO_spans 38 = .ok (.iload_n 3, 1) := by decide +kernel
theorem d_MO_spans_39 : decode b_MO_spans 39 = .ok (.sipush 200, 3) := by decide +kernel
theorem d_MO_spans_42 : decode b_MO_spans 42 = .ok (.if_icmp .ge 27, 3) := by decide +kernel
theorem d_MO_spans_45 : decode b_MO_spans 45 = .ok (.iload_n 2, 1) := by decide +kernel
theorem d_MO_spans_46 : decode b_MO_spans 46 = .ok (.aload_n 0, 1) := by decide +kernel
theorem d_MO_spans_47 : decode b_MO_spans 47 = .ok (.getfield 42, 3) := by decide +kernel
theorem d_MO_spans_50 : decode b_MO_spans 50 = .ok (.iload_n 3, 1) := by decide +kernel
theorem d_MO_spans_51 : decode b_MO_spans 51 = .ok (.iaload, 1) := by decide +kernel
theorem d_MO_spans_52 : decode b_MO_spans 52 = .ok (.iload_n 1, 1) := by decide +kernel
theorem d_MO_spans_53 : decode b_MO_spans 53 = .ok (.if_icmp .ne 7, 3) := by decide +kernel
theorem d_MO_spans_56 : decode b_MO_spans 56 = .ok (.iconst 1, 1) := by decide +kernel
theorem d_MO_spans_57 : decode b_MO_spans 57 = .ok (.goto 4, 3) := by decide +kernel
theorem d_MO_spans_60 : decode b_MO_spans 60 = .ok (.iconst 0, 1) := by decide +kernel
theorem d_MO_spans_61 : decode b_MO_spans 61 = .ok (.iadd, 1) := by decide +kernel
theorem d_MO_spans_62 : decode b_MO_spans 62 = .ok (.istore_n 2, 1) := by decide +kernel
theorem d_MO_spans_63 : decode b_MO_spans 63 = .ok (.iinc 3 1, 3) := by decide +kernel
theorem d_MO_spans_66 : decode b_MO_spans 66 = .ok (.goto (-28), 3) := by decide +kernel
theorem d_MO_spans_69 : decode b_MO_spans 69 = .ok (.iload_n 2, 1) := by decide +kernel
theorem d_MO_spans_70 : decode b_MO_spans 70 = .ok (.ireturn, 1) := by decide +kernel
theorem d_MO_span_0 : decode b_MO_span 0 = .ok (.aload_n 0, 1) := by decide +kernel
theorem d_MO_span_1 : decode b_MO_span 1 = .ok (.iconst 0, 1) := by decide +kernel
theorem d_MO_span_2 : decode b_MO_span 2 = .ok (.putfield 104, 3) := by decide +kernel
theorem d_MO_span_5 : decode b_MO_span 5 = .ok (.iconst (-1), 1) := by decide +kernel
theorem d_MO_span_6 : decode b_MO_span 6 = .ok (.istore 4, 2) := by decide +kernel
theorem d_MO_span_8 : decode b_MO_span 8 = .ok (.iconst 0, 1) := by decide +kernel
theorem d_MO_span_9 : decode b_MO_span 9 = .ok (.istore 5, 2) := by decide +kernel
theorem d_MO_span_11 : decode b_MO_span 11 = .ok (.iload 5, 2) := by decide +kernel
theorem d_MO_span_13 : decode b_MO_span 13 = .ok (.sipush 200, 3) := by decide +kernel
theorem d_MO_span_16 : decode b_MO_span 16 = .ok (.if_icmp .ge 142, 3) := by decide +kernel
theorem d_MO_span_19 : decode b_MO_span 19 = .ok (.iload_n 1, 1) := by decide +kernel
theorem d_MO_span_20 : decode b_MO_span 20 = .ok (.i2l, 1) := by decide +kernel
theorem d_MO_span_21 : decode b_MO_span 21 = .ok (.lconst 0, 1) := by decide +kernel
theorem d_MO_span_22 : decode b_MO_span 22 = .ok (.ldc2_w 235, 3) := by decide +kernel
theorem d_MO_span_25 : decode b_MO_span 25 = .ok (.invokestatic 111, 3) := by decide +kernel
theorem d_MO_span_28 : decode b_MO_span 28 = .ok (.ifCond .eq 130, 3) := by decide +kernel
theorem d_MO_span_31 : decode b_MO_span 31 = .ok (.aload_n 0, 1) := by decide +kernel
theorem d_MO_span_32 : decode b_MO_span 32 = .ok (.getfield 42, 3) := by decide +kernel
theorem d_MO_span_35 : decode b_MO_span 35 = .ok (.iload 5, 2) := by decide +kernel
theorem d_MO_span_37 : decode b_MO_span 37 = .ok (.iaload, 1) := by decide +kernel
theorem d_MO_span_38 : decode b_MO_span 38 = .ok (.iload_n 1, 1) := by decide +kernel
theorem d_MO_span_39 : decode b_MO_span 39 = .ok (.if_icmp .ne 113, 3) := by decide +kernel
theorem d_MO_span_42 : decode b_MO_span 42 = .ok (.iconst 0, 1) := by decide +kernel
theorem d_MO_span_43 : decode b_MO_span 43 = .ok (.istore 6, 2) := by decide +kernel
theorem d_MO_span_45 : decode b_MO_span 45 = .ok (.iconst 0, 1) := by decide +kernel
theorem d_MO_span_46 : decode b_MO_span 46 = .ok (.istore 7, 2) := by decide +kernel
theorem d_MO_span_48 : decode b_MO_span 48 = .ok (.iload 7, 2) := by decide +kernel
theorem d_MO_span_50 : decode b_MO_span 50 = .ok (.sipush 200, 3) := by decide +kernel
theorem d_MO_span_53 : decode b_MO_span 53 = .ok (.if_icmp .ge 84, 3) := by decide +kernel
theorem d_MO_span_56 : decode b_MO_span 56 = .ok (.iload 6, 2) := by decide +kernel
theorem d_MO_span_58 : decode b_MO_span 58 = .ok (.aload_n 0, 1) := by decide +kernel
theorem d_MO_span_59 : decode b_MO_span 59 = .ok (.getfield 42, 3) := by decide +kernel
theorem d_MO_span_62 : decode b_MO_span 62 = .ok (.iload 7, 2) := by decide +kernel
theorem d_MO_span_64 : decode b_MO_span 64 = .ok (.iaload, 1) := by decide +kernel
theorem d_MO_span_65 : decode b_MO_span 65 = .ok (.iload_n 1, 1) := by decide +kernel
theorem d_MO_span_66 : decode b_MO_span 66 = .ok (.if_icmp .ne 61, 3) := by decide +kernel
theorem d_MO_span_69 : decode b_MO_span 69 = .ok (.aload_n 0, 1) := by decide +kernel
theorem d_MO_span_70 : decode b_MO_span 70 = .ok (.getfield 45, 3) := by decide +kernel
theorem d_MO_span_73 : decode b_MO_span 73 = .ok (.iload 7, 2) := by decide +kernel
theorem d_MO_span_75 : decode b_MO_span 75 = .ok (.laload, 1) := by decide +kernel
theorem d_MO_span_76 : decode b_MO_span 76 = .ok (.aload_n 0, 1) := by decide +kernel
theorem d_MO_span_77 : decode b_MO_span 77 = .ok (.getfield 45, 3) := by decide +kernel
theorem d_MO_span_80 : decode b_MO_span 80 = .ok (.iload 5, 2) := by decide +kernel
theorem d_MO_span_82 : decode b_MO_span 82 = .ok (.laload, 1) := by decide +kernel
theorem d_MO_span_83 : decode b_MO_span 83 = .ok (.lcmp, 1) := by decide +kernel
theorem d_MO_span_84 : decode b_MO_span 84 = .ok (.ifCond .lt 39, 3) := by decide +kernel
theorem d_MO_span_87 : decode b_MO_span 87 = .ok (.aload_n 0, 1) := by decide +kernel
theorem d_MO_span_88 : decode b_MO_span 88 = .ok (.getfield 45, 3) := by decide +kernel
theorem d_MO_span_91 : decode b_MO_span 91 = .ok (.iload 7, 2) := by decide +kernel
theorem d_MO_span_93 : decode b_MO_span 93 = .ok (.laload, 1) := by decide +kernel
theorem d_MO_span_94 : decode b_MO_span 94 = .ok (.aload_n 0, 1) := by decide +kernel
theorem d_MO_span_95 : decode b_MO_span 95 = .ok (.getfield 45, 3) := by decide +kernel
theorem d_MO_span_98 : decode b_MO_span 98 = .ok (.iload 5, 2) := by decide +kernel
theorem d_MO_span_100 : decode b_MO_span 100 = .ok (.laload, 1) := by decide +kernel
theorem d_MO_span_101 : decode b_MO_span 101 = .ok (.lcmp, 1) := by decide +kernel
theorem d_MO_span_102 : decode b_MO_span 102 = .ok (.ifCond .ne 25, 3) := by decide +kernel
theorem d_MO_span_105 : decode b_MO_span 105 = .ok (.aload_n 0, 1) := by decide +kernel
theorem d_MO_span_106 : decode b_MO_span 106 = .ok (.getfield 48, 3) := by decide +kernel
theorem d_MO_span_109 : decode b_MO_span 109 = .ok (.iload 7, 2) := by decide +kernel
theorem d_MO_span_111 : decode b_MO_span 111 = .ok (.laload, 1) := by decide +kernel
theorem d_MO_span_112 : decode b_MO_span 112 = .ok (.aload_n 0, 1) := by decide +kernel
theorem d_MO_span_113 : decode b_MO_span 113 = .ok (.getfield 48, 3) := by decide +kernel
theorem d_MO_span_116 : decode b_MO_span 116 = .ok (.iload 5, 2) := by decide +kernel
theorem d_MO_span_118 : decode b_MO_span 118 = .ok (.laload, 1) := by decide +kernel
theorem d_MO_span_119 : decode b_MO_span 119 = .ok (.lcmp, 1) := by decide +kernel
theorem d_MO_span_120 : decode b_MO_span 120 = .ok (.ifCond .ge 7, 3) := by decide +kernel
theorem d_MO_span_123 : decode b_MO_span 123 = .ok (.iconst 1, 1) := by decide +kernel
theorem d_MO_span_124 : decode b_MO_span 124 = .ok (.goto 4, 3) := by decide +kernel
theorem d_MO_span_127 : decode b_MO_span 127 = .ok (.iconst 0, 1) := by decide +kernel
theorem d_MO_span_128 : decode b_MO_span 128 = .ok (.iadd, 1) := by decide +kernel
theorem d_MO_span_129 : decode b_MO_span 129 = .ok (.istore 6, 2) := by decide +kernel
theorem d_MO_span_131 : decode b_MO_span 131 = .ok (.iinc 7 1, 3) := by decide +kernel
theorem d_MO_span_134 : decode b_MO_span 134 = .ok (.goto (-86), 3) := by decide +kernel
theorem d_MO_span_137 : decode b_MO_span 137 = .ok (.iload 6, 2) := by decide +kernel
theorem d_MO_span_139 : decode b_MO_span 139 = .ok (.iload_n 2, 1) := by decide +kernel
theorem d_MO_span_140 : decode b_MO_span 140 = .ok (.if_icmp .ne 8, 3) := by decide +kernel
theorem d_MO_span_143 : decode b_MO_span 143 = .ok (.iload 5, 2) := by decide +kernel
theorem d_MO_span_145 : decode b_MO_span 145 = .ok (.goto 5, 3) := by decide +kernel
theorem d_MO_span_148 : decode b_MO_span 148 = .ok (.iload 4, 2) := by decide +kernel
theorem d_MO_span_150 : decode b_MO_span 150 = .ok (.istore 4, 2) := by decide +kernel
theorem d_MO_span_152 : decode b_MO_span 152 = .ok (.iinc 5 1, 3) := by decide +kernel
theorem d_MO_span_155 : decode b_MO_span 155 = .ok (.goto (-144), 3) := by decide +kernel
theorem d_MO_span_158 : decode b_MO_span 158 = .ok (.iload 4, 2) := by decide +kernel
theorem d_MO_span_160 : decode b_MO_span 160 = .ok (.iconst (-1), 1) := by decide +kernel
theorem d_MO_span_161 : decode b_MO_span 161 = .ok (.if_icmp .ne 7, 3) := by decide +kernel
theorem d_MO_span_164 : decode b_MO_span 164 = .ok (.ldc2_w 287, 3) := by decide +kernel
theorem d_MO_span_167 : decode b_MO_span 167 = .ok (.lreturn, 1) := by decide +kernel
theorem d_MO_span_168 : decode b_MO_span 168 = .ok (.iload_n 3, 1) := by decide +kernel
theorem d_MO_span_169 : decode b_MO_span 169 = .ok (.iconst 1, 1) := by decide +kernel
theorem d_MO_span_170 : decode b_MO_span 170 = .ok (.if_icmp .lt 14, 3) := by decide +kernel
theorem d_MO_span_173 : decode b_MO_span 173 = .ok (.iload_n 3, 1) := by decide +kernel
theorem d_MO_span_174 : decode b_MO_span 174 = .ok (.bipush 10, 2) := by decide +kernel
theorem d_MO_span_176 : decode b_MO_span 176 = .ok (.if_icmp .gt 8, 3) := by decide +kernel
theorem d_MO_span_179 : decode b_MO_span 179 = .ok (.iload_n 3, 1) := by decide +kernel
theorem d_MO_span_180 : decode b_MO_span 180 = .ok (.iconst 3, 1) := by decide +kernel
theorem d_MO_span_181 : decode b_MO_span 181 = .ok (.if_icmp .ne 7, 3) := by decide +kernel
theorem d_MO_span_184 : decode b_MO_span 184 = .ok (.ldc2_w 289, 3) := by decide +kernel
theorem d_MO_span_187 : decode b_MO_span 187 = .ok (.lreturn, 1) := by decide +kernel
theorem d_MO_span_188 : decode b_MO_span 188 = .ok (.iload_n 3, 1) := by decide +kernel
theorem d_MO_span_189 : decode b_MO_span 189 = .ok (.iconst 3, 1) := by decide +kernel
theorem d_MO_span_190 : decode b_MO_span 190 = .ok (.if_icmp .ge 26, 3) := by decide +kernel
theorem d_MO_span_193 : decode b_MO_span 193 = .ok (.iload_n 3, 1) := by decide +kernel
theorem d_MO_span_194 : decode b_MO_span 194 = .ok (.iconst 1, 1) := by decide +kernel
theorem d_MO_span_195 : decode b_MO_span 195 = .ok (.if_icmp .ne 13, 3) := by decide +kernel
theorem d_MO_span_198 : decode b_MO_span 198 = .ok (.aload_n 0, 1) := by decide +kernel
theorem d_MO_span_199 : decode b_MO_span 199 = .ok (.getfield 45, 3) := by decide +kernel
theorem d_MO_span_202 : decode b_MO_span 202 = .ok (.iload 4, 2) := by decide +kernel
theorem d_MO_span_204 : decode b_MO_span 204 = .ok (.laload, 1) := by decide +kernel
theorem d_MO_span_205 : decode b_MO_span 205 = .ok (.goto 10, 3) := by decide +kernel
theorem d_MO_span_208 : decode b_MO_span 208 = .ok (.aload_n 0, 1) := by decide +kernel
theorem d_MO_span_209 : decode b_MO_span 209 = .ok (.getfield 48, 3) := by decide +kernel
theorem d_MO_span_212 : decode b_MO_span 212 = .ok (.iload 4, 2) := by decide +kernel
theorem d_MO_span_214 : decode b_MO_span 214 = .ok (.laload, 1) := by decide +kernel
theorem d_MO_span_215 : decode b_MO_span 215 = .ok (.lreturn, 1) := by decide +kernel
theorem d_MO_span_216 : decode b_MO_span 216 = .ok (.iload_n 3, 1) := by decide +kernel
theorem d_MO_span_217 : decode b_MO_span 217 = .ok (.bipush 8, 2) := by decide +kernel
theorem d_MO_span_219 : decode b_MO_span 219 = .ok (.if_icmp .le 29, 3) := by decide +kernel
theorem d_MO_span_222 : decode b_MO_span 222 = .ok (.iload_n 3, 1) := by decide +kernel
theorem d_MO_span_223 : decode b_MO_span 223 = .ok (.bipush 9, 2) := by decide +kernel
theorem d_MO_span_225 : decode b_MO_span 225 = .ok (.if_icmp .ne 14, 3) := by decide +kernel
theorem d_MO_span_228 : decode b_MO_span 228 = .ok (.aload_n 0, 1) := by decide +kernel
theorem d_MO_span_229 : decode b_MO_span 229 = .ok (.getfield 51, 3) := by decide +kernel
theorem d_MO_span_232 : decode b_MO_span 232 = .ok (.iload 4, 2) := by decide +kernel
theorem d_MO_span_234 : decode b_MO_span 234 = .ok (.iaload, 1) := by decide +kernel
theorem d_MO_span_235 : decode b_MO_span 235 = .ok (.i2l, 1) := by decide +kernel
theorem d_MO_span_236 : decode b_MO_span 236 = .ok (.goto 11, 3) := by decide +kernel
theorem d_MO_span_239 : decode b_MO_span 239 = .ok (.aload_n 0, 1) := by decide +kernel
theorem d_MO_span_240 : decode b_MO_span 240 = .ok (.getfield 54, 3) := by decide +kernel
theorem d_MO_span_243 : decode b_MO_span 243 = .ok (.iload 4, 2) := by decide +kernel
theorem d_MO_span_245 : decode b_MO_span 245 = .ok (.iaload, 1) := by decide +kernel
theorem d_MO_span_246 : decode b_MO_span 246 = .ok (.i2l, 1) := by decide +kernel
theorem d_MO_span_247 : decode b_MO_span 247 = .ok (.lreturn, 1) := by decide +kernel
theorem d_MO_span_248 : decode b_MO_span 248 = .ok (.iconst 0, 1) := by decide +kernel
theorem d_MO_span_249 : decode b_MO_span 249 = .ok (.istore 5, 2) := by decide +kernel
theorem d_MO_span_251 : decode b_MO_span 251 = .ok (.iload 5, 2) := by decide +kernel
theorem d_MO_span_253 : decode b_MO_span 253 = .ok (.sipush 300, 3) := by decide +kernel
theorem d_MO_span_256 : decode b_MO_span 256 = .ok (.if_icmp .ge 30, 3) := by decide +kernel
theorem d_MO_span_259 : decode b_MO_span 259 = .ok (.aload_n 0, 1) := by decide +kernel
theorem d_MO_span_260 : decode b_MO_span 260 = .ok (.getfield 86, 3) := by decide +kernel
theorem d_MO_span_263 : decode b_MO_span 263 = .ok (.iload 5, 2) := by decide +kernel
theorem d_MO_span_265 : decode b_MO_span 265 = .ok (.aload_n 0, 1) := by decide +kernel
theorem d_MO_span_266 : decode b_MO_span 266 = .ok (.getfield 62, 3) := by decide +kernel
theorem d_MO_span_269 : decode b_MO_span 269 = .ok (.sipush 300, 3) := by decide +kernel
theorem d_MO_span_272 : decode b_MO_span 272 = .ok (.iload 4, 2) := by decide +kernel
theorem d_MO_span_274 : decode b_MO_span 274 = .ok (.imul, 1) := by decide +kernel
theorem d_MO_span_275 : decode b_MO_span 275 = .ok (.iload 5, 2) := by decide +kernel
theorem d_MO_span_277 : decode b_MO_span 277 = .ok (.iadd, 1) := by decide +kernel
theorem d_MO_span_278 : decode b_MO_span 278 = .ok (.baload, 1) := by decide +kernel
theorem d_MO_span_279 : decode b_MO_span 279 = .ok (.bastore, 1) := by decide +kernel
theorem d_MO_span_280 : decode b_MO_span 280 = .ok (.iinc 5 1, 3) := by decide +kernel
theorem d_MO_span_283 : decode b_MO_span 283 = .ok (.goto (-32), 3) := by decide +kernel
theorem d_MO_span_286 : decode b_MO_span 286 = .ok (.aload_n 0, 1) := by decide +kernel
theorem d_MO_span_287 : decode b_MO_span 287 = .ok (.invokevirtual 224, 3) := by decide +kernel
theorem d_MO_span_290 : decode b_MO_span 290 = .ok (.aload_n 0, 1) := by decide +kernel
theorem d_MO_span_291 : decode b_MO_span 291 = .ok (.getfield 83, 3) := by decide +kernel
theorem d_MO_span_294 : decode b_MO_span 294 = .ok (.iload_n 3, 1) := by decide +kernel
theorem d_MO_span_295 : decode b_MO_span 295 = .ok (.iconst 4, 1) := by decide +kernel
theorem d_MO_span_296 : decode b_MO_span 296 = .ok (.isub, 1) := by decide +kernel
theorem d_MO_span_297 : decode b_MO_span 297 = .ok (.laload, 1) := by decide +kernel
theorem d_MO_span_298 : decode b_MO_span 298 = .ok (.lreturn, 1) := by decide +kernel
