theorem dL_makes_0 : decode cL_makes 0 = .ok (.aload_n 1, 1) := by decide +kernel
theorem dL_makes_1 : decode cL_makes 1 = .ok (.iconst 0, 1) := by decide +kernel
theorem dL_makes_2 : decode cL_makes 2 = .ok (.iaload, 1) := by decide +kernel
theorem dL_makes_3 : decode cL_makes 3 = .ok (.iconst 2, 1) := by decide +kernel
theorem dL_makes_4 : decode cL_makes 4 = .ok (.if_icmp .lt 11, 3) := by decide +kernel
theorem dL_makes_7 : decode cL_makes 7 = .ok (.iload_n 3, 1) := by decide +kernel
theorem dL_makes_8 : decode cL_makes 8 = .ok (.iconst 4, 1) := by decide +kernel
theorem dL_makes_9 : decode cL_makes 9 = .ok (.invokestatic 109, 3) := by decide +kernel
theorem dL_makes_12 : decode cL_makes 12 = .ok (.ifCond .ne 116, 3) := by decide +kernel
theorem dL_makes_15 : decode cL_makes 15 = .ok (.iload 4, 2) := by decide +kernel
theorem dL_makes_17 : decode cL_makes 17 = .ok (.bipush 81, 2) := by decide +kernel
theorem dL_makes_19 : decode cL_makes 19 = .ok (.invokestatic 109, 3) := by decide +kernel
theorem dL_makes_22 : decode cL_makes 22 = .ok (.bipush 40, 2) := by decide +kernel
theorem dL_makes_24 : decode cL_makes 24 = .ok (.isub, 1) := by decide +kernel
theorem dL_makes_25 : decode cL_makes 25 = .ok (.istore 5, 2) := by decide +kernel
theorem dL_makes_27 : decode cL_makes 27 = .ok (.iload 4, 2) := by decide +kernel
theorem dL_makes_29 : decode cL_makes 29 = .ok (.bipush 7, 2) := by decide +kernel
theorem dL_makes_31 : decode cL_makes 31 = .ok (.ishr, 1) := by decide +kernel
theorem dL_makes_32 : decode cL_makes 32 = .ok (.sipush 5001, 3) := by decide +kernel
theorem dL_makes_35 : decode cL_makes 35 = .ok (.invokestatic 109, 3) := by decide +kernel
theorem dL_makes_38 : decode cL_makes 38 = .ok (.istore 6, 2) := by decide +kernel
theorem dL_makes_40 : decode cL_makes 40 = .ok (.aload_n 0, 1) := by decide +kernel
theorem dL_makes_41 : decode cL_makes 41 = .ok (.iload 5, 2) := by decide +kernel
theorem dL_makes_43 : decode cL_makes 43 = .ok (.iload 6, 2) := by decide +kernel
theorem dL_makes_45 : decode cL_makes 45 = .ok (.invokestatic 112, 3) := by decide +kernel
theorem dL_makes_48 : decode cL_makes 48 = .ok (.istore 7, 2) := by decide +kernel
theorem dL_makes_50 : decode cL_makes 50 = .ok (.aload_n 1, 1) := by decide +kernel
theorem dL_makes_51 : decode cL_makes 51 = .ok (.iconst 0, 1) := by decide +kernel
theorem dL_makes_52 : decode cL_makes 52 = .ok (.iaload, 1) := by decide +kernel
theorem dL_makes_53 : decode cL_makes 53 = .ok (.bipush 6, 2) := by decide +kernel
theorem dL_makes_55 : decode cL_makes 55 = .ok (.if_icmp .ne 16, 3) := by decide +kernel
theorem dL_makes_58 : decode cL_makes 58 = .ok (.iload 7, 2) := by decide +kernel
theorem dL_makes_60 : decode cL_makes 60 = .ok (.ldc 21, 2) := by decide +kernel
theorem dL_makes_62 : decode cL_makes 62 = .ok (.if_icmp .ne 7, 3) := by decide +kernel
theorem dL_makes_65 : decode cL_makes 65 = .ok (.iconst 1, 1) := by decide +kernel
theorem dL_makes_66 : decode cL_makes 66 = .ok (.goto 4, 3) := by decide +kernel
theorem dL_makes_69 : decode cL_makes 69 = .ok (.iconst 0, 1) := by decide +kernel
theorem dL_makes_70 : decode cL_makes 70 = .ok (.ireturn, 1) := by decide +kernel
theorem dL_makes_71 : decode cL_makes 71 = .ok (.aload_n 1, 1) := by decide +kernel
theorem dL_makes_72 : decode cL_makes 72 = .ok (.iconst 0, 1) := by decide +kernel
theorem dL_makes_73 : decode cL_makes 73 = .ok (.dup2, 1) := by decide +kernel
theorem dL_makes_74 : decode cL_makes 74 = .ok (.iaload, 1) := by decide +kernel
theorem dL_makes_75 : decode cL_makes 75 = .ok (.iconst 1, 1) := by decide +kernel
theorem dL_makes_76 : decode cL_makes 76 = .ok (.iadd, 1) := by decide +kernel
theorem dL_makes_77 : decode cL_makes 77 = .ok (.iastore, 1) := by decide +kernel
theorem dL_makes_78 : decode cL_makes 78 = .ok (.iload 7, 2) := by decide +kernel
theorem dL_makes_80 : decode cL_makes 80 = .ok (.aload_n 1, 1) := by decide +kernel
theorem dL_makes_81 : decode cL_makes 81 = .ok (.iconst 0, 1) := by decide +kernel
theorem dL_makes_82 : decode cL_makes 82 = .ok (.iaload, 1) := by decide +kernel
theorem dL_makes_83 : decode cL_makes 83 = .ok (.iconst 1, 1) := by decide +kernel
theorem dL_makes_84 : decode cL_makes 84 = .ok (.isub, 1) := by decide +kernel
theorem dL_makes_85 : decode cL_makes 85 = .ok (.if_icmp .ne 41, 3) := by decide +kernel
theorem dL_makes_88 : decode cL_makes 88 = .ok (.aload_n 0, 1) := by decide +kernel
theorem dL_makes_89 : decode cL_makes 89 = .ok (.iload 7, 2) := by decide +kernel
theorem dL_makes_91 : decode cL_makes 91 = .ok (.iconst 0, 1) := by decide +kernel
theorem dL_makes_92 : decode cL_makes 92 = .ok (.invokestatic 115, 3) := by decide +kernel
theorem dL_makes_95 : decode cL_makes 95 = .ok (.ifCond .ne 31, 3) := by decide +kernel
theorem dL_makes_98 : decode cL_makes 98 = .ok (.aload_n 0, 1) := by decide +kernel
theorem dL_makes_99 : decode cL_makes 99 = .ok (.iload 7, 2) := by decide +kernel
theorem dL_makes_101 : decode cL_makes 101 = .ok (.iconst 1, 1) := by decide +kernel
theorem dL_makes_102 : decode cL_makes 102 = .ok (.invokestatic 115, 3) := by decide +kernel
theorem dL_makes_105 : decode cL_makes 105 = .ok (.iload 5, 2) := by decide +kernel
theorem dL_makes_107 : decode cL_makes 107 = .ok (.if_icmp .ne 19, 3) := by decide +kernel
theorem dL_makes_110 : decode cL_makes 110 = .ok (.aload_n 0, 1) := by decide +kernel
theorem dL_makes_111 : decode cL_makes 111 = .ok (.iload 7, 2) := by decide +kernel
theorem dL_makes_113 : decode cL_makes 113 = .ok (.iconst 2, 1) := by decide +kernel
theorem dL_makes_114 : decode cL_makes 114 = .ok (.invokestatic 115, 3) := by decide +kernel
theorem dL_makes_117 : decode cL_makes 117 = .ok (.iload 6, 2) := by decide +kernel
theorem dL_makes_119 : decode cL_makes 119 = .ok (.if_icmp .ne 7, 3) := by decide +kernel
theorem dL_makes_122 : decode cL_makes 122 = .ok (.iconst 1, 1) := by decide +kernel
theorem dL_makes_123 : decode cL_makes 123 = .ok (.goto 4, 3) := by decide +kernel
theorem dL_makes_126 : decode cL_makes 126 = .ok (.iconst 0, 1) := by decide +kernel
theorem dL_makes_127 : decode cL_makes 127 = .ok (.ireturn, 1) := by decide +kernel
theorem dL_makes_128 : decode cL_makes 128 = .ok (.iload 4, 2) := by decide +kernel
theorem dL_makes_130 : decode cL_makes 130 = .ok (.aload_n 1, 1) := by decide +kernel
theorem dL_makes_131 : decode cL_makes 131 = .ok (.iconst 0, 1) := by decide +kernel
theorem dL_makes_132 : decode cL_makes 132 = .ok (.iaload, 1) := by decide +kernel
theorem dL_makes_133 : decode cL_makes 133 = .ok (.invokestatic 109, 3) := by decide +kernel
theorem dL_makes_136 : decode cL_makes 136 = .ok (.istore 5, 2) := by decide +kernel
theorem dL_makes_138 : decode cL_makes 138 = .ok (.iload 4, 2) := by decide +kernel
theorem dL_makes_140 : decode cL_makes 140 = .ok (.iconst 3, 1) := by decide +kernel
theorem dL_makes_141 : decode cL_makes 141 = .ok (.ishr, 1) := by decide +kernel
theorem dL_makes_142 : decode cL_makes 142 = .ok (.aload_n 1, 1) := by decide +kernel
theorem dL_makes_143 : decode cL_makes 143 = .ok (.iconst 0, 1) := by decide +kernel
theorem dL_makes_144 : decode cL_makes 144 = .ok (.iaload, 1) := by decide +kernel
theorem dL_makes_145 : decode cL_makes 145 = .ok (.invokestatic 109, 3) := by decide +kernel
theorem dL_makes_148 : decode cL_makes 148 = .ok (.istore 6, 2) := by decide +kernel
theorem dL_makes_150 : decode cL_makes 150 = .ok (.aload_n 0, 1) := by decide +kernel
theorem dL_makes_151 : decode cL_makes 151 = .ok (.iload 5, 2) := by decide +kernel
theorem dL_makes_153 : decode cL_makes 153 = .ok (.iload 6, 2) := by decide +kernel
theorem dL_makes_155 : decode cL_makes 155 = .ok (.iload 4, 2) := by decide +kernel
theorem dL_makes_157 : decode cL_makes 157 = .ok (.bipush 6, 2) := by decide +kernel
theorem dL_makes_159 : decode cL_makes 159 = .ok (.ishr, 1) := by decide +kernel
theorem dL_makes_160 : decode cL_makes 160 = .ok (.bipush 101, 2) := by decide +kernel
theorem dL_makes_162 : decode cL_makes 162 = .ok (.invokestatic 109, 3) := by decide +kernel
theorem dL_makes_165 : decode cL_makes 165 = .ok (.bipush 50, 2) := by decide +kernel
theorem dL_makes_167 : decode cL_makes 167 = .ok (.isub, 1) := by decide +kernel
theorem dL_makes_168 : decode cL_makes 168 = .ok (.invokestatic 117, 3) := by decide +kernel
theorem dL_makes_171 : decode cL_makes 171 = .ok (.istore 7, 2) := by decide +kernel
theorem dL_makes_173 : decode cL_makes 173 = .ok (.iload 5, 2) := by decide +kernel
theorem dL_makes_175 : decode cL_makes 175 = .ok (.iload 6, 2) := by decide +kernel
theorem dL_makes_177 : decode cL_makes 177 = .ok (.if_icmp .eq 11, 3) := by decide +kernel
theorem dL_makes_180 : decode cL_makes 180 = .ok (.aload_n 1, 1) := by decide +kernel
theorem dL_makes_181 : decode cL_makes 181 = .ok (.iconst 1, 1) := by decide +kernel
theorem dL_makes_182 : decode cL_makes 182 = .ok (.iaload, 1) := by decide +kernel
theorem dL_makes_183 : decode cL_makes 183 = .ok (.bipush 8, 2) := by decide +kernel
theorem dL_makes_185 : decode cL_makes 185 = .ok (.if_icmp .ne 28, 3) := by decide +kernel
theorem dL_makes_188 : decode cL_makes 188 = .ok (.iload 7, 2) := by decide +kernel
theorem dL_makes_190 : decode cL_makes 190 = .ok (.iload 5, 2) := by decide +kernel
theorem dL_makes_192 : decode cL_makes 192 = .ok (.iload 6, 2) := by decide +kernel
theorem dL_makes_194 : decode cL_makes 194 = .ok (.if_icmp .ne 8, 3) := by decide +kernel
theorem dL_makes_197 : decode cL_makes 197 = .ok (.ldc 18, 2) := by decide +kernel
theorem dL_makes_199 : decode cL_makes 199 = .ok (.goto 5, 3) := by decide +kernel
theorem dL_makes_202 : decode cL_makes 202 = .ok (.ldc 21, 2) := by decide +kernel
theorem dL_makes_204 : decode cL_makes 204 = .ok (.if_icmp .ne 7, 3) := by decide +kernel
theorem dL_makes_207 : decode cL_makes 207 = .ok (.iconst 1, 1) := by decide +kernel
theorem dL_makes_208 : decode cL_makes 208 = .ok (.goto 4, 3) := by decide +kernel
theorem dL_makes_211 : decode cL_makes 211 = .ok (.iconst 0, 1) := by decide +kernel
theorem dL_makes_212 : decode cL_makes 212 = .ok (.ireturn, 1) := by decide +kernel
theorem dL_makes_213 : decode cL_makes 213 = .ok (.aload_n 2, 1) := by decide +kernel
theorem dL_makes_214 : decode cL_makes 214 = .ok (.iconst 3, 1) := by decide +kernel
theorem dL_makes_215 : decode cL_makes 215 = .ok (.aload_n 1, 1) := by decide +kernel
theorem dL_makes_216 : decode cL_makes 216 = .ok (.iconst 1, 1) := by decide +kernel
theorem dL_makes_217 : decode cL_makes 217 = .ok (.iaload, 1) := by decide +kernel
theorem dL_makes_218 : decode cL_makes 218 = .ok (.imul, 1) := by decide +kernel
theorem dL_makes_219 : decode cL_makes 219 = .ok (.iload 5, 2) := by decide +kernel
theorem dL_makes_221 : decode cL_makes 221 = .ok (.iastore, 1) := by decide +kernel
theorem dL_makes_222 : decode cL_makes 222 = .ok (.aload_n 2, 1) := by decide +kernel
theorem dL_makes_223 : decode cL_makes 223 = .ok (.iconst 3, 1) := by decide +kernel
theorem dL_makes_224 : decode cL_makes 224 = .ok (.aload_n 1, 1) := by decide +kernel
theorem dL_makes_225 : decode cL_makes 225 = .ok (.iconst 1, 1) := by decide +kernel
theorem dL_makes_226 : decode cL_makes 226 = .ok (.iaload, 1) := by decide +kernel
theorem dL_makes_227 : decode cL_makes 227 = .ok (.imul, 1) := by decide +kernel
theorem dL_makes_228 : decode cL_makes 228 = .ok (.iconst 1, 1) := by decide +kernel
theorem dL_makes_229 : decode cL_makes 229 = .ok (.iadd, 1) := by decide +kernel
theorem dL_makes_230 : decode cL_makes 230 = .ok (.iload 6, 2) := by decide +kernel
theorem dL_makes_232 : decode cL_makes 232 = .ok (.iastore, 1) := by decide +kernel
theorem dL_makes_233 : decode cL_makes 233 = .ok (.aload_n 2, 1) := by decide +kernel
theorem dL_makes_234 : decode cL_makes 234 = .ok (.iconst 3, 1) := by decide +kernel
theorem dL_makes_235 : decode cL_makes 235 = .ok (.aload_n 1, 1) := by decide +kernel
theorem dL_makes_236 : decode cL_makes 236 = .ok (.iconst 1, 1) := by decide +kernel
theorem dL_makes_237 : decode cL_makes 237 = .ok (.iaload, 1) := by decide +kernel
theorem dL_makes_238 : decode cL_makes 238 = .ok (.imul, 1) := by decide +kernel
theorem dL_makes_239 : decode cL_makes 239 = .ok (.iconst 2, 1) := by decide +kernel
theorem dL_makes_240 : decode cL_makes 240 = .ok (.iadd, 1) := by decide +kernel
theorem dL_makes_241 : decode cL_makes 241 = .ok (.aload_n 1, 1) := by decide +kernel
theorem dL_makes_242 : decode cL_makes 242 = .ok (.iconst 2, 1) := by decide +kernel
theorem dL_makes_243 : decode cL_makes 243 = .ok (.iaload, 1) := by decide +kernel
theorem dL_makes_244 : decode cL_makes 244 = .ok (.iastore, 1) := by decide +kernel
theorem dL_makes_245 : decode cL_makes 245 = .ok (.aload_n 1, 1) := by decide +kernel
theorem dL_makes_246 : decode cL_makes 246 = .ok (.iconst 1, 1) := by decide +kernel
theorem dL_makes_247 : decode cL_makes 247 = .ok (.dup2, 1) := by decide +kernel
theorem dL_makes_248 : decode cL_makes 248 = .ok (.iaload, 1) := by decide +kernel
theorem dL_makes_249 : decode cL_makes 249 = .ok (.iconst 1, 1) := by decide +kernel
theorem dL_makes_250 : decode cL_makes 250 = .ok (.iadd, 1) := by decide +kernel
theorem dL_makes_251 : decode cL_makes 251 = .ok (.iastore, 1) := by decide +kernel
theorem dL_makes_252 : decode cL_makes 252 = .ok (.iload 7, 2) := by decide +kernel
theorem dL_makes_254 : decode cL_makes 254 = .ok (.aload_n 1, 1) := by decide +kernel
theorem dL_makes_255 : decode cL_makes 255 = .ok (.iconst 1, 1) := by decide +kernel
theorem dL_makes_256 : decode cL_makes 256 = .ok (.iaload, 1) := by decide +kernel
theorem dL_makes_257 : decode cL_makes 257 = .ok (.iconst 1, 1) := by decide +kernel
theorem dL_makes_258 : decode cL_makes 258 = .ok (.isub, 1) := by decide +kernel
theorem dL_makes_259 : decode cL_makes 259 = .ok (.if_icmp .ne 7, 3) := by decide +kernel
theorem dL_makes_262 : decode cL_makes 262 = .ok (.iconst 1, 1) := by decide +kernel
theorem dL_makes_263 : decode cL_makes 263 = .ok (.goto 4, 3) := by decide +kernel
theorem dL_makes_266 : decode cL_makes 266 = .ok (.iconst 0, 1) := by decide +kernel
theorem dL_makes_267 : decode cL_makes 267 = .ok (.ireturn, 1) := by decide +kernel
theorem dL_sets_0 : decode cL_sets 0 = .ok (.iload 4, 2) := by decide +kernel
theorem dL_sets_2 : decode cL_sets 2 = .ok (.iconst 5, 1) := by decide +kernel
theorem dL_sets_3 : decode cL_sets 3 = .ok (.invokestatic 109, 3) := by decide +kernel
theorem dL_sets_6 : decode cL_sets 6 = .ok (.istore 6, 2) := by decide +kernel
theorem dL_sets_8 : decode cL_sets 8 = .ok (.iload 6, 2) := by decide +kernel
theorem dL_sets_10 : decode cL_sets 10 = .ok (.ifCond .ne 168, 3) := by decide +kernel
theorem dL_sets_13 : decode cL_sets 13 = .ok (.aload_n 1, 1) := by decide +kernel
theorem dL_sets_14 : decode cL_sets 14 = .ok (.iconst 2, 1) := by decide +kernel
theorem dL_sets_15 : decode cL_sets 15 = .ok (.iaload, 1) := by decide +kernel
theorem dL_sets_16 : decode cL_sets 16 = .ok (.iconst 1, 1) := by decide +kernel
theorem dL_sets_17 : decode cL_sets 17 = .ok (.iadd, 1) := by decide +kernel
theorem dL_sets_18 : decode cL_sets 18 = .ok (.iload 5, 2) := by decide +kernel
theorem dL_sets_20 : decode cL_sets 20 = .ok (.bipush 10, 2) := by decide +kernel
theorem dL_sets_22 : decode cL_sets 22 = .ok (.invokestatic 109, 3) := by decide +kernel
theorem dL_sets_25 : decode cL_sets 25 = .ok (.iadd, 1) := by decide +kernel
theorem dL_sets_26 : decode cL_sets 26 = .ok (.istore 7, 2) := by decide +kernel
theorem dL_sets_28 : decode cL_sets 28 = .ok (.iload 5, 2) := by decide +kernel
theorem dL_sets_30 : decode cL_sets 30 = .ok (.iconst 4, 1) := by decide +kernel
theorem dL_sets_31 : decode cL_sets 31 = .ok (.ishr, 1) := by decide +kernel
theorem dL_sets_32 : decode cL_sets 32 = .ok (.iconst 4, 1) := by decide +kernel
theorem dL_sets_33 : decode cL_sets 33 = .ok (.invokestatic 109, 3) := by decide +kernel
theorem dL_sets_36 : decode cL_sets 36 = .ok (.istore 8, 2) := by decide +kernel
theorem dL_sets_38 : decode cL_sets 38 = .ok (.iload 5, 2) := by decide +kernel
theorem dL_sets_40 : decode cL_sets 40 = .ok (.bipush 6, 2) := by decide +kernel
theorem dL_sets_42 : decode cL_sets 42 = .ok (.ishr, 1) := by decide +kernel
theorem dL_sets_43 : decode cL_sets 43 = .ok (.bipush 8, 2) := by decide +kernel
theorem dL_sets_45 : decode cL_sets 45 = .ok (.invokestatic 109, 3) := by decide +kernel
theorem dL_sets_48 : decode cL_sets 48 = .ok (.istore 9, 2) := by decide +kernel
theorem dL_sets_50 : decode cL_sets 50 = .ok (.iload 8, 2) := by decide +kernel
theorem dL_sets_52 : decode cL_sets 52 = .ok (.iconst 1, 1) := by decide +kernel
theorem dL_sets_53 : decode cL_sets 53 = .ok (.if_icmp .ne 17, 3) := by decide +kernel
theorem dL_sets_56 : decode cL_sets 56 = .ok (.iload 5, 2) := by decide +kernel
theorem dL_sets_58 : decode cL_sets 58 = .ok (.bipush 9, 2) := by decide +kernel
theorem dL_sets_60 : decode cL_sets 60 = .ok (.ishr, 1) := by decide +kernel
theorem dL_sets_61 : decode cL_sets 61 = .ok (.sipush 5001, 3) := by decide +kernel
theorem dL_sets_64 : decode cL_sets 64 = .ok (.invokestatic 109, 3) := by decide +kernel
theorem dL_sets_67 : decode cL_sets 67 = .ok (.goto 15, 3) := by decide +kernel
theorem dL_sets_70 : decode cL_sets 70 = .ok (.iload 5, 2) := by decide +kernel
theorem dL_sets_72 : decode cL_sets 72 = .ok (.bipush 9, 2) := by decide +kernel
theorem dL_sets_74 : decode cL_sets 74 = .ok (.ishr, 1) := by decide +kernel
theorem dL_sets_75 : decode cL_sets 75 = .ok (.bipush 7, 2) := by decide +kernel
theorem dL_sets_77 : decode cL_sets 77 = .ok (.invokestatic 109, 3) := by decide +kernel
theorem dL_sets_80 : decode cL_sets 80 = .ok (.iconst 3, 1) := by decide +kernel
theorem dL_sets_81 : decode cL_sets 81 = .ok (.isub, 1) := by decide +kernel
theorem dL_sets_82 : decode cL_sets 82 = .ok (.istore 10, 2) := by decide +kernel
theorem dL_sets_84 : decode cL_sets 84 = .ok (.aload_n 0, 1) := by decide +kernel
theorem dL_sets_85 : decode cL_sets 85 = .ok (.iload 7, 2) := by decide +kernel
theorem dL_sets_87 : decode cL_sets 87 = .ok (.iload 8, 2) := by decide +kernel
theorem dL_sets_89 : decode cL_sets 89 = .ok (.iload 9, 2) := by decide +kernel
theorem dL_sets_91 : decode cL_sets 91 = .ok (.iload 10, 2) := by decide +kernel
theorem dL_sets_93 : decode cL_sets 93 = .ok (.invokestatic 120, 3) := by decide +kernel
theorem dL_sets_96 : decode cL_sets 96 = .ok (.istore 11, 2) := by decide +kernel
theorem dL_sets_98 : decode cL_sets 98 = .ok (.iload 9, 2) := by decide +kernel
theorem dL_sets_100 : decode cL_sets 100 = .ok (.iload 8, 2) := by decide +kernel
theorem dL_sets_102 : decode cL_sets 102 = .ok (.iconst 2, 1) := by decide +kernel
theorem dL_sets_103 : decode cL_sets 103 = .ok (.if_icmp .ge 9, 3) := by decide +kernel
theorem dL_sets_106 : decode cL_sets 106 = .ok (.aload_n 1, 1) := by decide +kernel
theorem dL_sets_107 : decode cL_sets 107 = .ok (.iconst 0, 1) := by decide +kernel
theorem dL_sets_108 : decode cL_sets 108 = .ok (.iaload, 1) := by decide +kernel
theorem dL_sets_109 : decode cL_sets 109 = .ok (.goto 6, 3) := by decide +kernel
theorem dL_sets_112 : decode cL_sets 112 = .ok (.aload_n 1, 1) := by decide +kernel
theorem dL_sets_113 : decode cL_sets 113 = .ok (.iconst 1, 1) := by decide +kernel
theorem dL_sets_114 : decode cL_sets 114 = .ok (.iaload, 1) := by decide +kernel
theorem dL_sets_115 : decode cL_sets 115 = .ok (.if_icmp .lt 16, 3) := by decide +kernel
theorem dL_sets_118 : decode cL_sets 118 = .ok (.iload 11, 2) := by decide +kernel
theorem dL_sets_120 : decode cL_sets 120 = .ok (.ldc 28, 2) := by decide +kernel
theorem dL_sets_122 : decode cL_sets 122 = .ok (.if_icmp .ne 7, 3) := by decide +kernel
theorem dL_sets_125 : decode cL_sets 125 = .ok (.iconst 1, 1) := by decide +kernel
theorem dL_sets_126 : decode cL_sets 126 = .ok (.goto 4, 3) := by decide +kernel
theorem dL_sets_129 : decode cL_sets 129 = .ok (.iconst 0, 1) := by decide +kernel
theorem dL_sets_130 : decode cL_sets 130 = .ok (.ireturn, 1) := by decide +kernel
theorem dL_sets_131 : decode cL_sets 131 = .ok (.aload_n 1, 1) := by decide +kernel
theorem dL_sets_132 : decode cL_sets 132 = .ok (.iconst 3, 1) := by decide +kernel
theorem dL_sets_133 : decode cL_sets 133 = .ok (.dup2, 1) := by decide +kernel
theorem dL_sets_134 : decode cL_sets 134 = .ok (.iaload, 1) := by decide +kernel
theorem dL_sets_135 : decode cL_sets 135 = .ok (.iload 11, 2) := by decide +kernel
theorem dL_sets_137 : decode cL_sets 137 = .ok (.ifCond .le 7, 3) := by decide +kernel
theorem dL_sets_140 : decode cL_sets 140 = .ok (.iconst 1, 1) := by decide +kernel
theorem dL_sets_141 : decode cL_sets 141 = .ok (.goto 4, 3) := by decide +kernel
theorem dL_sets_144 : decode cL_sets 144 = .ok (.iconst 0, 1) := by decide +kernel
theorem dL_sets_145 : decode cL_sets 145 = .ok (.iadd, 1) := by decide +kernel
theorem dL_sets_146 : decode cL_sets 146 = .ok (.iastore, 1) := by decide +kernel
theorem dL_sets_147 : decode cL_sets 147 = .ok (.aload_n 0, 1) := by decide +kernel
theorem dL_sets_148 : decode cL_sets 148 = .ok (.invokevirtual 122, 3) := by decide +kernel
theorem dL_sets_151 : decode cL_sets 151 = .ok (.iload 11, 2) := by decide +kernel
theorem dL_sets_153 : decode cL_sets 153 = .ok (.if_icmp .eq 19, 3) := by decide +kernel
theorem dL_sets_156 : decode cL_sets 156 = .ok (.iload 11, 2) := by decide +kernel
theorem dL_sets_158 : decode cL_sets 158 = .ok (.ldc 21, 2) := by decide +kernel
theorem dL_sets_160 : decode cL_sets 160 = .ok (.if_icmp .ne 16, 3) := by decide +kernel
theorem dL_sets_163 : decode cL_sets 163 = .ok (.aload_n 0, 1) := by decide +kernel
theorem dL_sets_164 : decode cL_sets 164 = .ok (.invokevirtual 122, 3) := by decide +kernel
theorem dL_sets_167 : decode cL_sets 167 = .ok (.bipush 40, 2) := by decide +kernel
theorem dL_sets_169 : decode cL_sets 169 = .ok (.if_icmp .ne 7, 3) := by decide +kernel
theorem dL_sets_172 : decode cL_sets 172 = .ok (.iconst 1, 1) := by decide +kernel
theorem dL_sets_173 : decode cL_sets 173 = .ok (.goto 4, 3) := by decide +kernel
theorem dL_sets_176 : decode cL_sets 176 = .ok (.iconst 0, 1) := by decide +kernel
theorem dL_sets_177 : decode cL_sets 177 = .ok (.ireturn, 1) := by decide +kernel
theorem dL_sets_178 : decode cL_sets 178 = .ok (.iload 6, 2) := by decide +kernel
theorem dL_sets_180 : decode cL_sets 180 = .ok (.iconst 1, 1) := by decide +kernel
theorem dL_sets_181 : decode cL_sets 181 = .ok (.if_icmp .ne 140, 3) := by decide +kernel
theorem dL_sets_184 : decode cL_sets 184 = .ok (.aload_n 1, 1) := by decide +kernel
theorem dL_sets_185 : decode cL_sets 185 = .ok (.iconst 1, 1) := by decide +kernel
theorem dL_sets_186 : decode cL_sets 186 = .ok (.iaload, 1) := by decide +kernel
theorem dL_sets_187 : decode cL_sets 187 = .ok (.ifCond .le 134, 3) := by decide +kernel
theorem dL_sets_190 : decode cL_sets 190 = .ok (.aload_n 1, 1) := by decide +kernel
theorem dL_sets_191 : decode cL_sets 191 = .ok (.bipush 7, 2) := by decide +kernel
theorem dL_sets_193 : decode cL_sets 193 = .ok (.iaload, 1) := by decide +kernel
theorem dL_sets_194 : decode cL_sets 194 = .ok (.bipush 10, 2) := by decide +kernel
theorem dL_sets_196 : decode cL_sets 196 = .ok (.if_icmp .ge 125, 3) := by decide +kernel
theorem dL_sets_199 : decode cL_sets 199 = .ok (.iconst 4, 1) := by decide +kernel
theorem dL_sets_200 : decode cL_sets 200 = .ok (.aload_n 1, 1) := by decide +kernel
theorem dL_sets_201 : decode cL_sets 201 = .ok (.bipush 7, 2) := by decide +kernel
theorem dL_sets_203 : decode cL_sets 203 = .ok (.iaload, 1) := by decide +kernel
theorem dL_sets_204 : decode cL_sets 204 = .ok (.imul, 1) := by decide +kernel
theorem dL_sets_205 : decode cL_sets 205 = .ok (.istore 7, 2) := by decide +kernel
theorem dL_sets_207 : decode cL_sets 207 = .ok (.aload_n 2, 1) := by decide +kernel
theorem dL_sets_208 : decode cL_sets 208 = .ok (.iload 7, 2) := by decide +kernel
theorem dL_sets_210 : decode cL_sets 210 = .ok (.iload 5, 2) := by decide +kernel
theorem dL_sets_212 : decode cL_sets 212 = .ok (.aload_n 1, 1) := by decide +kernel
theorem dL_sets_213 : decode cL_sets 213 = .ok (.iconst 1, 1) := by decide +kernel
theorem dL_sets_214 : decode cL_sets 214 = .ok (.iaload, 1) := by decide +kernel
theorem dL_sets_215 : decode cL_sets 215 = .ok (.invokestatic 109, 3) := by decide +kernel
theorem dL_sets_218 : decode cL_sets 218 = .ok (.iastore, 1) := by decide +kernel
theorem dL_sets_219 : decode cL_sets 219 = .ok (.aload_n 2, 1) := by decide +kernel
theorem dL_sets_220 : decode cL_sets 220 = .ok (.iload 7, 2) := by decide +kernel
theorem dL_sets_222 : decode cL_sets 222 = .ok (.iconst 1, 1) := by decide +kernel
theorem dL_sets_223 : decode cL_sets 223 = .ok (.iadd, 1) := by decide +kernel
theorem dL_sets_224 : decode cL_sets 224 = .ok (.iload 5, 2) := by decide +kernel
theorem dL_sets_226 : decode cL_sets 226 = .ok (.iconst 3, 1) := by decide +kernel
theorem dL_sets_227 : decode cL_sets 227 = .ok (.ishr, 1) := by decide +kernel
theorem dL_sets_228 : decode cL_sets 228 = .ok (.bipush 60, 2) := by decide +kernel
theorem dL_sets_230 : decode cL_sets 230 = .ok (.invokestatic 109, 3) := by decide +kernel
theorem dL_sets_233 : decode cL_sets 233 = .ok (.iastore, 1) := by decide +kernel
theorem dL_sets_234 : decode cL_sets 234 = .ok (.aload_n 2, 1) := by decide +kernel
theorem dL_sets_235 : decode cL_sets 235 = .ok (.iload 7, 2) := by decide +kernel
theorem dL_sets_237 : decode cL_sets 237 = .ok (.iconst 2, 1) := by decide +kernel
theorem dL_sets_238 : decode cL_sets 238 = .ok (.iadd, 1) := by decide +kernel
theorem dL_sets_239 : decode cL_sets 239 = .ok (.aload_n 2, 1) := by decide +kernel
theorem dL_sets_240 : decode cL_sets 240 = .ok (.iload 7, 2) := by decide +kernel
theorem dL_sets_242 : decode cL_sets 242 = .ok (.iconst 1, 1) := by decide +kernel
theorem dL_sets_243 : decode cL_sets 243 = .ok (.iadd, 1) := by decide +kernel
theorem dL_sets_244 : decode cL_sets 244 = .ok (.iaload, 1) := by decide +kernel
theorem dL_sets_245 : decode cL_sets 245 = .ok (.iload 5, 2) := by decide +kernel
theorem dL_sets_247 : decode cL_sets 247 = .ok (.bipush 9, 2) := by decide +kernel
theorem dL_sets_249 : decode cL_sets 249 = .ok (.ishr, 1) := by decide +kernel
theorem dL_sets_250 : decode cL_sets 250 = .ok (.bipush 20, 2) := by decide +kernel
theorem dL_sets_252 : decode cL_sets 252 = .ok (.invokestatic 109, 3) := by decide +kernel
theorem dL_sets_255 : decode cL_sets 255 = .ok (.iadd, 1) := by decide +kernel
theorem dL_sets_256 : decode cL_sets 256 = .ok (.iastore, 1) := by decide +kernel
theorem dL_sets_257 : decode cL_sets 257 = .ok (.aload_n 2, 1) := by decide +kernel
theorem dL_sets_258 : decode cL_sets 258 = .ok (.iload 7, 2) := by decide +kernel
theorem dL_sets_260 : decode cL_sets 260 = .ok (.iconst 3, 1) := by decide +kernel
theorem dL_sets_261 : decode cL_sets 261 = .ok (.iadd, 1) := by decide +kernel
theorem dL_sets_262 : decode cL_sets 262 = .ok (.iload 5, 2) := by decide +kernel
theorem dL_sets_264 : decode cL_sets 264 = .ok (.bipush 14, 2) := by decide +kernel
theorem dL_sets_266 : decode cL_sets 266 = .ok (.ishr, 1) := by decide +kernel
theorem dL_sets_267 : decode cL_sets 267 = .ok (.sipush 3001, 3) := by decide +kernel
theorem dL_sets_270 : decode cL_sets 270 = .ok (.invokestatic 109, 3) := by decide +kernel
theorem dL_sets_273 : decode cL_sets 273 = .ok (.sipush 1500, 3) := by decide +kernel
theorem dL_sets_276 : decode cL_sets 276 = .ok (.isub, 1) := by decide +kernel
theorem dL_sets_277 : decode cL_sets 277 = .ok (.iastore, 1) := by decide +kernel
theorem dL_sets_278 : decode cL_sets 278 = .ok (.aload_n 1, 1) := by decide +kernel
theorem dL_sets_279 : decode cL_sets 279 = .ok (.bipush 7, 2) := by decide +kernel
theorem dL_sets_281 : decode cL_sets 281 = .ok (.dup2, 1) := by decide +kernel
theorem dL_sets_282 : decode cL_sets 282 = .ok (.iaload, 1) := by decide +kernel
theorem dL_sets_283 : decode cL_sets 283 = .ok (.iconst 1, 1) := by decide +kernel
theorem dL_sets_284 : decode cL_sets 284 = .ok (.iadd, 1) := by decide +kernel
theorem dL_sets_285 : decode cL_sets 285 = .ok (.iastore, 1) := by decide +kernel
theorem dL_sets_286 : decode cL_sets 286 = .ok (.aload_n 0, 1) := by decide +kernel
theorem dL_sets_287 : decode cL_sets 287 = .ok (.aload_n 2, 1) := by decide +kernel
theorem dL_sets_288 : decode cL_sets 288 = .ok (.iload 7, 2) := by decide +kernel
theorem dL_sets_290 : decode cL_sets 290 = .ok (.iaload, 1) := by decide +kernel
theorem dL_sets_291 : decode cL_sets 291 = .ok (.aload_n 2, 1) := by decide +kernel
theorem dL_sets_292 : decode cL_sets 292 = .ok (.iload 7, 2) := by decide +kernel
theorem dL_sets_294 : decode cL_sets 294 = .ok (.iconst 1, 1) := by decide +kernel
theorem dL_sets_295 : decode cL_sets 295 = .ok (.iadd, 1) := by decide +kernel
theorem dL_sets_296 : decode cL_sets 296 = .ok (.iaload, 1) := by decide +kernel
theorem dL_sets_297 : decode cL_sets 297 = .ok (.aload_n 2, 1) := by decide +kernel
theorem dL_sets_298 : decode cL_sets 298 = .ok (.iload 7, 2) := by decide +kernel
theorem dL_sets_300 : decode cL_sets 300 = .ok (.iconst 2, 1) := by decide +kernel
theorem dL_sets_301 : decode cL_sets 301 = .ok (.iadd, 1) := by decide +kernel
theorem dL_sets_302 : decode cL_sets 302 = .ok (.iaload, 1) := by decide +kernel
theorem dL_sets_303 : decode cL_sets 303 = .ok (.aload_n 2, 1) := by decide +kernel
theorem dL_sets_304 : decode cL_sets 304 = .ok (.iload 7, 2) := by decide +kernel
theorem dL_sets_306 : decode cL_sets 306 = .ok (.iconst 3, 1) := by decide +kernel
theorem dL_sets_307 : decode cL_sets 307 = .ok (.iadd, 1) := by decide +kernel
theorem dL_sets_308 : decode cL_sets 308 = .ok (.iaload, 1) := by decide +kernel
theorem dL_sets_309 : decode cL_sets 309 = .ok (.invokestatic 126, 3) := by decide +kernel
theorem dL_sets_312 : decode cL_sets 312 = .ok (.ifCond .le 7, 3) := by decide +kernel
theorem dL_sets_315 : decode cL_sets 315 = .ok (.iconst 1, 1) := by decide +kernel
theorem dL_sets_316 : decode cL_sets 316 = .ok (.goto 4, 3) := by decide +kernel
theorem dL_sets_319 : decode cL_sets 319 = .ok (.iconst 0, 1) := by decide +kernel
theorem dL_sets_320 : decode cL_sets 320 = .ok (.ireturn, 1) := by decide +kernel
theorem dL_sets_321 : decode cL_sets 321 = .ok (.iload 6, 2) := by decide +kernel
theorem dL_sets_323 : decode cL_sets 323 = .ok (.iconst 2, 1) := by decide +kernel
theorem dL_sets_324 : decode cL_sets 324 = .ok (.if_icmp .ne 91, 3) := by decide +kernel
theorem dL_sets_327 : decode cL_sets 327 = .ok (.iload 5, 2) := by decide +kernel
theorem dL_sets_329 : decode cL_sets 329 = .ok (.aload_n 1, 1) := by decide +kernel
theorem dL_sets_330 : decode cL_sets 330 = .ok (.iconst 0, 1) := by decide +kernel
theorem dL_sets_331 : decode cL_sets 331 = .ok (.iaload, 1) := by decide +kernel
theorem dL_sets_332 : decode cL_sets 332 = .ok (.invokestatic 109, 3) := by decide +kernel
theorem dL_sets_335 : decode cL_sets 335 = .ok (.istore 7, 2) := by decide +kernel
theorem dL_sets_337 : decode cL_sets 337 = .ok (.aload_n 0, 1) := by decide +kernel
theorem dL_sets_338 : decode cL_sets 338 = .ok (.iload 7, 2) := by decide +kernel
theorem dL_sets_340 : decode cL_sets 340 = .ok (.iload 5, 2) := by decide +kernel
theorem dL_sets_342 : decode cL_sets 342 = .ok (.iconst 3, 1) := by decide +kernel
theorem dL_sets_343 : decode cL_sets 343 = .ok (.ishr, 1) := by decide +kernel
theorem dL_sets_344 : decode cL_sets 344 = .ok (.bipush 41, 2) := by decide +kernel
theorem dL_sets_346 : decode cL_sets 346 = .ok (.invokestatic 109, 3) := by decide +kernel
theorem dL_sets_349 : decode cL_sets 349 = .ok (.bipush 20, 2) := by decide +kernel
theorem dL_sets_351 : decode cL_sets 351 = .ok (.isub, 1) := by decide +kernel
theorem dL_sets_352 : decode cL_sets 352 = .ok (.iload 5, 2) := by decide +kernel
theorem dL_sets_354 : decode cL_sets 354 = .ok (.bipush 9, 2) := by decide +kernel
theorem dL_sets_356 : decode cL_sets 356 = .ok (.ishr, 1) := by decide +kernel
theorem dL_sets_357 : decode cL_sets 357 = .ok (.bipush 101, 2) := by decide +kernel
theorem dL_sets_359 : decode cL_sets 359 = .ok (.invokestatic 109, 3) := by decide +kernel
theorem dL_sets_362 : decode cL_sets 362 = .ok (.invokestatic 128, 3) := by decide +kernel
theorem dL_sets_365 : decode cL_sets 365 = .ok (.istore 8, 2) := by decide +kernel
theorem dL_sets_367 : decode cL_sets 367 = .ok (.iload 8, 2) := by decide +kernel
theorem dL_sets_369 : decode cL_sets 369 = .ok (.ifCond .lt 44, 3) := by decide +kernel
theorem dL_sets_372 : decode cL_sets 372 = .ok (.iload 8, 2) := by decide +kernel
theorem dL_sets_374 : decode cL_sets 374 = .ok (.bipush 100, 2) := by decide +kernel
theorem dL_sets_376 : decode cL_sets 376 = .ok (.if_icmp .gt 37, 3) := by decide +kernel
theorem dL_sets_379 : decode cL_sets 379 = .ok (.aload_n 0, 1) := by decide +kernel
theorem dL_sets_380 : decode cL_sets 380 = .ok (.iload 7, 2) := by decide +kernel
theorem dL_sets_382 : decode cL_sets 382 = .ok (.iconst 0, 1) := by decide +kernel
theorem dL_sets_383 : decode cL_sets 383 = .ok (.iload 5, 2) := by decide +kernel
theorem dL_sets_385 : decode cL_sets 385 = .ok (.bipush 9, 2) := by decide +kernel
theorem dL_sets_387 : decode cL_sets 387 = .ok (.ishr, 1) := by decide +kernel
theorem dL_sets_388 : decode cL_sets 388 = .ok (.bipush 101, 2) := by decide +kernel
theorem dL_sets_390 : decode cL_sets 390 = .ok (.invokestatic 109, 3) := by decide +kernel
theorem dL_sets_393 : decode cL_sets 393 = .ok (.invokestatic 128, 3) := by decide +kernel
theorem dL_sets_396 : decode cL_sets 396 = .ok (.iload 5, 2) := by decide +kernel
theorem dL_sets_398 : decode cL_sets 398 = .ok (.bipush 9, 2) := by decide +kernel
theorem dL_sets_400 : decode cL_sets 400 = .ok (.ishr, 1) := by decide +kernel
theorem dL_sets_401 : decode cL_sets 401 = .ok (.bipush 101, 2) := by decide +kernel
theorem dL_sets_403 : decode cL_sets 403 = .ok (.invokestatic 109, 3) := by decide +kernel
theorem dL_sets_406 : decode cL_sets 406 = .ok (.if_icmp .ne 7, 3) := by decide +kernel
theorem dL_sets_409 : decode cL_sets 409 = .ok (.iconst 1, 1) := by decide +kernel
theorem dL_sets_410 : decode cL_sets 410 = .ok (.goto 4, 3) := by decide +kernel
theorem dL_sets_413 : decode cL_sets 413 = .ok (.iconst 0, 1) := by decide +kernel
theorem dL_sets_414 : decode cL_sets 414 = .ok (.ireturn, 1) := by decide +kernel
theorem dL_sets_415 : decode cL_sets 415 = .ok (.iload 6, 2) := by decide +kernel
theorem dL_sets_417 : decode cL_sets 417 = .ok (.iconst 3, 1) := by decide +kernel
theorem dL_sets_418 : decode cL_sets 418 = .ok (.if_icmp .ne 78, 3) := by decide +kernel
theorem dL_sets_421 : decode cL_sets 421 = .ok (.iload 5, 2) := by decide +kernel
theorem dL_sets_423 : decode cL_sets 423 = .ok (.bipush 7, 2) := by decide +kernel
theorem dL_sets_425 : decode cL_sets 425 = .ok (.invokestatic 109, 3) := by decide +kernel
theorem dL_sets_428 : decode cL_sets 428 = .ok (.istore 7, 2) := by decide +kernel
theorem dL_sets_430 : decode cL_sets 430 = .ok (.iload 5, 2) := by decide +kernel
theorem dL_sets_432 : decode cL_sets 432 = .ok (.iconst 3, 1) := by decide +kernel
theorem dL_sets_433 : decode cL_sets 433 = .ok (.ishr, 1) := by decide +kernel
theorem dL_sets_434 : decode cL_sets 434 = .ok (.iconst 3, 1) := by decide +kernel
theorem dL_sets_435 : decode cL_sets 435 = .ok (.invokestatic 109, 3) := by decide +kernel
theorem dL_sets_438 : decode cL_sets 438 = .ok (.ifCond .le 7, 3) := by decide +kernel
theorem dL_sets_441 : decode cL_sets 441 = .ok (.iconst 1, 1) := by decide +kernel
theorem dL_sets_442 : decode cL_sets 442 = .ok (.goto 4, 3) := by decide +kernel
theorem dL_sets_445 : decode cL_sets 445 = .ok (.iconst 0, 1) := by decide +kernel
theorem dL_sets_446 : decode cL_sets 446 = .ok (.istore 8, 2) := by decide +kernel
theorem dL_sets_448 : decode cL_sets 448 = .ok (.aload_n 1, 1) := by decide +kernel
theorem dL_sets_449 : decode cL_sets 449 = .ok (.iconst 4, 1) := by decide +kernel
theorem dL_sets_450 : decode cL_sets 450 = .ok (.dup2, 1) := by decide +kernel
theorem dL_sets_451 : decode cL_sets 451 = .ok (.iaload, 1) := by decide +kernel
theorem dL_sets_452 : decode cL_sets 452 = .ok (.iload 8, 2) := by decide +kernel
theorem dL_sets_454 : decode cL_sets 454 = .ok (.aload_n 3, 1) := by decide +kernel
theorem dL_sets_455 : decode cL_sets 455 = .ok (.iload 7, 2) := by decide +kernel
theorem dL_sets_457 : decode cL_sets 457 = .ok (.iaload, 1) := by decide +kernel
theorem dL_sets_458 : decode cL_sets 458 = .ok (.isub, 1) := by decide +kernel
theorem dL_sets_459 : decode cL_sets 459 = .ok (.iadd, 1) := by decide +kernel
theorem dL_sets_460 : decode cL_sets 460 = .ok (.iastore, 1) := by decide +kernel
theorem dL_sets_461 : decode cL_sets 461 = .ok (.aload_n 3, 1) := by decide +kernel
theorem dL_sets_462 : decode cL_sets 462 = .ok (.iload 7, 2) := by decide +kernel
theorem dL_sets_464 : decode cL_sets 464 = .ok (.iload 8, 2) := by decide +kernel
theorem dL_sets_466 : decode cL_sets 466 = .ok (.iastore, 1) := by decide +kernel
theorem dL_sets_467 : decode cL_sets 467 = .ok (.aload_n 0, 1) := by decide +kernel
theorem dL_sets_468 : decode cL_sets 468 = .ok (.iload 7, 2) := by decide +kernel
theorem dL_sets_470 : decode cL_sets 470 = .ok (.iload 8, 2) := by decide +kernel
theorem dL_sets_472 : decode cL_sets 472 = .ok (.iconst 1, 1) := by decide +kernel
theorem dL_sets_473 : decode cL_sets 473 = .ok (.if_icmp .ne 7, 3) := by decide +kernel
theorem dL_sets_476 : decode cL_sets 476 = .ok (.iconst 1, 1) := by decide +kernel
theorem dL_sets_477 : decode cL_sets 477 = .ok (.goto 4, 3) := by decide +kernel
theorem dL_sets_480 : decode cL_sets 480 = .ok (.iconst 0, 1) := by decide +kernel
theorem dL_sets_481 : decode cL_sets 481 = .ok (.invokestatic 130, 3) := by decide +kernel
theorem dL_sets_484 : decode cL_sets 484 = .ok (.aload_n 1, 1) := by decide +kernel
theorem dL_sets_485 : decode cL_sets 485 = .ok (.iconst 4, 1) := by decide +kernel
theorem dL_sets_486 : decode cL_sets 486 = .ok (.iaload, 1) := by decide +kernel
theorem dL_sets_487 : decode cL_sets 487 = .ok (.if_icmp .ne 7, 3) := by decide +kernel
theorem dL_sets_490 : decode cL_sets 490 = .ok (.iconst 1, 1) := by decide +kernel
theorem dL_sets_491 : decode cL_sets 491 = .ok (.goto 4, 3) := by decide +kernel
theorem dL_sets_494 : decode cL_sets 494 = .ok (.iconst 0, 1) := by decide +kernel
theorem dL_sets_495 : decode cL_sets 495 = .ok (.ireturn, 1) := by decide +kernel
theorem dL_sets_496 : decode cL_sets 496 = .ok (.aload_n 0, 1) := by decide +kernel
theorem dL_sets_497 : decode cL_sets 497 = .ok (.invokestatic 132, 3) := by decide +kernel
theorem dL_sets_500 : decode cL_sets 500 = .ok (.istore 7, 2) := by decide +kernel
theorem dL_sets_502 : decode cL_sets 502 = .ok (.aload_n 1, 1) := by decide +kernel
theorem dL_sets_503 : decode cL_sets 503 = .ok (.iconst 5, 1) := by decide +kernel
theorem dL_sets_504 : decode cL_sets 504 = .ok (.iaload, 1) := by decide +kernel
theorem dL_sets_505 : decode cL_sets 505 = .ok (.iconst 1, 1) := by decide +kernel
theorem dL_sets_506 : decode cL_sets 506 = .ok (.if_icmp .eq 9, 3) := by decide +kernel
theorem dL_sets_509 : decode cL_sets 509 = .ok (.aload_n 1, 1) := by decide +kernel
theorem dL_sets_510 : decode cL_sets 510 = .ok (.iconst 2, 1) := by decide +kernel
theorem dL_sets_511 : decode cL_sets 511 = .ok (.iaload, 1) := by decide +kernel
theorem dL_sets_512 : decode cL_sets 512 = .ok (.ifCond .ne 16, 3) := by decide +kernel
theorem dL_sets_515 : decode cL_sets 515 = .ok (.iload 7, 2) := by decide +kernel
theorem dL_sets_517 : decode cL_sets 517 = .ok (.ldc 21, 2) := by decide +kernel
theorem dL_sets_519 : decode cL_sets 519 = .ok (.if_icmp .ne 7, 3) := by decide +kernel
theorem dL_sets_522 : decode cL_sets 522 = .ok (.iconst 1, 1) := by decide +kernel
theorem dL_sets_523 : decode cL_sets 523 = .ok (.goto 4, 3) := by decide +kernel
theorem dL_sets_526 : decode cL_sets 526 = .ok (.iconst 0, 1) := by decide +kernel
theorem dL_sets_527 : decode cL_sets 527 = .ok (.ireturn, 1) := by decide +kernel
theorem dL_sets_528 : decode cL_sets 528 = .ok (.aload_n 1, 1) := by decide +kernel
theorem dL_sets_529 : decode cL_sets 529 = .ok (.iconst 5, 1) := by decide +kernel
theorem dL_sets_530 : decode cL_sets 530 = .ok (.iload 7, 2) := by decide +kernel
theorem dL_sets_532 : decode cL_sets 532 = .ok (.iconst 1, 1) := by decide +kernel
theorem dL_sets_533 : decode cL_sets 533 = .ok (.if_icmp .ne 7, 3) := by decide +kernel
theorem dL_sets_536 : decode cL_sets 536 = .ok (.iconst 1, 1) := by decide +kernel
theorem dL_sets_537 : decode cL_sets 537 = .ok (.goto 4, 3) := by decide +kernel
theorem dL_sets_540 : decode cL_sets 540 = .ok (.iconst 0, 1) := by decide +kernel
theorem dL_sets_541 : decode cL_sets 541 = .ok (.iastore, 1) := by decide +kernel
theorem dL_sets_542 : decode cL_sets 542 = .ok (.iload 7, 2) := by decide +kernel
theorem dL_sets_544 : decode cL_sets 544 = .ok (.aload_n 1, 1) := by decide +kernel
theorem dL_sets_545 : decode cL_sets 545 = .ok (.iconst 4, 1) := by decide +kernel
theorem dL_sets_546 : decode cL_sets 546 = .ok (.iaload, 1) := by decide +kernel
theorem dL_sets_547 : decode cL_sets 547 = .ok (.iconst 4, 1) := by decide +kernel
theorem dL_sets_548 : decode cL_sets 548 = .ok (.if_icmp .le 17, 3) := by decide +kernel
theorem dL_sets_551 : decode cL_sets 551 = .ok (.aload_n 0, 1) := by decide +kernel
theorem dL_sets_552 : decode cL_sets 552 = .ok (.aload_n 1, 1) := by decide +kernel
theorem dL_sets_553 : decode cL_sets 553 = .ok (.iconst 2, 1) := by decide +kernel
theorem dL_sets_554 : decode cL_sets 554 = .ok (.iaload, 1) := by decide +kernel
theorem dL_sets_555 : decode cL_sets 555 = .ok (.invokestatic 99, 3) := by decide +kernel
theorem dL_sets_558 : decode cL_sets 558 = .ok (.ifCond .ne 7, 3) := by decide +kernel
theorem dL_sets_561 : decode cL_sets 561 = .ok (.iconst 1, 1) := by decide +kernel
theorem dL_sets_562 : decode cL_sets 562 = .ok (.goto 4, 3) := by decide +kernel
theorem dL_sets_565 : decode cL_sets 565 = .ok (.iconst 0, 1) := by decide +kernel
theorem dL_sets_566 : decode cL_sets 566 = .ok (.if_icmp .ne 7, 3) := by decide +kernel
theorem dL_sets_569 : decode cL_sets 569 = .ok (.iconst 1, 1) := by decide +kernel
theorem dL_sets_570 : decode cL_sets 570 = .ok (.goto 4, 3) := by decide +kernel
theorem dL_sets_573 : decode cL_sets 573 = .ok (.iconst 0, 1) := by decide +kernel
theorem dL_sets_574 : decode cL_sets 574 = .ok (.ireturn, 1) := by decide +kernel
theorem dL_acts_0 : decode cL_acts 0 = .ok (.iload 6, 2) := by decide +kernel
theorem dL_acts_2 : decode cL_acts 2 = .ok (.bipush 12, 2) := by decide +kernel
theorem dL_acts_4 : decode cL_acts 4 = .ok (.invokestatic 109, 3) := by decide +kernel
theorem dL_acts_7 : decode cL_acts 7 = .ok (.istore 8, 2) := by decide +kernel
theorem dL_acts_9 : decode cL_acts 9 = .ok (.iload 8, 2) := by decide +kernel
theorem dL_acts_11 : decode cL_acts 11 = .ok (.iconst 2, 1) := by decide +kernel
theorem dL_acts_12 : decode cL_acts 12 = .ok (.if_icmp .lt 10, 3) := by decide +kernel
theorem dL_acts_15 : decode cL_acts 15 = .ok (.aload_n 1, 1) := by decide +kernel
theorem dL_acts_16 : decode cL_acts 16 = .ok (.iconst 0, 1) := by decide +kernel
theorem dL_acts_17 : decode cL_acts 17 = .ok (.iaload, 1) := by decide +kernel
theorem dL_acts_18 : decode cL_acts 18 = .ok (.iconst 2, 1) := by decide +kernel
theorem dL_acts_19 : decode cL_acts 19 = .ok (.if_icmp .ge 16, 3) := by decide +kernel
theorem dL_acts_22 : decode cL_acts 22 = .ok (.aload_n 0, 1) := by decide +kernel
theorem dL_acts_23 : decode cL_acts 23 = .ok (.aload_n 1, 1) := by decide +kernel
theorem dL_acts_24 : decode cL_acts 24 = .ok (.aload_n 2, 1) := by decide +kernel
theorem dL_acts_25 : decode cL_acts 25 = .ok (.iload 6, 2) := by decide +kernel
theorem dL_acts_27 : decode cL_acts 27 = .ok (.iconst 4, 1) := by decide +kernel
theorem dL_acts_28 : decode cL_acts 28 = .ok (.ishr, 1) := by decide +kernel
theorem dL_acts_29 : decode cL_acts 29 = .ok (.iload 7, 2) := by decide +kernel
theorem dL_acts_31 : decode cL_acts 31 = .ok (.invokestatic 135, 3) := by decide +kernel
theorem dL_acts_34 : decode cL_acts 34 = .ok (.ireturn, 1) := by decide +kernel
theorem dL_acts_35 : decode cL_acts 35 = .ok (.iload 8, 2) := by decide +kernel
theorem dL_acts_37 : decode cL_acts 37 = .ok (.iconst 5, 1) := by decide +kernel
theorem dL_acts_38 : decode cL_acts 38 = .ok (.if_icmp .ge 18, 3) := by decide +kernel
theorem dL_acts_41 : decode cL_acts 41 = .ok (.aload_n 0, 1) := by decide +kernel
theorem dL_acts_42 : decode cL_acts 42 = .ok (.aload_n 1, 1) := by decide +kernel
theorem dL_acts_43 : decode cL_acts 43 = .ok (.aload_n 3, 1) := by decide +kernel
theorem dL_acts_44 : decode cL_acts 44 = .ok (.aload 4, 2) := by decide +kernel
theorem dL_acts_46 : decode cL_acts 46 = .ok (.iload 6, 2) := by decide +kernel
theorem dL_acts_48 : decode cL_acts 48 = .ok (.iconst 4, 1) := by decide +kernel
theorem dL_acts_49 : decode cL_acts 49 = .ok (.ishr, 1) := by decide +kernel
theorem dL_acts_50 : decode cL_acts 50 = .ok (.iload 7, 2) := by decide +kernel
theorem dL_acts_52 : decode cL_acts 52 = .ok (.invokestatic 139, 3) := by decide +kernel
theorem dL_acts_55 : decode cL_acts 55 = .ok (.ireturn, 1) := by decide +kernel
theorem dL_acts_56 : decode cL_acts 56 = .ok (.iload 8, 2) := by decide +kernel
theorem dL_acts_58 : decode cL_acts 58 = .ok (.iconst 5, 1) := by decide +kernel
theorem dL_acts_59 : decode cL_acts 59 = .ok (.if_icmp .ne 52, 3) := by decide +kernel
theorem dL_acts_62 : decode cL_acts 62 = .ok (.aload 5, 2) := by decide +kernel
theorem dL_acts_64 : decode cL_acts 64 = .ok (.iconst 0, 1) := by decide +kernel
theorem dL_acts_65 : decode cL_acts 65 = .ok (.iload 7, 2) := by decide +kernel
theorem dL_acts_67 : decode cL_acts 67 = .ok (.sipush 500, 3) := by decide +kernel
theorem dL_acts_70 : decode cL_acts 70 = .ok (.invokestatic 109, 3) := by decide +kernel
theorem dL_acts_73 : decode cL_acts 73 = .ok (.iastore, 1) := by decide +kernel
theorem dL_acts_74 : decode cL_acts 74 = .ok (.aload 5, 2) := by decide +kernel
theorem dL_acts_76 : decode cL_acts 76 = .ok (.iconst 1, 1) := by decide +kernel
theorem dL_acts_77 : decode cL_acts 77 = .ok (.iconst 1, 1) := by decide +kernel
theorem dL_acts_78 : decode cL_acts 78 = .ok (.iload 7, 2) := by decide +kernel
theorem dL_acts_80 : decode cL_acts 80 = .ok (.bipush 9, 2) := by decide +kernel
theorem dL_acts_82 : decode cL_acts 82 = .ok (.ishr, 1) := by decide +kernel
theorem dL_acts_83 : decode cL_acts 83 = .ok (.bipush 100, 2) := by decide +kernel
theorem dL_acts_85 : decode cL_acts 85 = .ok (.invokestatic 109, 3) := by decide +kernel
theorem dL_acts_88 : decode cL_acts 88 = .ok (.iadd, 1) := by decide +kernel
theorem dL_acts_89 : decode cL_acts 89 = .ok (.iastore, 1) := by decide +kernel
theorem dL_acts_90 : decode cL_acts 90 = .ok (.aload_n 0, 1) := by decide +kernel
theorem dL_acts_91 : decode cL_acts 91 = .ok (.aload 5, 2) := by decide +kernel
theorem dL_acts_93 : decode cL_acts 93 = .ok (.iconst 0, 1) := by decide +kernel
theorem dL_acts_94 : decode cL_acts 94 = .ok (.iaload, 1) := by decide +kernel
theorem dL_acts_95 : decode cL_acts 95 = .ok (.aload 5, 2) := by decide +kernel
theorem dL_acts_97 : decode cL_acts 97 = .ok (.iconst 1, 1) := by decide +kernel
theorem dL_acts_98 : decode cL_acts 98 = .ok (.iaload, 1) := by decide +kernel
theorem dL_acts_99 : decode cL_acts 99 = .ok (.invokestatic 143, 3) := by decide +kernel
theorem dL_acts_102 : decode cL_acts 102 = .ok (.ifCond .ne 7, 3) := by decide +kernel
theorem dL_acts_105 : decode cL_acts 105 = .ok (.iconst 1, 1) := by decide +kernel
theorem dL_acts_106 : decode cL_acts 106 = .ok (.goto 4, 3) := by decide +kernel
theorem dL_acts_109 : decode cL_acts 109 = .ok (.iconst 0, 1) := by decide +kernel
theorem dL_acts_110 : decode cL_acts 110 = .ok (.ireturn, 1) := by decide +kernel
theorem dL_acts_111 : decode cL_acts 111 = .ok (.iload 8, 2) := by decide +kernel
theorem dL_acts_113 : decode cL_acts 113 = .ok (.bipush 9, 2) := by decide +kernel
theorem dL_acts_115 : decode cL_acts 115 = .ok (.if_icmp .lt 9, 3) := by decide +kernel
theorem dL_acts_118 : decode cL_acts 118 = .ok (.aload_n 1, 1) := by decide +kernel
theorem dL_acts_119 : decode cL_acts 119 = .ok (.iconst 2, 1) := by decide +kernel
theorem dL_acts_120 : decode cL_acts 120 = .ok (.iaload, 1) := by decide +kernel
theorem dL_acts_121 : decode cL_acts 121 = .ok (.ifCond .ne 65, 3) := by decide +kernel
theorem dL_acts_124 : decode cL_acts 124 = .ok (.iconst 1, 1) := by decide +kernel
theorem dL_acts_125 : decode cL_acts 125 = .ok (.iload 7, 2) := by decide +kernel
theorem dL_acts_127 : decode cL_acts 127 = .ok (.bipush 6, 2) := by decide +kernel
theorem dL_acts_129 : decode cL_acts 129 = .ok (.invokestatic 109, 3) := by decide +kernel
theorem dL_acts_132 : decode cL_acts 132 = .ok (.iadd, 1) := by decide +kernel
theorem dL_acts_133 : decode cL_acts 133 = .ok (.istore 9, 2) := by decide +kernel
theorem dL_acts_135 : decode cL_acts 135 = .ok (.aload_n 0, 1) := by decide +kernel
theorem dL_acts_136 : decode cL_acts 136 = .ok (.invokevirtual 122, 3) := by decide +kernel
theorem dL_acts_139 : decode cL_acts 139 = .ok (.istore 10, 2) := by decide +kernel
theorem dL_acts_141 : decode cL_acts 141 = .ok (.aload_n 1, 1) := by decide +kernel
theorem dL_acts_142 : decode cL_acts 142 = .ok (.iconst 2, 1) := by decide +kernel
theorem dL_acts_143 : decode cL_acts 143 = .ok (.dup2, 1) := by decide +kernel
theorem dL_acts_144 : decode cL_acts 144 = .ok (.iaload, 1) := by decide +kernel
theorem dL_acts_145 : decode cL_acts 145 = .ok (.iload 9, 2) := by decide +kernel
theorem dL_acts_147 : decode cL_acts 147 = .ok (.iadd, 1) := by decide +kernel
theorem dL_acts_148 : decode cL_acts 148 = .ok (.iastore, 1) := by decide +kernel
theorem dL_acts_149 : decode cL_acts 149 = .ok (.aload_n 0, 1) := by decide +kernel
theorem dL_acts_150 : decode cL_acts 150 = .ok (.iload 9, 2) := by decide +kernel
theorem dL_acts_152 : decode cL_acts 152 = .ok (.invokestatic 145, 3) := by decide +kernel
theorem dL_acts_155 : decode cL_acts 155 = .ok (.aload_n 1, 1) := by decide +kernel
theorem dL_acts_156 : decode cL_acts 156 = .ok (.iconst 2, 1) := by decide +kernel
theorem dL_acts_157 : decode cL_acts 157 = .ok (.iaload, 1) := by decide +kernel
theorem dL_acts_158 : decode cL_acts 158 = .ok (.if_icmp .ne 26, 3) := by decide +kernel
theorem dL_acts_161 : decode cL_acts 161 = .ok (.aload_n 0, 1) := by decide +kernel
theorem dL_acts_162 : decode cL_acts 162 = .ok (.invokevirtual 147, 3) := by decide +kernel
theorem dL_acts_165 : decode cL_acts 165 = .ok (.aload_n 1, 1) := by decide +kernel
theorem dL_acts_166 : decode cL_acts 166 = .ok (.iconst 2, 1) := by decide +kernel
theorem dL_acts_167 : decode cL_acts 167 = .ok (.iaload, 1) := by decide +kernel
theorem dL_acts_168 : decode cL_acts 168 = .ok (.if_icmp .ne 16, 3) := by decide +kernel
theorem dL_acts_171 : decode cL_acts 171 = .ok (.aload_n 0, 1) := by decide +kernel
theorem dL_acts_172 : decode cL_acts 172 = .ok (.invokevirtual 122, 3) := by decide +kernel
theorem dL_acts_175 : decode cL_acts 175 = .ok (.iload 10, 2) := by decide +kernel
theorem dL_acts_177 : decode cL_acts 177 = .ok (.if_icmp .gt 7, 3) := by decide +kernel
theorem dL_acts_180 : decode cL_acts 180 = .ok (.iconst 1, 1) := by decide +kernel
theorem dL_acts_181 : decode cL_acts 181 = .ok (.goto 4, 3) := by decide +kernel
theorem dL_acts_184 : decode cL_acts 184 = .ok (.iconst 0, 1) := by decide +kernel
theorem dL_acts_185 : decode cL_acts 185 = .ok (.ireturn, 1) := by decide +kernel
theorem dL_acts_186 : decode cL_acts 186 = .ok (.iconst 1, 1) := by decide +kernel
theorem dL_acts_187 : decode cL_acts 187 = .ok (.iload 7, 2) := by decide +kernel
theorem dL_acts_189 : decode cL_acts 189 = .ok (.aload_n 1, 1) := by decide +kernel
theorem dL_acts_190 : decode cL_acts 190 = .ok (.iconst 2, 1) := by decide +kernel
theorem dL_acts_191 : decode cL_acts 191 = .ok (.iaload, 1) := by decide +kernel
theorem dL_acts_192 : decode cL_acts 192 = .ok (.invokestatic 109, 3) := by decide +kernel
theorem dL_acts_195 : decode cL_acts 195 = .ok (.iadd, 1) := by decide +kernel
theorem dL_acts_196 : decode cL_acts 196 = .ok (.istore 9, 2) := by decide +kernel
theorem dL_acts_198 : decode cL_acts 198 = .ok (.aload_n 1, 1) := by decide +kernel
theorem dL_acts_199 : decode cL_acts 199 = .ok (.bipush 8, 2) := by decide +kernel
theorem dL_acts_201 : decode cL_acts 201 = .ok (.dup2, 1) := by decide +kernel
theorem dL_acts_202 : decode cL_acts 202 = .ok (.iaload, 1) := by decide +kernel
theorem dL_acts_203 : decode cL_acts 203 = .ok (.iload 8, 2) := by decide +kernel
theorem dL_acts_205 : decode cL_acts 205 = .ok (.bipush 11, 2) := by decide +kernel
theorem dL_acts_207 : decode cL_acts 207 = .ok (.if_icmp .ne 7, 3) := by decide +kernel
theorem dL_acts_210 : decode cL_acts 210 = .ok (.iconst 1, 1) := by decide +kernel
theorem dL_acts_211 : decode cL_acts 211 = .ok (.goto 4, 3) := by decide +kernel
theorem dL_acts_214 : decode cL_acts 214 = .ok (.iconst 0, 1) := by decide +kernel
theorem dL_acts_215 : decode cL_acts 215 = .ok (.iadd, 1) := by decide +kernel
theorem dL_acts_216 : decode cL_acts 216 = .ok (.iastore, 1) := by decide +kernel
theorem dL_acts_217 : decode cL_acts 217 = .ok (.iload 8, 2) := by decide +kernel
theorem dL_acts_219 : decode cL_acts 219 = .ok (.bipush 11, 2) := by decide +kernel
theorem dL_acts_221 : decode cL_acts 221 = .ok (.if_icmp .ne 12, 3) := by decide +kernel
theorem dL_acts_224 : decode cL_acts 224 = .ok (.aload_n 1, 1) := by decide +kernel
theorem dL_acts_225 : decode cL_acts 225 = .ok (.bipush 8, 2) := by decide +kernel
theorem dL_acts_227 : decode cL_acts 227 = .ok (.iaload, 1) := by decide +kernel
theorem dL_acts_228 : decode cL_acts 228 = .ok (.bipush 8, 2) := by decide +kernel
theorem dL_acts_230 : decode cL_acts 230 = .ok (.if_icmp .gt 64, 3) := by decide +kernel
theorem dL_acts_233 : decode cL_acts 233 = .ok (.iload 8, 2) := by decide +kernel
theorem dL_acts_235 : decode cL_acts 235 = .ok (.bipush 9, 2) := by decide +kernel
theorem dL_acts_237 : decode cL_acts 237 = .ok (.if_icmp .ne 18, 3) := by decide +kernel
theorem dL_acts_240 : decode cL_acts 240 = .ok (.aload_n 0, 1) := by decide +kernel
theorem dL_acts_241 : decode cL_acts 241 = .ok (.aload_n 1, 1) := by decide +kernel
theorem dL_acts_242 : decode cL_acts 242 = .ok (.aload_n 2, 1) := by decide +kernel
theorem dL_acts_243 : decode cL_acts 243 = .ok (.aload_n 3, 1) := by decide +kernel
theorem dL_acts_244 : decode cL_acts 244 = .ok (.iload 9, 2) := by decide +kernel
theorem dL_acts_246 : decode cL_acts 246 = .ok (.invokestatic 150, 3) := by decide +kernel
theorem dL_acts_249 : decode cL_acts 249 = .ok (.ifCond .eq 49, 3) := by decide +kernel
theorem dL_acts_252 : decode cL_acts 252 = .ok (.goto 42, 3) := by decide +kernel
theorem dL_acts_255 : decode cL_acts 255 = .ok (.iload 8, 2) := by decide +kernel
theorem dL_acts_257 : decode cL_acts 257 = .ok (.bipush 10, 2) := by decide +kernel
theorem dL_acts_259 : decode cL_acts 259 = .ok (.if_icmp .ne 21, 3) := by decide +kernel
theorem dL_acts_262 : decode cL_acts 262 = .ok (.aload_n 0, 1) := by decide +kernel
theorem dL_acts_263 : decode cL_acts 263 = .ok (.aload_n 1, 1) := by decide +kernel
theorem dL_acts_264 : decode cL_acts 264 = .ok (.aload_n 2, 1) := by decide +kernel
theorem dL_acts_265 : decode cL_acts 265 = .ok (.iload 9, 2) := by decide +kernel
theorem dL_acts_267 : decode cL_acts 267 = .ok (.aload 5, 2) := by decide +kernel
theorem dL_acts_269 : decode cL_acts 269 = .ok (.iconst 0, 1) := by decide +kernel
theorem dL_acts_270 : decode cL_acts 270 = .ok (.iaload, 1) := by decide +kernel
theorem dL_acts_271 : decode cL_acts 271 = .ok (.invokestatic 154, 3) := by decide +kernel
theorem dL_acts_274 : decode cL_acts 274 = .ok (.ifCond .eq 24, 3) := by decide +kernel
theorem dL_acts_277 : decode cL_acts 277 = .ok (.goto 17, 3) := by decide +kernel
theorem dL_acts_280 : decode cL_acts 280 = .ok (.aload_n 0, 1) := by decide +kernel
theorem dL_acts_281 : decode cL_acts 281 = .ok (.aload_n 1, 1) := by decide +kernel
theorem dL_acts_282 : decode cL_acts 282 = .ok (.iload 9, 2) := by decide +kernel
theorem dL_acts_284 : decode cL_acts 284 = .ok (.aload 5, 2) := by decide +kernel
theorem dL_acts_286 : decode cL_acts 286 = .ok (.iconst 1, 1) := by decide +kernel
theorem dL_acts_287 : decode cL_acts 287 = .ok (.iaload, 1) := by decide +kernel
theorem dL_acts_288 : decode cL_acts 288 = .ok (.invokestatic 157, 3) := by decide +kernel
theorem dL_acts_291 : decode cL_acts 291 = .ok (.ifCond .eq 7, 3) := by decide +kernel
theorem dL_acts_294 : decode cL_acts 294 = .ok (.iconst 1, 1) := by decide +kernel
theorem dL_acts_295 : decode cL_acts 295 = .ok (.goto 4, 3) := by decide +kernel
theorem dL_acts_298 : decode cL_acts 298 = .ok (.iconst 0, 1) := by decide +kernel
theorem dL_acts_299 : decode cL_acts 299 = .ok (.ireturn, 1) := by decide +kernel
