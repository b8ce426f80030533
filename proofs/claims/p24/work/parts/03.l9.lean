theorem dL_stage_0 : decode cL_stage 0 = .ok (.new 25, 3) := by decide +kernel
theorem dL_stage_3 : decode cL_stage 3 = .ok (.dup, 1) := by decide +kernel
theorem dL_stage_4 : decode cL_stage 4 = .ok (.invokespecial 129, 3) := by decide +kernel
theorem dL_stage_7 : decode cL_stage 7 = .ok (.astore_n 2, 1) := by decide +kernel
theorem dL_stage_8 : decode cL_stage 8 = .ok (.bipush 24, 2) := by decide +kernel
theorem dL_stage_10 : decode cL_stage 10 = .ok (.newarray .int, 2) := by decide +kernel
theorem dL_stage_12 : decode cL_stage 12 = .ok (.astore_n 3, 1) := by decide +kernel
theorem dL_stage_13 : decode cL_stage 13 = .ok (.bipush 24, 2) := by decide +kernel
theorem dL_stage_15 : decode cL_stage 15 = .ok (.newarray .int, 2) := by decide +kernel
theorem dL_stage_17 : decode cL_stage 17 = .ok (.astore 4, 2) := by decide +kernel
theorem dL_stage_19 : decode cL_stage 19 = .ok (.bipush 8, 2) := by decide +kernel
theorem dL_stage_21 : decode cL_stage 21 = .ok (.newarray .int, 2) := by decide +kernel
theorem dL_stage_23 : decode cL_stage 23 = .ok (.astore 5, 2) := by decide +kernel
theorem dL_stage_25 : decode cL_stage 25 = .ok (.bipush 6, 2) := by decide +kernel
theorem dL_stage_27 : decode cL_stage 27 = .ok (.newarray .int, 2) := by decide +kernel
theorem dL_stage_29 : decode cL_stage 29 = .ok (.astore 6, 2) := by decide +kernel
theorem dL_stage_31 : decode cL_stage 31 = .ok (.aload 5, 2) := by decide +kernel
theorem dL_stage_33 : decode cL_stage 33 = .ok (.iconst 2, 1) := by decide +kernel
theorem dL_stage_34 : decode cL_stage 34 = .ok (.bipush 16, 2) := by decide +kernel
theorem dL_stage_36 : decode cL_stage 36 = .ok (.iastore, 1) := by decide +kernel
theorem dL_stage_37 : decode cL_stage 37 = .ok (.aload 5, 2) := by decide +kernel
theorem dL_stage_39 : decode cL_stage 39 = .ok (.iconst 3, 1) := by decide +kernel
theorem dL_stage_40 : decode cL_stage 40 = .ok (.bipush 20, 2) := by decide +kernel
theorem dL_stage_42 : decode cL_stage 42 = .ok (.iastore, 1) := by decide +kernel
theorem dL_stage_43 : decode cL_stage 43 = .ok (.aload 5, 2) := by decide +kernel
theorem dL_stage_45 : decode cL_stage 45 = .ok (.iconst 4, 1) := by decide +kernel
theorem dL_stage_46 : decode cL_stage 46 = .ok (.bipush 100, 2) := by decide +kernel
theorem dL_stage_48 : decode cL_stage 48 = .ok (.iastore, 1) := by decide +kernel
theorem dL_stage_49 : decode cL_stage 49 = .ok (.aload 5, 2) := by decide +kernel
theorem dL_stage_51 : decode cL_stage 51 = .ok (.iconst 5, 1) := by decide +kernel
theorem dL_stage_52 : decode cL_stage 52 = .ok (.iconst 5, 1) := by decide +kernel
theorem dL_stage_53 : decode cL_stage 53 = .ok (.iastore, 1) := by decide +kernel
theorem dL_stage_54 : decode cL_stage 54 = .ok (.aload 5, 2) := by decide +kernel
theorem dL_stage_56 : decode cL_stage 56 = .ok (.bipush 6, 2) := by decide +kernel
theorem dL_stage_58 : decode cL_stage 58 = .ok (.sipush 400, 3) := by decide +kernel
theorem dL_stage_61 : decode cL_stage 61 = .ok (.iastore, 1) := by decide +kernel
theorem dL_stage_62 : decode cL_stage 62 = .ok (.iconst 0, 1) := by decide +kernel
theorem dL_stage_63 : decode cL_stage 63 = .ok (.istore 7, 2) := by decide +kernel
theorem dL_stage_65 : decode cL_stage 65 = .ok (.iload 7, 2) := by decide +kernel
theorem dL_stage_67 : decode cL_stage 67 = .ok (.bipush 30, 2) := by decide +kernel
theorem dL_stage_69 : decode cL_stage 69 = .ok (.if_icmp .ge 265, 3) := by decide +kernel
theorem dL_stage_72 : decode cL_stage 72 = .ok (.aload_n 0, 1) := by decide +kernel
theorem dL_stage_73 : decode cL_stage 73 = .ok (.iload_n 1, 1) := by decide +kernel
theorem dL_stage_74 : decode cL_stage 74 = .ok (.iconst 3, 1) := by decide +kernel
theorem dL_stage_75 : decode cL_stage 75 = .ok (.iload 7, 2) := by decide +kernel
theorem dL_stage_77 : decode cL_stage 77 = .ok (.imul, 1) := by decide +kernel
theorem dL_stage_78 : decode cL_stage 78 = .ok (.iadd, 1) := by decide +kernel
theorem dL_stage_79 : decode cL_stage 79 = .ok (.iconst 1, 1) := by decide +kernel
theorem dL_stage_80 : decode cL_stage 80 = .ok (.iadd, 1) := by decide +kernel
theorem dL_stage_81 : decode cL_stage 81 = .ok (.ldc 130, 2) := by decide +kernel
theorem dL_stage_83 : decode cL_stage 83 = .ok (.invokestatic 131, 3) := by decide +kernel
theorem dL_stage_86 : decode cL_stage 86 = .ok (.istore 8, 2) := by decide +kernel
theorem dL_stage_88 : decode cL_stage 88 = .ok (.aload_n 0, 1) := by decide +kernel
theorem dL_stage_89 : decode cL_stage 89 = .ok (.iload_n 1, 1) := by decide +kernel
theorem dL_stage_90 : decode cL_stage 90 = .ok (.iconst 3, 1) := by decide +kernel
theorem dL_stage_91 : decode cL_stage 91 = .ok (.iload 7, 2) := by decide +kernel
theorem dL_stage_93 : decode cL_stage 93 = .ok (.imul, 1) := by decide +kernel
theorem dL_stage_94 : decode cL_stage 94 = .ok (.iadd, 1) := by decide +kernel
theorem dL_stage_95 : decode cL_stage 95 = .ok (.iconst 2, 1) := by decide +kernel
theorem dL_stage_96 : decode cL_stage 96 = .ok (.iadd, 1) := by decide +kernel
theorem dL_stage_97 : decode cL_stage 97 = .ok (.ldc 130, 2) := by decide +kernel
theorem dL_stage_99 : decode cL_stage 99 = .ok (.invokestatic 131, 3) := by decide +kernel
theorem dL_stage_102 : decode cL_stage 102 = .ok (.istore 9, 2) := by decide +kernel
theorem dL_stage_104 : decode cL_stage 104 = .ok (.iload 7, 2) := by decide +kernel
theorem dL_stage_106 : decode cL_stage 106 = .ok (.iconst 4, 1) := by decide +kernel
theorem dL_stage_107 : decode cL_stage 107 = .ok (.if_icmp .ge 7, 3) := by decide +kernel
theorem dL_stage_110 : decode cL_stage 110 = .ok (.iconst 0, 1) := by decide +kernel
theorem dL_stage_111 : decode cL_stage 111 = .ok (.goto 26, 3) := by decide +kernel
theorem dL_stage_114 : decode cL_stage 114 = .ok (.iload 7, 2) := by decide +kernel
theorem dL_stage_116 : decode cL_stage 116 = .ok (.bipush 12, 2) := by decide +kernel
theorem dL_stage_118 : decode cL_stage 118 = .ok (.if_icmp .ge 7, 3) := by decide +kernel
theorem dL_stage_121 : decode cL_stage 121 = .ok (.iconst 1, 1) := by decide +kernel
theorem dL_stage_122 : decode cL_stage 122 = .ok (.goto 15, 3) := by decide +kernel
theorem dL_stage_125 : decode cL_stage 125 = .ok (.aload_n 0, 1) := by decide +kernel
theorem dL_stage_126 : decode cL_stage 126 = .ok (.iload_n 1, 1) := by decide +kernel
theorem dL_stage_127 : decode cL_stage 127 = .ok (.iconst 3, 1) := by decide +kernel
theorem dL_stage_128 : decode cL_stage 128 = .ok (.iload 7, 2) := by decide +kernel
theorem dL_stage_130 : decode cL_stage 130 = .ok (.imul, 1) := by decide +kernel
theorem dL_stage_131 : decode cL_stage 131 = .ok (.iadd, 1) := by decide +kernel
theorem dL_stage_132 : decode cL_stage 132 = .ok (.bipush 12, 2) := by decide +kernel
theorem dL_stage_134 : decode cL_stage 134 = .ok (.invokestatic 131, 3) := by decide +kernel
theorem dL_stage_137 : decode cL_stage 137 = .ok (.istore 10, 2) := by decide +kernel
theorem dL_stage_139 : decode cL_stage 139 = .ok (.aload_n 2, 1) := by decide +kernel
theorem dL_stage_140 : decode cL_stage 140 = .ok (.iload 10, 2) := by decide +kernel
theorem dL_stage_142 : decode cL_stage 142 = .ok (.iload 8, 2) := by decide +kernel
theorem dL_stage_144 : decode cL_stage 144 = .ok (.iload 9, 2) := by decide +kernel
theorem dL_stage_146 : decode cL_stage 146 = .ok (.aload_n 3, 1) := by decide +kernel
theorem dL_stage_147 : decode cL_stage 147 = .ok (.aload 4, 2) := by decide +kernel
theorem dL_stage_149 : decode cL_stage 149 = .ok (.aload 5, 2) := by decide +kernel
theorem dL_stage_151 : decode cL_stage 151 = .ok (.aload 6, 2) := by decide +kernel
theorem dL_stage_153 : decode cL_stage 153 = .ok (.invokestatic 135, 3) := by decide +kernel
theorem dL_stage_156 : decode cL_stage 156 = .ok (.ifCond .ne 5, 3) := by decide +kernel
theorem dL_stage_159 : decode cL_stage 159 = .ok (.iconst 0, 1) := by decide +kernel
theorem dL_stage_160 : decode cL_stage 160 = .ok (.ireturn, 1) := by decide +kernel
theorem dL_stage_161 : decode cL_stage 161 = .ok (.iload 8, 2) := by decide +kernel
theorem dL_stage_163 : decode cL_stage 163 = .ok (.bipush 9, 2) := by decide +kernel
theorem dL_stage_165 : decode cL_stage 165 = .ok (.idiv, 1) := by decide +kernel
theorem dL_stage_166 : decode cL_stage 166 = .ok (.aload_n 2, 1) := by decide +kernel
theorem dL_stage_167 : decode cL_stage 167 = .ok (.invokevirtual 36, 3) := by decide +kernel
theorem dL_stage_170 : decode cL_stage 170 = .ok (.iconst 1, 1) := by decide +kernel
theorem dL_stage_171 : decode cL_stage 171 = .ok (.iadd, 1) := by decide +kernel
theorem dL_stage_172 : decode cL_stage 172 = .ok (.irem, 1) := by decide +kernel
theorem dL_stage_173 : decode cL_stage 173 = .ok (.istore 11, 2) := by decide +kernel
theorem dL_stage_175 : decode cL_stage 175 = .ok (.aload_n 2, 1) := by decide +kernel
theorem dL_stage_176 : decode cL_stage 176 = .ok (.aload_n 3, 1) := by decide +kernel
theorem dL_stage_177 : decode cL_stage 177 = .ok (.aload 4, 2) := by decide +kernel
theorem dL_stage_179 : decode cL_stage 179 = .ok (.aload 5, 2) := by decide +kernel
theorem dL_stage_181 : decode cL_stage 181 = .ok (.iload 9, 2) := by decide +kernel
theorem dL_stage_183 : decode cL_stage 183 = .ok (.bipush 9, 2) := by decide +kernel
theorem dL_stage_185 : decode cL_stage 185 = .ok (.idiv, 1) := by decide +kernel
theorem dL_stage_186 : decode cL_stage 186 = .ok (.aload 5, 2) := by decide +kernel
theorem dL_stage_188 : decode cL_stage 188 = .ok (.iconst 0, 1) := by decide +kernel
theorem dL_stage_189 : decode cL_stage 189 = .ok (.iaload, 1) := by decide +kernel
theorem dL_stage_190 : decode cL_stage 190 = .ok (.irem, 1) := by decide +kernel
theorem dL_stage_191 : decode cL_stage 191 = .ok (.iload 11, 2) := by decide +kernel
theorem dL_stage_193 : decode cL_stage 193 = .ok (.invokestatic 139, 3) := by decide +kernel
theorem dL_stage_196 : decode cL_stage 196 = .ok (.ifCond .eq 37, 3) := by decide +kernel
theorem dL_stage_199 : decode cL_stage 199 = .ok (.aload 5, 2) := by decide +kernel
theorem dL_stage_201 : decode cL_stage 201 = .ok (.iconst 1, 1) := by decide +kernel
theorem dL_stage_202 : decode cL_stage 202 = .ok (.iaload, 1) := by decide +kernel
theorem dL_stage_203 : decode cL_stage 203 = .ok (.ifCond .eq 26, 3) := by decide +kernel
theorem dL_stage_206 : decode cL_stage 206 = .ok (.aload_n 2, 1) := by decide +kernel
theorem dL_stage_207 : decode cL_stage 207 = .ok (.aload 4, 2) := by decide +kernel
theorem dL_stage_209 : decode cL_stage 209 = .ok (.aload 5, 2) := by decide +kernel
theorem dL_stage_211 : decode cL_stage 211 = .ok (.aload 6, 2) := by decide +kernel
theorem dL_stage_213 : decode cL_stage 213 = .ok (.iload 9, 2) := by decide +kernel
theorem dL_stage_215 : decode cL_stage 215 = .ok (.bipush 7, 2) := by decide +kernel
theorem dL_stage_217 : decode cL_stage 217 = .ok (.idiv, 1) := by decide +kernel
theorem dL_stage_218 : decode cL_stage 218 = .ok (.aload 5, 2) := by decide +kernel
theorem dL_stage_220 : decode cL_stage 220 = .ok (.iconst 1, 1) := by decide +kernel
theorem dL_stage_221 : decode cL_stage 221 = .ok (.iaload, 1) := by decide +kernel
theorem dL_stage_222 : decode cL_stage 222 = .ok (.irem, 1) := by decide +kernel
theorem dL_stage_223 : decode cL_stage 223 = .ok (.invokestatic 143, 3) := by decide +kernel
theorem dL_stage_226 : decode cL_stage 226 = .ok (.ifCond .eq 7, 3) := by decide +kernel
theorem dL_stage_229 : decode cL_stage 229 = .ok (.iconst 1, 1) := by decide +kernel
theorem dL_stage_230 : decode cL_stage 230 = .ok (.goto 4, 3) := by decide +kernel
theorem dL_stage_233 : decode cL_stage 233 = .ok (.iconst 0, 1) := by decide +kernel
theorem dL_stage_234 : decode cL_stage 234 = .ok (.istore 12, 2) := by decide +kernel
theorem dL_stage_236 : decode cL_stage 236 = .ok (.iload 12, 2) := by decide +kernel
theorem dL_stage_238 : decode cL_stage 238 = .ok (.ifCond .eq 88, 3) := by decide +kernel
theorem dL_stage_241 : decode cL_stage 241 = .ok (.iload 7, 2) := by decide +kernel
theorem dL_stage_243 : decode cL_stage 243 = .ok (.iconst 3, 1) := by decide +kernel
theorem dL_stage_244 : decode cL_stage 244 = .ok (.irem, 1) := by decide +kernel
theorem dL_stage_245 : decode cL_stage 245 = .ok (.iconst 2, 1) := by decide +kernel
theorem dL_stage_246 : decode cL_stage 246 = .ok (.if_icmp .ne 17, 3) := by decide +kernel
theorem dL_stage_249 : decode cL_stage 249 = .ok (.aload_n 2, 1) := by decide +kernel
theorem dL_stage_250 : decode cL_stage 250 = .ok (.aload_n 3, 1) := by decide +kernel
theorem dL_stage_251 : decode cL_stage 251 = .ok (.aload 5, 2) := by decide +kernel
theorem dL_stage_253 : decode cL_stage 253 = .ok (.iload 9, 2) := by decide +kernel
theorem dL_stage_255 : decode cL_stage 255 = .ok (.iconst 3, 1) := by decide +kernel
theorem dL_stage_256 : decode cL_stage 256 = .ok (.idiv, 1) := by decide +kernel
theorem dL_stage_257 : decode cL_stage 257 = .ok (.invokestatic 147, 3) := by decide +kernel
theorem dL_stage_260 : decode cL_stage 260 = .ok (.ifCond .eq 66, 3) := by decide +kernel
theorem dL_stage_263 : decode cL_stage 263 = .ok (.iload 7, 2) := by decide +kernel
theorem dL_stage_265 : decode cL_stage 265 = .ok (.iconst 4, 1) := by decide +kernel
theorem dL_stage_266 : decode cL_stage 266 = .ok (.irem, 1) := by decide +kernel
theorem dL_stage_267 : decode cL_stage 267 = .ok (.iconst 3, 1) := by decide +kernel
theorem dL_stage_268 : decode cL_stage 268 = .ok (.if_icmp .ne 39, 3) := by decide +kernel
theorem dL_stage_271 : decode cL_stage 271 = .ok (.aload 5, 2) := by decide +kernel
theorem dL_stage_273 : decode cL_stage 273 = .ok (.iconst 1, 1) := by decide +kernel
theorem dL_stage_274 : decode cL_stage 274 = .ok (.iaload, 1) := by decide +kernel
theorem dL_stage_275 : decode cL_stage 275 = .ok (.ifCond .le 32, 3) := by decide +kernel
theorem dL_stage_278 : decode cL_stage 278 = .ok (.aload_n 2, 1) := by decide +kernel
theorem dL_stage_279 : decode cL_stage 279 = .ok (.aload 4, 2) := by decide +kernel
theorem dL_stage_281 : decode cL_stage 281 = .ok (.aload 5, 2) := by decide +kernel
theorem dL_stage_283 : decode cL_stage 283 = .ok (.iload 8, 2) := by decide +kernel
theorem dL_stage_285 : decode cL_stage 285 = .ok (.iconst 5, 1) := by decide +kernel
theorem dL_stage_286 : decode cL_stage 286 = .ok (.idiv, 1) := by decide +kernel
theorem dL_stage_287 : decode cL_stage 287 = .ok (.bipush 6, 2) := by decide +kernel
theorem dL_stage_289 : decode cL_stage 289 = .ok (.irem, 1) := by decide +kernel
theorem dL_stage_290 : decode cL_stage 290 = .ok (.invokestatic 151, 3) := by decide +kernel
theorem dL_stage_293 : decode cL_stage 293 = .ok (.ifCond .eq 33, 3) := by decide +kernel
theorem dL_stage_296 : decode cL_stage 296 = .ok (.aload_n 2, 1) := by decide +kernel
theorem dL_stage_297 : decode cL_stage 297 = .ok (.aload 4, 2) := by decide +kernel
theorem dL_stage_299 : decode cL_stage 299 = .ok (.aload 5, 2) := by decide +kernel
theorem dL_stage_301 : decode cL_stage 301 = .ok (.invokestatic 154, 3) := by decide +kernel
theorem dL_stage_304 : decode cL_stage 304 = .ok (.ifCond .eq 22, 3) := by decide +kernel
theorem dL_stage_307 : decode cL_stage 307 = .ok (.iload 7, 2) := by decide +kernel
theorem dL_stage_309 : decode cL_stage 309 = .ok (.bipush 15, 2) := by decide +kernel
theorem dL_stage_311 : decode cL_stage 311 = .ok (.irem, 1) := by decide +kernel
theorem dL_stage_312 : decode cL_stage 312 = .ok (.bipush 14, 2) := by decide +kernel
theorem dL_stage_314 : decode cL_stage 314 = .ok (.if_icmp .ne 14, 3) := by decide +kernel
theorem dL_stage_317 : decode cL_stage 317 = .ok (.aload_n 2, 1) := by decide +kernel
theorem dL_stage_318 : decode cL_stage 318 = .ok (.aload 5, 2) := by decide +kernel
theorem dL_stage_320 : decode cL_stage 320 = .ok (.invokestatic 158, 3) := by decide +kernel
theorem dL_stage_323 : decode cL_stage 323 = .ok (.ifCond .ne 5, 3) := by decide +kernel
theorem dL_stage_326 : decode cL_stage 326 = .ok (.iconst 0, 1) := by decide +kernel
theorem dL_stage_327 : decode cL_stage 327 = .ok (.ireturn, 1) := by decide +kernel
theorem dL_stage_328 : decode cL_stage 328 = .ok (.iinc 7 1, 3) := by decide +kernel
theorem dL_stage_331 : decode cL_stage 331 = .ok (.goto (-266), 3) := by decide +kernel
theorem dL_stage_334 : decode cL_stage 334 = .ok (.iconst 1, 1) := by decide +kernel
theorem dL_stage_335 : decode cL_stage 335 = .ok (.ireturn, 1) := by decide +kernel
theorem dL_law_0 : decode cL_law 0 = .ok (.aload_n 0, 1) := by decide +kernel
theorem dL_law_1 : decode cL_law 1 = .ok (.iconst 0, 1) := by decide +kernel
theorem dL_law_2 : decode cL_law 2 = .ok (.invokestatic 162, 3) := by decide +kernel
theorem dL_law_5 : decode cL_law 5 = .ok (.ifCond .eq 26, 3) := by decide +kernel
theorem dL_law_8 : decode cL_law 8 = .ok (.aload_n 0, 1) := by decide +kernel
theorem dL_law_9 : decode cL_law 9 = .ok (.bipush 95, 2) := by decide +kernel
theorem dL_law_11 : decode cL_law 11 = .ok (.invokestatic 162, 3) := by decide +kernel
theorem dL_law_14 : decode cL_law 14 = .ok (.ifCond .eq 17, 3) := by decide +kernel
theorem dL_law_17 : decode cL_law 17 = .ok (.aload_n 0, 1) := by decide +kernel
theorem dL_law_18 : decode cL_law 18 = .ok (.sipush 190, 3) := by decide +kernel
theorem dL_law_21 : decode cL_law 21 = .ok (.invokestatic 162, 3) := by decide +kernel
theorem dL_law_24 : decode cL_law 24 = .ok (.ifCond .eq 7, 3) := by decide +kernel
theorem dL_law_27 : decode cL_law 27 = .ok (.iconst 1, 1) := by decide +kernel
theorem dL_law_28 : decode cL_law 28 = .ok (.goto 4, 3) := by decide +kernel
theorem dL_law_31 : decode cL_law 31 = .ok (.iconst 0, 1) := by decide +kernel
theorem dL_law_32 : decode cL_law 32 = .ok (.ireturn, 1) := by decide +kernel
