theorem dL_isCue_62 : decode cL_isCue 62 = .ok (.invokevirtual 67, 3) := by decide +kernel
theorem dL_isCue_65 : decode cL_isCue 65 = .ok (.aload_n 1, 1) := by decide +kernel
theorem dL_isCue_66 : decode cL_isCue 66 = .ok (.aload_n 2, 1) := by decide +kernel
theorem dL_isCue_67 : decode cL_isCue 67 = .ok (.aload_n 3, 1) := by decide +kernel
theorem dL_isCue_68 : decode cL_isCue 68 = .ok (.iload 4, 2) := by decide +kernel
theorem dL_isCue_70 : decode cL_isCue 70 = .ok (.invokestatic 70, 3) := by decide +kernel
theorem dL_isCue_73 : decode cL_isCue 73 = .ok (.if_icmp .ne 12, 3) := by decide +kernel
theorem dL_isCue_76 : decode cL_isCue 76 = .ok (.iload 5, 2) := by decide +kernel
theorem dL_isCue_78 : decode cL_isCue 78 = .ok (.ifCond .lt 7, 3) := by decide +kernel
theorem dL_isCue_81 : decode cL_isCue 81 = .ok (.iconst 1, 1) := by decide +kernel
theorem dL_isCue_82 : decode cL_isCue 82 = .ok (.goto 4, 3) := by decide +kernel
theorem dL_isCue_85 : decode cL_isCue 85 = .ok (.iconst 0, 1) := by decide +kernel
theorem dL_isCue_86 : decode cL_isCue 86 = .ok (.istore 9, 2) := by decide +kernel
theorem dL_isCue_88 : decode cL_isCue 88 = .ok (.aload_n 1, 1) := by decide +kernel
theorem dL_isCue_89 : decode cL_isCue 89 = .ok (.aload_n 2, 1) := by decide +kernel
theorem dL_isCue_90 : decode cL_isCue 90 = .ok (.iload 6, 2) := by decide +kernel
theorem dL_isCue_92 : decode cL_isCue 92 = .ok (.iload 7, 2) := by decide +kernel
theorem dL_isCue_94 : decode cL_isCue 94 = .ok (.invokestatic 20, 3) := by decide +kernel
theorem dL_isCue_97 : decode cL_isCue 97 = .ok (.iload 4, 2) := by decide +kernel
theorem dL_isCue_99 : decode cL_isCue 99 = .ok (.if_icmp .eq 19, 3) := by decide +kernel
theorem dL_isCue_102 : decode cL_isCue 102 = .ok (.iload 9, 2) := by decide +kernel
theorem dL_isCue_104 : decode cL_isCue 104 = .ok (.ifCond .eq 12, 3) := by decide +kernel
theorem dL_isCue_107 : decode cL_isCue 107 = .ok (.iload 5, 2) := by decide +kernel
theorem dL_isCue_109 : decode cL_isCue 109 = .ok (.ifCond .ne 7, 3) := by decide +kernel
theorem dL_isCue_112 : decode cL_isCue 112 = .ok (.iconst 1, 1) := by decide +kernel
theorem dL_isCue_113 : decode cL_isCue 113 = .ok (.goto 4, 3) := by decide +kernel
theorem dL_isCue_116 : decode cL_isCue 116 = .ok (.iconst 0, 1) := by decide +kernel
theorem dL_isCue_117 : decode cL_isCue 117 = .ok (.ireturn, 1) := by decide +kernel
theorem dL_isCue_118 : decode cL_isCue 118 = .ok (.iload 7, 2) := by decide +kernel
theorem dL_isCue_120 : decode cL_isCue 120 = .ok (.iconst 1, 1) := by decide +kernel
theorem dL_isCue_121 : decode cL_isCue 121 = .ok (.iadd, 1) := by decide +kernel
theorem dL_isCue_122 : decode cL_isCue 122 = .ok (.istore 10, 2) := by decide +kernel
theorem dL_isCue_124 : decode cL_isCue 124 = .ok (.iload 10, 2) := by decide +kernel
theorem dL_isCue_126 : decode cL_isCue 126 = .ok (.aload_n 2, 1) := by decide +kernel
theorem dL_isCue_127 : decode cL_isCue 127 = .ok (.iconst 2, 1) := by decide +kernel
theorem dL_isCue_128 : decode cL_isCue 128 = .ok (.iaload, 1) := by decide +kernel
theorem dL_isCue_129 : decode cL_isCue 129 = .ok (.if_icmp .ge 22, 3) := by decide +kernel
theorem dL_isCue_132 : decode cL_isCue 132 = .ok (.aload_n 1, 1) := by decide +kernel
theorem dL_isCue_133 : decode cL_isCue 133 = .ok (.aload_n 2, 1) := by decide +kernel
theorem dL_isCue_134 : decode cL_isCue 134 = .ok (.iload 6, 2) := by decide +kernel
theorem dL_isCue_136 : decode cL_isCue 136 = .ok (.iload 10, 2) := by decide +kernel
theorem dL_isCue_138 : decode cL_isCue 138 = .ok (.invokestatic 20, 3) := by decide +kernel
theorem dL_isCue_141 : decode cL_isCue 141 = .ok (.iconst (-1), 1) := by decide +kernel
theorem dL_isCue_142 : decode cL_isCue 142 = .ok (.if_icmp .ne 9, 3) := by decide +kernel
theorem dL_isCue_145 : decode cL_isCue 145 = .ok (.iinc 10 1, 3) := by decide +kernel
theorem dL_isCue_148 : decode cL_isCue 148 = .ok (.goto (-24), 3) := by decide +kernel
theorem dL_isCue_151 : decode cL_isCue 151 = .ok (.iload 10, 2) := by decide +kernel
theorem dL_isCue_153 : decode cL_isCue 153 = .ok (.aload_n 2, 1) := by decide +kernel
theorem dL_isCue_154 : decode cL_isCue 154 = .ok (.invokestatic 16, 3) := by decide +kernel
theorem dL_isCue_157 : decode cL_isCue 157 = .ok (.imul, 1) := by decide +kernel
theorem dL_isCue_158 : decode cL_isCue 158 = .ok (.istore 11, 2) := by decide +kernel
theorem dL_isCue_160 : decode cL_isCue 160 = .ok (.aload_n 0, 1) := by decide +kernel
theorem dL_isCue_161 : decode cL_isCue 161 = .ok (.iload 6, 2) := by decide +kernel
theorem dL_isCue_163 : decode cL_isCue 163 = .ok (.iload 8, 2) := by decide +kernel
theorem dL_isCue_165 : decode cL_isCue 165 = .ok (.iload 5, 2) := by decide +kernel
theorem dL_isCue_167 : decode cL_isCue 167 = .ok (.iadd, 1) := by decide +kernel
theorem dL_isCue_168 : decode cL_isCue 168 = .ok (.invokevirtual 24, 3) := by decide +kernel
theorem dL_isCue_171 : decode cL_isCue 171 = .ok (.aload_n 1, 1) := by decide +kernel
theorem dL_isCue_172 : decode cL_isCue 172 = .ok (.iload 4, 2) := by decide +kernel
theorem dL_isCue_174 : decode cL_isCue 174 = .ok (.invokestatic 40, 3) := by decide +kernel
theorem dL_isCue_177 : decode cL_isCue 177 = .ok (.if_icmp .ne 7, 3) := by decide +kernel
theorem dL_isCue_180 : decode cL_isCue 180 = .ok (.iconst 1, 1) := by decide +kernel
theorem dL_isCue_181 : decode cL_isCue 181 = .ok (.goto 4, 3) := by decide +kernel
theorem dL_isCue_184 : decode cL_isCue 184 = .ok (.iconst 0, 1) := by decide +kernel
theorem dL_isCue_185 : decode cL_isCue 185 = .ok (.istore 12, 2) := by decide +kernel
theorem dL_isCue_187 : decode cL_isCue 187 = .ok (.iload 9, 2) := by decide +kernel
theorem dL_isCue_189 : decode cL_isCue 189 = .ok (.ifCond .eq 59, 3) := by decide +kernel
theorem dL_isCue_192 : decode cL_isCue 192 = .ok (.iload 8, 2) := by decide +kernel
theorem dL_isCue_194 : decode cL_isCue 194 = .ok (.iload 5, 2) := by decide +kernel
theorem dL_isCue_196 : decode cL_isCue 196 = .ok (.iadd, 1) := by decide +kernel
theorem dL_isCue_197 : decode cL_isCue 197 = .ok (.iload 11, 2) := by decide +kernel
theorem dL_isCue_199 : decode cL_isCue 199 = .ok (.if_icmp .gt 49, 3) := by decide +kernel
theorem dL_isCue_202 : decode cL_isCue 202 = .ok (.iload 12, 2) := by decide +kernel
theorem dL_isCue_204 : decode cL_isCue 204 = .ok (.ifCond .ne 13, 3) := by decide +kernel
theorem dL_isCue_207 : decode cL_isCue 207 = .ok (.iload 8, 2) := by decide +kernel
theorem dL_isCue_209 : decode cL_isCue 209 = .ok (.iload 5, 2) := by decide +kernel
theorem dL_isCue_211 : decode cL_isCue 211 = .ok (.iadd, 1) := by decide +kernel
theorem dL_isCue_212 : decode cL_isCue 212 = .ok (.iload 11, 2) := by decide +kernel
theorem dL_isCue_214 : decode cL_isCue 214 = .ok (.if_icmp .ne 34, 3) := by decide +kernel
theorem dL_isCue_217 : decode cL_isCue 217 = .ok (.iload 5, 2) := by decide +kernel
theorem dL_isCue_219 : decode cL_isCue 219 = .ok (.ifCond .eq 25, 3) := by decide +kernel
theorem dL_isCue_222 : decode cL_isCue 222 = .ok (.aload_n 0, 1) := by decide +kernel
theorem dL_isCue_223 : decode cL_isCue 223 = .ok (.iload 6, 2) := by decide +kernel
theorem dL_isCue_225 : decode cL_isCue 225 = .ok (.iload 8, 2) := by decide +kernel
theorem dL_isCue_227 : decode cL_isCue 227 = .ok (.iload 5, 2) := by decide +kernel
theorem dL_isCue_229 : decode cL_isCue 229 = .ok (.iadd, 1) := by decide +kernel
theorem dL_isCue_230 : decode cL_isCue 230 = .ok (.iconst 1, 1) := by decide +kernel
theorem dL_isCue_231 : decode cL_isCue 231 = .ok (.isub, 1) := by decide +kernel
theorem dL_isCue_232 : decode cL_isCue 232 = .ok (.invokevirtual 24, 3) := by decide +kernel
theorem dL_isCue_235 : decode cL_isCue 235 = .ok (.aload_n 1, 1) := by decide +kernel
theorem dL_isCue_236 : decode cL_isCue 236 = .ok (.iload 4, 2) := by decide +kernel
theorem dL_isCue_238 : decode cL_isCue 238 = .ok (.invokestatic 40, 3) := by decide +kernel
theorem dL_isCue_241 : decode cL_isCue 241 = .ok (.if_icmp .eq 7, 3) := by decide +kernel
theorem dL_isCue_244 : decode cL_isCue 244 = .ok (.iconst 1, 1) := by decide +kernel
theorem dL_isCue_245 : decode cL_isCue 245 = .ok (.goto 4, 3) := by decide +kernel
theorem dL_isCue_248 : decode cL_isCue 248 = .ok (.iconst 0, 1) := by decide +kernel
theorem dL_isCue_249 : decode cL_isCue 249 = .ok (.ireturn, 1) := by decide +kernel
theorem dL_isWorker_0 : decode cL_isWorker 0 = .ok (.iconst 0, 1) := by decide +kernel
theorem dL_isWorker_1 : decode cL_isWorker 1 = .ok (.istore 4, 2) := by decide +kernel
theorem dL_isWorker_3 : decode cL_isWorker 3 = .ok (.iconst 0, 1) := by decide +kernel
theorem dL_isWorker_4 : decode cL_isWorker 4 = .ok (.istore 5, 2) := by decide +kernel
theorem dL_isWorker_6 : decode cL_isWorker 6 = .ok (.iconst (-1), 1) := by decide +kernel
theorem dL_isWorker_7 : decode cL_isWorker 7 = .ok (.istore 6, 2) := by decide +kernel
theorem dL_isWorker_9 : decode cL_isWorker 9 = .ok (.aload_n 2, 1) := by decide +kernel
theorem dL_isWorker_10 : decode cL_isWorker 10 = .ok (.bipush 6, 2) := by decide +kernel
theorem dL_isWorker_12 : decode cL_isWorker 12 = .ok (.iaload, 1) := by decide +kernel
theorem dL_isWorker_13 : decode cL_isWorker 13 = .ok (.istore 7, 2) := by decide +kernel
theorem dL_isWorker_15 : decode cL_isWorker 15 = .ok (.iconst 0, 1) := by decide +kernel
theorem dL_isWorker_16 : decode cL_isWorker 16 = .ok (.istore 8, 2) := by decide +kernel
theorem dL_isWorker_18 : decode cL_isWorker 18 = .ok (.iload 8, 2) := by decide +kernel
theorem dL_isWorker_20 : decode cL_isWorker 20 = .ok (.aload_n 2, 1) := by decide +kernel
theorem dL_isWorker_21 : decode cL_isWorker 21 = .ok (.iconst 1, 1) := by decide +kernel
theorem dL_isWorker_22 : decode cL_isWorker 22 = .ok (.iaload, 1) := by decide +kernel
theorem dL_isWorker_23 : decode cL_isWorker 23 = .ok (.aload_n 2, 1) := by decide +kernel
theorem dL_isWorker_24 : decode cL_isWorker 24 = .ok (.iconst 2, 1) := by decide +kernel
theorem dL_isWorker_25 : decode cL_isWorker 25 = .ok (.iaload, 1) := by decide +kernel
theorem dL_isWorker_26 : decode cL_isWorker 26 = .ok (.imul, 1) := by decide +kernel
theorem dL_isWorker_27 : decode cL_isWorker 27 = .ok (.if_icmp .ge 164, 3) := by decide +kernel
theorem dL_isWorker_30 : decode cL_isWorker 30 = .ok (.iload 8, 2) := by decide +kernel
theorem dL_isWorker_32 : decode cL_isWorker 32 = .ok (.aload_n 2, 1) := by decide +kernel
theorem dL_isWorker_33 : decode cL_isWorker 33 = .ok (.iconst 1, 1) := by decide +kernel
theorem dL_isWorker_34 : decode cL_isWorker 34 = .ok (.iaload, 1) := by decide +kernel
theorem dL_isWorker_35 : decode cL_isWorker 35 = .ok (.irem, 1) := by decide +kernel
theorem dL_isWorker_36 : decode cL_isWorker 36 = .ok (.istore 9, 2) := by decide +kernel
theorem dL_isWorker_38 : decode cL_isWorker 38 = .ok (.iload 8, 2) := by decide +kernel
theorem dL_isWorker_40 : decode cL_isWorker 40 = .ok (.aload_n 2, 1) := by decide +kernel
theorem dL_isWorker_41 : decode cL_isWorker 41 = .ok (.iconst 1, 1) := by decide +kernel
theorem dL_isWorker_42 : decode cL_isWorker 42 = .ok (.iaload, 1) := by decide +kernel
theorem dL_isWorker_43 : decode cL_isWorker 43 = .ok (.idiv, 1) := by decide +kernel
theorem dL_isWorker_44 : decode cL_isWorker 44 = .ok (.istore 10, 2) := by decide +kernel
theorem dL_isWorker_46 : decode cL_isWorker 46 = .ok (.aload_n 1, 1) := by decide +kernel
theorem dL_isWorker_47 : decode cL_isWorker 47 = .ok (.iload 9, 2) := by decide +kernel
theorem dL_isWorker_49 : decode cL_isWorker 49 = .ok (.invokestatic 10, 3) := by decide +kernel
theorem dL_isWorker_52 : decode cL_isWorker 52 = .ok (.ifCond .ne 133, 3) := by decide +kernel
theorem dL_isWorker_55 : decode cL_isWorker 55 = .ok (.aload_n 1, 1) := by decide +kernel
theorem dL_isWorker_56 : decode cL_isWorker 56 = .ok (.iload 9, 2) := by decide +kernel
theorem dL_isWorker_58 : decode cL_isWorker 58 = .ok (.iaload, 1) := by decide +kernel
theorem dL_isWorker_59 : decode cL_isWorker 59 = .ok (.bipush 31, 2) := by decide +kernel
theorem dL_isWorker_61 : decode cL_isWorker 61 = .ok (.iand, 1) := by decide +kernel
theorem dL_isWorker_62 : decode cL_isWorker 62 = .ok (.iload 10, 2) := by decide +kernel
theorem dL_isWorker_64 : decode cL_isWorker 64 = .ok (.if_icmp .ne 121, 3) := by decide +kernel
theorem dL_isWorker_67 : decode cL_isWorker 67 = .ok (.aload_n 0, 1) := by decide +kernel
theorem dL_isWorker_68 : decode cL_isWorker 68 = .ok (.iload 9, 2) := by decide +kernel
theorem dL_isWorker_70 : decode cL_isWorker 70 = .ok (.invokevirtual 57, 3) := by decide +kernel
theorem dL_isWorker_73 : decode cL_isWorker 73 = .ok (.ifCond .le 112, 3) := by decide +kernel
theorem dL_isWorker_76 : decode cL_isWorker 76 = .ok (.aload_n 0, 1) := by decide +kernel
theorem dL_isWorker_77 : decode cL_isWorker 77 = .ok (.iload 9, 2) := by decide +kernel
theorem dL_isWorker_79 : decode cL_isWorker 79 = .ok (.invokevirtual 67, 3) := by decide +kernel
theorem dL_isWorker_82 : decode cL_isWorker 82 = .ok (.iload_n 3, 1) := by decide +kernel
theorem dL_isWorker_83 : decode cL_isWorker 83 = .ok (.if_icmp .ne 102, 3) := by decide +kernel
theorem dL_isWorker_86 : decode cL_isWorker 86 = .ok (.iload 10, 2) := by decide +kernel
theorem dL_isWorker_88 : decode cL_isWorker 88 = .ok (.aload_n 2, 1) := by decide +kernel
theorem dL_isWorker_89 : decode cL_isWorker 89 = .ok (.invokestatic 16, 3) := by decide +kernel
theorem dL_isWorker_92 : decode cL_isWorker 92 = .ok (.imul, 1) := by decide +kernel
theorem dL_isWorker_93 : decode cL_isWorker 93 = .ok (.istore 11, 2) := by decide +kernel
theorem dL_isWorker_95 : decode cL_isWorker 95 = .ok (.iload 4, 2) := by decide +kernel
theorem dL_isWorker_97 : decode cL_isWorker 97 = .ok (.iload 6, 2) := by decide +kernel
theorem dL_isWorker_99 : decode cL_isWorker 99 = .ok (.ifCond .lt 18, 3) := by decide +kernel
theorem dL_isWorker_102 : decode cL_isWorker 102 = .ok (.iload 11, 2) := by decide +kernel
theorem dL_isWorker_104 : decode cL_isWorker 104 = .ok (.iload 6, 2) := by decide +kernel
theorem dL_isWorker_106 : decode cL_isWorker 106 = .ok (.aload_n 2, 1) := by decide +kernel
theorem dL_isWorker_107 : decode cL_isWorker 107 = .ok (.iconst 5, 1) := by decide +kernel
theorem dL_isWorker_108 : decode cL_isWorker 108 = .ok (.iaload, 1) := by decide +kernel
theorem dL_isWorker_109 : decode cL_isWorker 109 = .ok (.iadd, 1) := by decide +kernel
theorem dL_isWorker_110 : decode cL_isWorker 110 = .ok (.if_icmp .ge 7, 3) := by decide +kernel
theorem dL_isWorker_113 : decode cL_isWorker 113 = .ok (.iconst 1, 1) := by decide +kernel
theorem dL_isWorker_114 : decode cL_isWorker 114 = .ok (.goto 4, 3) := by decide +kernel
theorem dL_isWorker_117 : decode cL_isWorker 117 = .ok (.iconst 0, 1) := by decide +kernel
theorem dL_isWorker_118 : decode cL_isWorker 118 = .ok (.iadd, 1) := by decide +kernel
theorem dL_isWorker_119 : decode cL_isWorker 119 = .ok (.istore 4, 2) := by decide +kernel
theorem dL_isWorker_121 : decode cL_isWorker 121 = .ok (.iload 11, 2) := by decide +kernel
theorem dL_isWorker_123 : decode cL_isWorker 123 = .ok (.aload_n 0, 1) := by decide +kernel
theorem dL_isWorker_124 : decode cL_isWorker 124 = .ok (.iload 9, 2) := by decide +kernel
theorem dL_isWorker_126 : decode cL_isWorker 126 = .ok (.invokevirtual 57, 3) := by decide +kernel
theorem dL_isWorker_129 : decode cL_isWorker 129 = .ok (.iadd, 1) := by decide +kernel
theorem dL_isWorker_130 : decode cL_isWorker 130 = .ok (.istore 6, 2) := by decide +kernel
theorem dL_isWorker_132 : decode cL_isWorker 132 = .ok (.iload 11, 2) := by decide +kernel
theorem dL_isWorker_134 : decode cL_isWorker 134 = .ok (.iload 7, 2) := by decide +kernel
theorem dL_isWorker_136 : decode cL_isWorker 136 = .ok (.if_icmp .le 8, 3) := by decide +kernel
theorem dL_isWorker_139 : decode cL_isWorker 139 = .ok (.iload 11, 2) := by decide +kernel
theorem dL_isWorker_141 : decode cL_isWorker 141 = .ok (.goto 5, 3) := by decide +kernel
theorem dL_isWorker_144 : decode cL_isWorker 144 = .ok (.iload 7, 2) := by decide +kernel
theorem dL_isWorker_146 : decode cL_isWorker 146 = .ok (.istore 12, 2) := by decide +kernel
theorem dL_isWorker_148 : decode cL_isWorker 148 = .ok (.iload 5, 2) := by decide +kernel
theorem dL_isWorker_150 : decode cL_isWorker 150 = .ok (.iload 6, 2) := by decide +kernel
theorem dL_isWorker_152 : decode cL_isWorker 152 = .ok (.iload 12, 2) := by decide +kernel
theorem dL_isWorker_154 : decode cL_isWorker 154 = .ok (.if_icmp .le 11, 3) := by decide +kernel
theorem dL_isWorker_157 : decode cL_isWorker 157 = .ok (.iload 6, 2) := by decide +kernel
theorem dL_isWorker_159 : decode cL_isWorker 159 = .ok (.iload 12, 2) := by decide +kernel
theorem dL_isWorker_161 : decode cL_isWorker 161 = .ok (.isub, 1) := by decide +kernel
theorem dL_isWorker_162 : decode cL_isWorker 162 = .ok (.goto 4, 3) := by decide +kernel
