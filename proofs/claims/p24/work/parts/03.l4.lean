theorem dL_isWorker_165 : decode cL_isWorker 165 = .ok (.iconst 0, 1) := by decide +kernel
theorem dL_isWorker_166 : decode cL_isWorker 166 = .ok (.iadd, 1) := by decide +kernel
theorem dL_isWorker_167 : decode cL_isWorker 167 = .ok (.istore 5, 2) := by decide +kernel
theorem dL_isWorker_169 : decode cL_isWorker 169 = .ok (.iload 6, 2) := by decide +kernel
theorem dL_isWorker_171 : decode cL_isWorker 171 = .ok (.iload 7, 2) := by decide +kernel
theorem dL_isWorker_173 : decode cL_isWorker 173 = .ok (.if_icmp .le 8, 3) := by decide +kernel
theorem dL_isWorker_176 : decode cL_isWorker 176 = .ok (.iload 6, 2) := by decide +kernel
theorem dL_isWorker_178 : decode cL_isWorker 178 = .ok (.goto 5, 3) := by decide +kernel
theorem dL_isWorker_181 : decode cL_isWorker 181 = .ok (.iload 7, 2) := by decide +kernel
theorem dL_isWorker_183 : decode cL_isWorker 183 = .ok (.istore 7, 2) := by decide +kernel
theorem dL_isWorker_185 : decode cL_isWorker 185 = .ok (.iinc 8 1, 3) := by decide +kernel
theorem dL_isWorker_188 : decode cL_isWorker 188 = .ok (.goto (-170), 3) := by decide +kernel
theorem dL_isWorker_191 : decode cL_isWorker 191 = .ok (.aload_n 0, 1) := by decide +kernel
theorem dL_isWorker_192 : decode cL_isWorker 192 = .ok (.iload_n 3, 1) := by decide +kernel
theorem dL_isWorker_193 : decode cL_isWorker 193 = .ok (.invokevirtual 73, 3) := by decide +kernel
theorem dL_isWorker_196 : decode cL_isWorker 196 = .ok (.iload 4, 2) := by decide +kernel
theorem dL_isWorker_198 : decode cL_isWorker 198 = .ok (.if_icmp .ne 17, 3) := by decide +kernel
theorem dL_isWorker_201 : decode cL_isWorker 201 = .ok (.aload_n 0, 1) := by decide +kernel
theorem dL_isWorker_202 : decode cL_isWorker 202 = .ok (.iload_n 3, 1) := by decide +kernel
theorem dL_isWorker_203 : decode cL_isWorker 203 = .ok (.invokevirtual 76, 3) := by decide +kernel
theorem dL_isWorker_206 : decode cL_isWorker 206 = .ok (.iload 5, 2) := by decide +kernel
theorem dL_isWorker_208 : decode cL_isWorker 208 = .ok (.if_icmp .ne 7, 3) := by decide +kernel
theorem dL_isWorker_211 : decode cL_isWorker 211 = .ok (.iconst 1, 1) := by decide +kernel
theorem dL_isWorker_212 : decode cL_isWorker 212 = .ok (.goto 4, 3) := by decide +kernel
theorem dL_isWorker_215 : decode cL_isWorker 215 = .ok (.iconst 0, 1) := by decide +kernel
theorem dL_isWorker_216 : decode cL_isWorker 216 = .ok (.ireturn, 1) := by decide +kernel
theorem dL_isNight_0 : decode cL_isNight 0 = .ok (.aload_n 0, 1) := by decide +kernel
theorem dL_isNight_1 : decode cL_isNight 1 = .ok (.invokevirtual 48, 3) := by decide +kernel
theorem dL_isNight_4 : decode cL_isNight 4 = .ok (.iconst (-1), 1) := by decide +kernel
theorem dL_isNight_5 : decode cL_isNight 5 = .ok (.if_icmp .ne 7, 3) := by decide +kernel
theorem dL_isNight_8 : decode cL_isNight 8 = .ok (.iconst 1, 1) := by decide +kernel
theorem dL_isNight_9 : decode cL_isNight 9 = .ok (.goto 4, 3) := by decide +kernel
theorem dL_isNight_12 : decode cL_isNight 12 = .ok (.iconst 0, 1) := by decide +kernel
theorem dL_isNight_13 : decode cL_isNight 13 = .ok (.istore_n 3, 1) := by decide +kernel
theorem dL_isNight_14 : decode cL_isNight 14 = .ok (.iconst 0, 1) := by decide +kernel
theorem dL_isNight_15 : decode cL_isNight 15 = .ok (.istore 4, 2) := by decide +kernel
theorem dL_isNight_17 : decode cL_isNight 17 = .ok (.iload 4, 2) := by decide +kernel
theorem dL_isNight_19 : decode cL_isNight 19 = .ok (.bipush 6, 2) := by decide +kernel
theorem dL_isNight_21 : decode cL_isNight 21 = .ok (.if_icmp .ge 28, 3) := by decide +kernel
theorem dL_isNight_24 : decode cL_isNight 24 = .ok (.iload_n 3, 1) := by decide +kernel
theorem dL_isNight_25 : decode cL_isNight 25 = .ok (.ifCond .eq 16, 3) := by decide +kernel
theorem dL_isNight_28 : decode cL_isNight 28 = .ok (.aload_n 0, 1) := by decide +kernel
theorem dL_isNight_29 : decode cL_isNight 29 = .ok (.iload 4, 2) := by decide +kernel
theorem dL_isNight_31 : decode cL_isNight 31 = .ok (.invokevirtual 73, 3) := by decide +kernel
theorem dL_isNight_34 : decode cL_isNight 34 = .ok (.ifCond .ne 7, 3) := by decide +kernel
theorem dL_isNight_37 : decode cL_isNight 37 = .ok (.iconst 1, 1) := by decide +kernel
theorem dL_isNight_38 : decode cL_isNight 38 = .ok (.goto 4, 3) := by decide +kernel
theorem dL_isNight_41 : decode cL_isNight 41 = .ok (.iconst 0, 1) := by decide +kernel
theorem dL_isNight_42 : decode cL_isNight 42 = .ok (.istore_n 3, 1) := by decide +kernel
theorem dL_isNight_43 : decode cL_isNight 43 = .ok (.iinc 4 1, 3) := by decide +kernel
theorem dL_isNight_46 : decode cL_isNight 46 = .ok (.goto (-29), 3) := by decide +kernel
theorem dL_isNight_49 : decode cL_isNight 49 = .ok (.iconst 0, 1) := by decide +kernel
theorem dL_isNight_50 : decode cL_isNight 50 = .ok (.istore 4, 2) := by decide +kernel
theorem dL_isNight_52 : decode cL_isNight 52 = .ok (.iload 4, 2) := by decide +kernel
theorem dL_isNight_54 : decode cL_isNight 54 = .ok (.aload_n 2, 1) := by decide +kernel
theorem dL_isNight_55 : decode cL_isNight 55 = .ok (.iconst 1, 1) := by decide +kernel
theorem dL_isNight_56 : decode cL_isNight 56 = .ok (.iaload, 1) := by decide +kernel
theorem dL_isNight_57 : decode cL_isNight 57 = .ok (.if_icmp .ge 46, 3) := by decide +kernel
theorem dL_isNight_60 : decode cL_isNight 60 = .ok (.iload_n 3, 1) := by decide +kernel
theorem dL_isNight_61 : decode cL_isNight 61 = .ok (.ifCond .eq 34, 3) := by decide +kernel
theorem dL_isNight_64 : decode cL_isNight 64 = .ok (.aload_n 1, 1) := by decide +kernel
theorem dL_isNight_65 : decode cL_isNight 65 = .ok (.iload 4, 2) := by decide +kernel
theorem dL_isNight_67 : decode cL_isNight 67 = .ok (.invokestatic 10, 3) := by decide +kernel
theorem dL_isNight_70 : decode cL_isNight 70 = .ok (.ifCond .ne 21, 3) := by decide +kernel
theorem dL_isNight_73 : decode cL_isNight 73 = .ok (.aload_n 0, 1) := by decide +kernel
theorem dL_isNight_74 : decode cL_isNight 74 = .ok (.iload 4, 2) := by decide +kernel
theorem dL_isNight_76 : decode cL_isNight 76 = .ok (.invokevirtual 57, 3) := by decide +kernel
theorem dL_isNight_79 : decode cL_isNight 79 = .ok (.ifCond .eq 12, 3) := by decide +kernel
theorem dL_isNight_82 : decode cL_isNight 82 = .ok (.aload_n 0, 1) := by decide +kernel
theorem dL_isNight_83 : decode cL_isNight 83 = .ok (.iload 4, 2) := by decide +kernel
theorem dL_isNight_85 : decode cL_isNight 85 = .ok (.invokevirtual 67, 3) := by decide +kernel
theorem dL_isNight_88 : decode cL_isNight 88 = .ok (.ifCond .lt 7, 3) := by decide +kernel
theorem dL_isNight_91 : decode cL_isNight 91 = .ok (.iconst 1, 1) := by decide +kernel
theorem dL_isNight_92 : decode cL_isNight 92 = .ok (.goto 4, 3) := by decide +kernel
theorem dL_isNight_95 : decode cL_isNight 95 = .ok (.iconst 0, 1) := by decide +kernel
theorem dL_isNight_96 : decode cL_isNight 96 = .ok (.istore_n 3, 1) := by decide +kernel
theorem dL_isNight_97 : decode cL_isNight 97 = .ok (.iinc 4 1, 3) := by decide +kernel
theorem dL_isNight_100 : decode cL_isNight 100 = .ok (.goto (-48), 3) := by decide +kernel
theorem dL_isNight_103 : decode cL_isNight 103 = .ok (.aload_n 0, 1) := by decide +kernel
theorem dL_isNight_104 : decode cL_isNight 104 = .ok (.invokevirtual 79, 3) := by decide +kernel
theorem dL_isNight_107 : decode cL_isNight 107 = .ok (.iload_n 3, 1) := by decide +kernel
theorem dL_isNight_108 : decode cL_isNight 108 = .ok (.if_icmp .ne 33, 3) := by decide +kernel
theorem dL_isNight_111 : decode cL_isNight 111 = .ok (.aload_n 0, 1) := by decide +kernel
theorem dL_isNight_112 : decode cL_isNight 112 = .ok (.invokevirtual 83, 3) := by decide +kernel
theorem dL_isNight_115 : decode cL_isNight 115 = .ok (.aload_n 2, 1) := by decide +kernel
theorem dL_isNight_116 : decode cL_isNight 116 = .ok (.invokestatic 16, 3) := by decide +kernel
theorem dL_isNight_119 : decode cL_isNight 119 = .ok (.if_icmp .ne 22, 3) := by decide +kernel
theorem dL_isNight_122 : decode cL_isNight 122 = .ok (.aload_n 0, 1) := by decide +kernel
theorem dL_isNight_123 : decode cL_isNight 123 = .ok (.invokevirtual 36, 3) := by decide +kernel
theorem dL_isNight_126 : decode cL_isNight 126 = .ok (.aload_n 2, 1) := by decide +kernel
theorem dL_isNight_127 : decode cL_isNight 127 = .ok (.iconst 2, 1) := by decide +kernel
theorem dL_isNight_128 : decode cL_isNight 128 = .ok (.iaload, 1) := by decide +kernel
theorem dL_isNight_129 : decode cL_isNight 129 = .ok (.aload_n 2, 1) := by decide +kernel
theorem dL_isNight_130 : decode cL_isNight 130 = .ok (.invokestatic 16, 3) := by decide +kernel
theorem dL_isNight_133 : decode cL_isNight 133 = .ok (.imul, 1) := by decide +kernel
theorem dL_isNight_134 : decode cL_isNight 134 = .ok (.if_icmp .ne 7, 3) := by decide +kernel
theorem dL_isNight_137 : decode cL_isNight 137 = .ok (.iconst 1, 1) := by decide +kernel
theorem dL_isNight_138 : decode cL_isNight 138 = .ok (.goto 4, 3) := by decide +kernel
theorem dL_isNight_141 : decode cL_isNight 141 = .ok (.iconst 0, 1) := by decide +kernel
theorem dL_isNight_142 : decode cL_isNight 142 = .ok (.ireturn, 1) := by decide +kernel
theorem dL_isFastest_0 : decode cL_isFastest 0 = .ok (.aload_n 0, 1) := by decide +kernel
theorem dL_isFastest_1 : decode cL_isFastest 1 = .ok (.invokevirtual 86, 3) := by decide +kernel
theorem dL_isFastest_4 : decode cL_isFastest 4 = .ok (.istore_n 2, 1) := by decide +kernel
theorem dL_isFastest_5 : decode cL_isFastest 5 = .ok (.iconst 1, 1) := by decide +kernel
theorem dL_isFastest_6 : decode cL_isFastest 6 = .ok (.istore_n 3, 1) := by decide +kernel
theorem dL_isFastest_7 : decode cL_isFastest 7 = .ok (.sipush 200, 3) := by decide +kernel
theorem dL_isFastest_10 : decode cL_isFastest 10 = .ok (.istore 4, 2) := by decide +kernel
theorem dL_isFastest_12 : decode cL_isFastest 12 = .ok (.iload 4, 2) := by decide +kernel
theorem dL_isFastest_14 : decode cL_isFastest 14 = .ok (.iload_n 2, 1) := by decide +kernel
theorem dL_isFastest_15 : decode cL_isFastest 15 = .ok (.if_icmp .le 40, 3) := by decide +kernel
theorem dL_isFastest_18 : decode cL_isFastest 18 = .ok (.iload 4, 2) := by decide +kernel
theorem dL_isFastest_20 : decode cL_isFastest 20 = .ok (.bipush 50, 2) := by decide +kernel
theorem dL_isFastest_22 : decode cL_isFastest 22 = .ok (.if_icmp .lt 33, 3) := by decide +kernel
theorem dL_isFastest_25 : decode cL_isFastest 25 = .ok (.iload_n 3, 1) := by decide +kernel
theorem dL_isFastest_26 : decode cL_isFastest 26 = .ok (.ifCond .eq 29, 3) := by decide +kernel
theorem dL_isFastest_29 : decode cL_isFastest 29 = .ok (.aload_n 0, 1) := by decide +kernel
theorem dL_isFastest_30 : decode cL_isFastest 30 = .ok (.iload 4, 2) := by decide +kernel
theorem dL_isFastest_32 : decode cL_isFastest 32 = .ok (.invokevirtual 89, 3) := by decide +kernel
theorem dL_isFastest_35 : decode cL_isFastest 35 = .ok (.pop, 1) := by decide +kernel
theorem dL_isFastest_36 : decode cL_isFastest 36 = .ok (.aload_n 0, 1) := by decide +kernel
theorem dL_isFastest_37 : decode cL_isFastest 37 = .ok (.invokevirtual 79, 3) := by decide +kernel
theorem dL_isFastest_40 : decode cL_isFastest 40 = .ok (.ifCond .ne 7, 3) := by decide +kernel
theorem dL_isFastest_43 : decode cL_isFastest 43 = .ok (.iconst 1, 1) := by decide +kernel
theorem dL_isFastest_44 : decode cL_isFastest 44 = .ok (.goto 4, 3) := by decide +kernel
theorem dL_isFastest_47 : decode cL_isFastest 47 = .ok (.iconst 0, 1) := by decide +kernel
theorem dL_isFastest_48 : decode cL_isFastest 48 = .ok (.istore_n 3, 1) := by decide +kernel
theorem dL_isFastest_49 : decode cL_isFastest 49 = .ok (.iinc 4 (-10), 3) := by decide +kernel
theorem dL_isFastest_52 : decode cL_isFastest 52 = .ok (.goto (-40), 3) := by decide +kernel
theorem dL_isFastest_55 : decode cL_isFastest 55 = .ok (.iload_n 3, 1) := by decide +kernel
theorem dL_isFastest_56 : decode cL_isFastest 56 = .ok (.ifCond .eq 49, 3) := by decide +kernel
theorem dL_isFastest_59 : decode cL_isFastest 59 = .ok (.iload_n 2, 1) := by decide +kernel
theorem dL_isFastest_60 : decode cL_isFastest 60 = .ok (.iconst (-1), 1) := by decide +kernel
theorem dL_isFastest_61 : decode cL_isFastest 61 = .ok (.if_icmp .eq 40, 3) := by decide +kernel
theorem dL_isFastest_64 : decode cL_isFastest 64 = .ok (.iload_n 2, 1) := by decide +kernel
theorem dL_isFastest_65 : decode cL_isFastest 65 = .ok (.bipush 10, 2) := by decide +kernel
theorem dL_isFastest_67 : decode cL_isFastest 67 = .ok (.irem, 1) := by decide +kernel
theorem dL_isFastest_68 : decode cL_isFastest 68 = .ok (.ifCond .ne 37, 3) := by decide +kernel
theorem dL_isFastest_71 : decode cL_isFastest 71 = .ok (.iload_n 2, 1) := by decide +kernel
theorem dL_isFastest_72 : decode cL_isFastest 72 = .ok (.bipush 50, 2) := by decide +kernel
theorem dL_isFastest_74 : decode cL_isFastest 74 = .ok (.if_icmp .lt 31, 3) := by decide +kernel
theorem dL_isFastest_77 : decode cL_isFastest 77 = .ok (.iload_n 2, 1) := by decide +kernel
theorem dL_isFastest_78 : decode cL_isFastest 78 = .ok (.sipush 200, 3) := by decide +kernel
theorem dL_isFastest_81 : decode cL_isFastest 81 = .ok (.if_icmp .gt 24, 3) := by decide +kernel
theorem dL_isFastest_84 : decode cL_isFastest 84 = .ok (.aload_n 0, 1) := by decide +kernel
theorem dL_isFastest_85 : decode cL_isFastest 85 = .ok (.iload_n 2, 1) := by decide +kernel
theorem dL_isFastest_86 : decode cL_isFastest 86 = .ok (.invokevirtual 89, 3) := by decide +kernel
theorem dL_isFastest_89 : decode cL_isFastest 89 = .ok (.bipush 50, 2) := by decide +kernel
theorem dL_isFastest_91 : decode cL_isFastest 91 = .ok (.if_icmp .lt 14, 3) := by decide +kernel
theorem dL_isFastest_94 : decode cL_isFastest 94 = .ok (.aload_n 0, 1) := by decide +kernel
theorem dL_isFastest_95 : decode cL_isFastest 95 = .ok (.invokevirtual 79, 3) := by decide +kernel
theorem dL_isFastest_98 : decode cL_isFastest 98 = .ok (.ifCond .eq 7, 3) := by decide +kernel
theorem dL_isFastest_101 : decode cL_isFastest 101 = .ok (.iconst 1, 1) := by decide +kernel
theorem dL_isFastest_102 : decode cL_isFastest 102 = .ok (.goto 4, 3) := by decide +kernel
theorem dL_isFastest_105 : decode cL_isFastest 105 = .ok (.iconst 0, 1) := by decide +kernel
theorem dL_isFastest_106 : decode cL_isFastest 106 = .ok (.istore_n 3, 1) := by decide +kernel
theorem dL_isFastest_107 : decode cL_isFastest 107 = .ok (.aload_n 0, 1) := by decide +kernel
theorem dL_isFastest_108 : decode cL_isFastest 108 = .ok (.aload_n 1, 1) := by decide +kernel
theorem dL_isFastest_109 : decode cL_isFastest 109 = .ok (.iconst 4, 1) := by decide +kernel
theorem dL_isFastest_110 : decode cL_isFastest 110 = .ok (.iaload, 1) := by decide +kernel
theorem dL_isFastest_111 : decode cL_isFastest 111 = .ok (.invokevirtual 89, 3) := by decide +kernel
theorem dL_isFastest_114 : decode cL_isFastest 114 = .ok (.pop, 1) := by decide +kernel
theorem dL_isFastest_115 : decode cL_isFastest 115 = .ok (.iload_n 3, 1) := by decide +kernel
theorem dL_isFastest_116 : decode cL_isFastest 116 = .ok (.ifCond .eq 15, 3) := by decide +kernel
theorem dL_isFastest_119 : decode cL_isFastest 119 = .ok (.aload_n 0, 1) := by decide +kernel
theorem dL_isFastest_120 : decode cL_isFastest 120 = .ok (.invokevirtual 86, 3) := by decide +kernel
theorem dL_isFastest_123 : decode cL_isFastest 123 = .ok (.iload_n 2, 1) := by decide +kernel
theorem dL_isFastest_124 : decode cL_isFastest 124 = .ok (.if_icmp .ne 7, 3) := by decide +kernel
theorem dL_isFastest_127 : decode cL_isFastest 127 = .ok (.iconst 1, 1) := by decide +kernel
theorem dL_isFastest_128 : decode cL_isFastest 128 = .ok (.goto 4, 3) := by decide +kernel
theorem dL_isFastest_131 : decode cL_isFastest 131 = .ok (.iconst 0, 1) := by decide +kernel
theorem dL_isFastest_132 : decode cL_isFastest 132 = .ok (.ireturn, 1) := by decide +kernel
theorem dL_scores_0 : decode cL_scores 0 = .ok (.aload_n 0, 1) := by decide +kernel
theorem dL_scores_1 : decode cL_scores 1 = .ok (.iload_n 1, 1) := by decide +kernel
theorem dL_scores_2 : decode cL_scores 2 = .ok (.iload_n 2, 1) := by decide +kernel
theorem dL_scores_3 : decode cL_scores 3 = .ok (.invokevirtual 92, 3) := by decide +kernel
theorem dL_scores_6 : decode cL_scores 6 = .ok (.goto 7, 3) := by decide +kernel
theorem dL_scores_9 : decode cL_scores 9 = .ok (.astore_n 3, 1) := by decide +kernel
theorem dL_scores_10 : decode cL_scores 10 = .ok (.bipush (-8), 2) := by decide +kernel
theorem dL_scores_12 : decode cL_scores 12 = .ok (.ireturn, 1) := by decide +kernel
theorem dL_scores_13 : decode cL_scores 13 = .ok (.iconst 0, 1) := by decide +kernel
theorem dL_scores_14 : decode cL_scores 14 = .ok (.ireturn, 1) := by decide +kernel
theorem dL_strikesOut_0 : decode cL_strikesOut 0 = .ok (.aload_n 0, 1) := by decide +kernel
theorem dL_strikesOut_1 : decode cL_strikesOut 1 = .ok (.iload_n 1, 1) := by decide +kernel
theorem dL_strikesOut_2 : decode cL_strikesOut 2 = .ok (.invokevirtual 98, 3) := by decide +kernel
theorem dL_strikesOut_5 : decode cL_strikesOut 5 = .ok (.ireturn, 1) := by decide +kernel
theorem dL_strikesOut_6 : decode cL_strikesOut 6 = .ok (.astore_n 2, 1) := by decide +kernel
theorem dL_strikesOut_7 : decode cL_strikesOut 7 = .ok (.bipush (-7), 2) := by decide +kernel
theorem dL_strikesOut_9 : decode cL_strikesOut 9 = .ok (.ireturn, 1) := by decide +kernel
