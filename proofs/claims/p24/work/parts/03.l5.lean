theorem dL_step_0 : decode cL_step 0 = .ok (.iload_n 1, 1) := by decide +kernel
theorem dL_step_1 : decode cL_step 1 = .ok (.ifCond .eq 10, 3) := by decide +kernel
theorem dL_step_4 : decode cL_step 4 = .ok (.aload 6, 2) := by decide +kernel
theorem dL_step_6 : decode cL_step 6 = .ok (.iconst 0, 1) := by decide +kernel
theorem dL_step_7 : decode cL_step 7 = .ok (.iaload, 1) := by decide +kernel
theorem dL_step_8 : decode cL_step 8 = .ok (.ifCond .ne 212, 3) := by decide +kernel
theorem dL_step_11 : decode cL_step 11 = .ok (.aload 6, 2) := by decide +kernel
theorem dL_step_13 : decode cL_step 13 = .ok (.iconst 0, 1) := by decide +kernel
theorem dL_step_14 : decode cL_step 14 = .ok (.iaload, 1) := by decide +kernel
theorem dL_step_15 : decode cL_step 15 = .ok (.bipush 6, 2) := by decide +kernel
theorem dL_step_17 : decode cL_step 17 = .ok (.if_icmp .ne 5, 3) := by decide +kernel
theorem dL_step_20 : decode cL_step 20 = .ok (.iconst 1, 1) := by decide +kernel
theorem dL_step_21 : decode cL_step 21 = .ok (.ireturn, 1) := by decide +kernel
theorem dL_step_22 : decode cL_step 22 = .ok (.iconst 4, 1) := by decide +kernel
theorem dL_step_23 : decode cL_step 23 = .ok (.aload 6, 2) := by decide +kernel
theorem dL_step_25 : decode cL_step 25 = .ok (.iconst 0, 1) := by decide +kernel
theorem dL_step_26 : decode cL_step 26 = .ok (.iaload, 1) := by decide +kernel
theorem dL_step_27 : decode cL_step 27 = .ok (.imul, 1) := by decide +kernel
theorem dL_step_28 : decode cL_step 28 = .ok (.istore 8, 2) := by decide +kernel
theorem dL_step_30 : decode cL_step 30 = .ok (.aload 4, 2) := by decide +kernel
theorem dL_step_32 : decode cL_step 32 = .ok (.iload 8, 2) := by decide +kernel
theorem dL_step_34 : decode cL_step 34 = .ok (.iload_n 2, 1) := by decide +kernel
theorem dL_step_35 : decode cL_step 35 = .ok (.iconst 4, 1) := by decide +kernel
theorem dL_step_36 : decode cL_step 36 = .ok (.irem, 1) := by decide +kernel
theorem dL_step_37 : decode cL_step 37 = .ok (.iconst 3, 1) := by decide +kernel
theorem dL_step_38 : decode cL_step 38 = .ok (.if_icmp .ne 7, 3) := by decide +kernel
theorem dL_step_41 : decode cL_step 41 = .ok (.iconst 3, 1) := by decide +kernel
theorem dL_step_42 : decode cL_step 42 = .ok (.goto 15, 3) := by decide +kernel
theorem dL_step_45 : decode cL_step 45 = .ok (.iload_n 2, 1) := by decide +kernel
theorem dL_step_46 : decode cL_step 46 = .ok (.iconst 4, 1) := by decide +kernel
theorem dL_step_47 : decode cL_step 47 = .ok (.irem, 1) := by decide +kernel
theorem dL_step_48 : decode cL_step 48 = .ok (.iconst 2, 1) := by decide +kernel
theorem dL_step_49 : decode cL_step 49 = .ok (.if_icmp .ne 7, 3) := by decide +kernel
theorem dL_step_52 : decode cL_step 52 = .ok (.iconst 1, 1) := by decide +kernel
theorem dL_step_53 : decode cL_step 53 = .ok (.goto 4, 3) := by decide +kernel
theorem dL_step_56 : decode cL_step 56 = .ok (.iconst 0, 1) := by decide +kernel
theorem dL_step_57 : decode cL_step 57 = .ok (.iastore, 1) := by decide +kernel
theorem dL_step_58 : decode cL_step 58 = .ok (.aload 4, 2) := by decide +kernel
theorem dL_step_60 : decode cL_step 60 = .ok (.iload 8, 2) := by decide +kernel
theorem dL_step_62 : decode cL_step 62 = .ok (.iconst 1, 1) := by decide +kernel
theorem dL_step_63 : decode cL_step 63 = .ok (.iadd, 1) := by decide +kernel
theorem dL_step_64 : decode cL_step 64 = .ok (.aload 4, 2) := by decide +kernel
theorem dL_step_66 : decode cL_step 66 = .ok (.iload 8, 2) := by decide +kernel
theorem dL_step_68 : decode cL_step 68 = .ok (.iaload, 1) := by decide +kernel
theorem dL_step_69 : decode cL_step 69 = .ok (.iconst 3, 1) := by decide +kernel
theorem dL_step_70 : decode cL_step 70 = .ok (.if_icmp .ne 11, 3) := by decide +kernel
theorem dL_step_73 : decode cL_step 73 = .ok (.iload_n 3, 1) := by decide +kernel
theorem dL_step_74 : decode cL_step 74 = .ok (.sipush 360, 3) := by decide +kernel
theorem dL_step_77 : decode cL_step 77 = .ok (.irem, 1) := by decide +kernel
theorem dL_step_78 : decode cL_step 78 = .ok (.goto 26, 3) := by decide +kernel
theorem dL_step_81 : decode cL_step 81 = .ok (.iload_n 3, 1) := by decide +kernel
theorem dL_step_82 : decode cL_step 82 = .ok (.iconst 3, 1) := by decide +kernel
theorem dL_step_83 : decode cL_step 83 = .ok (.irem, 1) := by decide +kernel
theorem dL_step_84 : decode cL_step 84 = .ok (.ifCond .ne 13, 3) := by decide +kernel
theorem dL_step_87 : decode cL_step 87 = .ok (.iload_n 3, 1) := by decide +kernel
theorem dL_step_88 : decode cL_step 88 = .ok (.iconst 3, 1) := by decide +kernel
theorem dL_step_89 : decode cL_step 89 = .ok (.idiv, 1) := by decide +kernel
theorem dL_step_90 : decode cL_step 90 = .ok (.sipush 201, 3) := by decide +kernel
theorem dL_step_93 : decode cL_step 93 = .ok (.irem, 1) := by decide +kernel
theorem dL_step_94 : decode cL_step 94 = .ok (.goto 10, 3) := by decide +kernel
theorem dL_step_97 : decode cL_step 97 = .ok (.bipush 40, 2) := by decide +kernel
theorem dL_step_99 : decode cL_step 99 = .ok (.aload 6, 2) := by decide +kernel
theorem dL_step_101 : decode cL_step 101 = .ok (.iconst 0, 1) := by decide +kernel
theorem dL_step_102 : decode cL_step 102 = .ok (.iaload, 1) := by decide +kernel
theorem dL_step_103 : decode cL_step 103 = .ok (.imul, 1) := by decide +kernel
theorem dL_step_104 : decode cL_step 104 = .ok (.iastore, 1) := by decide +kernel
theorem dL_step_105 : decode cL_step 105 = .ok (.aload 4, 2) := by decide +kernel
theorem dL_step_107 : decode cL_step 107 = .ok (.iload 8, 2) := by decide +kernel
theorem dL_step_109 : decode cL_step 109 = .ok (.iconst 2, 1) := by decide +kernel
theorem dL_step_110 : decode cL_step 110 = .ok (.iadd, 1) := by decide +kernel
theorem dL_step_111 : decode cL_step 111 = .ok (.iconst 1, 1) := by decide +kernel
theorem dL_step_112 : decode cL_step 112 = .ok (.iload_n 2, 1) := by decide +kernel
theorem dL_step_113 : decode cL_step 113 = .ok (.iconst 4, 1) := by decide +kernel
theorem dL_step_114 : decode cL_step 114 = .ok (.idiv, 1) := by decide +kernel
theorem dL_step_115 : decode cL_step 115 = .ok (.bipush 20, 2) := by decide +kernel
theorem dL_step_117 : decode cL_step 117 = .ok (.irem, 1) := by decide +kernel
theorem dL_step_118 : decode cL_step 118 = .ok (.iadd, 1) := by decide +kernel
theorem dL_step_119 : decode cL_step 119 = .ok (.iastore, 1) := by decide +kernel
theorem dL_step_120 : decode cL_step 120 = .ok (.aload 4, 2) := by decide +kernel
theorem dL_step_122 : decode cL_step 122 = .ok (.iload 8, 2) := by decide +kernel
theorem dL_step_124 : decode cL_step 124 = .ok (.iconst 3, 1) := by decide +kernel
theorem dL_step_125 : decode cL_step 125 = .ok (.iadd, 1) := by decide +kernel
theorem dL_step_126 : decode cL_step 126 = .ok (.iconst 1, 1) := by decide +kernel
theorem dL_step_127 : decode cL_step 127 = .ok (.iload_n 3, 1) := by decide +kernel
theorem dL_step_128 : decode cL_step 128 = .ok (.sipush 360, 3) := by decide +kernel
theorem dL_step_131 : decode cL_step 131 = .ok (.idiv, 1) := by decide +kernel
theorem dL_step_132 : decode cL_step 132 = .ok (.bipush 10, 2) := by decide +kernel
theorem dL_step_134 : decode cL_step 134 = .ok (.irem, 1) := by decide +kernel
theorem dL_step_135 : decode cL_step 135 = .ok (.iadd, 1) := by decide +kernel
theorem dL_step_136 : decode cL_step 136 = .ok (.iastore, 1) := by decide +kernel
theorem dL_step_137 : decode cL_step 137 = .ok (.aload 6, 2) := by decide +kernel
theorem dL_step_139 : decode cL_step 139 = .ok (.iconst 0, 1) := by decide +kernel
theorem dL_step_140 : decode cL_step 140 = .ok (.dup2, 1) := by decide +kernel
theorem dL_step_141 : decode cL_step 141 = .ok (.iaload, 1) := by decide +kernel
theorem dL_step_142 : decode cL_step 142 = .ok (.iconst 1, 1) := by decide +kernel
theorem dL_step_143 : decode cL_step 143 = .ok (.iadd, 1) := by decide +kernel
theorem dL_step_144 : decode cL_step 144 = .ok (.iastore, 1) := by decide +kernel
theorem dL_step_145 : decode cL_step 145 = .ok (.aload 4, 2) := by decide +kernel
theorem dL_step_147 : decode cL_step 147 = .ok (.iload 8, 2) := by decide +kernel
theorem dL_step_149 : decode cL_step 149 = .ok (.iaload, 1) := by decide +kernel
theorem dL_step_150 : decode cL_step 150 = .ok (.iconst 3, 1) := by decide +kernel
theorem dL_step_151 : decode cL_step 151 = .ok (.if_icmp .ne 24, 3) := by decide +kernel
theorem dL_step_154 : decode cL_step 154 = .ok (.aload_n 0, 1) := by decide +kernel
theorem dL_step_155 : decode cL_step 155 = .ok (.aload 4, 2) := by decide +kernel
theorem dL_step_157 : decode cL_step 157 = .ok (.iload 8, 2) := by decide +kernel
theorem dL_step_159 : decode cL_step 159 = .ok (.iconst 1, 1) := by decide +kernel
theorem dL_step_160 : decode cL_step 160 = .ok (.iadd, 1) := by decide +kernel
theorem dL_step_161 : decode cL_step 161 = .ok (.iaload, 1) := by decide +kernel
theorem dL_step_162 : decode cL_step 162 = .ok (.aload 4, 2) := by decide +kernel
theorem dL_step_164 : decode cL_step 164 = .ok (.iload 8, 2) := by decide +kernel
theorem dL_step_166 : decode cL_step 166 = .ok (.iconst 3, 1) := by decide +kernel
theorem dL_step_167 : decode cL_step 167 = .ok (.iadd, 1) := by decide +kernel
theorem dL_step_168 : decode cL_step 168 = .ok (.iaload, 1) := by decide +kernel
theorem dL_step_169 : decode cL_step 169 = .ok (.invokevirtual 101, 3) := by decide +kernel
theorem dL_step_172 : decode cL_step 172 = .ok (.goto 33, 3) := by decide +kernel
theorem dL_step_175 : decode cL_step 175 = .ok (.aload_n 0, 1) := by decide +kernel
theorem dL_step_176 : decode cL_step 176 = .ok (.aload 4, 2) := by decide +kernel
theorem dL_step_178 : decode cL_step 178 = .ok (.iload 8, 2) := by decide +kernel
theorem dL_step_180 : decode cL_step 180 = .ok (.iaload, 1) := by decide +kernel
theorem dL_step_181 : decode cL_step 181 = .ok (.aload 4, 2) := by decide +kernel
theorem dL_step_183 : decode cL_step 183 = .ok (.iload 8, 2) := by decide +kernel
theorem dL_step_185 : decode cL_step 185 = .ok (.iconst 1, 1) := by decide +kernel
theorem dL_step_186 : decode cL_step 186 = .ok (.iadd, 1) := by decide +kernel
theorem dL_step_187 : decode cL_step 187 = .ok (.iaload, 1) := by decide +kernel
theorem dL_step_188 : decode cL_step 188 = .ok (.aload 4, 2) := by decide +kernel
theorem dL_step_190 : decode cL_step 190 = .ok (.iload 8, 2) := by decide +kernel
theorem dL_step_192 : decode cL_step 192 = .ok (.iconst 2, 1) := by decide +kernel
theorem dL_step_193 : decode cL_step 193 = .ok (.iadd, 1) := by decide +kernel
theorem dL_step_194 : decode cL_step 194 = .ok (.iaload, 1) := by decide +kernel
