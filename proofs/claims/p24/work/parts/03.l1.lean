theorem dL_moved_95 : decode cL_moved 95 = .ok (.iload_n 3, 1) := by decide +kernel
theorem dL_moved_96 : decode cL_moved 96 = .ok (.goto 37, 3) := by decide +kernel
theorem dL_moved_99 : decode cL_moved 99 = .ok (.iload_n 2, 1) := by decide +kernel
theorem dL_moved_100 : decode cL_moved 100 = .ok (.iload 4, 2) := by decide +kernel
theorem dL_moved_102 : decode cL_moved 102 = .ok (.iadd, 1) := by decide +kernel
theorem dL_moved_103 : decode cL_moved 103 = .ok (.sipush 360, 3) := by decide +kernel
theorem dL_moved_106 : decode cL_moved 106 = .ok (.irem, 1) := by decide +kernel
theorem dL_moved_107 : decode cL_moved 107 = .ok (.goto 26, 3) := by decide +kernel
theorem dL_moved_110 : decode cL_moved 110 = .ok (.iload 6, 2) := by decide +kernel
theorem dL_moved_112 : decode cL_moved 112 = .ok (.iload 4, 2) := by decide +kernel
theorem dL_moved_114 : decode cL_moved 114 = .ok (.if_icmp .gt 7, 3) := by decide +kernel
theorem dL_moved_117 : decode cL_moved 117 = .ok (.iload_n 3, 1) := by decide +kernel
theorem dL_moved_118 : decode cL_moved 118 = .ok (.goto 15, 3) := by decide +kernel
theorem dL_moved_121 : decode cL_moved 121 = .ok (.iload_n 2, 1) := by decide +kernel
theorem dL_moved_122 : decode cL_moved 122 = .ok (.iload 4, 2) := by decide +kernel
theorem dL_moved_124 : decode cL_moved 124 = .ok (.isub, 1) := by decide +kernel
theorem dL_moved_125 : decode cL_moved 125 = .ok (.sipush 360, 3) := by decide +kernel
theorem dL_moved_128 : decode cL_moved 128 = .ok (.iadd, 1) := by decide +kernel
theorem dL_moved_129 : decode cL_moved 129 = .ok (.sipush 360, 3) := by decide +kernel
theorem dL_moved_132 : decode cL_moved 132 = .ok (.irem, 1) := by decide +kernel
theorem dL_moved_133 : decode cL_moved 133 = .ok (.ireturn, 1) := by decide +kernel
theorem dL_isPlace_0 : decode cL_isPlace 0 = .ok (.aload_n 0, 1) := by decide +kernel
theorem dL_isPlace_1 : decode cL_isPlace 1 = .ok (.iload 4, 2) := by decide +kernel
theorem dL_isPlace_3 : decode cL_isPlace 3 = .ok (.iload 5, 2) := by decide +kernel
theorem dL_isPlace_5 : decode cL_isPlace 5 = .ok (.invokevirtual 24, 3) := by decide +kernel
theorem dL_isPlace_8 : decode cL_isPlace 8 = .ok (.istore 6, 2) := by decide +kernel
theorem dL_isPlace_10 : decode cL_isPlace 10 = .ok (.aload_n 2, 1) := by decide +kernel
theorem dL_isPlace_11 : decode cL_isPlace 11 = .ok (.aload_n 3, 1) := by decide +kernel
theorem dL_isPlace_12 : decode cL_isPlace 12 = .ok (.iload 4, 2) := by decide +kernel
theorem dL_isPlace_14 : decode cL_isPlace 14 = .ok (.iload 5, 2) := by decide +kernel
theorem dL_isPlace_16 : decode cL_isPlace 16 = .ok (.invokestatic 30, 3) := by decide +kernel
theorem dL_isPlace_19 : decode cL_isPlace 19 = .ok (.istore 7, 2) := by decide +kernel
theorem dL_isPlace_21 : decode cL_isPlace 21 = .ok (.aload_n 0, 1) := by decide +kernel
theorem dL_isPlace_22 : decode cL_isPlace 22 = .ok (.iload 4, 2) := by decide +kernel
theorem dL_isPlace_24 : decode cL_isPlace 24 = .ok (.iconst 0, 1) := by decide +kernel
theorem dL_isPlace_25 : decode cL_isPlace 25 = .ok (.invokevirtual 24, 3) := by decide +kernel
theorem dL_isPlace_28 : decode cL_isPlace 28 = .ok (.aload_n 1, 1) := by decide +kernel
theorem dL_isPlace_29 : decode cL_isPlace 29 = .ok (.iconst 4, 1) := by decide +kernel
theorem dL_isPlace_30 : decode cL_isPlace 30 = .ok (.iload 4, 2) := by decide +kernel
theorem dL_isPlace_32 : decode cL_isPlace 32 = .ok (.imul, 1) := by decide +kernel
theorem dL_isPlace_33 : decode cL_isPlace 33 = .ok (.iconst 1, 1) := by decide +kernel
theorem dL_isPlace_34 : decode cL_isPlace 34 = .ok (.iadd, 1) := by decide +kernel
theorem dL_isPlace_35 : decode cL_isPlace 35 = .ok (.iaload, 1) := by decide +kernel
theorem dL_isPlace_36 : decode cL_isPlace 36 = .ok (.if_icmp .ne 25, 3) := by decide +kernel
theorem dL_isPlace_39 : decode cL_isPlace 39 = .ok (.aload_n 0, 1) := by decide +kernel
theorem dL_isPlace_40 : decode cL_isPlace 40 = .ok (.iload 4, 2) := by decide +kernel
theorem dL_isPlace_42 : decode cL_isPlace 42 = .ok (.iconst 0, 1) := by decide +kernel
theorem dL_isPlace_43 : decode cL_isPlace 43 = .ok (.invokevirtual 33, 3) := by decide +kernel
theorem dL_isPlace_46 : decode cL_isPlace 46 = .ok (.aload_n 1, 1) := by decide +kernel
theorem dL_isPlace_47 : decode cL_isPlace 47 = .ok (.iconst 4, 1) := by decide +kernel
theorem dL_isPlace_48 : decode cL_isPlace 48 = .ok (.iload 4, 2) := by decide +kernel
theorem dL_isPlace_50 : decode cL_isPlace 50 = .ok (.imul, 1) := by decide +kernel
theorem dL_isPlace_51 : decode cL_isPlace 51 = .ok (.iconst 1, 1) := by decide +kernel
theorem dL_isPlace_52 : decode cL_isPlace 52 = .ok (.iadd, 1) := by decide +kernel
theorem dL_isPlace_53 : decode cL_isPlace 53 = .ok (.iaload, 1) := by decide +kernel
theorem dL_isPlace_54 : decode cL_isPlace 54 = .ok (.if_icmp .ne 7, 3) := by decide +kernel
theorem dL_isPlace_57 : decode cL_isPlace 57 = .ok (.iconst 1, 1) := by decide +kernel
theorem dL_isPlace_58 : decode cL_isPlace 58 = .ok (.goto 4, 3) := by decide +kernel
theorem dL_isPlace_61 : decode cL_isPlace 61 = .ok (.iconst 0, 1) := by decide +kernel
theorem dL_isPlace_62 : decode cL_isPlace 62 = .ok (.istore 8, 2) := by decide +kernel
theorem dL_isPlace_64 : decode cL_isPlace 64 = .ok (.iload 5, 2) := by decide +kernel
theorem dL_isPlace_66 : decode cL_isPlace 66 = .ok (.aload_n 0, 1) := by decide +kernel
theorem dL_isPlace_67 : decode cL_isPlace 67 = .ok (.invokevirtual 36, 3) := by decide +kernel
theorem dL_isPlace_70 : decode cL_isPlace 70 = .ok (.if_icmp .ge 58, 3) := by decide +kernel
theorem dL_isPlace_73 : decode cL_isPlace 73 = .ok (.iload 8, 2) := by decide +kernel
theorem dL_isPlace_75 : decode cL_isPlace 75 = .ok (.ifCond .eq 50, 3) := by decide +kernel
theorem dL_isPlace_78 : decode cL_isPlace 78 = .ok (.aload_n 0, 1) := by decide +kernel
theorem dL_isPlace_79 : decode cL_isPlace 79 = .ok (.iload 4, 2) := by decide +kernel
theorem dL_isPlace_81 : decode cL_isPlace 81 = .ok (.iload 5, 2) := by decide +kernel
theorem dL_isPlace_83 : decode cL_isPlace 83 = .ok (.iconst 1, 1) := by decide +kernel
theorem dL_isPlace_84 : decode cL_isPlace 84 = .ok (.iadd, 1) := by decide +kernel
theorem dL_isPlace_85 : decode cL_isPlace 85 = .ok (.invokevirtual 24, 3) := by decide +kernel
theorem dL_isPlace_88 : decode cL_isPlace 88 = .ok (.iload 7, 2) := by decide +kernel
theorem dL_isPlace_90 : decode cL_isPlace 90 = .ok (.ifCond .ge 14, 3) := by decide +kernel
theorem dL_isPlace_93 : decode cL_isPlace 93 = .ok (.aload_n 1, 1) := by decide +kernel
theorem dL_isPlace_94 : decode cL_isPlace 94 = .ok (.iconst 4, 1) := by decide +kernel
theorem dL_isPlace_95 : decode cL_isPlace 95 = .ok (.iload 4, 2) := by decide +kernel
theorem dL_isPlace_97 : decode cL_isPlace 97 = .ok (.imul, 1) := by decide +kernel
theorem dL_isPlace_98 : decode cL_isPlace 98 = .ok (.iconst 1, 1) := by decide +kernel
theorem dL_isPlace_99 : decode cL_isPlace 99 = .ok (.iadd, 1) := by decide +kernel
theorem dL_isPlace_100 : decode cL_isPlace 100 = .ok (.iaload, 1) := by decide +kernel
theorem dL_isPlace_101 : decode cL_isPlace 101 = .ok (.goto 17, 3) := by decide +kernel
theorem dL_isPlace_104 : decode cL_isPlace 104 = .ok (.aload_n 1, 1) := by decide +kernel
theorem dL_isPlace_105 : decode cL_isPlace 105 = .ok (.iload 4, 2) := by decide +kernel
theorem dL_isPlace_107 : decode cL_isPlace 107 = .ok (.iload 6, 2) := by decide +kernel
theorem dL_isPlace_109 : decode cL_isPlace 109 = .ok (.aload_n 2, 1) := by decide +kernel
theorem dL_isPlace_110 : decode cL_isPlace 110 = .ok (.iload 7, 2) := by decide +kernel
theorem dL_isPlace_112 : decode cL_isPlace 112 = .ok (.invokestatic 40, 3) := by decide +kernel
theorem dL_isPlace_115 : decode cL_isPlace 115 = .ok (.invokestatic 44, 3) := by decide +kernel
theorem dL_isPlace_118 : decode cL_isPlace 118 = .ok (.if_icmp .ne 7, 3) := by decide +kernel
theorem dL_isPlace_121 : decode cL_isPlace 121 = .ok (.iconst 1, 1) := by decide +kernel
theorem dL_isPlace_122 : decode cL_isPlace 122 = .ok (.goto 4, 3) := by decide +kernel
theorem dL_isPlace_125 : decode cL_isPlace 125 = .ok (.iconst 0, 1) := by decide +kernel
theorem dL_isPlace_126 : decode cL_isPlace 126 = .ok (.istore 8, 2) := by decide +kernel
theorem dL_isPlace_128 : decode cL_isPlace 128 = .ok (.iload 5, 2) := by decide +kernel
theorem dL_isPlace_130 : decode cL_isPlace 130 = .ok (.aload_n 3, 1) := by decide +kernel
theorem dL_isPlace_131 : decode cL_isPlace 131 = .ok (.invokestatic 16, 3) := by decide +kernel
theorem dL_isPlace_134 : decode cL_isPlace 134 = .ok (.idiv, 1) := by decide +kernel
theorem dL_isPlace_135 : decode cL_isPlace 135 = .ok (.istore 9, 2) := by decide +kernel
theorem dL_isPlace_137 : decode cL_isPlace 137 = .ok (.iload 8, 2) := by decide +kernel
theorem dL_isPlace_139 : decode cL_isPlace 139 = .ok (.ifCond .eq 53, 3) := by decide +kernel
theorem dL_isPlace_142 : decode cL_isPlace 142 = .ok (.aload_n 0, 1) := by decide +kernel
theorem dL_isPlace_143 : decode cL_isPlace 143 = .ok (.iload 4, 2) := by decide +kernel
theorem dL_isPlace_145 : decode cL_isPlace 145 = .ok (.iload 9, 2) := by decide +kernel
theorem dL_isPlace_147 : decode cL_isPlace 147 = .ok (.invokevirtual 33, 3) := by decide +kernel
theorem dL_isPlace_150 : decode cL_isPlace 150 = .ok (.aload_n 0, 1) := by decide +kernel
theorem dL_isPlace_151 : decode cL_isPlace 151 = .ok (.iload 4, 2) := by decide +kernel
theorem dL_isPlace_153 : decode cL_isPlace 153 = .ok (.iload 9, 2) := by decide +kernel
theorem dL_isPlace_155 : decode cL_isPlace 155 = .ok (.aload_n 3, 1) := by decide +kernel
theorem dL_isPlace_156 : decode cL_isPlace 156 = .ok (.invokestatic 16, 3) := by decide +kernel
theorem dL_isPlace_159 : decode cL_isPlace 159 = .ok (.imul, 1) := by decide +kernel
theorem dL_isPlace_160 : decode cL_isPlace 160 = .ok (.invokevirtual 24, 3) := by decide +kernel
theorem dL_isPlace_163 : decode cL_isPlace 163 = .ok (.if_icmp .ne 29, 3) := by decide +kernel
theorem dL_isPlace_166 : decode cL_isPlace 166 = .ok (.aload_n 0, 1) := by decide +kernel
theorem dL_isPlace_167 : decode cL_isPlace 167 = .ok (.iload 4, 2) := by decide +kernel
theorem dL_isPlace_169 : decode cL_isPlace 169 = .ok (.aload_n 3, 1) := by decide +kernel
theorem dL_isPlace_170 : decode cL_isPlace 170 = .ok (.iconst 2, 1) := by decide +kernel
theorem dL_isPlace_171 : decode cL_isPlace 171 = .ok (.iaload, 1) := by decide +kernel
theorem dL_isPlace_172 : decode cL_isPlace 172 = .ok (.invokevirtual 33, 3) := by decide +kernel
theorem dL_isPlace_175 : decode cL_isPlace 175 = .ok (.aload_n 0, 1) := by decide +kernel
theorem dL_isPlace_176 : decode cL_isPlace 176 = .ok (.iload 4, 2) := by decide +kernel
theorem dL_isPlace_178 : decode cL_isPlace 178 = .ok (.aload_n 0, 1) := by decide +kernel
theorem dL_isPlace_179 : decode cL_isPlace 179 = .ok (.invokevirtual 36, 3) := by decide +kernel
theorem dL_isPlace_182 : decode cL_isPlace 182 = .ok (.invokevirtual 24, 3) := by decide +kernel
theorem dL_isPlace_185 : decode cL_isPlace 185 = .ok (.if_icmp .ne 7, 3) := by decide +kernel
theorem dL_isPlace_188 : decode cL_isPlace 188 = .ok (.iconst 1, 1) := by decide +kernel
theorem dL_isPlace_189 : decode cL_isPlace 189 = .ok (.goto 4, 3) := by decide +kernel
theorem dL_isPlace_192 : decode cL_isPlace 192 = .ok (.iconst 0, 1) := by decide +kernel
theorem dL_isPlace_193 : decode cL_isPlace 193 = .ok (.ireturn, 1) := by decide +kernel
theorem dL_meeters_0 : decode cL_meeters 0 = .ok (.iconst 0, 1) := by decide +kernel
theorem dL_meeters_1 : decode cL_meeters 1 = .ok (.istore 4, 2) := by decide +kernel
theorem dL_meeters_3 : decode cL_meeters 3 = .ok (.iload 4, 2) := by decide +kernel
theorem dL_meeters_5 : decode cL_meeters 5 = .ok (.aload_n 2, 1) := by decide +kernel
theorem dL_meeters_6 : decode cL_meeters 6 = .ok (.iconst 0, 1) := by decide +kernel
theorem dL_meeters_7 : decode cL_meeters 7 = .ok (.iaload, 1) := by decide +kernel
theorem dL_meeters_8 : decode cL_meeters 8 = .ok (.if_icmp .ge 118, 3) := by decide +kernel
theorem dL_meeters_11 : decode cL_meeters 11 = .ok (.iload 4, 2) := by decide +kernel
theorem dL_meeters_13 : decode cL_meeters 13 = .ok (.iconst 1, 1) := by decide +kernel
theorem dL_meeters_14 : decode cL_meeters 14 = .ok (.iadd, 1) := by decide +kernel
theorem dL_meeters_15 : decode cL_meeters 15 = .ok (.istore 5, 2) := by decide +kernel
theorem dL_meeters_17 : decode cL_meeters 17 = .ok (.iload 5, 2) := by decide +kernel
theorem dL_meeters_19 : decode cL_meeters 19 = .ok (.aload_n 2, 1) := by decide +kernel
theorem dL_meeters_20 : decode cL_meeters 20 = .ok (.iconst 0, 1) := by decide +kernel
theorem dL_meeters_21 : decode cL_meeters 21 = .ok (.iaload, 1) := by decide +kernel
theorem dL_meeters_22 : decode cL_meeters 22 = .ok (.if_icmp .ge 98, 3) := by decide +kernel
theorem dL_meeters_25 : decode cL_meeters 25 = .ok (.aload_n 1, 1) := by decide +kernel
theorem dL_meeters_26 : decode cL_meeters 26 = .ok (.iconst 4, 1) := by decide +kernel
theorem dL_meeters_27 : decode cL_meeters 27 = .ok (.iload 4, 2) := by decide +kernel
theorem dL_meeters_29 : decode cL_meeters 29 = .ok (.imul, 1) := by decide +kernel
theorem dL_meeters_30 : decode cL_meeters 30 = .ok (.iaload, 1) := by decide +kernel
theorem dL_meeters_31 : decode cL_meeters 31 = .ok (.iconst 3, 1) := by decide +kernel
theorem dL_meeters_32 : decode cL_meeters 32 = .ok (.if_icmp .ge 82, 3) := by decide +kernel
theorem dL_meeters_35 : decode cL_meeters 35 = .ok (.aload_n 1, 1) := by decide +kernel
theorem dL_meeters_36 : decode cL_meeters 36 = .ok (.iconst 4, 1) := by decide +kernel
theorem dL_meeters_37 : decode cL_meeters 37 = .ok (.iload 4, 2) := by decide +kernel
theorem dL_meeters_39 : decode cL_meeters 39 = .ok (.imul, 1) := by decide +kernel
theorem dL_meeters_40 : decode cL_meeters 40 = .ok (.iaload, 1) := by decide +kernel
theorem dL_meeters_41 : decode cL_meeters 41 = .ok (.aload_n 1, 1) := by decide +kernel
theorem dL_meeters_42 : decode cL_meeters 42 = .ok (.iconst 4, 1) := by decide +kernel
theorem dL_meeters_43 : decode cL_meeters 43 = .ok (.iload 5, 2) := by decide +kernel
theorem dL_meeters_45 : decode cL_meeters 45 = .ok (.imul, 1) := by decide +kernel
theorem dL_meeters_46 : decode cL_meeters 46 = .ok (.iaload, 1) := by decide +kernel
theorem dL_meeters_47 : decode cL_meeters 47 = .ok (.if_icmp .ne 67, 3) := by decide +kernel
theorem dL_meeters_50 : decode cL_meeters 50 = .ok (.aload_n 0, 1) := by decide +kernel
theorem dL_meeters_51 : decode cL_meeters 51 = .ok (.iload 4, 2) := by decide +kernel
theorem dL_meeters_53 : decode cL_meeters 53 = .ok (.iload_n 3, 1) := by decide +kernel
theorem dL_meeters_54 : decode cL_meeters 54 = .ok (.invokevirtual 24, 3) := by decide +kernel
theorem dL_meeters_57 : decode cL_meeters 57 = .ok (.aload_n 0, 1) := by decide +kernel
theorem dL_meeters_58 : decode cL_meeters 58 = .ok (.iload 5, 2) := by decide +kernel
theorem dL_meeters_60 : decode cL_meeters 60 = .ok (.iload_n 3, 1) := by decide +kernel
theorem dL_meeters_61 : decode cL_meeters 61 = .ok (.invokevirtual 24, 3) := by decide +kernel
theorem dL_meeters_64 : decode cL_meeters 64 = .ok (.isub, 1) := by decide +kernel
theorem dL_meeters_65 : decode cL_meeters 65 = .ok (.istore 6, 2) := by decide +kernel
theorem dL_meeters_67 : decode cL_meeters 67 = .ok (.aload_n 1, 1) := by decide +kernel
theorem dL_meeters_68 : decode cL_meeters 68 = .ok (.iconst 4, 1) := by decide +kernel
theorem dL_meeters_69 : decode cL_meeters 69 = .ok (.iload 4, 2) := by decide +kernel
theorem dL_meeters_71 : decode cL_meeters 71 = .ok (.imul, 1) := by decide +kernel
theorem dL_meeters_72 : decode cL_meeters 72 = .ok (.iconst 2, 1) := by decide +kernel
theorem dL_meeters_73 : decode cL_meeters 73 = .ok (.iadd, 1) := by decide +kernel
theorem dL_meeters_74 : decode cL_meeters 74 = .ok (.iaload, 1) := by decide +kernel
theorem dL_meeters_75 : decode cL_meeters 75 = .ok (.aload_n 1, 1) := by decide +kernel
theorem dL_meeters_76 : decode cL_meeters 76 = .ok (.iconst 4, 1) := by decide +kernel
theorem dL_meeters_77 : decode cL_meeters 77 = .ok (.iload 5, 2) := by decide +kernel
theorem dL_meeters_79 : decode cL_meeters 79 = .ok (.imul, 1) := by decide +kernel
theorem dL_meeters_80 : decode cL_meeters 80 = .ok (.iconst 2, 1) := by decide +kernel
theorem dL_meeters_81 : decode cL_meeters 81 = .ok (.iadd, 1) := by decide +kernel
theorem dL_meeters_82 : decode cL_meeters 82 = .ok (.iaload, 1) := by decide +kernel
theorem dL_meeters_83 : decode cL_meeters 83 = .ok (.iadd, 1) := by decide +kernel
theorem dL_meeters_84 : decode cL_meeters 84 = .ok (.istore 7, 2) := by decide +kernel
theorem dL_meeters_86 : decode cL_meeters 86 = .ok (.iconst 2, 1) := by decide +kernel
theorem dL_meeters_87 : decode cL_meeters 87 = .ok (.iload 6, 2) := by decide +kernel
