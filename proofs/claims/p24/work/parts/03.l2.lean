theorem dL_meeters_89 : decode cL_meeters 89 = .ok (.imul, 1) := by decide +kernel
theorem dL_meeters_90 : decode cL_meeters 90 = .ok (.iload 7, 2) := by decide +kernel
theorem dL_meeters_92 : decode cL_meeters 92 = .ok (.if_icmp .ge 22, 3) := by decide +kernel
theorem dL_meeters_95 : decode cL_meeters 95 = .ok (.bipush (-2), 2) := by decide +kernel
theorem dL_meeters_97 : decode cL_meeters 97 = .ok (.iload 6, 2) := by decide +kernel
theorem dL_meeters_99 : decode cL_meeters 99 = .ok (.imul, 1) := by decide +kernel
theorem dL_meeters_100 : decode cL_meeters 100 = .ok (.iload 7, 2) := by decide +kernel
theorem dL_meeters_102 : decode cL_meeters 102 = .ok (.if_icmp .ge 12, 3) := by decide +kernel
theorem dL_meeters_105 : decode cL_meeters 105 = .ok (.bipush 10, 2) := by decide +kernel
theorem dL_meeters_107 : decode cL_meeters 107 = .ok (.iload 4, 2) := by decide +kernel
theorem dL_meeters_109 : decode cL_meeters 109 = .ok (.imul, 1) := by decide +kernel
theorem dL_meeters_110 : decode cL_meeters 110 = .ok (.iload 5, 2) := by decide +kernel
theorem dL_meeters_112 : decode cL_meeters 112 = .ok (.iadd, 1) := by decide +kernel
theorem dL_meeters_113 : decode cL_meeters 113 = .ok (.ireturn, 1) := by decide +kernel
theorem dL_meeters_114 : decode cL_meeters 114 = .ok (.iinc 5 1, 3) := by decide +kernel
theorem dL_meeters_117 : decode cL_meeters 117 = .ok (.goto (-100), 3) := by decide +kernel
theorem dL_meeters_120 : decode cL_meeters 120 = .ok (.iinc 4 1, 3) := by decide +kernel
theorem dL_meeters_123 : decode cL_meeters 123 = .ok (.goto (-120), 3) := by decide +kernel
theorem dL_meeters_126 : decode cL_meeters 126 = .ok (.iconst (-1), 1) := by decide +kernel
theorem dL_meeters_127 : decode cL_meeters 127 = .ok (.ireturn, 1) := by decide +kernel
theorem dL_areMeetings_0 : decode cL_areMeetings 0 = .ok (.aload_n 0, 1) := by decide +kernel
theorem dL_areMeetings_1 : decode cL_areMeetings 1 = .ok (.invokevirtual 48, 3) := by decide +kernel
theorem dL_areMeetings_4 : decode cL_areMeetings 4 = .ok (.istore 4, 2) := by decide +kernel
theorem dL_areMeetings_6 : decode cL_areMeetings 6 = .ok (.iload 4, 2) := by decide +kernel
theorem dL_areMeetings_8 : decode cL_areMeetings 8 = .ok (.iconst (-1), 1) := by decide +kernel
theorem dL_areMeetings_9 : decode cL_areMeetings 9 = .ok (.if_icmp .ne 49, 3) := by decide +kernel
theorem dL_areMeetings_12 : decode cL_areMeetings 12 = .ok (.aload_n 0, 1) := by decide +kernel
theorem dL_areMeetings_13 : decode cL_areMeetings 13 = .ok (.invokevirtual 51, 3) := by decide +kernel
theorem dL_areMeetings_16 : decode cL_areMeetings 16 = .ok (.iconst (-1), 1) := by decide +kernel
theorem dL_areMeetings_17 : decode cL_areMeetings 17 = .ok (.if_icmp .ne 39, 3) := by decide +kernel
theorem dL_areMeetings_20 : decode cL_areMeetings 20 = .ok (.aload_n 0, 1) := by decide +kernel
theorem dL_areMeetings_21 : decode cL_areMeetings 21 = .ok (.aload_n 1, 1) := by decide +kernel
theorem dL_areMeetings_22 : decode cL_areMeetings 22 = .ok (.aload_n 2, 1) := by decide +kernel
theorem dL_areMeetings_23 : decode cL_areMeetings 23 = .ok (.iload_n 3, 1) := by decide +kernel
theorem dL_areMeetings_24 : decode cL_areMeetings 24 = .ok (.aload_n 0, 1) := by decide +kernel
theorem dL_areMeetings_25 : decode cL_areMeetings 25 = .ok (.invokevirtual 36, 3) := by decide +kernel
theorem dL_areMeetings_28 : decode cL_areMeetings 28 = .ok (.iconst 1, 1) := by decide +kernel
theorem dL_areMeetings_29 : decode cL_areMeetings 29 = .ok (.iadd, 1) := by decide +kernel
theorem dL_areMeetings_30 : decode cL_areMeetings 30 = .ok (.irem, 1) := by decide +kernel
theorem dL_areMeetings_31 : decode cL_areMeetings 31 = .ok (.invokestatic 54, 3) := by decide +kernel
theorem dL_areMeetings_34 : decode cL_areMeetings 34 = .ok (.iconst (-1), 1) := by decide +kernel
theorem dL_areMeetings_35 : decode cL_areMeetings 35 = .ok (.if_icmp .ne 21, 3) := by decide +kernel
theorem dL_areMeetings_38 : decode cL_areMeetings 38 = .ok (.aload_n 0, 1) := by decide +kernel
theorem dL_areMeetings_39 : decode cL_areMeetings 39 = .ok (.aload_n 1, 1) := by decide +kernel
theorem dL_areMeetings_40 : decode cL_areMeetings 40 = .ok (.aload_n 2, 1) := by decide +kernel
theorem dL_areMeetings_41 : decode cL_areMeetings 41 = .ok (.aload_n 0, 1) := by decide +kernel
theorem dL_areMeetings_42 : decode cL_areMeetings 42 = .ok (.invokevirtual 36, 3) := by decide +kernel
theorem dL_areMeetings_45 : decode cL_areMeetings 45 = .ok (.invokestatic 54, 3) := by decide +kernel
theorem dL_areMeetings_48 : decode cL_areMeetings 48 = .ok (.iconst (-1), 1) := by decide +kernel
theorem dL_areMeetings_49 : decode cL_areMeetings 49 = .ok (.if_icmp .ne 7, 3) := by decide +kernel
theorem dL_areMeetings_52 : decode cL_areMeetings 52 = .ok (.iconst 1, 1) := by decide +kernel
theorem dL_areMeetings_53 : decode cL_areMeetings 53 = .ok (.goto 4, 3) := by decide +kernel
theorem dL_areMeetings_56 : decode cL_areMeetings 56 = .ok (.iconst 0, 1) := by decide +kernel
theorem dL_areMeetings_57 : decode cL_areMeetings 57 = .ok (.ireturn, 1) := by decide +kernel
theorem dL_areMeetings_58 : decode cL_areMeetings 58 = .ok (.iload 4, 2) := by decide +kernel
theorem dL_areMeetings_60 : decode cL_areMeetings 60 = .ok (.aload_n 0, 1) := by decide +kernel
theorem dL_areMeetings_61 : decode cL_areMeetings 61 = .ok (.invokevirtual 36, 3) := by decide +kernel
theorem dL_areMeetings_64 : decode cL_areMeetings 64 = .ok (.if_icmp .gt 62, 3) := by decide +kernel
theorem dL_areMeetings_67 : decode cL_areMeetings 67 = .ok (.aload_n 0, 1) := by decide +kernel
theorem dL_areMeetings_68 : decode cL_areMeetings 68 = .ok (.invokevirtual 51, 3) := by decide +kernel
theorem dL_areMeetings_71 : decode cL_areMeetings 71 = .ok (.aload_n 0, 1) := by decide +kernel
theorem dL_areMeetings_72 : decode cL_areMeetings 72 = .ok (.aload_n 1, 1) := by decide +kernel
theorem dL_areMeetings_73 : decode cL_areMeetings 73 = .ok (.aload_n 2, 1) := by decide +kernel
theorem dL_areMeetings_74 : decode cL_areMeetings 74 = .ok (.iload 4, 2) := by decide +kernel
theorem dL_areMeetings_76 : decode cL_areMeetings 76 = .ok (.invokestatic 54, 3) := by decide +kernel
theorem dL_areMeetings_79 : decode cL_areMeetings 79 = .ok (.if_icmp .ne 47, 3) := by decide +kernel
theorem dL_areMeetings_82 : decode cL_areMeetings 82 = .ok (.aload_n 0, 1) := by decide +kernel
theorem dL_areMeetings_83 : decode cL_areMeetings 83 = .ok (.invokevirtual 51, 3) := by decide +kernel
theorem dL_areMeetings_86 : decode cL_areMeetings 86 = .ok (.ifCond .lt 40, 3) := by decide +kernel
theorem dL_areMeetings_89 : decode cL_areMeetings 89 = .ok (.iload 4, 2) := by decide +kernel
theorem dL_areMeetings_91 : decode cL_areMeetings 91 = .ok (.ifCond .eq 31, 3) := by decide +kernel
theorem dL_areMeetings_94 : decode cL_areMeetings 94 = .ok (.aload_n 0, 1) := by decide +kernel
theorem dL_areMeetings_95 : decode cL_areMeetings 95 = .ok (.aload_n 1, 1) := by decide +kernel
theorem dL_areMeetings_96 : decode cL_areMeetings 96 = .ok (.aload_n 2, 1) := by decide +kernel
theorem dL_areMeetings_97 : decode cL_areMeetings 97 = .ok (.iload 4, 2) := by decide +kernel
theorem dL_areMeetings_99 : decode cL_areMeetings 99 = .ok (.iconst 1, 1) := by decide +kernel
theorem dL_areMeetings_100 : decode cL_areMeetings 100 = .ok (.isub, 1) := by decide +kernel
theorem dL_areMeetings_101 : decode cL_areMeetings 101 = .ok (.invokestatic 54, 3) := by decide +kernel
theorem dL_areMeetings_104 : decode cL_areMeetings 104 = .ok (.iconst (-1), 1) := by decide +kernel
theorem dL_areMeetings_105 : decode cL_areMeetings 105 = .ok (.if_icmp .ne 21, 3) := by decide +kernel
theorem dL_areMeetings_108 : decode cL_areMeetings 108 = .ok (.aload_n 0, 1) := by decide +kernel
theorem dL_areMeetings_109 : decode cL_areMeetings 109 = .ok (.aload_n 1, 1) := by decide +kernel
theorem dL_areMeetings_110 : decode cL_areMeetings 110 = .ok (.aload_n 2, 1) := by decide +kernel
theorem dL_areMeetings_111 : decode cL_areMeetings 111 = .ok (.iload_n 3, 1) := by decide +kernel
theorem dL_areMeetings_112 : decode cL_areMeetings 112 = .ok (.iload 4, 2) := by decide +kernel
theorem dL_areMeetings_114 : decode cL_areMeetings 114 = .ok (.irem, 1) := by decide +kernel
theorem dL_areMeetings_115 : decode cL_areMeetings 115 = .ok (.invokestatic 54, 3) := by decide +kernel
theorem dL_areMeetings_118 : decode cL_areMeetings 118 = .ok (.iconst (-1), 1) := by decide +kernel
theorem dL_areMeetings_119 : decode cL_areMeetings 119 = .ok (.if_icmp .ne 7, 3) := by decide +kernel
theorem dL_areMeetings_122 : decode cL_areMeetings 122 = .ok (.iconst 1, 1) := by decide +kernel
theorem dL_areMeetings_123 : decode cL_areMeetings 123 = .ok (.goto 4, 3) := by decide +kernel
theorem dL_areMeetings_126 : decode cL_areMeetings 126 = .ok (.iconst 0, 1) := by decide +kernel
theorem dL_areMeetings_127 : decode cL_areMeetings 127 = .ok (.ireturn, 1) := by decide +kernel
theorem dL_worker_0 : decode cL_worker 0 = .ok (.aload_n 0, 1) := by decide +kernel
theorem dL_worker_1 : decode cL_worker 1 = .ok (.iload_n 3, 1) := by decide +kernel
theorem dL_worker_2 : decode cL_worker 2 = .ok (.iaload, 1) := by decide +kernel
theorem dL_worker_3 : decode cL_worker 3 = .ok (.bipush 8, 2) := by decide +kernel
theorem dL_worker_5 : decode cL_worker 5 = .ok (.ishr, 1) := by decide +kernel
theorem dL_worker_6 : decode cL_worker 6 = .ok (.bipush 7, 2) := by decide +kernel
theorem dL_worker_8 : decode cL_worker 8 = .ok (.iand, 1) := by decide +kernel
theorem dL_worker_9 : decode cL_worker 9 = .ok (.istore 4, 2) := by decide +kernel
theorem dL_worker_11 : decode cL_worker 11 = .ok (.iconst 0, 1) := by decide +kernel
theorem dL_worker_12 : decode cL_worker 12 = .ok (.istore 5, 2) := by decide +kernel
theorem dL_worker_14 : decode cL_worker 14 = .ok (.iload 4, 2) := by decide +kernel
theorem dL_worker_16 : decode cL_worker 16 = .ok (.ifCond .lt 46, 3) := by decide +kernel
theorem dL_worker_19 : decode cL_worker 19 = .ok (.aload_n 1, 1) := by decide +kernel
theorem dL_worker_20 : decode cL_worker 20 = .ok (.bipush 7, 2) := by decide +kernel
theorem dL_worker_22 : decode cL_worker 22 = .ok (.iaload, 1) := by decide +kernel
theorem dL_worker_23 : decode cL_worker 23 = .ok (.iload 4, 2) := by decide +kernel
theorem dL_worker_25 : decode cL_worker 25 = .ok (.ishr, 1) := by decide +kernel
theorem dL_worker_26 : decode cL_worker 26 = .ok (.iconst 1, 1) := by decide +kernel
theorem dL_worker_27 : decode cL_worker 27 = .ok (.iand, 1) := by decide +kernel
theorem dL_worker_28 : decode cL_worker 28 = .ok (.iconst 1, 1) := by decide +kernel
theorem dL_worker_29 : decode cL_worker 29 = .ok (.if_icmp .ne 33, 3) := by decide +kernel
theorem dL_worker_32 : decode cL_worker 32 = .ok (.iload 5, 2) := by decide +kernel
theorem dL_worker_34 : decode cL_worker 34 = .ok (.iload 4, 2) := by decide +kernel
theorem dL_worker_36 : decode cL_worker 36 = .ok (.ishr, 1) := by decide +kernel
theorem dL_worker_37 : decode cL_worker 37 = .ok (.iconst 1, 1) := by decide +kernel
theorem dL_worker_38 : decode cL_worker 38 = .ok (.iand, 1) := by decide +kernel
theorem dL_worker_39 : decode cL_worker 39 = .ok (.ifCond .ne 23, 3) := by decide +kernel
theorem dL_worker_42 : decode cL_worker 42 = .ok (.iload 5, 2) := by decide +kernel
theorem dL_worker_44 : decode cL_worker 44 = .ok (.iconst 1, 1) := by decide +kernel
theorem dL_worker_45 : decode cL_worker 45 = .ok (.iload 4, 2) := by decide +kernel
theorem dL_worker_47 : decode cL_worker 47 = .ok (.ishl, 1) := by decide +kernel
theorem dL_worker_48 : decode cL_worker 48 = .ok (.ior, 1) := by decide +kernel
theorem dL_worker_49 : decode cL_worker 49 = .ok (.istore 5, 2) := by decide +kernel
theorem dL_worker_51 : decode cL_worker 51 = .ok (.aload_n 2, 1) := by decide +kernel
theorem dL_worker_52 : decode cL_worker 52 = .ok (.iload 4, 2) := by decide +kernel
theorem dL_worker_54 : decode cL_worker 54 = .ok (.iaload, 1) := by decide +kernel
theorem dL_worker_55 : decode cL_worker 55 = .ok (.iconst 1, 1) := by decide +kernel
theorem dL_worker_56 : decode cL_worker 56 = .ok (.isub, 1) := by decide +kernel
theorem dL_worker_57 : decode cL_worker 57 = .ok (.istore 4, 2) := by decide +kernel
theorem dL_worker_59 : decode cL_worker 59 = .ok (.goto (-45), 3) := by decide +kernel
theorem dL_worker_62 : decode cL_worker 62 = .ok (.iload 4, 2) := by decide +kernel
theorem dL_worker_64 : decode cL_worker 64 = .ok (.ifCond .lt 16, 3) := by decide +kernel
theorem dL_worker_67 : decode cL_worker 67 = .ok (.aload_n 1, 1) := by decide +kernel
theorem dL_worker_68 : decode cL_worker 68 = .ok (.bipush 7, 2) := by decide +kernel
theorem dL_worker_70 : decode cL_worker 70 = .ok (.iaload, 1) := by decide +kernel
theorem dL_worker_71 : decode cL_worker 71 = .ok (.iload 4, 2) := by decide +kernel
theorem dL_worker_73 : decode cL_worker 73 = .ok (.ishr, 1) := by decide +kernel
theorem dL_worker_74 : decode cL_worker 74 = .ok (.iconst 1, 1) := by decide +kernel
theorem dL_worker_75 : decode cL_worker 75 = .ok (.iand, 1) := by decide +kernel
theorem dL_worker_76 : decode cL_worker 76 = .ok (.iconst 1, 1) := by decide +kernel
theorem dL_worker_77 : decode cL_worker 77 = .ok (.if_icmp .ne 7, 3) := by decide +kernel
theorem dL_worker_80 : decode cL_worker 80 = .ok (.iconst (-1), 1) := by decide +kernel
theorem dL_worker_81 : decode cL_worker 81 = .ok (.goto 5, 3) := by decide +kernel
theorem dL_worker_84 : decode cL_worker 84 = .ok (.iload 4, 2) := by decide +kernel
theorem dL_worker_86 : decode cL_worker 86 = .ok (.ireturn, 1) := by decide +kernel
theorem dL_asked_0 : decode cL_asked 0 = .ok (.aload_n 0, 1) := by decide +kernel
theorem dL_asked_1 : decode cL_asked 1 = .ok (.iload_n 1, 1) := by decide +kernel
theorem dL_asked_2 : decode cL_asked 2 = .ok (.invokevirtual 57, 3) := by decide +kernel
theorem dL_asked_5 : decode cL_asked 5 = .ok (.ireturn, 1) := by decide +kernel
theorem dL_asked_6 : decode cL_asked 6 = .ok (.astore_n 2, 1) := by decide +kernel
theorem dL_asked_7 : decode cL_asked 7 = .ok (.bipush (-7), 2) := by decide +kernel
theorem dL_asked_9 : decode cL_asked 9 = .ok (.ireturn, 1) := by decide +kernel
theorem dL_isCue_0 : decode cL_isCue 0 = .ok (.aload_n 0, 1) := by decide +kernel
theorem dL_isCue_1 : decode cL_isCue 1 = .ok (.iload 4, 2) := by decide +kernel
theorem dL_isCue_3 : decode cL_isCue 3 = .ok (.invokestatic 63, 3) := by decide +kernel
theorem dL_isCue_6 : decode cL_isCue 6 = .ok (.istore 5, 2) := by decide +kernel
theorem dL_isCue_8 : decode cL_isCue 8 = .ok (.aload_n 1, 1) := by decide +kernel
theorem dL_isCue_9 : decode cL_isCue 9 = .ok (.iload 4, 2) := by decide +kernel
theorem dL_isCue_11 : decode cL_isCue 11 = .ok (.invokestatic 10, 3) := by decide +kernel
theorem dL_isCue_14 : decode cL_isCue 14 = .ok (.ifCond .eq 16, 3) := by decide +kernel
theorem dL_isCue_17 : decode cL_isCue 17 = .ok (.iload 5, 2) := by decide +kernel
theorem dL_isCue_19 : decode cL_isCue 19 = .ok (.bipush (-7), 2) := by decide +kernel
theorem dL_isCue_21 : decode cL_isCue 21 = .ok (.if_icmp .ne 7, 3) := by decide +kernel
theorem dL_isCue_24 : decode cL_isCue 24 = .ok (.iconst 1, 1) := by decide +kernel
theorem dL_isCue_25 : decode cL_isCue 25 = .ok (.goto 4, 3) := by decide +kernel
theorem dL_isCue_28 : decode cL_isCue 28 = .ok (.iconst 0, 1) := by decide +kernel
theorem dL_isCue_29 : decode cL_isCue 29 = .ok (.ireturn, 1) := by decide +kernel
theorem dL_isCue_30 : decode cL_isCue 30 = .ok (.aload_n 1, 1) := by decide +kernel
theorem dL_isCue_31 : decode cL_isCue 31 = .ok (.iload 4, 2) := by decide +kernel
theorem dL_isCue_33 : decode cL_isCue 33 = .ok (.iaload, 1) := by decide +kernel
theorem dL_isCue_34 : decode cL_isCue 34 = .ok (.iconst 5, 1) := by decide +kernel
theorem dL_isCue_35 : decode cL_isCue 35 = .ok (.ishr, 1) := by decide +kernel
theorem dL_isCue_36 : decode cL_isCue 36 = .ok (.bipush 7, 2) := by decide +kernel
theorem dL_isCue_38 : decode cL_isCue 38 = .ok (.iand, 1) := by decide +kernel
theorem dL_isCue_39 : decode cL_isCue 39 = .ok (.istore 6, 2) := by decide +kernel
theorem dL_isCue_41 : decode cL_isCue 41 = .ok (.aload_n 1, 1) := by decide +kernel
theorem dL_isCue_42 : decode cL_isCue 42 = .ok (.iload 4, 2) := by decide +kernel
theorem dL_isCue_44 : decode cL_isCue 44 = .ok (.iaload, 1) := by decide +kernel
theorem dL_isCue_45 : decode cL_isCue 45 = .ok (.bipush 31, 2) := by decide +kernel
theorem dL_isCue_47 : decode cL_isCue 47 = .ok (.iand, 1) := by decide +kernel
theorem dL_isCue_48 : decode cL_isCue 48 = .ok (.istore 7, 2) := by decide +kernel
theorem dL_isCue_50 : decode cL_isCue 50 = .ok (.iload 7, 2) := by decide +kernel
theorem dL_isCue_52 : decode cL_isCue 52 = .ok (.aload_n 2, 1) := by decide +kernel
theorem dL_isCue_53 : decode cL_isCue 53 = .ok (.invokestatic 16, 3) := by decide +kernel
theorem dL_isCue_56 : decode cL_isCue 56 = .ok (.imul, 1) := by decide +kernel
theorem dL_isCue_57 : decode cL_isCue 57 = .ok (.istore 8, 2) := by decide +kernel
theorem dL_isCue_59 : decode cL_isCue 59 = .ok (.aload_n 0, 1) := by decide +kernel
theorem dL_isCue_60 : decode cL_isCue 60 = .ok (.iload 4, 2) := by decide +kernel
