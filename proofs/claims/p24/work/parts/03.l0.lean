theorem dL_draw_0 : decode cL_draw 0 = .ok (.iload_n 1, 1) := by decide +kernel
theorem dL_draw_1 : decode cL_draw 1 = .ok (.aload_n 0, 1) := by decide +kernel
theorem dL_draw_2 : decode cL_draw 2 = .ok (.arraylength, 1) := by decide +kernel
theorem dL_draw_3 : decode cL_draw 3 = .ok (.if_icmp .ge 9, 3) := by decide +kernel
theorem dL_draw_6 : decode cL_draw 6 = .ok (.aload_n 0, 1) := by decide +kernel
theorem dL_draw_7 : decode cL_draw 7 = .ok (.iload_n 1, 1) := by decide +kernel
theorem dL_draw_8 : decode cL_draw 8 = .ok (.iaload, 1) := by decide +kernel
theorem dL_draw_9 : decode cL_draw 9 = .ok (.goto 14, 3) := by decide +kernel
theorem dL_draw_12 : decode cL_draw 12 = .ok (.ldc 7, 2) := by decide +kernel
theorem dL_draw_14 : decode cL_draw 14 = .ok (.iload_n 1, 1) := by decide +kernel
theorem dL_draw_15 : decode cL_draw 15 = .ok (.sipush 271, 3) := by decide +kernel
theorem dL_draw_18 : decode cL_draw 18 = .ok (.iadd, 1) := by decide +kernel
theorem dL_draw_19 : decode cL_draw 19 = .ok (.imul, 1) := by decide +kernel
theorem dL_draw_20 : decode cL_draw 20 = .ok (.ldc 8, 2) := by decide +kernel
theorem dL_draw_22 : decode cL_draw 22 = .ok (.iadd, 1) := by decide +kernel
theorem dL_draw_23 : decode cL_draw 23 = .ok (.istore_n 3, 1) := by decide +kernel
theorem dL_draw_24 : decode cL_draw 24 = .ok (.iload_n 3, 1) := by decide +kernel
theorem dL_draw_25 : decode cL_draw 25 = .ok (.ldc 9, 2) := by decide +kernel
theorem dL_draw_27 : decode cL_draw 27 = .ok (.iand, 1) := by decide +kernel
theorem dL_draw_28 : decode cL_draw 28 = .ok (.iload_n 2, 1) := by decide +kernel
theorem dL_draw_29 : decode cL_draw 29 = .ok (.irem, 1) := by decide +kernel
theorem dL_draw_30 : decode cL_draw 30 = .ok (.ireturn, 1) := by decide +kernel
theorem dL_isOut_0 : decode cL_isOut 0 = .ok (.aload_n 0, 1) := by decide +kernel
theorem dL_isOut_1 : decode cL_isOut 1 = .ok (.iload_n 1, 1) := by decide +kernel
theorem dL_isOut_2 : decode cL_isOut 2 = .ok (.iaload, 1) := by decide +kernel
theorem dL_isOut_3 : decode cL_isOut 3 = .ok (.bipush 20, 2) := by decide +kernel
theorem dL_isOut_5 : decode cL_isOut 5 = .ok (.ishr, 1) := by decide +kernel
theorem dL_isOut_6 : decode cL_isOut 6 = .ok (.iconst 1, 1) := by decide +kernel
theorem dL_isOut_7 : decode cL_isOut 7 = .ok (.if_icmp .ne 7, 3) := by decide +kernel
theorem dL_isOut_10 : decode cL_isOut 10 = .ok (.iconst 1, 1) := by decide +kernel
theorem dL_isOut_11 : decode cL_isOut 11 = .ok (.goto 4, 3) := by decide +kernel
theorem dL_isOut_14 : decode cL_isOut 14 = .ok (.iconst 0, 1) := by decide +kernel
theorem dL_isOut_15 : decode cL_isOut 15 = .ok (.ireturn, 1) := by decide +kernel
theorem dL_target_0 : decode cL_target 0 = .ok (.aload_n 0, 1) := by decide +kernel
theorem dL_target_1 : decode cL_target 1 = .ok (.iload_n 1, 1) := by decide +kernel
theorem dL_target_2 : decode cL_target 2 = .ok (.iaload, 1) := by decide +kernel
theorem dL_target_3 : decode cL_target 3 = .ok (.bipush 11, 2) := by decide +kernel
theorem dL_target_5 : decode cL_target 5 = .ok (.ishr, 1) := by decide +kernel
theorem dL_target_6 : decode cL_target 6 = .ok (.sipush 511, 3) := by decide +kernel
theorem dL_target_9 : decode cL_target 9 = .ok (.iand, 1) := by decide +kernel
theorem dL_target_10 : decode cL_target 10 = .ok (.ireturn, 1) := by decide +kernel
theorem dL_length_0 : decode cL_length 0 = .ok (.aload_n 0, 1) := by decide +kernel
theorem dL_length_1 : decode cL_length 1 = .ok (.iconst 3, 1) := by decide +kernel
theorem dL_length_2 : decode cL_length 2 = .ok (.iaload, 1) := by decide +kernel
theorem dL_length_3 : decode cL_length 3 = .ok (.bipush 100, 2) := by decide +kernel
theorem dL_length_5 : decode cL_length 5 = .ok (.imul, 1) := by decide +kernel
theorem dL_length_6 : decode cL_length 6 = .ok (.aload_n 0, 1) := by decide +kernel
theorem dL_length_7 : decode cL_length 7 = .ok (.iconst 4, 1) := by decide +kernel
theorem dL_length_8 : decode cL_length 8 = .ok (.iaload, 1) := by decide +kernel
theorem dL_length_9 : decode cL_length 9 = .ok (.idiv, 1) := by decide +kernel
theorem dL_length_10 : decode cL_length 10 = .ok (.istore_n 1, 1) := by decide +kernel
theorem dL_length_11 : decode cL_length 11 = .ok (.iload_n 1, 1) := by decide +kernel
theorem dL_length_12 : decode cL_length 12 = .ok (.ifCond .ne 7, 3) := by decide +kernel
theorem dL_length_15 : decode cL_length 15 = .ok (.iconst 1, 1) := by decide +kernel
theorem dL_length_16 : decode cL_length 16 = .ok (.goto 4, 3) := by decide +kernel
theorem dL_length_19 : decode cL_length 19 = .ok (.iload_n 1, 1) := by decide +kernel
theorem dL_length_20 : decode cL_length 20 = .ok (.ireturn, 1) := by decide +kernel
theorem dL_effect_0 : decode cL_effect 0 = .ok (.iconst (-1), 1) := by decide +kernel
theorem dL_effect_1 : decode cL_effect 1 = .ok (.istore 4, 2) := by decide +kernel
theorem dL_effect_3 : decode cL_effect 3 = .ok (.iconst 0, 1) := by decide +kernel
theorem dL_effect_4 : decode cL_effect 4 = .ok (.istore 5, 2) := by decide +kernel
theorem dL_effect_6 : decode cL_effect 6 = .ok (.iload 5, 2) := by decide +kernel
theorem dL_effect_8 : decode cL_effect 8 = .ok (.aload_n 1, 1) := by decide +kernel
theorem dL_effect_9 : decode cL_effect 9 = .ok (.iconst 1, 1) := by decide +kernel
theorem dL_effect_10 : decode cL_effect 10 = .ok (.iaload, 1) := by decide +kernel
theorem dL_effect_11 : decode cL_effect 11 = .ok (.if_icmp .ge 51, 3) := by decide +kernel
theorem dL_effect_14 : decode cL_effect 14 = .ok (.aload_n 0, 1) := by decide +kernel
theorem dL_effect_15 : decode cL_effect 15 = .ok (.iload 5, 2) := by decide +kernel
theorem dL_effect_17 : decode cL_effect 17 = .ok (.invokestatic 10, 3) := by decide +kernel
theorem dL_effect_20 : decode cL_effect 20 = .ok (.ifCond .ne 32, 3) := by decide +kernel
theorem dL_effect_23 : decode cL_effect 23 = .ok (.aload_n 0, 1) := by decide +kernel
theorem dL_effect_24 : decode cL_effect 24 = .ok (.iload 5, 2) := by decide +kernel
theorem dL_effect_26 : decode cL_effect 26 = .ok (.iaload, 1) := by decide +kernel
theorem dL_effect_27 : decode cL_effect 27 = .ok (.iconst 5, 1) := by decide +kernel
theorem dL_effect_28 : decode cL_effect 28 = .ok (.ishr, 1) := by decide +kernel
theorem dL_effect_29 : decode cL_effect 29 = .ok (.bipush 7, 2) := by decide +kernel
theorem dL_effect_31 : decode cL_effect 31 = .ok (.iand, 1) := by decide +kernel
theorem dL_effect_32 : decode cL_effect 32 = .ok (.iload_n 2, 1) := by decide +kernel
theorem dL_effect_33 : decode cL_effect 33 = .ok (.if_icmp .ne 19, 3) := by decide +kernel
theorem dL_effect_36 : decode cL_effect 36 = .ok (.aload_n 0, 1) := by decide +kernel
theorem dL_effect_37 : decode cL_effect 37 = .ok (.iload 5, 2) := by decide +kernel
theorem dL_effect_39 : decode cL_effect 39 = .ok (.iaload, 1) := by decide +kernel
theorem dL_effect_40 : decode cL_effect 40 = .ok (.bipush 31, 2) := by decide +kernel
theorem dL_effect_42 : decode cL_effect 42 = .ok (.iand, 1) := by decide +kernel
theorem dL_effect_43 : decode cL_effect 43 = .ok (.iload_n 3, 1) := by decide +kernel
theorem dL_effect_44 : decode cL_effect 44 = .ok (.if_icmp .ne 8, 3) := by decide +kernel
theorem dL_effect_47 : decode cL_effect 47 = .ok (.iload 5, 2) := by decide +kernel
theorem dL_effect_49 : decode cL_effect 49 = .ok (.goto 5, 3) := by decide +kernel
theorem dL_effect_52 : decode cL_effect 52 = .ok (.iload 4, 2) := by decide +kernel
theorem dL_effect_54 : decode cL_effect 54 = .ok (.istore 4, 2) := by decide +kernel
theorem dL_effect_56 : decode cL_effect 56 = .ok (.iinc 5 1, 3) := by decide +kernel
theorem dL_effect_59 : decode cL_effect 59 = .ok (.goto (-53), 3) := by decide +kernel
theorem dL_effect_62 : decode cL_effect 62 = .ok (.iload 4, 2) := by decide +kernel
theorem dL_effect_64 : decode cL_effect 64 = .ok (.ireturn, 1) := by decide +kernel
theorem dL_by_0 : decode cL_by 0 = .ok (.iload_n 3, 1) := by decide +kernel
theorem dL_by_1 : decode cL_by 1 = .ok (.aload_n 1, 1) := by decide +kernel
theorem dL_by_2 : decode cL_by 2 = .ok (.invokestatic 16, 3) := by decide +kernel
theorem dL_by_5 : decode cL_by 5 = .ok (.idiv, 1) := by decide +kernel
theorem dL_by_6 : decode cL_by 6 = .ok (.istore 4, 2) := by decide +kernel
theorem dL_by_8 : decode cL_by 8 = .ok (.iload 4, 2) := by decide +kernel
theorem dL_by_10 : decode cL_by 10 = .ok (.aload_n 1, 1) := by decide +kernel
theorem dL_by_11 : decode cL_by 11 = .ok (.iconst 2, 1) := by decide +kernel
theorem dL_by_12 : decode cL_by 12 = .ok (.iaload, 1) := by decide +kernel
theorem dL_by_13 : decode cL_by 13 = .ok (.if_icmp .ge 8, 3) := by decide +kernel
theorem dL_by_16 : decode cL_by 16 = .ok (.iload 4, 2) := by decide +kernel
theorem dL_by_18 : decode cL_by 18 = .ok (.goto 8, 3) := by decide +kernel
theorem dL_by_21 : decode cL_by 21 = .ok (.aload_n 1, 1) := by decide +kernel
theorem dL_by_22 : decode cL_by 22 = .ok (.iconst 2, 1) := by decide +kernel
theorem dL_by_23 : decode cL_by 23 = .ok (.iaload, 1) := by decide +kernel
theorem dL_by_24 : decode cL_by 24 = .ok (.iconst 1, 1) := by decide +kernel
theorem dL_by_25 : decode cL_by 25 = .ok (.isub, 1) := by decide +kernel
theorem dL_by_26 : decode cL_by 26 = .ok (.istore 4, 2) := by decide +kernel
theorem dL_by_28 : decode cL_by 28 = .ok (.iload 4, 2) := by decide +kernel
theorem dL_by_30 : decode cL_by 30 = .ok (.ifCond .lt 21, 3) := by decide +kernel
theorem dL_by_33 : decode cL_by 33 = .ok (.aload_n 0, 1) := by decide +kernel
theorem dL_by_34 : decode cL_by 34 = .ok (.aload_n 1, 1) := by decide +kernel
theorem dL_by_35 : decode cL_by 35 = .ok (.iload_n 2, 1) := by decide +kernel
theorem dL_by_36 : decode cL_by 36 = .ok (.iload 4, 2) := by decide +kernel
theorem dL_by_38 : decode cL_by 38 = .ok (.invokestatic 20, 3) := by decide +kernel
theorem dL_by_41 : decode cL_by 41 = .ok (.iconst (-1), 1) := by decide +kernel
theorem dL_by_42 : decode cL_by 42 = .ok (.if_icmp .ne 9, 3) := by decide +kernel
theorem dL_by_45 : decode cL_by 45 = .ok (.iinc 4 (-1), 3) := by decide +kernel
theorem dL_by_48 : decode cL_by 48 = .ok (.goto (-20), 3) := by decide +kernel
theorem dL_by_51 : decode cL_by 51 = .ok (.iload 4, 2) := by decide +kernel
theorem dL_by_53 : decode cL_by 53 = .ok (.ifCond .ge 7, 3) := by decide +kernel
theorem dL_by_56 : decode cL_by 56 = .ok (.iconst (-1), 1) := by decide +kernel
theorem dL_by_57 : decode cL_by 57 = .ok (.goto 11, 3) := by decide +kernel
theorem dL_by_60 : decode cL_by 60 = .ok (.aload_n 0, 1) := by decide +kernel
theorem dL_by_61 : decode cL_by 61 = .ok (.aload_n 1, 1) := by decide +kernel
theorem dL_by_62 : decode cL_by 62 = .ok (.iload_n 2, 1) := by decide +kernel
theorem dL_by_63 : decode cL_by 63 = .ok (.iload 4, 2) := by decide +kernel
theorem dL_by_65 : decode cL_by 65 = .ok (.invokestatic 20, 3) := by decide +kernel
theorem dL_by_68 : decode cL_by 68 = .ok (.ireturn, 1) := by decide +kernel
theorem dL_moved_0 : decode cL_moved 0 = .ok (.aload_n 0, 1) := by decide +kernel
theorem dL_moved_1 : decode cL_moved 1 = .ok (.iconst 4, 1) := by decide +kernel
theorem dL_moved_2 : decode cL_moved 2 = .ok (.iload_n 1, 1) := by decide +kernel
theorem dL_moved_3 : decode cL_moved 3 = .ok (.imul, 1) := by decide +kernel
theorem dL_moved_4 : decode cL_moved 4 = .ok (.iconst 3, 1) := by decide +kernel
theorem dL_moved_5 : decode cL_moved 5 = .ok (.iadd, 1) := by decide +kernel
theorem dL_moved_6 : decode cL_moved 6 = .ok (.iaload, 1) := by decide +kernel
theorem dL_moved_7 : decode cL_moved 7 = .ok (.istore 4, 2) := by decide +kernel
theorem dL_moved_9 : decode cL_moved 9 = .ok (.aload_n 0, 1) := by decide +kernel
theorem dL_moved_10 : decode cL_moved 10 = .ok (.iconst 4, 1) := by decide +kernel
theorem dL_moved_11 : decode cL_moved 11 = .ok (.iload_n 1, 1) := by decide +kernel
theorem dL_moved_12 : decode cL_moved 12 = .ok (.imul, 1) := by decide +kernel
theorem dL_moved_13 : decode cL_moved 13 = .ok (.iaload, 1) := by decide +kernel
theorem dL_moved_14 : decode cL_moved 14 = .ok (.iconst 3, 1) := by decide +kernel
theorem dL_moved_15 : decode cL_moved 15 = .ok (.if_icmp .ge 44, 3) := by decide +kernel
theorem dL_moved_18 : decode cL_moved 18 = .ok (.iload_n 3, 1) := by decide +kernel
theorem dL_moved_19 : decode cL_moved 19 = .ok (.iload_n 2, 1) := by decide +kernel
theorem dL_moved_20 : decode cL_moved 20 = .ok (.if_icmp .le 22, 3) := by decide +kernel
theorem dL_moved_23 : decode cL_moved 23 = .ok (.iload_n 2, 1) := by decide +kernel
theorem dL_moved_24 : decode cL_moved 24 = .ok (.iload 4, 2) := by decide +kernel
theorem dL_moved_26 : decode cL_moved 26 = .ok (.iadd, 1) := by decide +kernel
theorem dL_moved_27 : decode cL_moved 27 = .ok (.iload_n 3, 1) := by decide +kernel
theorem dL_moved_28 : decode cL_moved 28 = .ok (.if_icmp .ge 10, 3) := by decide +kernel
theorem dL_moved_31 : decode cL_moved 31 = .ok (.iload_n 2, 1) := by decide +kernel
theorem dL_moved_32 : decode cL_moved 32 = .ok (.iload 4, 2) := by decide +kernel
theorem dL_moved_34 : decode cL_moved 34 = .ok (.iadd, 1) := by decide +kernel
theorem dL_moved_35 : decode cL_moved 35 = .ok (.goto 23, 3) := by decide +kernel
theorem dL_moved_38 : decode cL_moved 38 = .ok (.iload_n 3, 1) := by decide +kernel
theorem dL_moved_39 : decode cL_moved 39 = .ok (.goto 19, 3) := by decide +kernel
theorem dL_moved_42 : decode cL_moved 42 = .ok (.iload_n 2, 1) := by decide +kernel
theorem dL_moved_43 : decode cL_moved 43 = .ok (.iload 4, 2) := by decide +kernel
theorem dL_moved_45 : decode cL_moved 45 = .ok (.isub, 1) := by decide +kernel
theorem dL_moved_46 : decode cL_moved 46 = .ok (.iload_n 3, 1) := by decide +kernel
theorem dL_moved_47 : decode cL_moved 47 = .ok (.if_icmp .le 10, 3) := by decide +kernel
theorem dL_moved_50 : decode cL_moved 50 = .ok (.iload_n 2, 1) := by decide +kernel
theorem dL_moved_51 : decode cL_moved 51 = .ok (.iload 4, 2) := by decide +kernel
theorem dL_moved_53 : decode cL_moved 53 = .ok (.isub, 1) := by decide +kernel
theorem dL_moved_54 : decode cL_moved 54 = .ok (.goto 4, 3) := by decide +kernel
theorem dL_moved_57 : decode cL_moved 57 = .ok (.iload_n 3, 1) := by decide +kernel
theorem dL_moved_58 : decode cL_moved 58 = .ok (.ireturn, 1) := by decide +kernel
theorem dL_moved_59 : decode cL_moved 59 = .ok (.iload_n 3, 1) := by decide +kernel
theorem dL_moved_60 : decode cL_moved 60 = .ok (.iload_n 2, 1) := by decide +kernel
theorem dL_moved_61 : decode cL_moved 61 = .ok (.isub, 1) := by decide +kernel
theorem dL_moved_62 : decode cL_moved 62 = .ok (.sipush 360, 3) := by decide +kernel
theorem dL_moved_65 : decode cL_moved 65 = .ok (.iadd, 1) := by decide +kernel
theorem dL_moved_66 : decode cL_moved 66 = .ok (.sipush 360, 3) := by decide +kernel
theorem dL_moved_69 : decode cL_moved 69 = .ok (.irem, 1) := by decide +kernel
theorem dL_moved_70 : decode cL_moved 70 = .ok (.istore 5, 2) := by decide +kernel
theorem dL_moved_72 : decode cL_moved 72 = .ok (.sipush 360, 3) := by decide +kernel
theorem dL_moved_75 : decode cL_moved 75 = .ok (.iload 5, 2) := by decide +kernel
theorem dL_moved_77 : decode cL_moved 77 = .ok (.isub, 1) := by decide +kernel
theorem dL_moved_78 : decode cL_moved 78 = .ok (.istore 6, 2) := by decide +kernel
theorem dL_moved_80 : decode cL_moved 80 = .ok (.iload 5, 2) := by decide +kernel
theorem dL_moved_82 : decode cL_moved 82 = .ok (.sipush 180, 3) := by decide +kernel
theorem dL_moved_85 : decode cL_moved 85 = .ok (.if_icmp .gt 25, 3) := by decide +kernel
theorem dL_moved_88 : decode cL_moved 88 = .ok (.iload 5, 2) := by decide +kernel
theorem dL_moved_90 : decode cL_moved 90 = .ok (.iload 4, 2) := by decide +kernel
theorem dL_moved_92 : decode cL_moved 92 = .ok (.if_icmp .gt 7, 3) := by decide +kernel
