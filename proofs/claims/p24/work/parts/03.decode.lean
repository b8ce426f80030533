theorem dX0_init_0 : decode cX0_init 0 = .ok (.aload_n 0, 1) := by decide +kernel
theorem dX0_init_1 : decode cX0_init 1 = .ok (.invokespecial 1, 3) := by decide +kernel
theorem dX0_init_4 : decode cX0_init 4 = .ok (.aload_n 0, 1) := by decide +kernel
theorem dX0_init_5 : decode cX0_init 5 = .ok (.aload_n 1, 1) := by decide +kernel
theorem dX0_init_6 : decode cX0_init 6 = .ok (.putfield 7, 3) := by decide +kernel
theorem dX0_init_9 : decode cX0_init 9 = .ok (.aload_n 0, 1) := by decide +kernel
theorem dX0_init_10 : decode cX0_init 10 = .ok (.iload_n 2, 1) := by decide +kernel
theorem dX0_init_11 : decode cX0_init 11 = .ok (.putfield 13, 3) := by decide +kernel
theorem dX0_init_14 : decode cX0_init 14 = .ok (.aload_n 0, 1) := by decide +kernel
theorem dX0_init_15 : decode cX0_init 15 = .ok (.iload_n 3, 1) := by decide +kernel
theorem dX0_init_16 : decode cX0_init 16 = .ok (.putfield 17, 3) := by decide +kernel
theorem dX0_init_19 : decode cX0_init 19 = .ok (.aload_n 0, 1) := by decide +kernel
theorem dX0_init_20 : decode cX0_init 20 = .ok (.iload 4, 2) := by decide +kernel
theorem dX0_init_22 : decode cX0_init 22 = .ok (.putfield 20, 3) := by decide +kernel
theorem dX0_init_25 : decode cX0_init 25 = .ok (.return_, 1) := by decide +kernel
theorem dX1_init_0 : decode cX1_init 0 = .ok (.aload_n 0, 1) := by decide +kernel
theorem dX1_init_1 : decode cX1_init 1 = .ok (.invokespecial 3, 3) := by decide +kernel
theorem dX1_init_4 : decode cX1_init 4 = .ok (.aload_n 0, 1) := by decide +kernel
theorem dX1_init_5 : decode cX1_init 5 = .ok (.bipush 30, 2) := by decide +kernel
theorem dX1_init_7 : decode cX1_init 7 = .ok (.anewarray 9, 3) := by decide +kernel
theorem dX1_init_10 : decode cX1_init 10 = .ok (.putfield 11, 3) := by decide +kernel
theorem dX1_init_13 : decode cX1_init 13 = .ok (.aload_n 0, 1) := by decide +kernel
theorem dX1_init_14 : decode cX1_init 14 = .ok (.iload_n 1, 1) := by decide +kernel
theorem dX1_init_15 : decode cX1_init 15 = .ok (.putfield 17, 3) := by decide +kernel
theorem dX1_init_18 : decode cX1_init 18 = .ok (.aload_n 0, 1) := by decide +kernel
theorem dX1_init_19 : decode cX1_init 19 = .ok (.iload_n 2, 1) := by decide +kernel
theorem dX1_init_20 : decode cX1_init 20 = .ok (.putfield 21, 3) := by decide +kernel
theorem dX1_init_23 : decode cX1_init 23 = .ok (.aload_n 0, 1) := by decide +kernel
theorem dX1_init_24 : decode cX1_init 24 = .ok (.iload_n 3, 1) := by decide +kernel
theorem dX1_init_25 : decode cX1_init 25 = .ok (.putfield 24, 3) := by decide +kernel
theorem dX1_init_28 : decode cX1_init 28 = .ok (.aload_n 0, 1) := by decide +kernel
theorem dX1_init_29 : decode cX1_init 29 = .ok (.iload 4, 2) := by decide +kernel
theorem dX1_init_31 : decode cX1_init 31 = .ok (.putfield 27, 3) := by decide +kernel
theorem dX1_init_34 : decode cX1_init 34 = .ok (.return_, 1) := by decide +kernel
theorem dX1_turns_0 : decode cX1_turns 0 = .ok (.aload_n 0, 1) := by decide +kernel
theorem dX1_turns_1 : decode cX1_turns 1 = .ok (.getfield 17, 3) := by decide +kernel
theorem dX1_turns_4 : decode cX1_turns 4 = .ok (.iconst (-1), 1) := by decide +kernel
theorem dX1_turns_5 : decode cX1_turns 5 = .ok (.if_icmp .ne 7, 3) := by decide +kernel
theorem dX1_turns_8 : decode cX1_turns 8 = .ok (.iconst 1, 1) := by decide +kernel
theorem dX1_turns_9 : decode cX1_turns 9 = .ok (.goto 4, 3) := by decide +kernel
theorem dX1_turns_12 : decode cX1_turns 12 = .ok (.iconst 0, 1) := by decide +kernel
theorem dX1_turns_13 : decode cX1_turns 13 = .ok (.ireturn, 1) := by decide +kernel
theorem dX1_lastPlace_0 : decode cX1_lastPlace 0 = .ok (.aload_n 0, 1) := by decide +kernel
theorem dX1_lastPlace_1 : decode cX1_lastPlace 1 = .ok (.invokevirtual 30, 3) := by decide +kernel
theorem dX1_lastPlace_4 : decode cX1_lastPlace 4 = .ok (.ifCond .eq 9, 3) := by decide +kernel
theorem dX1_lastPlace_7 : decode cX1_lastPlace 7 = .ok (.sipush 359, 3) := by decide +kernel
theorem dX1_lastPlace_10 : decode cX1_lastPlace 10 = .ok (.goto 6, 3) := by decide +kernel
theorem dX1_lastPlace_13 : decode cX1_lastPlace 13 = .ok (.sipush 200, 3) := by decide +kernel
theorem dX1_lastPlace_16 : decode cX1_lastPlace 16 = .ok (.ireturn, 1) := by decide +kernel
theorem dX1_setCueOfBar_0 : decode cX1_setCueOfBar 0 = .ok (.iload_n 1, 1) := by decide +kernel
theorem dX1_setCueOfBar_1 : decode cX1_setCueOfBar 1 = .ok (.ifCond .lt 19, 3) := by decide +kernel
theorem dX1_setCueOfBar_4 : decode cX1_setCueOfBar 4 = .ok (.iload_n 1, 1) := by decide +kernel
theorem dX1_setCueOfBar_5 : decode cX1_setCueOfBar 5 = .ok (.aload_n 0, 1) := by decide +kernel
theorem dX1_setCueOfBar_6 : decode cX1_setCueOfBar 6 = .ok (.getfield 11, 3) := by decide +kernel
theorem dX1_setCueOfBar_9 : decode cX1_setCueOfBar 9 = .ok (.arraylength, 1) := by decide +kernel
theorem dX1_setCueOfBar_10 : decode cX1_setCueOfBar 10 = .ok (.if_icmp .ge 10, 3) := by decide +kernel
theorem dX1_setCueOfBar_13 : decode cX1_setCueOfBar 13 = .ok (.aload_n 0, 1) := by decide +kernel
theorem dX1_setCueOfBar_14 : decode cX1_setCueOfBar 14 = .ok (.getfield 11, 3) := by decide +kernel
theorem dX1_setCueOfBar_17 : decode cX1_setCueOfBar 17 = .ok (.iload_n 1, 1) := by decide +kernel
theorem dX1_setCueOfBar_18 : decode cX1_setCueOfBar 18 = .ok (.aload_n 2, 1) := by decide +kernel
theorem dX1_setCueOfBar_19 : decode cX1_setCueOfBar 19 = .ok (.aastore, 1) := by decide +kernel
theorem dX1_setCueOfBar_20 : decode cX1_setCueOfBar 20 = .ok (.return_, 1) := by decide +kernel
theorem dX1_rewind_0 : decode cX1_rewind 0 = .ok (.aload_n 0, 1) := by decide +kernel
theorem dX1_rewind_1 : decode cX1_rewind 1 = .ok (.aload_n 0, 1) := by decide +kernel
theorem dX1_rewind_2 : decode cX1_rewind 2 = .ok (.getfield 21, 3) := by decide +kernel
theorem dX1_rewind_5 : decode cX1_rewind 5 = .ok (.putfield 34, 3) := by decide +kernel
theorem dX1_rewind_8 : decode cX1_rewind 8 = .ok (.aload_n 0, 1) := by decide +kernel
theorem dX1_rewind_9 : decode cX1_rewind 9 = .ok (.aconst_null, 1) := by decide +kernel
theorem dX1_rewind_10 : decode cX1_rewind 10 = .ok (.putfield 37, 3) := by decide +kernel
theorem dX1_rewind_13 : decode cX1_rewind 13 = .ok (.return_, 1) := by decide +kernel
theorem dX1_startBar_0 : decode cX1_startBar 0 = .ok (.iload_n 1, 1) := by decide +kernel
theorem dX1_startBar_1 : decode cX1_startBar 1 = .ok (.ifCond .lt 31, 3) := by decide +kernel
theorem dX1_startBar_4 : decode cX1_startBar 4 = .ok (.iload_n 1, 1) := by decide +kernel
theorem dX1_startBar_5 : decode cX1_startBar 5 = .ok (.aload_n 0, 1) := by decide +kernel
theorem dX1_startBar_6 : decode cX1_startBar 6 = .ok (.getfield 11, 3) := by decide +kernel
theorem dX1_startBar_9 : decode cX1_startBar 9 = .ok (.arraylength, 1) := by decide +kernel
theorem dX1_startBar_10 : decode cX1_startBar 10 = .ok (.if_icmp .ge 22, 3) := by decide +kernel
theorem dX1_startBar_13 : decode cX1_startBar 13 = .ok (.aload_n 0, 1) := by decide +kernel
theorem dX1_startBar_14 : decode cX1_startBar 14 = .ok (.getfield 11, 3) := by decide +kernel
theorem dX1_startBar_17 : decode cX1_startBar 17 = .ok (.iload_n 1, 1) := by decide +kernel
theorem dX1_startBar_18 : decode cX1_startBar 18 = .ok (.aaload, 1) := by decide +kernel
theorem dX1_startBar_19 : decode cX1_startBar 19 = .ok (.ifnull 13, 3) := by decide +kernel
theorem dX1_startBar_22 : decode cX1_startBar 22 = .ok (.aload_n 0, 1) := by decide +kernel
theorem dX1_startBar_23 : decode cX1_startBar 23 = .ok (.aload_n 0, 1) := by decide +kernel
theorem dX1_startBar_24 : decode cX1_startBar 24 = .ok (.getfield 11, 3) := by decide +kernel
theorem dX1_startBar_27 : decode cX1_startBar 27 = .ok (.iload_n 1, 1) := by decide +kernel
theorem dX1_startBar_28 : decode cX1_startBar 28 = .ok (.aaload, 1) := by decide +kernel
theorem dX1_startBar_29 : decode cX1_startBar 29 = .ok (.putfield 37, 3) := by decide +kernel
theorem dX1_startBar_32 : decode cX1_startBar 32 = .ok (.return_, 1) := by decide +kernel
theorem dX1_wayToTarget_0 : decode cX1_wayToTarget 0 = .ok (.aload_n 0, 1) := by decide +kernel
theorem dX1_wayToTarget_1 : decode cX1_wayToTarget 1 = .ok (.getfield 37, 3) := by decide +kernel
theorem dX1_wayToTarget_4 : decode cX1_wayToTarget 4 = .ok (.ifnonnull 5, 3) := by decide +kernel
theorem dX1_wayToTarget_7 : decode cX1_wayToTarget 7 = .ok (.iconst 0, 1) := by decide +kernel
theorem dX1_wayToTarget_8 : decode cX1_wayToTarget 8 = .ok (.ireturn, 1) := by decide +kernel
theorem dX1_wayToTarget_9 : decode cX1_wayToTarget 9 = .ok (.aload_n 0, 1) := by decide +kernel
theorem dX1_wayToTarget_10 : decode cX1_wayToTarget 10 = .ok (.getfield 37, 3) := by decide +kernel
theorem dX1_wayToTarget_13 : decode cX1_wayToTarget 13 = .ok (.getfield 41, 3) := by decide +kernel
theorem dX1_wayToTarget_16 : decode cX1_wayToTarget 16 = .ok (.aload_n 0, 1) := by decide +kernel
theorem dX1_wayToTarget_17 : decode cX1_wayToTarget 17 = .ok (.getfield 34, 3) := by decide +kernel
theorem dX1_wayToTarget_20 : decode cX1_wayToTarget 20 = .ok (.isub, 1) := by decide +kernel
theorem dX1_wayToTarget_21 : decode cX1_wayToTarget 21 = .ok (.istore_n 1, 1) := by decide +kernel
theorem dX1_wayToTarget_22 : decode cX1_wayToTarget 22 = .ok (.aload_n 0, 1) := by decide +kernel
theorem dX1_wayToTarget_23 : decode cX1_wayToTarget 23 = .ok (.invokevirtual 30, 3) := by decide +kernel
theorem dX1_wayToTarget_26 : decode cX1_wayToTarget 26 = .ok (.ifCond .ne 5, 3) := by decide +kernel
theorem dX1_wayToTarget_29 : decode cX1_wayToTarget 29 = .ok (.iload_n 1, 1) := by decide +kernel
theorem dX1_wayToTarget_30 : decode cX1_wayToTarget 30 = .ok (.ireturn, 1) := by decide +kernel
theorem dX1_wayToTarget_31 : decode cX1_wayToTarget 31 = .ok (.iload_n 1, 1) := by decide +kernel
theorem dX1_wayToTarget_32 : decode cX1_wayToTarget 32 = .ok (.sipush 360, 3) := by decide +kernel
theorem dX1_wayToTarget_35 : decode cX1_wayToTarget 35 = .ok (.invokestatic 44, 3) := by decide +kernel
theorem dX1_wayToTarget_38 : decode cX1_wayToTarget 38 = .ok (.istore_n 2, 1) := by decide +kernel
theorem dX1_wayToTarget_39 : decode cX1_wayToTarget 39 = .ok (.iconst 2, 1) := by decide +kernel
theorem dX1_wayToTarget_40 : decode cX1_wayToTarget 40 = .ok (.iload_n 2, 1) := by decide +kernel
theorem dX1_wayToTarget_41 : decode cX1_wayToTarget 41 = .ok (.imul, 1) := by decide +kernel
theorem dX1_wayToTarget_42 : decode cX1_wayToTarget 42 = .ok (.sipush 360, 3) := by decide +kernel
theorem dX1_wayToTarget_45 : decode cX1_wayToTarget 45 = .ok (.if_icmp .gt 7, 3) := by decide +kernel
theorem dX1_wayToTarget_48 : decode cX1_wayToTarget 48 = .ok (.iload_n 2, 1) := by decide +kernel
theorem dX1_wayToTarget_49 : decode cX1_wayToTarget 49 = .ok (.goto 8, 3) := by decide +kernel
theorem dX1_wayToTarget_52 : decode cX1_wayToTarget 52 = .ok (.iload_n 2, 1) := by decide +kernel
theorem dX1_wayToTarget_53 : decode cX1_wayToTarget 53 = .ok (.sipush 360, 3) := by decide +kernel
theorem dX1_wayToTarget_56 : decode cX1_wayToTarget 56 = .ok (.isub, 1) := by decide +kernel
theorem dX1_wayToTarget_57 : decode cX1_wayToTarget 57 = .ok (.ireturn, 1) := by decide +kernel
theorem dX1_ticksToTarget_0 : decode cX1_ticksToTarget 0 = .ok (.aload_n 0, 1) := by decide +kernel
theorem dX1_ticksToTarget_1 : decode cX1_ticksToTarget 1 = .ok (.getfield 27, 3) := by decide +kernel
theorem dX1_ticksToTarget_4 : decode cX1_ticksToTarget 4 = .ok (.iconst 1, 1) := by decide +kernel
theorem dX1_ticksToTarget_5 : decode cX1_ticksToTarget 5 = .ok (.if_icmp .ge 7, 3) := by decide +kernel
theorem dX1_ticksToTarget_8 : decode cX1_ticksToTarget 8 = .ok (.iconst 0, 1) := by decide +kernel
theorem dX1_ticksToTarget_9 : decode cX1_ticksToTarget 9 = .ok (.goto 22, 3) := by decide +kernel
theorem dX1_ticksToTarget_12 : decode cX1_ticksToTarget 12 = .ok (.aload_n 0, 1) := by decide +kernel
theorem dX1_ticksToTarget_13 : decode cX1_ticksToTarget 13 = .ok (.invokevirtual 50, 3) := by decide +kernel
theorem dX1_ticksToTarget_16 : decode cX1_ticksToTarget 16 = .ok (.invokestatic 54, 3) := by decide +kernel
theorem dX1_ticksToTarget_19 : decode cX1_ticksToTarget 19 = .ok (.aload_n 0, 1) := by decide +kernel
theorem dX1_ticksToTarget_20 : decode cX1_ticksToTarget 20 = .ok (.getfield 27, 3) := by decide +kernel
theorem dX1_ticksToTarget_23 : decode cX1_ticksToTarget 23 = .ok (.iadd, 1) := by decide +kernel
theorem dX1_ticksToTarget_24 : decode cX1_ticksToTarget 24 = .ok (.iconst 1, 1) := by decide +kernel
theorem dX1_ticksToTarget_25 : decode cX1_ticksToTarget 25 = .ok (.isub, 1) := by decide +kernel
theorem dX1_ticksToTarget_26 : decode cX1_ticksToTarget 26 = .ok (.aload_n 0, 1) := by decide +kernel
theorem dX1_ticksToTarget_27 : decode cX1_ticksToTarget 27 = .ok (.getfield 27, 3) := by decide +kernel
theorem dX1_ticksToTarget_30 : decode cX1_ticksToTarget 30 = .ok (.idiv, 1) := by decide +kernel
theorem dX1_ticksToTarget_31 : decode cX1_ticksToTarget 31 = .ok (.ireturn, 1) := by decide +kernel
theorem dX1_go_0 : decode cX1_go 0 = .ok (.aload_n 0, 1) := by decide +kernel
theorem dX1_go_1 : decode cX1_go 1 = .ok (.getfield 27, 3) := by decide +kernel
theorem dX1_go_4 : decode cX1_go 4 = .ok (.iload_n 1, 1) := by decide +kernel
theorem dX1_go_5 : decode cX1_go 5 = .ok (.imul, 1) := by decide +kernel
theorem dX1_go_6 : decode cX1_go 6 = .ok (.istore_n 2, 1) := by decide +kernel
theorem dX1_go_7 : decode cX1_go 7 = .ok (.iload_n 2, 1) := by decide +kernel
theorem dX1_go_8 : decode cX1_go 8 = .ok (.ineg, 1) := by decide +kernel
theorem dX1_go_9 : decode cX1_go 9 = .ok (.iload_n 2, 1) := by decide +kernel
theorem dX1_go_10 : decode cX1_go 10 = .ok (.aload_n 0, 1) := by decide +kernel
theorem dX1_go_11 : decode cX1_go 11 = .ok (.invokevirtual 50, 3) := by decide +kernel
theorem dX1_go_14 : decode cX1_go 14 = .ok (.invokestatic 58, 3) := by decide +kernel
theorem dX1_go_17 : decode cX1_go 17 = .ok (.invokestatic 61, 3) := by decide +kernel
theorem dX1_go_20 : decode cX1_go 20 = .ok (.istore_n 3, 1) := by decide +kernel
theorem dX1_go_21 : decode cX1_go 21 = .ok (.aload_n 0, 1) := by decide +kernel
theorem dX1_go_22 : decode cX1_go 22 = .ok (.dup, 1) := by decide +kernel
theorem dX1_go_23 : decode cX1_go 23 = .ok (.getfield 34, 3) := by decide +kernel
theorem dX1_go_26 : decode cX1_go 26 = .ok (.iload_n 3, 1) := by decide +kernel
theorem dX1_go_27 : decode cX1_go 27 = .ok (.iadd, 1) := by decide +kernel
theorem dX1_go_28 : decode cX1_go 28 = .ok (.putfield 34, 3) := by decide +kernel
theorem dX1_go_31 : decode cX1_go 31 = .ok (.aload_n 0, 1) := by decide +kernel
theorem dX1_go_32 : decode cX1_go 32 = .ok (.invokevirtual 30, 3) := by decide +kernel
theorem dX1_go_35 : decode cX1_go 35 = .ok (.ifCond .eq 17, 3) := by decide +kernel
theorem dX1_go_38 : decode cX1_go 38 = .ok (.aload_n 0, 1) := by decide +kernel
theorem dX1_go_39 : decode cX1_go 39 = .ok (.aload_n 0, 1) := by decide +kernel
theorem dX1_go_40 : decode cX1_go 40 = .ok (.getfield 34, 3) := by decide +kernel
theorem dX1_go_43 : decode cX1_go 43 = .ok (.sipush 360, 3) := by decide +kernel
theorem dX1_go_46 : decode cX1_go 46 = .ok (.invokestatic 44, 3) := by decide +kernel
theorem dX1_go_49 : decode cX1_go 49 = .ok (.putfield 34, 3) := by decide +kernel
theorem dX1_go_52 : decode cX1_go 52 = .ok (.iload_n 3, 1) := by decide +kernel
theorem dX1_go_53 : decode cX1_go 53 = .ok (.ifCond .eq 7, 3) := by decide +kernel
theorem dX1_go_56 : decode cX1_go 56 = .ok (.iconst 1, 1) := by decide +kernel
theorem dX1_go_57 : decode cX1_go 57 = .ok (.goto 4, 3) := by decide +kernel
theorem dX1_go_60 : decode cX1_go 60 = .ok (.iconst 0, 1) := by decide +kernel
theorem dX1_go_61 : decode cX1_go 61 = .ok (.ireturn, 1) := by decide +kernel
theorem dX1_workThroughBar_0 : decode cX1_workThroughBar 0 = .ok (.aload_n 0, 1) := by decide +kernel
theorem dX1_workThroughBar_1 : decode cX1_workThroughBar 1 = .ok (.getfield 37, 3) := by decide +kernel
theorem dX1_workThroughBar_4 : decode cX1_workThroughBar 4 = .ok (.ifnull 23, 3) := by decide +kernel
theorem dX1_workThroughBar_7 : decode cX1_workThroughBar 7 = .ok (.aload_n 0, 1) := by decide +kernel
theorem dX1_workThroughBar_8 : decode cX1_workThroughBar 8 = .ok (.getfield 37, 3) := by decide +kernel
theorem dX1_workThroughBar_11 : decode cX1_workThroughBar 11 = .ok (.dup, 1) := by decide +kernel
theorem dX1_workThroughBar_12 : decode cX1_workThroughBar 12 = .ok (.getfield 64, 3) := by decide +kernel
theorem dX1_workThroughBar_15 : decode cX1_workThroughBar 15 = .ok (.iload_n 1, 1) := by decide +kernel
theorem dX1_workThroughBar_16 : decode cX1_workThroughBar 16 = .ok (.aload_n 0, 1) := by decide +kernel
theorem dX1_workThroughBar_17 : decode cX1_workThroughBar 17 = .ok (.invokevirtual 67, 3) := by decide +kernel
theorem dX1_workThroughBar_20 : decode cX1_workThroughBar 20 = .ok (.invokestatic 58, 3) := by decide +kernel
theorem dX1_workThroughBar_23 : decode cX1_workThroughBar 23 = .ok (.iadd, 1) := by decide +kernel
theorem dX1_workThroughBar_24 : decode cX1_workThroughBar 24 = .ok (.putfield 64, 3) := by decide +kernel
theorem dX1_workThroughBar_27 : decode cX1_workThroughBar 27 = .ok (.aload_n 0, 1) := by decide +kernel
theorem dX1_workThroughBar_28 : decode cX1_workThroughBar 28 = .ok (.iload_n 1, 1) := by decide +kernel
theorem dX1_workThroughBar_29 : decode cX1_workThroughBar 29 = .ok (.invokevirtual 70, 3) := by decide +kernel
theorem dX1_workThroughBar_32 : decode cX1_workThroughBar 32 = .ok (.pop, 1) := by decide +kernel
theorem dX1_workThroughBar_33 : decode cX1_workThroughBar 33 = .ok (.return_, 1) := by decide +kernel
theorem dX1_meets_0 : decode cX1_meets 0 = .ok (.aload_n 0, 1) := by decide +kernel
theorem dX1_meets_1 : decode cX1_meets 1 = .ok (.invokevirtual 30, 3) := by decide +kernel
theorem dX1_meets_4 : decode cX1_meets 4 = .ok (.ifCond .ne 44, 3) := by decide +kernel
theorem dX1_meets_7 : decode cX1_meets 7 = .ok (.aload_n 0, 1) := by decide +kernel
theorem dX1_meets_8 : decode cX1_meets 8 = .ok (.getfield 17, 3) := by decide +kernel
theorem dX1_meets_11 : decode cX1_meets 11 = .ok (.aload_n 1, 1) := by decide +kernel
theorem dX1_meets_12 : decode cX1_meets 12 = .ok (.getfield 17, 3) := by decide +kernel
theorem dX1_meets_15 : decode cX1_meets 15 = .ok (.if_icmp .ne 33, 3) := by decide +kernel
theorem dX1_meets_18 : decode cX1_meets 18 = .ok (.iconst 2, 1) := by decide +kernel
theorem dX1_meets_19 : decode cX1_meets 19 = .ok (.aload_n 0, 1) := by decide +kernel
theorem dX1_meets_20 : decode cX1_meets 20 = .ok (.getfield 34, 3) := by decide +kernel
theorem dX1_meets_23 : decode cX1_meets 23 = .ok (.aload_n 1, 1) := by decide +kernel
theorem dX1_meets_24 : decode cX1_meets 24 = .ok (.getfield 34, 3) := by decide +kernel
theorem dX1_meets_27 : decode cX1_meets 27 = .ok (.isub, 1) := by decide +kernel
theorem dX1_meets_28 : decode cX1_meets 28 = .ok (.invokestatic 54, 3) := by decide +kernel
theorem dX1_meets_31 : decode cX1_meets 31 = .ok (.imul, 1) := by decide +kernel
theorem dX1_meets_32 : decode cX1_meets 32 = .ok (.aload_n 0, 1) := by decide +kernel
theorem dX1_meets_33 : decode cX1_meets 33 = .ok (.getfield 24, 3) := by decide +kernel
theorem dX1_meets_36 : decode cX1_meets 36 = .ok (.aload_n 1, 1) := by decide +kernel
theorem dX1_meets_37 : decode cX1_meets 37 = .ok (.getfield 24, 3) := by decide +kernel
theorem dX1_meets_40 : decode cX1_meets 40 = .ok (.iadd, 1) := by decide +kernel
theorem dX1_meets_41 : decode cX1_meets 41 = .ok (.if_icmp .ge 7, 3) := by decide +kernel
theorem dX1_meets_44 : decode cX1_meets 44 = .ok (.iconst 1, 1) := by decide +kernel
theorem dX1_meets_45 : decode cX1_meets 45 = .ok (.goto 4, 3) := by decide +kernel
theorem dX1_meets_48 : decode cX1_meets 48 = .ok (.iconst 0, 1) := by decide +kernel
theorem dX1_meets_49 : decode cX1_meets 49 = .ok (.ireturn, 1) := by decide +kernel
theorem dX2_init_0 : decode cX2_init 0 = .ok (.aload_n 0, 1) := by decide +kernel
theorem dX2_init_1 : decode cX2_init 1 = .ok (.invokespecial 1, 3) := by decide +kernel
theorem dX2_init_4 : decode cX2_init 4 = .ok (.aload_n 0, 1) := by decide +kernel
theorem dX2_init_5 : decode cX2_init 5 = .ok (.new 7, 3) := by decide +kernel
theorem dX2_init_8 : decode cX2_init 8 = .ok (.dup, 1) := by decide +kernel
theorem dX2_init_9 : decode cX2_init 9 = .ok (.invokespecial 9, 3) := by decide +kernel
theorem dX2_init_12 : decode cX2_init 12 = .ok (.putfield 10, 3) := by decide +kernel
theorem dX2_init_15 : decode cX2_init 15 = .ok (.aload_n 0, 1) := by decide +kernel
theorem dX2_init_16 : decode cX2_init 16 = .ok (.new 7, 3) := by decide +kernel
theorem dX2_init_19 : decode cX2_init 19 = .ok (.dup, 1) := by decide +kernel
theorem dX2_init_20 : decode cX2_init 20 = .ok (.invokespecial 9, 3) := by decide +kernel
theorem dX2_init_23 : decode cX2_init 23 = .ok (.putfield 16, 3) := by decide +kernel
theorem dX2_init_26 : decode cX2_init 26 = .ok (.aload_n 0, 1) := by decide +kernel
theorem dX2_init_27 : decode cX2_init 27 = .ok (.new 7, 3) := by decide +kernel
theorem dX2_init_30 : decode cX2_init 30 = .ok (.dup, 1) := by decide +kernel
theorem dX2_init_31 : decode cX2_init 31 = .ok (.invokespecial 9, 3) := by decide +kernel
theorem dX2_init_34 : decode cX2_init 34 = .ok (.putfield 19, 3) := by decide +kernel
theorem dX2_init_37 : decode cX2_init 37 = .ok (.aload_n 0, 1) := by decide +kernel
theorem dX2_init_38 : decode cX2_init 38 = .ok (.bipush 6, 2) := by decide +kernel
theorem dX2_init_40 : decode cX2_init 40 = .ok (.newarray .boolean, 2) := by decide +kernel
theorem dX2_init_42 : decode cX2_init 42 = .ok (.putfield 22, 3) := by decide +kernel
theorem dX2_init_45 : decode cX2_init 45 = .ok (.aload_n 0, 1) := by decide +kernel
theorem dX2_init_46 : decode cX2_init 46 = .ok (.bipush 6, 2) := by decide +kernel
theorem dX2_init_48 : decode cX2_init 48 = .ok (.newarray .int, 2) := by decide +kernel
theorem dX2_init_50 : decode cX2_init 50 = .ok (.putfield 26, 3) := by decide +kernel
theorem dX2_init_53 : decode cX2_init 53 = .ok (.aload_n 0, 1) := by decide +kernel
theorem dX2_init_54 : decode cX2_init 54 = .ok (.bipush 16, 2) := by decide +kernel
theorem dX2_init_56 : decode cX2_init 56 = .ok (.putfield 30, 3) := by decide +kernel
theorem dX2_init_59 : decode cX2_init 59 = .ok (.aload_n 0, 1) := by decide +kernel
theorem dX2_init_60 : decode cX2_init 60 = .ok (.bipush 20, 2) := by decide +kernel
theorem dX2_init_62 : decode cX2_init 62 = .ok (.putfield 34, 3) := by decide +kernel
theorem dX2_init_65 : decode cX2_init 65 = .ok (.aload_n 0, 1) := by decide +kernel
theorem dX2_init_66 : decode cX2_init 66 = .ok (.bipush 100, 2) := by decide +kernel
theorem dX2_init_68 : decode cX2_init 68 = .ok (.putfield 37, 3) := by decide +kernel
theorem dX2_init_71 : decode cX2_init 71 = .ok (.aload_n 0, 1) := by decide +kernel
theorem dX2_init_72 : decode cX2_init 72 = .ok (.iconst 5, 1) := by decide +kernel
theorem dX2_init_73 : decode cX2_init 73 = .ok (.putfield 40, 3) := by decide +kernel
theorem dX2_init_76 : decode cX2_init 76 = .ok (.aload_n 0, 1) := by decide +kernel
theorem dX2_init_77 : decode cX2_init 77 = .ok (.sipush 400, 3) := by decide +kernel
theorem dX2_init_80 : decode cX2_init 80 = .ok (.putfield 43, 3) := by decide +kernel
theorem dX2_init_83 : decode cX2_init 83 = .ok (.iconst 0, 1) := by decide +kernel
theorem dX2_init_84 : decode cX2_init 84 = .ok (.istore_n 1, 1) := by decide +kernel
theorem dX2_init_85 : decode cX2_init 85 = .ok (.iload_n 1, 1) := by decide +kernel
theorem dX2_init_86 : decode cX2_init 86 = .ok (.bipush 6, 2) := by decide +kernel
theorem dX2_init_88 : decode cX2_init 88 = .ok (.if_icmp .ge 16, 3) := by decide +kernel
theorem dX2_init_91 : decode cX2_init 91 = .ok (.aload_n 0, 1) := by decide +kernel
theorem dX2_init_92 : decode cX2_init 92 = .ok (.getfield 26, 3) := by decide +kernel
theorem dX2_init_95 : decode cX2_init 95 = .ok (.iload_n 1, 1) := by decide +kernel
theorem dX2_init_96 : decode cX2_init 96 = .ok (.iconst (-1), 1) := by decide +kernel
theorem dX2_init_97 : decode cX2_init 97 = .ok (.iastore, 1) := by decide +kernel
theorem dX2_init_98 : decode cX2_init 98 = .ok (.iinc 1 1, 3) := by decide +kernel
theorem dX2_init_101 : decode cX2_init 101 = .ok (.goto (-16), 3) := by decide +kernel
theorem dX2_init_104 : decode cX2_init 104 = .ok (.return_, 1) := by decide +kernel
theorem dX2_wagon_0 : decode cX2_wagon 0 = .ok (.iload_n 1, 1) := by decide +kernel
theorem dX2_wagon_1 : decode cX2_wagon 1 = .ok (.iconst 0, 1) := by decide +kernel
theorem dX2_wagon_2 : decode cX2_wagon 2 = .ok (.iconst 2, 1) := by decide +kernel
theorem dX2_wagon_3 : decode cX2_wagon 3 = .ok (.invokestatic 46, 3) := by decide +kernel
theorem dX2_wagon_6 : decode cX2_wagon 6 = .ok (.ifCond .eq 39, 3) := by decide +kernel
theorem dX2_wagon_9 : decode cX2_wagon 9 = .ok (.iload_n 2, 1) := by decide +kernel
theorem dX2_wagon_10 : decode cX2_wagon 10 = .ok (.iconst 0, 1) := by decide +kernel
theorem dX2_wagon_11 : decode cX2_wagon 11 = .ok (.sipush 200, 3) := by decide +kernel
theorem dX2_wagon_14 : decode cX2_wagon 14 = .ok (.invokestatic 46, 3) := by decide +kernel
theorem dX2_wagon_17 : decode cX2_wagon 17 = .ok (.ifCond .eq 28, 3) := by decide +kernel
theorem dX2_wagon_20 : decode cX2_wagon 20 = .ok (.iload_n 3, 1) := by decide +kernel
theorem dX2_wagon_21 : decode cX2_wagon 21 = .ok (.iconst 1, 1) := by decide +kernel
theorem dX2_wagon_22 : decode cX2_wagon 22 = .ok (.bipush 20, 2) := by decide +kernel
theorem dX2_wagon_24 : decode cX2_wagon 24 = .ok (.invokestatic 46, 3) := by decide +kernel
theorem dX2_wagon_27 : decode cX2_wagon 27 = .ok (.ifCond .eq 18, 3) := by decide +kernel
theorem dX2_wagon_30 : decode cX2_wagon 30 = .ok (.iload 4, 2) := by decide +kernel
theorem dX2_wagon_32 : decode cX2_wagon 32 = .ok (.iconst 1, 1) := by decide +kernel
theorem dX2_wagon_33 : decode cX2_wagon 33 = .ok (.bipush 10, 2) := by decide +kernel
theorem dX2_wagon_35 : decode cX2_wagon 35 = .ok (.invokestatic 46, 3) := by decide +kernel
theorem dX2_wagon_38 : decode cX2_wagon 38 = .ok (.ifCond .eq 7, 3) := by decide +kernel
theorem dX2_wagon_41 : decode cX2_wagon 41 = .ok (.iconst 1, 1) := by decide +kernel
theorem dX2_wagon_42 : decode cX2_wagon 42 = .ok (.goto 4, 3) := by decide +kernel
theorem dX2_wagon_45 : decode cX2_wagon 45 = .ok (.iconst 0, 1) := by decide +kernel
theorem dX2_wagon_46 : decode cX2_wagon 46 = .ok (.invokestatic 50, 3) := by decide +kernel
theorem dX2_wagon_49 : decode cX2_wagon 49 = .ok (.aload_n 0, 1) := by decide +kernel
theorem dX2_wagon_50 : decode cX2_wagon 50 = .ok (.invokevirtual 54, 3) := by decide +kernel
theorem dX2_wagon_53 : decode cX2_wagon 53 = .ok (.aload_n 0, 1) := by decide +kernel
theorem dX2_wagon_54 : decode cX2_wagon 54 = .ok (.new 57, 3) := by decide +kernel
theorem dX2_wagon_57 : decode cX2_wagon 57 = .ok (.dup, 1) := by decide +kernel
theorem dX2_wagon_58 : decode cX2_wagon 58 = .ok (.iload_n 1, 1) := by decide +kernel
theorem dX2_wagon_59 : decode cX2_wagon 59 = .ok (.iload_n 2, 1) := by decide +kernel
theorem dX2_wagon_60 : decode cX2_wagon 60 = .ok (.iload_n 3, 1) := by decide +kernel
theorem dX2_wagon_61 : decode cX2_wagon 61 = .ok (.iload 4, 2) := by decide +kernel
theorem dX2_wagon_63 : decode cX2_wagon 63 = .ok (.invokespecial 59, 3) := by decide +kernel
theorem dX2_wagon_66 : decode cX2_wagon 66 = .ok (.invokevirtual 62, 3) := by decide +kernel
theorem dX2_wagon_69 : decode cX2_wagon 69 = .ok (.ireturn, 1) := by decide +kernel
theorem dX2_turntable_0 : decode cX2_turntable 0 = .ok (.iload_n 1, 1) := by decide +kernel
theorem dX2_turntable_1 : decode cX2_turntable 1 = .ok (.iconst 0, 1) := by decide +kernel
theorem dX2_turntable_2 : decode cX2_turntable 2 = .ok (.sipush 359, 3) := by decide +kernel
theorem dX2_turntable_5 : decode cX2_turntable 5 = .ok (.invokestatic 46, 3) := by decide +kernel
theorem dX2_turntable_8 : decode cX2_turntable 8 = .ok (.ifCond .eq 17, 3) := by decide +kernel
theorem dX2_turntable_11 : decode cX2_turntable 11 = .ok (.iload_n 2, 1) := by decide +kernel
theorem dX2_turntable_12 : decode cX2_turntable 12 = .ok (.iconst 1, 1) := by decide +kernel
theorem dX2_turntable_13 : decode cX2_turntable 13 = .ok (.bipush 10, 2) := by decide +kernel
theorem dX2_turntable_15 : decode cX2_turntable 15 = .ok (.invokestatic 46, 3) := by decide +kernel
theorem dX2_turntable_18 : decode cX2_turntable 18 = .ok (.ifCond .eq 7, 3) := by decide +kernel
theorem dX2_turntable_21 : decode cX2_turntable 21 = .ok (.iconst 1, 1) := by decide +kernel
theorem dX2_turntable_22 : decode cX2_turntable 22 = .ok (.goto 4, 3) := by decide +kernel
theorem dX2_turntable_25 : decode cX2_turntable 25 = .ok (.iconst 0, 1) := by decide +kernel
theorem dX2_turntable_26 : decode cX2_turntable 26 = .ok (.invokestatic 50, 3) := by decide +kernel
theorem dX2_turntable_29 : decode cX2_turntable 29 = .ok (.aload_n 0, 1) := by decide +kernel
theorem dX2_turntable_30 : decode cX2_turntable 30 = .ok (.invokevirtual 54, 3) := by decide +kernel
theorem dX2_turntable_33 : decode cX2_turntable 33 = .ok (.aload_n 0, 1) := by decide +kernel
theorem dX2_turntable_34 : decode cX2_turntable 34 = .ok (.new 57, 3) := by decide +kernel
theorem dX2_turntable_37 : decode cX2_turntable 37 = .ok (.dup, 1) := by decide +kernel
theorem dX2_turntable_38 : decode cX2_turntable 38 = .ok (.iconst (-1), 1) := by decide +kernel
theorem dX2_turntable_39 : decode cX2_turntable 39 = .ok (.iload_n 1, 1) := by decide +kernel
theorem dX2_turntable_40 : decode cX2_turntable 40 = .ok (.iconst 0, 1) := by decide +kernel
theorem dX2_turntable_41 : decode cX2_turntable 41 = .ok (.iload_n 2, 1) := by decide +kernel
theorem dX2_turntable_42 : decode cX2_turntable 42 = .ok (.invokespecial 59, 3) := by decide +kernel
theorem dX2_turntable_45 : decode cX2_turntable 45 = .ok (.invokevirtual 62, 3) := by decide +kernel
theorem dX2_turntable_48 : decode cX2_turntable 48 = .ok (.ireturn, 1) := by decide +kernel
theorem dX2_setScore_0 : decode cX2_setScore 0 = .ok (.iload_n 1, 1) := by decide +kernel
theorem dX2_setScore_1 : decode cX2_setScore 1 = .ok (.iconst 1, 1) := by decide +kernel
theorem dX2_setScore_2 : decode cX2_setScore 2 = .ok (.bipush 30, 2) := by decide +kernel
theorem dX2_setScore_4 : decode cX2_setScore 4 = .ok (.invokestatic 46, 3) := by decide +kernel
theorem dX2_setScore_7 : decode cX2_setScore 7 = .ok (.ifCond .eq 17, 3) := by decide +kernel
theorem dX2_setScore_10 : decode cX2_setScore 10 = .ok (.iload_n 2, 1) := by decide +kernel
theorem dX2_setScore_11 : decode cX2_setScore 11 = .ok (.iconst 1, 1) := by decide +kernel
theorem dX2_setScore_12 : decode cX2_setScore 12 = .ok (.bipush 40, 2) := by decide +kernel
theorem dX2_setScore_14 : decode cX2_setScore 14 = .ok (.invokestatic 46, 3) := by decide +kernel
theorem dX2_setScore_17 : decode cX2_setScore 17 = .ok (.ifCond .eq 7, 3) := by decide +kernel
theorem dX2_setScore_20 : decode cX2_setScore 20 = .ok (.iconst 1, 1) := by decide +kernel
theorem dX2_setScore_21 : decode cX2_setScore 21 = .ok (.goto 4, 3) := by decide +kernel
theorem dX2_setScore_24 : decode cX2_setScore 24 = .ok (.iconst 0, 1) := by decide +kernel
theorem dX2_setScore_25 : decode cX2_setScore 25 = .ok (.invokestatic 50, 3) := by decide +kernel
theorem dX2_setScore_28 : decode cX2_setScore 28 = .ok (.iconst 0, 1) := by decide +kernel
theorem dX2_setScore_29 : decode cX2_setScore 29 = .ok (.istore_n 3, 1) := by decide +kernel
theorem dX2_setScore_30 : decode cX2_setScore 30 = .ok (.iload_n 3, 1) := by decide +kernel
theorem dX2_setScore_31 : decode cX2_setScore 31 = .ok (.aload_n 0, 1) := by decide +kernel
theorem dX2_setScore_32 : decode cX2_setScore 32 = .ok (.getfield 16, 3) := by decide +kernel
theorem dX2_setScore_35 : decode cX2_setScore 35 = .ok (.invokevirtual 66, 3) := by decide +kernel
theorem dX2_setScore_38 : decode cX2_setScore 38 = .ok (.if_icmp .ge 49, 3) := by decide +kernel
theorem dX2_setScore_41 : decode cX2_setScore 41 = .ok (.aload_n 0, 1) := by decide +kernel
theorem dX2_setScore_42 : decode cX2_setScore 42 = .ok (.getfield 16, 3) := by decide +kernel
theorem dX2_setScore_45 : decode cX2_setScore 45 = .ok (.iload_n 3, 1) := by decide +kernel
theorem dX2_setScore_46 : decode cX2_setScore 46 = .ok (.invokevirtual 70, 3) := by decide +kernel
theorem dX2_setScore_49 : decode cX2_setScore 49 = .ok (.checkcast 74, 3) := by decide +kernel
theorem dX2_setScore_52 : decode cX2_setScore 52 = .ok (.astore 4, 2) := by decide +kernel
theorem dX2_setScore_54 : decode cX2_setScore 54 = .ok (.aload 4, 2) := by decide +kernel
theorem dX2_setScore_56 : decode cX2_setScore 56 = .ok (.getfield 76, 3) := by decide +kernel
theorem dX2_setScore_59 : decode cX2_setScore 59 = .ok (.ifCond .ne 22, 3) := by decide +kernel
theorem dX2_setScore_62 : decode cX2_setScore 62 = .ok (.aload 4, 2) := by decide +kernel
theorem dX2_setScore_64 : decode cX2_setScore 64 = .ok (.getfield 80, 3) := by decide +kernel
theorem dX2_setScore_67 : decode cX2_setScore 67 = .ok (.iload_n 1, 1) := by decide +kernel
theorem dX2_setScore_68 : decode cX2_setScore 68 = .ok (.if_icmp .lt 13, 3) := by decide +kernel
theorem dX2_setScore_71 : decode cX2_setScore 71 = .ok (.new 83, 3) := by decide +kernel
theorem dX2_setScore_74 : decode cX2_setScore 74 = .ok (.dup, 1) := by decide +kernel
theorem dX2_setScore_75 : decode cX2_setScore 75 = .ok (.ldc 85, 2) := by decide +kernel
theorem dX2_setScore_77 : decode cX2_setScore 77 = .ok (.invokespecial 87, 3) := by decide +kernel
theorem dX2_setScore_80 : decode cX2_setScore 80 = .ok (.athrow, 1) := by decide +kernel
theorem dX2_setScore_81 : decode cX2_setScore 81 = .ok (.iinc 3 1, 3) := by decide +kernel
theorem dX2_setScore_84 : decode cX2_setScore 84 = .ok (.goto (-54), 3) := by decide +kernel
theorem dX2_setScore_87 : decode cX2_setScore 87 = .ok (.aload_n 0, 1) := by decide +kernel
theorem dX2_setScore_88 : decode cX2_setScore 88 = .ok (.iload_n 1, 1) := by decide +kernel
theorem dX2_setScore_89 : decode cX2_setScore 89 = .ok (.putfield 30, 3) := by decide +kernel
theorem dX2_setScore_92 : decode cX2_setScore 92 = .ok (.aload_n 0, 1) := by decide +kernel
theorem dX2_setScore_93 : decode cX2_setScore 93 = .ok (.iload_n 2, 1) := by decide +kernel
theorem dX2_setScore_94 : decode cX2_setScore 94 = .ok (.putfield 34, 3) := by decide +kernel
theorem dX2_setScore_97 : decode cX2_setScore 97 = .ok (.return_, 1) := by decide +kernel
theorem dX2_cue_0 : decode cX2_cue 0 = .ok (.aload_n 0, 1) := by decide +kernel
theorem dX2_cue_1 : decode cX2_cue 1 = .ok (.iload_n 1, 1) := by decide +kernel
theorem dX2_cue_2 : decode cX2_cue 2 = .ok (.invokevirtual 90, 3) := by decide +kernel
theorem dX2_cue_5 : decode cX2_cue 5 = .ok (.astore 5, 2) := by decide +kernel
theorem dX2_cue_7 : decode cX2_cue 7 = .ok (.iload_n 2, 1) := by decide +kernel
theorem dX2_cue_8 : decode cX2_cue 8 = .ok (.iconst 0, 1) := by decide +kernel
theorem dX2_cue_9 : decode cX2_cue 9 = .ok (.aload_n 0, 1) := by decide +kernel
theorem dX2_cue_10 : decode cX2_cue 10 = .ok (.getfield 30, 3) := by decide +kernel
theorem dX2_cue_13 : decode cX2_cue 13 = .ok (.iconst 1, 1) := by decide +kernel
theorem dX2_cue_14 : decode cX2_cue 14 = .ok (.isub, 1) := by decide +kernel
theorem dX2_cue_15 : decode cX2_cue 15 = .ok (.invokestatic 46, 3) := by decide +kernel
theorem dX2_cue_18 : decode cX2_cue 18 = .ok (.ifCond .eq 28, 3) := by decide +kernel
theorem dX2_cue_21 : decode cX2_cue 21 = .ok (.iload_n 3, 1) := by decide +kernel
theorem dX2_cue_22 : decode cX2_cue 22 = .ok (.iconst 0, 1) := by decide +kernel
theorem dX2_cue_23 : decode cX2_cue 23 = .ok (.aload 5, 2) := by decide +kernel
theorem dX2_cue_25 : decode cX2_cue 25 = .ok (.invokevirtual 94, 3) := by decide +kernel
theorem dX2_cue_28 : decode cX2_cue 28 = .ok (.invokestatic 46, 3) := by decide +kernel
theorem dX2_cue_31 : decode cX2_cue 31 = .ok (.ifCond .eq 15, 3) := by decide +kernel
theorem dX2_cue_34 : decode cX2_cue 34 = .ok (.iload 4, 2) := by decide +kernel
theorem dX2_cue_36 : decode cX2_cue 36 = .ok (.invokestatic 97, 3) := by decide +kernel
theorem dX2_cue_39 : decode cX2_cue 39 = .ok (.ifCond .eq 7, 3) := by decide +kernel
theorem dX2_cue_42 : decode cX2_cue 42 = .ok (.iconst 1, 1) := by decide +kernel
theorem dX2_cue_43 : decode cX2_cue 43 = .ok (.goto 4, 3) := by decide +kernel
theorem dX2_cue_46 : decode cX2_cue 46 = .ok (.iconst 0, 1) := by decide +kernel
theorem dX2_cue_47 : decode cX2_cue 47 = .ok (.invokestatic 50, 3) := by decide +kernel
theorem dX2_cue_50 : decode cX2_cue 50 = .ok (.aload_n 0, 1) := by decide +kernel
theorem dX2_cue_51 : decode cX2_cue 51 = .ok (.getfield 16, 3) := by decide +kernel
theorem dX2_cue_54 : decode cX2_cue 54 = .ok (.invokevirtual 66, 3) := by decide +kernel
theorem dX2_cue_57 : decode cX2_cue 57 = .ok (.bipush 24, 2) := by decide +kernel
theorem dX2_cue_59 : decode cX2_cue 59 = .ok (.if_icmp .lt 13, 3) := by decide +kernel
theorem dX2_cue_62 : decode cX2_cue 62 = .ok (.new 83, 3) := by decide +kernel
theorem dX2_cue_65 : decode cX2_cue 65 = .ok (.dup, 1) := by decide +kernel
theorem dX2_cue_66 : decode cX2_cue 66 = .ok (.ldc 101, 2) := by decide +kernel
theorem dX2_cue_68 : decode cX2_cue 68 = .ok (.invokespecial 87, 3) := by decide +kernel
theorem dX2_cue_71 : decode cX2_cue 71 = .ok (.athrow, 1) := by decide +kernel
theorem dX2_cue_72 : decode cX2_cue 72 = .ok (.new 74, 3) := by decide +kernel
theorem dX2_cue_75 : decode cX2_cue 75 = .ok (.dup, 1) := by decide +kernel
theorem dX2_cue_76 : decode cX2_cue 76 = .ok (.aload 5, 2) := by decide +kernel
theorem dX2_cue_78 : decode cX2_cue 78 = .ok (.iload_n 2, 1) := by decide +kernel
theorem dX2_cue_79 : decode cX2_cue 79 = .ok (.iload_n 3, 1) := by decide +kernel
theorem dX2_cue_80 : decode cX2_cue 80 = .ok (.iload 4, 2) := by decide +kernel
theorem dX2_cue_82 : decode cX2_cue 82 = .ok (.invokespecial 103, 3) := by decide +kernel
theorem dX2_cue_85 : decode cX2_cue 85 = .ok (.astore 6, 2) := by decide +kernel
theorem dX2_cue_87 : decode cX2_cue 87 = .ok (.aload_n 0, 1) := by decide +kernel
theorem dX2_cue_88 : decode cX2_cue 88 = .ok (.getfield 16, 3) := by decide +kernel
theorem dX2_cue_91 : decode cX2_cue 91 = .ok (.aload 6, 2) := by decide +kernel
theorem dX2_cue_93 : decode cX2_cue 93 = .ok (.invokevirtual 106, 3) := by decide +kernel
theorem dX2_cue_96 : decode cX2_cue 96 = .ok (.pop, 1) := by decide +kernel
theorem dX2_cue_97 : decode cX2_cue 97 = .ok (.aload_n 0, 1) := by decide +kernel
theorem dX2_cue_98 : decode cX2_cue 98 = .ok (.aload 6, 2) := by decide +kernel
theorem dX2_cue_100 : decode cX2_cue 100 = .ok (.invokevirtual 109, 3) := by decide +kernel
theorem dX2_cue_103 : decode cX2_cue 103 = .ok (.aload 5, 2) := by decide +kernel
theorem dX2_cue_105 : decode cX2_cue 105 = .ok (.iload_n 2, 1) := by decide +kernel
theorem dX2_cue_106 : decode cX2_cue 106 = .ok (.aload 6, 2) := by decide +kernel
theorem dX2_cue_108 : decode cX2_cue 108 = .ok (.invokevirtual 113, 3) := by decide +kernel
theorem dX2_cue_111 : decode cX2_cue 111 = .ok (.aload_n 0, 1) := by decide +kernel
theorem dX2_cue_112 : decode cX2_cue 112 = .ok (.getfield 16, 3) := by decide +kernel
theorem dX2_cue_115 : decode cX2_cue 115 = .ok (.invokevirtual 66, 3) := by decide +kernel
theorem dX2_cue_118 : decode cX2_cue 118 = .ok (.iconst 1, 1) := by decide +kernel
theorem dX2_cue_119 : decode cX2_cue 119 = .ok (.isub, 1) := by decide +kernel
theorem dX2_cue_120 : decode cX2_cue 120 = .ok (.ireturn, 1) := by decide +kernel
theorem dX2_strikeOut_0 : decode cX2_strikeOut 0 = .ok (.aload_n 0, 1) := by decide +kernel
theorem dX2_strikeOut_1 : decode cX2_strikeOut 1 = .ok (.iload_n 1, 1) := by decide +kernel
theorem dX2_strikeOut_2 : decode cX2_strikeOut 2 = .ok (.invokevirtual 117, 3) := by decide +kernel
theorem dX2_strikeOut_5 : decode cX2_strikeOut 5 = .ok (.astore_n 2, 1) := by decide +kernel
theorem dX2_strikeOut_6 : decode cX2_strikeOut 6 = .ok (.aload_n 2, 1) := by decide +kernel
theorem dX2_strikeOut_7 : decode cX2_strikeOut 7 = .ok (.iconst 1, 1) := by decide +kernel
theorem dX2_strikeOut_8 : decode cX2_strikeOut 8 = .ok (.putfield 76, 3) := by decide +kernel
theorem dX2_strikeOut_11 : decode cX2_strikeOut 11 = .ok (.aload_n 2, 1) := by decide +kernel
theorem dX2_strikeOut_12 : decode cX2_strikeOut 12 = .ok (.getfield 121, 3) := by decide +kernel
theorem dX2_strikeOut_15 : decode cX2_strikeOut 15 = .ok (.aload_n 2, 1) := by decide +kernel
theorem dX2_strikeOut_16 : decode cX2_strikeOut 16 = .ok (.getfield 80, 3) := by decide +kernel
theorem dX2_strikeOut_19 : decode cX2_strikeOut 19 = .ok (.aload_n 0, 1) := by decide +kernel
theorem dX2_strikeOut_20 : decode cX2_strikeOut 20 = .ok (.aload_n 2, 1) := by decide +kernel
theorem dX2_strikeOut_21 : decode cX2_strikeOut 21 = .ok (.getfield 121, 3) := by decide +kernel
theorem dX2_strikeOut_24 : decode cX2_strikeOut 24 = .ok (.aload_n 2, 1) := by decide +kernel
theorem dX2_strikeOut_25 : decode cX2_strikeOut 25 = .ok (.getfield 80, 3) := by decide +kernel
theorem dX2_strikeOut_28 : decode cX2_strikeOut 28 = .ok (.invokevirtual 125, 3) := by decide +kernel
theorem dX2_strikeOut_31 : decode cX2_strikeOut 31 = .ok (.invokevirtual 113, 3) := by decide +kernel
theorem dX2_strikeOut_34 : decode cX2_strikeOut 34 = .ok (.aload_n 2, 1) := by decide +kernel
theorem dX2_strikeOut_35 : decode cX2_strikeOut 35 = .ok (.getfield 80, 3) := by decide +kernel
theorem dX2_strikeOut_38 : decode cX2_strikeOut 38 = .ok (.ireturn, 1) := by decide +kernel
theorem dX2_setTempo_0 : decode cX2_setTempo 0 = .ok (.iload_n 1, 1) := by decide +kernel
theorem dX2_setTempo_1 : decode cX2_setTempo 1 = .ok (.bipush 50, 2) := by decide +kernel
theorem dX2_setTempo_3 : decode cX2_setTempo 3 = .ok (.sipush 200, 3) := by decide +kernel
theorem dX2_setTempo_6 : decode cX2_setTempo 6 = .ok (.invokestatic 46, 3) := by decide +kernel
theorem dX2_setTempo_9 : decode cX2_setTempo 9 = .ok (.invokestatic 50, 3) := by decide +kernel
theorem dX2_setTempo_12 : decode cX2_setTempo 12 = .ok (.aload_n 0, 1) := by decide +kernel
theorem dX2_setTempo_13 : decode cX2_setTempo 13 = .ok (.getfield 37, 3) := by decide +kernel
theorem dX2_setTempo_16 : decode cX2_setTempo 16 = .ok (.istore_n 2, 1) := by decide +kernel
theorem dX2_setTempo_17 : decode cX2_setTempo 17 = .ok (.aload_n 0, 1) := by decide +kernel
theorem dX2_setTempo_18 : decode cX2_setTempo 18 = .ok (.iload_n 1, 1) := by decide +kernel
theorem dX2_setTempo_19 : decode cX2_setTempo 19 = .ok (.putfield 37, 3) := by decide +kernel
theorem dX2_setTempo_22 : decode cX2_setTempo 22 = .ok (.iload_n 2, 1) := by decide +kernel
theorem dX2_setTempo_23 : decode cX2_setTempo 23 = .ok (.ireturn, 1) := by decide +kernel
theorem dX2_setRules_0 : decode cX2_setRules 0 = .ok (.iload_n 1, 1) := by decide +kernel
theorem dX2_setRules_1 : decode cX2_setRules 1 = .ok (.iconst 0, 1) := by decide +kernel
theorem dX2_setRules_2 : decode cX2_setRules 2 = .ok (.bipush 100, 2) := by decide +kernel
theorem dX2_setRules_4 : decode cX2_setRules 4 = .ok (.invokestatic 46, 3) := by decide +kernel
theorem dX2_setRules_7 : decode cX2_setRules 7 = .ok (.ifCond .eq 18, 3) := by decide +kernel
theorem dX2_setRules_10 : decode cX2_setRules 10 = .ok (.iload_n 2, 1) := by decide +kernel
theorem dX2_setRules_11 : decode cX2_setRules 11 = .ok (.iconst 0, 1) := by decide +kernel
theorem dX2_setRules_12 : decode cX2_setRules 12 = .ok (.sipush 2400, 3) := by decide +kernel
theorem dX2_setRules_15 : decode cX2_setRules 15 = .ok (.invokestatic 46, 3) := by decide +kernel
theorem dX2_setRules_18 : decode cX2_setRules 18 = .ok (.ifCond .eq 7, 3) := by decide +kernel
theorem dX2_setRules_21 : decode cX2_setRules 21 = .ok (.iconst 1, 1) := by decide +kernel
theorem dX2_setRules_22 : decode cX2_setRules 22 = .ok (.goto 4, 3) := by decide +kernel
theorem dX2_setRules_25 : decode cX2_setRules 25 = .ok (.iconst 0, 1) := by decide +kernel
theorem dX2_setRules_26 : decode cX2_setRules 26 = .ok (.invokestatic 50, 3) := by decide +kernel
theorem dX2_setRules_29 : decode cX2_setRules 29 = .ok (.aload_n 0, 1) := by decide +kernel
theorem dX2_setRules_30 : decode cX2_setRules 30 = .ok (.iload_n 1, 1) := by decide +kernel
theorem dX2_setRules_31 : decode cX2_setRules 31 = .ok (.putfield 40, 3) := by decide +kernel
theorem dX2_setRules_34 : decode cX2_setRules 34 = .ok (.aload_n 0, 1) := by decide +kernel
theorem dX2_setRules_35 : decode cX2_setRules 35 = .ok (.iload_n 2, 1) := by decide +kernel
theorem dX2_setRules_36 : decode cX2_setRules 36 = .ok (.putfield 43, 3) := by decide +kernel
theorem dX2_setRules_39 : decode cX2_setRules 39 = .ok (.return_, 1) := by decide +kernel
theorem dX2_strike_0 : decode cX2_strike 0 = .ok (.iload_n 1, 1) := by decide +kernel
theorem dX2_strike_1 : decode cX2_strike 1 = .ok (.invokestatic 97, 3) := by decide +kernel
theorem dX2_strike_4 : decode cX2_strike 4 = .ok (.invokestatic 50, 3) := by decide +kernel
theorem dX2_strike_7 : decode cX2_strike 7 = .ok (.aload_n 0, 1) := by decide +kernel
theorem dX2_strike_8 : decode cX2_strike 8 = .ok (.getfield 22, 3) := by decide +kernel
theorem dX2_strike_11 : decode cX2_strike 11 = .ok (.iload_n 1, 1) := by decide +kernel
theorem dX2_strike_12 : decode cX2_strike 12 = .ok (.baload, 1) := by decide +kernel
theorem dX2_strike_13 : decode cX2_strike 13 = .ok (.istore_n 3, 1) := by decide +kernel
theorem dX2_strike_14 : decode cX2_strike 14 = .ok (.aload_n 0, 1) := by decide +kernel
theorem dX2_strike_15 : decode cX2_strike 15 = .ok (.getfield 22, 3) := by decide +kernel
theorem dX2_strike_18 : decode cX2_strike 18 = .ok (.iload_n 1, 1) := by decide +kernel
theorem dX2_strike_19 : decode cX2_strike 19 = .ok (.iload_n 2, 1) := by decide +kernel
theorem dX2_strike_20 : decode cX2_strike 20 = .ok (.bastore, 1) := by decide +kernel
theorem dX2_strike_21 : decode cX2_strike 21 = .ok (.iload_n 3, 1) := by decide +kernel
theorem dX2_strike_22 : decode cX2_strike 22 = .ok (.ireturn, 1) := by decide +kernel
theorem dX2_substitute_0 : decode cX2_substitute 0 = .ok (.iload_n 1, 1) := by decide +kernel
theorem dX2_substitute_1 : decode cX2_substitute 1 = .ok (.invokestatic 97, 3) := by decide +kernel
theorem dX2_substitute_4 : decode cX2_substitute 4 = .ok (.ifCond .eq 19, 3) := by decide +kernel
theorem dX2_substitute_7 : decode cX2_substitute 7 = .ok (.iload_n 2, 1) := by decide +kernel
theorem dX2_substitute_8 : decode cX2_substitute 8 = .ok (.iconst (-1), 1) := by decide +kernel
theorem dX2_substitute_9 : decode cX2_substitute 9 = .ok (.if_icmp .eq 10, 3) := by decide +kernel
theorem dX2_substitute_12 : decode cX2_substitute 12 = .ok (.iload_n 2, 1) := by decide +kernel
theorem dX2_substitute_13 : decode cX2_substitute 13 = .ok (.invokestatic 97, 3) := by decide +kernel
theorem dX2_substitute_16 : decode cX2_substitute 16 = .ok (.ifCond .eq 7, 3) := by decide +kernel
theorem dX2_substitute_19 : decode cX2_substitute 19 = .ok (.iconst 1, 1) := by decide +kernel
theorem dX2_substitute_20 : decode cX2_substitute 20 = .ok (.goto 4, 3) := by decide +kernel
theorem dX2_substitute_23 : decode cX2_substitute 23 = .ok (.iconst 0, 1) := by decide +kernel
theorem dX2_substitute_24 : decode cX2_substitute 24 = .ok (.invokestatic 50, 3) := by decide +kernel
theorem dX2_substitute_27 : decode cX2_substitute 27 = .ok (.aload_n 0, 1) := by decide +kernel
theorem dX2_substitute_28 : decode cX2_substitute 28 = .ok (.getfield 26, 3) := by decide +kernel
theorem dX2_substitute_31 : decode cX2_substitute 31 = .ok (.iload_n 1, 1) := by decide +kernel
theorem dX2_substitute_32 : decode cX2_substitute 32 = .ok (.iaload, 1) := by decide +kernel
theorem dX2_substitute_33 : decode cX2_substitute 33 = .ok (.istore_n 3, 1) := by decide +kernel
theorem dX2_substitute_34 : decode cX2_substitute 34 = .ok (.aload_n 0, 1) := by decide +kernel
theorem dX2_substitute_35 : decode cX2_substitute 35 = .ok (.getfield 26, 3) := by decide +kernel
theorem dX2_substitute_38 : decode cX2_substitute 38 = .ok (.iload_n 1, 1) := by decide +kernel
theorem dX2_substitute_39 : decode cX2_substitute 39 = .ok (.iload_n 2, 1) := by decide +kernel
theorem dX2_substitute_40 : decode cX2_substitute 40 = .ok (.iastore, 1) := by decide +kernel
theorem dX2_substitute_41 : decode cX2_substitute 41 = .ok (.iload_n 3, 1) := by decide +kernel
theorem dX2_substitute_42 : decode cX2_substitute 42 = .ok (.ireturn, 1) := by decide +kernel
theorem dX2_bar_0 : decode cX2_bar 0 = .ok (.aload_n 0, 1) := by decide +kernel
theorem dX2_bar_1 : decode cX2_bar 1 = .ok (.aload_n 0, 1) := by decide +kernel
theorem dX2_bar_2 : decode cX2_bar 2 = .ok (.getfield 37, 3) := by decide +kernel
theorem dX2_bar_5 : decode cX2_bar 5 = .ok (.invokevirtual 129, 3) := by decide +kernel
theorem dX2_bar_8 : decode cX2_bar 8 = .ok (.ireturn, 1) := by decide +kernel
theorem dX2_end_0 : decode cX2_end 0 = .ok (.aload_n 0, 1) := by decide +kernel
theorem dX2_end_1 : decode cX2_end 1 = .ok (.getfield 30, 3) := by decide +kernel
theorem dX2_end_4 : decode cX2_end 4 = .ok (.aload_n 0, 1) := by decide +kernel
theorem dX2_end_5 : decode cX2_end 5 = .ok (.aload_n 0, 1) := by decide +kernel
theorem dX2_end_6 : decode cX2_end 6 = .ok (.getfield 37, 3) := by decide +kernel
theorem dX2_end_9 : decode cX2_end 9 = .ok (.invokevirtual 129, 3) := by decide +kernel
theorem dX2_end_12 : decode cX2_end 12 = .ok (.imul, 1) := by decide +kernel
theorem dX2_end_13 : decode cX2_end 13 = .ok (.ireturn, 1) := by decide +kernel
theorem dX2_place_0 : decode cX2_place 0 = .ok (.aload_n 0, 1) := by decide +kernel
theorem dX2_place_1 : decode cX2_place 1 = .ok (.iload_n 1, 1) := by decide +kernel
theorem dX2_place_2 : decode cX2_place 2 = .ok (.invokevirtual 90, 3) := by decide +kernel
theorem dX2_place_5 : decode cX2_place 5 = .ok (.astore_n 3, 1) := by decide +kernel
theorem dX2_place_6 : decode cX2_place 6 = .ok (.aload_n 0, 1) := by decide +kernel
theorem dX2_place_7 : decode cX2_place 7 = .ok (.aload_n 0, 1) := by decide +kernel
theorem dX2_place_8 : decode cX2_place 8 = .ok (.getfield 37, 3) := by decide +kernel
theorem dX2_place_11 : decode cX2_place 11 = .ok (.invokevirtual 129, 3) := by decide +kernel
theorem dX2_place_14 : decode cX2_place 14 = .ok (.istore 4, 2) := by decide +kernel
theorem dX2_place_16 : decode cX2_place 16 = .ok (.iload_n 2, 1) := by decide +kernel
theorem dX2_place_17 : decode cX2_place 17 = .ok (.iconst 0, 1) := by decide +kernel
theorem dX2_place_18 : decode cX2_place 18 = .ok (.aload_n 0, 1) := by decide +kernel
theorem dX2_place_19 : decode cX2_place 19 = .ok (.getfield 30, 3) := by decide +kernel
theorem dX2_place_22 : decode cX2_place 22 = .ok (.iload 4, 2) := by decide +kernel
theorem dX2_place_24 : decode cX2_place 24 = .ok (.imul, 1) := by decide +kernel
theorem dX2_place_25 : decode cX2_place 25 = .ok (.invokestatic 46, 3) := by decide +kernel
theorem dX2_place_28 : decode cX2_place 28 = .ok (.invokestatic 50, 3) := by decide +kernel
theorem dX2_place_31 : decode cX2_place 31 = .ok (.aload_n 3, 1) := by decide +kernel
theorem dX2_place_32 : decode cX2_place 32 = .ok (.invokevirtual 133, 3) := by decide +kernel
theorem dX2_place_35 : decode cX2_place 35 = .ok (.iconst 0, 1) := by decide +kernel
theorem dX2_place_36 : decode cX2_place 36 = .ok (.istore 5, 2) := by decide +kernel
theorem dX2_place_38 : decode cX2_place 38 = .ok (.iconst 0, 1) := by decide +kernel
theorem dX2_place_39 : decode cX2_place 39 = .ok (.istore 6, 2) := by decide +kernel
theorem dX2_place_41 : decode cX2_place 41 = .ok (.iload 6, 2) := by decide +kernel
theorem dX2_place_43 : decode cX2_place 43 = .ok (.aload_n 0, 1) := by decide +kernel
theorem dX2_place_44 : decode cX2_place 44 = .ok (.getfield 30, 3) := by decide +kernel
theorem dX2_place_47 : decode cX2_place 47 = .ok (.if_icmp .ge 52, 3) := by decide +kernel
theorem dX2_place_50 : decode cX2_place 50 = .ok (.iload 5, 2) := by decide +kernel
theorem dX2_place_52 : decode cX2_place 52 = .ok (.iload_n 2, 1) := by decide +kernel
theorem dX2_place_53 : decode cX2_place 53 = .ok (.if_icmp .ge 46, 3) := by decide +kernel
theorem dX2_place_56 : decode cX2_place 56 = .ok (.aload_n 3, 1) := by decide +kernel
theorem dX2_place_57 : decode cX2_place 57 = .ok (.iload 6, 2) := by decide +kernel
theorem dX2_place_59 : decode cX2_place 59 = .ok (.invokevirtual 136, 3) := by decide +kernel
theorem dX2_place_62 : decode cX2_place 62 = .ok (.iconst 0, 1) := by decide +kernel
theorem dX2_place_63 : decode cX2_place 63 = .ok (.istore 7, 2) := by decide +kernel
theorem dX2_place_65 : decode cX2_place 65 = .ok (.iload 7, 2) := by decide +kernel
theorem dX2_place_67 : decode cX2_place 67 = .ok (.iload 4, 2) := by decide +kernel
theorem dX2_place_69 : decode cX2_place 69 = .ok (.if_icmp .ge 24, 3) := by decide +kernel
theorem dX2_place_72 : decode cX2_place 72 = .ok (.iload 5, 2) := by decide +kernel
theorem dX2_place_74 : decode cX2_place 74 = .ok (.iload_n 2, 1) := by decide +kernel
theorem dX2_place_75 : decode cX2_place 75 = .ok (.if_icmp .ge 18, 3) := by decide +kernel
theorem dX2_place_78 : decode cX2_place 78 = .ok (.aload_n 3, 1) := by decide +kernel
theorem dX2_place_79 : decode cX2_place 79 = .ok (.iconst 1, 1) := by decide +kernel
theorem dX2_place_80 : decode cX2_place 80 = .ok (.invokevirtual 140, 3) := by decide +kernel
theorem dX2_place_83 : decode cX2_place 83 = .ok (.pop, 1) := by decide +kernel
theorem dX2_place_84 : decode cX2_place 84 = .ok (.iinc 5 1, 3) := by decide +kernel
theorem dX2_place_87 : decode cX2_place 87 = .ok (.iinc 7 1, 3) := by decide +kernel
theorem dX2_place_90 : decode cX2_place 90 = .ok (.goto (-25), 3) := by decide +kernel
theorem dX2_place_93 : decode cX2_place 93 = .ok (.iinc 6 1, 3) := by decide +kernel
theorem dX2_place_96 : decode cX2_place 96 = .ok (.goto (-55), 3) := by decide +kernel
theorem dX2_place_99 : decode cX2_place 99 = .ok (.aload_n 3, 1) := by decide +kernel
theorem dX2_place_100 : decode cX2_place 100 = .ok (.getfield 143, 3) := by decide +kernel
theorem dX2_place_103 : decode cX2_place 103 = .ok (.ireturn, 1) := by decide +kernel
theorem dX2_placeAtBar_0 : decode cX2_placeAtBar 0 = .ok (.aload_n 0, 1) := by decide +kernel
theorem dX2_placeAtBar_1 : decode cX2_placeAtBar 1 = .ok (.iload_n 1, 1) := by decide +kernel
theorem dX2_placeAtBar_2 : decode cX2_placeAtBar 2 = .ok (.invokevirtual 90, 3) := by decide +kernel
theorem dX2_placeAtBar_5 : decode cX2_placeAtBar 5 = .ok (.astore_n 3, 1) := by decide +kernel
theorem dX2_placeAtBar_6 : decode cX2_placeAtBar 6 = .ok (.iload_n 2, 1) := by decide +kernel
theorem dX2_placeAtBar_7 : decode cX2_placeAtBar 7 = .ok (.iconst 0, 1) := by decide +kernel
theorem dX2_placeAtBar_8 : decode cX2_placeAtBar 8 = .ok (.aload_n 0, 1) := by decide +kernel
theorem dX2_placeAtBar_9 : decode cX2_placeAtBar 9 = .ok (.getfield 30, 3) := by decide +kernel
theorem dX2_placeAtBar_12 : decode cX2_placeAtBar 12 = .ok (.invokestatic 46, 3) := by decide +kernel
theorem dX2_placeAtBar_15 : decode cX2_placeAtBar 15 = .ok (.invokestatic 50, 3) := by decide +kernel
theorem dX2_placeAtBar_18 : decode cX2_placeAtBar 18 = .ok (.aload_n 0, 1) := by decide +kernel
theorem dX2_placeAtBar_19 : decode cX2_placeAtBar 19 = .ok (.aload_n 0, 1) := by decide +kernel
theorem dX2_placeAtBar_20 : decode cX2_placeAtBar 20 = .ok (.getfield 37, 3) := by decide +kernel
theorem dX2_placeAtBar_23 : decode cX2_placeAtBar 23 = .ok (.invokevirtual 129, 3) := by decide +kernel
theorem dX2_placeAtBar_26 : decode cX2_placeAtBar 26 = .ok (.istore 4, 2) := by decide +kernel
theorem dX2_placeAtBar_28 : decode cX2_placeAtBar 28 = .ok (.aload_n 3, 1) := by decide +kernel
theorem dX2_placeAtBar_29 : decode cX2_placeAtBar 29 = .ok (.invokevirtual 133, 3) := by decide +kernel
theorem dX2_placeAtBar_32 : decode cX2_placeAtBar 32 = .ok (.iconst 0, 1) := by decide +kernel
theorem dX2_placeAtBar_33 : decode cX2_placeAtBar 33 = .ok (.istore 5, 2) := by decide +kernel
theorem dX2_placeAtBar_35 : decode cX2_placeAtBar 35 = .ok (.iload 5, 2) := by decide +kernel
theorem dX2_placeAtBar_37 : decode cX2_placeAtBar 37 = .ok (.iload_n 2, 1) := by decide +kernel
theorem dX2_placeAtBar_38 : decode cX2_placeAtBar 38 = .ok (.if_icmp .ge 22, 3) := by decide +kernel
theorem dX2_placeAtBar_41 : decode cX2_placeAtBar 41 = .ok (.aload_n 3, 1) := by decide +kernel
theorem dX2_placeAtBar_42 : decode cX2_placeAtBar 42 = .ok (.iload 5, 2) := by decide +kernel
theorem dX2_placeAtBar_44 : decode cX2_placeAtBar 44 = .ok (.invokevirtual 136, 3) := by decide +kernel
theorem dX2_placeAtBar_47 : decode cX2_placeAtBar 47 = .ok (.aload_n 3, 1) := by decide +kernel
theorem dX2_placeAtBar_48 : decode cX2_placeAtBar 48 = .ok (.iload 4, 2) := by decide +kernel
theorem dX2_placeAtBar_50 : decode cX2_placeAtBar 50 = .ok (.invokevirtual 140, 3) := by decide +kernel
theorem dX2_placeAtBar_53 : decode cX2_placeAtBar 53 = .ok (.pop, 1) := by decide +kernel
theorem dX2_placeAtBar_54 : decode cX2_placeAtBar 54 = .ok (.iinc 5 1, 3) := by decide +kernel
theorem dX2_placeAtBar_57 : decode cX2_placeAtBar 57 = .ok (.goto (-22), 3) := by decide +kernel
theorem dX2_placeAtBar_60 : decode cX2_placeAtBar 60 = .ok (.aload_n 3, 1) := by decide +kernel
theorem dX2_placeAtBar_61 : decode cX2_placeAtBar 61 = .ok (.getfield 143, 3) := by decide +kernel
theorem dX2_placeAtBar_64 : decode cX2_placeAtBar 64 = .ok (.ireturn, 1) := by decide +kernel
theorem dX2_meeting_0 : decode cX2_meeting 0 = .ok (.aload_n 0, 1) := by decide +kernel
theorem dX2_meeting_1 : decode cX2_meeting 1 = .ok (.aload_n 0, 1) := by decide +kernel
theorem dX2_meeting_2 : decode cX2_meeting 2 = .ok (.aload_n 0, 1) := by decide +kernel
theorem dX2_meeting_3 : decode cX2_meeting 3 = .ok (.getfield 37, 3) := by decide +kernel
theorem dX2_meeting_6 : decode cX2_meeting 6 = .ok (.invokevirtual 129, 3) := by decide +kernel
theorem dX2_meeting_9 : decode cX2_meeting 9 = .ok (.invokevirtual 146, 3) := by decide +kernel
theorem dX2_meeting_12 : decode cX2_meeting 12 = .ok (.ireturn, 1) := by decide +kernel
theorem dX2_meeters_0 : decode cX2_meeters 0 = .ok (.aload_n 0, 1) := by decide +kernel
theorem dX2_meeters_1 : decode cX2_meeters 1 = .ok (.aload_n 0, 1) := by decide +kernel
theorem dX2_meeters_2 : decode cX2_meeters 2 = .ok (.aload_n 0, 1) := by decide +kernel
theorem dX2_meeters_3 : decode cX2_meeters 3 = .ok (.getfield 37, 3) := by decide +kernel
theorem dX2_meeters_6 : decode cX2_meeters 6 = .ok (.invokevirtual 129, 3) := by decide +kernel
theorem dX2_meeters_9 : decode cX2_meeters 9 = .ok (.invokevirtual 146, 3) := by decide +kernel
theorem dX2_meeters_12 : decode cX2_meeters 12 = .ok (.iconst (-1), 1) := by decide +kernel
theorem dX2_meeters_13 : decode cX2_meeters 13 = .ok (.if_icmp .ne 7, 3) := by decide +kernel
theorem dX2_meeters_16 : decode cX2_meeters 16 = .ok (.iconst (-1), 1) := by decide +kernel
theorem dX2_meeters_17 : decode cX2_meeters 17 = .ok (.goto 7, 3) := by decide +kernel
theorem dX2_meeters_20 : decode cX2_meeters 20 = .ok (.aload_n 0, 1) := by decide +kernel
theorem dX2_meeters_21 : decode cX2_meeters 21 = .ok (.invokevirtual 149, 3) := by decide +kernel
theorem dX2_meeters_24 : decode cX2_meeters 24 = .ok (.ireturn, 1) := by decide +kernel
theorem dX2_worker_0 : decode cX2_worker 0 = .ok (.aload_n 0, 1) := by decide +kernel
theorem dX2_worker_1 : decode cX2_worker 1 = .ok (.aload_n 0, 1) := by decide +kernel
theorem dX2_worker_2 : decode cX2_worker 2 = .ok (.iload_n 1, 1) := by decide +kernel
theorem dX2_worker_3 : decode cX2_worker 3 = .ok (.invokevirtual 117, 3) := by decide +kernel
theorem dX2_worker_6 : decode cX2_worker 6 = .ok (.invokevirtual 152, 3) := by decide +kernel
theorem dX2_worker_9 : decode cX2_worker 9 = .ok (.ireturn, 1) := by decide +kernel
theorem dX2_takes_0 : decode cX2_takes 0 = .ok (.aload_n 0, 1) := by decide +kernel
theorem dX2_takes_1 : decode cX2_takes 1 = .ok (.iload_n 1, 1) := by decide +kernel
theorem dX2_takes_2 : decode cX2_takes 2 = .ok (.invokevirtual 117, 3) := by decide +kernel
theorem dX2_takes_5 : decode cX2_takes 5 = .ok (.astore_n 2, 1) := by decide +kernel
theorem dX2_takes_6 : decode cX2_takes 6 = .ok (.aload_n 0, 1) := by decide +kernel
theorem dX2_takes_7 : decode cX2_takes 7 = .ok (.aload_n 0, 1) := by decide +kernel
theorem dX2_takes_8 : decode cX2_takes 8 = .ok (.aload_n 0, 1) := by decide +kernel
theorem dX2_takes_9 : decode cX2_takes 9 = .ok (.getfield 37, 3) := by decide +kernel
theorem dX2_takes_12 : decode cX2_takes 12 = .ok (.invokevirtual 129, 3) := by decide +kernel
theorem dX2_takes_15 : decode cX2_takes 15 = .ok (.invokevirtual 156, 3) := by decide +kernel
theorem dX2_takes_18 : decode cX2_takes 18 = .ok (.aload_n 2, 1) := by decide +kernel
theorem dX2_takes_19 : decode cX2_takes 19 = .ok (.getfield 159, 3) := by decide +kernel
theorem dX2_takes_22 : decode cX2_takes 22 = .ok (.ireturn, 1) := by decide +kernel
theorem dX2_clashes_0 : decode cX2_clashes 0 = .ok (.iload_n 1, 1) := by decide +kernel
theorem dX2_clashes_1 : decode cX2_clashes 1 = .ok (.invokestatic 97, 3) := by decide +kernel
theorem dX2_clashes_4 : decode cX2_clashes 4 = .ok (.invokestatic 50, 3) := by decide +kernel
theorem dX2_clashes_7 : decode cX2_clashes 7 = .ok (.aload_n 0, 1) := by decide +kernel
theorem dX2_clashes_8 : decode cX2_clashes 8 = .ok (.aload_n 0, 1) := by decide +kernel
theorem dX2_clashes_9 : decode cX2_clashes 9 = .ok (.getfield 37, 3) := by decide +kernel
theorem dX2_clashes_12 : decode cX2_clashes 12 = .ok (.invokevirtual 129, 3) := by decide +kernel
theorem dX2_clashes_15 : decode cX2_clashes 15 = .ok (.istore_n 2, 1) := by decide +kernel
theorem dX2_clashes_16 : decode cX2_clashes 16 = .ok (.aload_n 0, 1) := by decide +kernel
theorem dX2_clashes_17 : decode cX2_clashes 17 = .ok (.iload_n 2, 1) := by decide +kernel
theorem dX2_clashes_18 : decode cX2_clashes 18 = .ok (.invokevirtual 156, 3) := by decide +kernel
theorem dX2_clashes_21 : decode cX2_clashes 21 = .ok (.aload_n 0, 1) := by decide +kernel
theorem dX2_clashes_22 : decode cX2_clashes 22 = .ok (.iload_n 1, 1) := by decide +kernel
theorem dX2_clashes_23 : decode cX2_clashes 23 = .ok (.iload_n 2, 1) := by decide +kernel
theorem dX2_clashes_24 : decode cX2_clashes 24 = .ok (.invokevirtual 162, 3) := by decide +kernel
theorem dX2_clashes_27 : decode cX2_clashes 27 = .ok (.ireturn, 1) := by decide +kernel
theorem dX2_overtime_0 : decode cX2_overtime 0 = .ok (.iload_n 1, 1) := by decide +kernel
theorem dX2_overtime_1 : decode cX2_overtime 1 = .ok (.invokestatic 97, 3) := by decide +kernel
theorem dX2_overtime_4 : decode cX2_overtime 4 = .ok (.invokestatic 50, 3) := by decide +kernel
theorem dX2_overtime_7 : decode cX2_overtime 7 = .ok (.aload_n 0, 1) := by decide +kernel
theorem dX2_overtime_8 : decode cX2_overtime 8 = .ok (.aload_n 0, 1) := by decide +kernel
theorem dX2_overtime_9 : decode cX2_overtime 9 = .ok (.getfield 37, 3) := by decide +kernel
theorem dX2_overtime_12 : decode cX2_overtime 12 = .ok (.invokevirtual 129, 3) := by decide +kernel
theorem dX2_overtime_15 : decode cX2_overtime 15 = .ok (.istore_n 2, 1) := by decide +kernel
theorem dX2_overtime_16 : decode cX2_overtime 16 = .ok (.aload_n 0, 1) := by decide +kernel
theorem dX2_overtime_17 : decode cX2_overtime 17 = .ok (.iload_n 2, 1) := by decide +kernel
theorem dX2_overtime_18 : decode cX2_overtime 18 = .ok (.invokevirtual 156, 3) := by decide +kernel
theorem dX2_overtime_21 : decode cX2_overtime 21 = .ok (.iconst 0, 1) := by decide +kernel
theorem dX2_overtime_22 : decode cX2_overtime 22 = .ok (.istore_n 3, 1) := by decide +kernel
theorem dX2_overtime_23 : decode cX2_overtime 23 = .ok (.aload_n 0, 1) := by decide +kernel
theorem dX2_overtime_24 : decode cX2_overtime 24 = .ok (.getfield 43, 3) := by decide +kernel
theorem dX2_overtime_27 : decode cX2_overtime 27 = .ok (.istore 4, 2) := by decide +kernel
theorem dX2_overtime_29 : decode cX2_overtime 29 = .ok (.iconst 0, 1) := by decide +kernel
theorem dX2_overtime_30 : decode cX2_overtime 30 = .ok (.istore 5, 2) := by decide +kernel
theorem dX2_overtime_32 : decode cX2_overtime 32 = .ok (.iload 5, 2) := by decide +kernel
theorem dX2_overtime_34 : decode cX2_overtime 34 = .ok (.aload_n 0, 1) := by decide +kernel
theorem dX2_overtime_35 : decode cX2_overtime 35 = .ok (.getfield 19, 3) := by decide +kernel
theorem dX2_overtime_38 : decode cX2_overtime 38 = .ok (.invokevirtual 66, 3) := by decide +kernel
theorem dX2_overtime_41 : decode cX2_overtime 41 = .ok (.if_icmp .ge 86, 3) := by decide +kernel
theorem dX2_overtime_44 : decode cX2_overtime 44 = .ok (.aload_n 0, 1) := by decide +kernel
theorem dX2_overtime_45 : decode cX2_overtime 45 = .ok (.getfield 19, 3) := by decide +kernel
theorem dX2_overtime_48 : decode cX2_overtime 48 = .ok (.iload 5, 2) := by decide +kernel
theorem dX2_overtime_50 : decode cX2_overtime 50 = .ok (.invokevirtual 70, 3) := by decide +kernel
theorem dX2_overtime_53 : decode cX2_overtime 53 = .ok (.checkcast 74, 3) := by decide +kernel
theorem dX2_overtime_56 : decode cX2_overtime 56 = .ok (.astore 6, 2) := by decide +kernel
theorem dX2_overtime_58 : decode cX2_overtime 58 = .ok (.aload 6, 2) := by decide +kernel
theorem dX2_overtime_60 : decode cX2_overtime 60 = .ok (.getfield 159, 3) := by decide +kernel
theorem dX2_overtime_63 : decode cX2_overtime 63 = .ok (.ifCond .le 58, 3) := by decide +kernel
theorem dX2_overtime_66 : decode cX2_overtime 66 = .ok (.aload_n 0, 1) := by decide +kernel
theorem dX2_overtime_67 : decode cX2_overtime 67 = .ok (.aload 6, 2) := by decide +kernel
theorem dX2_overtime_69 : decode cX2_overtime 69 = .ok (.invokevirtual 152, 3) := by decide +kernel
theorem dX2_overtime_72 : decode cX2_overtime 72 = .ok (.iload_n 1, 1) := by decide +kernel
theorem dX2_overtime_73 : decode cX2_overtime 73 = .ok (.if_icmp .ne 48, 3) := by decide +kernel
theorem dX2_overtime_76 : decode cX2_overtime 76 = .ok (.aload 6, 2) := by decide +kernel
theorem dX2_overtime_78 : decode cX2_overtime 78 = .ok (.getfield 80, 3) := by decide +kernel
theorem dX2_overtime_81 : decode cX2_overtime 81 = .ok (.iload_n 2, 1) := by decide +kernel
theorem dX2_overtime_82 : decode cX2_overtime 82 = .ok (.imul, 1) := by decide +kernel
theorem dX2_overtime_83 : decode cX2_overtime 83 = .ok (.istore 7, 2) := by decide +kernel
theorem dX2_overtime_85 : decode cX2_overtime 85 = .ok (.iload 7, 2) := by decide +kernel
theorem dX2_overtime_87 : decode cX2_overtime 87 = .ok (.aload 6, 2) := by decide +kernel
theorem dX2_overtime_89 : decode cX2_overtime 89 = .ok (.getfield 159, 3) := by decide +kernel
theorem dX2_overtime_92 : decode cX2_overtime 92 = .ok (.iadd, 1) := by decide +kernel
theorem dX2_overtime_93 : decode cX2_overtime 93 = .ok (.istore 8, 2) := by decide +kernel
theorem dX2_overtime_95 : decode cX2_overtime 95 = .ok (.iload_n 3, 1) := by decide +kernel
theorem dX2_overtime_96 : decode cX2_overtime 96 = .ok (.iconst 0, 1) := by decide +kernel
theorem dX2_overtime_97 : decode cX2_overtime 97 = .ok (.iload 8, 2) := by decide +kernel
theorem dX2_overtime_99 : decode cX2_overtime 99 = .ok (.iload 4, 2) := by decide +kernel
theorem dX2_overtime_101 : decode cX2_overtime 101 = .ok (.iload 7, 2) := by decide +kernel
theorem dX2_overtime_103 : decode cX2_overtime 103 = .ok (.invokestatic 166, 3) := by decide +kernel
theorem dX2_overtime_106 : decode cX2_overtime 106 = .ok (.isub, 1) := by decide +kernel
theorem dX2_overtime_107 : decode cX2_overtime 107 = .ok (.invokestatic 166, 3) := by decide +kernel
theorem dX2_overtime_110 : decode cX2_overtime 110 = .ok (.iadd, 1) := by decide +kernel
theorem dX2_overtime_111 : decode cX2_overtime 111 = .ok (.istore_n 3, 1) := by decide +kernel
theorem dX2_overtime_112 : decode cX2_overtime 112 = .ok (.iload 4, 2) := by decide +kernel
theorem dX2_overtime_114 : decode cX2_overtime 114 = .ok (.iload 8, 2) := by decide +kernel
theorem dX2_overtime_116 : decode cX2_overtime 116 = .ok (.invokestatic 166, 3) := by decide +kernel
theorem dX2_overtime_119 : decode cX2_overtime 119 = .ok (.istore 4, 2) := by decide +kernel
theorem dX2_overtime_121 : decode cX2_overtime 121 = .ok (.iinc 5 1, 3) := by decide +kernel
theorem dX2_overtime_124 : decode cX2_overtime 124 = .ok (.goto (-92), 3) := by decide +kernel
theorem dX2_overtime_127 : decode cX2_overtime 127 = .ok (.iload_n 3, 1) := by decide +kernel
theorem dX2_overtime_128 : decode cX2_overtime 128 = .ok (.ireturn, 1) := by decide +kernel
theorem dX2_isFine_0 : decode cX2_isFine 0 = .ok (.aload_n 0, 1) := by decide +kernel
theorem dX2_isFine_1 : decode cX2_isFine 1 = .ok (.aload_n 0, 1) := by decide +kernel
theorem dX2_isFine_2 : decode cX2_isFine 2 = .ok (.getfield 37, 3) := by decide +kernel
theorem dX2_isFine_5 : decode cX2_isFine 5 = .ok (.invokevirtual 171, 3) := by decide +kernel
theorem dX2_isFine_8 : decode cX2_isFine 8 = .ok (.ireturn, 1) := by decide +kernel
theorem dX2_fastest_0 : decode cX2_fastest 0 = .ok (.sipush 200, 3) := by decide +kernel
theorem dX2_fastest_3 : decode cX2_fastest 3 = .ok (.istore_n 1, 1) := by decide +kernel
theorem dX2_fastest_4 : decode cX2_fastest 4 = .ok (.iload_n 1, 1) := by decide +kernel
theorem dX2_fastest_5 : decode cX2_fastest 5 = .ok (.bipush 50, 2) := by decide +kernel
theorem dX2_fastest_7 : decode cX2_fastest 7 = .ok (.if_icmp .lt 19, 3) := by decide +kernel
theorem dX2_fastest_10 : decode cX2_fastest 10 = .ok (.aload_n 0, 1) := by decide +kernel
theorem dX2_fastest_11 : decode cX2_fastest 11 = .ok (.iload_n 1, 1) := by decide +kernel
theorem dX2_fastest_12 : decode cX2_fastest 12 = .ok (.invokevirtual 171, 3) := by decide +kernel
theorem dX2_fastest_15 : decode cX2_fastest 15 = .ok (.ifCond .eq 5, 3) := by decide +kernel
theorem dX2_fastest_18 : decode cX2_fastest 18 = .ok (.iload_n 1, 1) := by decide +kernel
theorem dX2_fastest_19 : decode cX2_fastest 19 = .ok (.ireturn, 1) := by decide +kernel
theorem dX2_fastest_20 : decode cX2_fastest 20 = .ok (.iinc 1 (-10), 3) := by decide +kernel
theorem dX2_fastest_23 : decode cX2_fastest 23 = .ok (.goto (-19), 3) := by decide +kernel
theorem dX2_fastest_26 : decode cX2_fastest 26 = .ok (.iconst (-1), 1) := by decide +kernel
theorem dX2_fastest_27 : decode cX2_fastest 27 = .ok (.ireturn, 1) := by decide +kernel
theorem dX2_within_0 : decode cX2_within 0 = .ok (.iload_n 0, 1) := by decide +kernel
theorem dX2_within_1 : decode cX2_within 1 = .ok (.iload_n 1, 1) := by decide +kernel
theorem dX2_within_2 : decode cX2_within 2 = .ok (.if_icmp .lt 12, 3) := by decide +kernel
theorem dX2_within_5 : decode cX2_within 5 = .ok (.iload_n 0, 1) := by decide +kernel
theorem dX2_within_6 : decode cX2_within 6 = .ok (.iload_n 2, 1) := by decide +kernel
theorem dX2_within_7 : decode cX2_within 7 = .ok (.if_icmp .gt 7, 3) := by decide +kernel
theorem dX2_within_10 : decode cX2_within 10 = .ok (.iconst 1, 1) := by decide +kernel
theorem dX2_within_11 : decode cX2_within 11 = .ok (.goto 4, 3) := by decide +kernel
theorem dX2_within_14 : decode cX2_within 14 = .ok (.iconst 0, 1) := by decide +kernel
theorem dX2_within_15 : decode cX2_within 15 = .ok (.ireturn, 1) := by decide +kernel
theorem dX2_isWorker_0 : decode cX2_isWorker 0 = .ok (.iload_n 0, 1) := by decide +kernel
theorem dX2_isWorker_1 : decode cX2_isWorker 1 = .ok (.iconst 0, 1) := by decide +kernel
theorem dX2_isWorker_2 : decode cX2_isWorker 2 = .ok (.iconst 5, 1) := by decide +kernel
theorem dX2_isWorker_3 : decode cX2_isWorker 3 = .ok (.invokestatic 46, 3) := by decide +kernel
theorem dX2_isWorker_6 : decode cX2_isWorker 6 = .ok (.ireturn, 1) := by decide +kernel
theorem dX2_allow_0 : decode cX2_allow 0 = .ok (.iload_n 0, 1) := by decide +kernel
theorem dX2_allow_1 : decode cX2_allow 1 = .ok (.ifCond .ne 13, 3) := by decide +kernel
theorem dX2_allow_4 : decode cX2_allow 4 = .ok (.new 174, 3) := by decide +kernel
theorem dX2_allow_7 : decode cX2_allow 7 = .ok (.dup, 1) := by decide +kernel
theorem dX2_allow_8 : decode cX2_allow 8 = .ok (.ldc 176, 2) := by decide +kernel
theorem dX2_allow_10 : decode cX2_allow 10 = .ok (.invokespecial 178, 3) := by decide +kernel
theorem dX2_allow_13 : decode cX2_allow 13 = .ok (.athrow, 1) := by decide +kernel
theorem dX2_allow_14 : decode cX2_allow 14 = .ok (.return_, 1) := by decide +kernel
theorem dX2_machineNumbered_0 : decode cX2_machineNumbered 0 = .ok (.iload_n 1, 1) := by decide +kernel
theorem dX2_machineNumbered_1 : decode cX2_machineNumbered 1 = .ok (.ifCond .lt 14, 3) := by decide +kernel
theorem dX2_machineNumbered_4 : decode cX2_machineNumbered 4 = .ok (.iload_n 1, 1) := by decide +kernel
theorem dX2_machineNumbered_5 : decode cX2_machineNumbered 5 = .ok (.aload_n 0, 1) := by decide +kernel
theorem dX2_machineNumbered_6 : decode cX2_machineNumbered 6 = .ok (.getfield 10, 3) := by decide +kernel
theorem dX2_machineNumbered_9 : decode cX2_machineNumbered 9 = .ok (.invokevirtual 66, 3) := by decide +kernel
theorem dX2_machineNumbered_12 : decode cX2_machineNumbered 12 = .ok (.if_icmp .lt 13, 3) := by decide +kernel
theorem dX2_machineNumbered_15 : decode cX2_machineNumbered 15 = .ok (.new 179, 3) := by decide +kernel
theorem dX2_machineNumbered_18 : decode cX2_machineNumbered 18 = .ok (.dup, 1) := by decide +kernel
theorem dX2_machineNumbered_19 : decode cX2_machineNumbered 19 = .ok (.ldc 181, 2) := by decide +kernel
theorem dX2_machineNumbered_21 : decode cX2_machineNumbered 21 = .ok (.invokespecial 183, 3) := by decide +kernel
theorem dX2_machineNumbered_24 : decode cX2_machineNumbered 24 = .ok (.athrow, 1) := by decide +kernel
theorem dX2_machineNumbered_25 : decode cX2_machineNumbered 25 = .ok (.aload_n 0, 1) := by decide +kernel
theorem dX2_machineNumbered_26 : decode cX2_machineNumbered 26 = .ok (.getfield 10, 3) := by decide +kernel
theorem dX2_machineNumbered_29 : decode cX2_machineNumbered 29 = .ok (.iload_n 1, 1) := by decide +kernel
theorem dX2_machineNumbered_30 : decode cX2_machineNumbered 30 = .ok (.invokevirtual 70, 3) := by decide +kernel
theorem dX2_machineNumbered_33 : decode cX2_machineNumbered 33 = .ok (.checkcast 57, 3) := by decide +kernel
theorem dX2_machineNumbered_36 : decode cX2_machineNumbered 36 = .ok (.areturn, 1) := by decide +kernel
theorem dX2_cueNumbered_0 : decode cX2_cueNumbered 0 = .ok (.iload_n 1, 1) := by decide +kernel
theorem dX2_cueNumbered_1 : decode cX2_cueNumbered 1 = .ok (.ifCond .lt 31, 3) := by decide +kernel
theorem dX2_cueNumbered_4 : decode cX2_cueNumbered 4 = .ok (.iload_n 1, 1) := by decide +kernel
theorem dX2_cueNumbered_5 : decode cX2_cueNumbered 5 = .ok (.aload_n 0, 1) := by decide +kernel
theorem dX2_cueNumbered_6 : decode cX2_cueNumbered 6 = .ok (.getfield 16, 3) := by decide +kernel
theorem dX2_cueNumbered_9 : decode cX2_cueNumbered 9 = .ok (.invokevirtual 66, 3) := by decide +kernel
theorem dX2_cueNumbered_12 : decode cX2_cueNumbered 12 = .ok (.if_icmp .ge 20, 3) := by decide +kernel
theorem dX2_cueNumbered_15 : decode cX2_cueNumbered 15 = .ok (.aload_n 0, 1) := by decide +kernel
theorem dX2_cueNumbered_16 : decode cX2_cueNumbered 16 = .ok (.getfield 16, 3) := by decide +kernel
theorem dX2_cueNumbered_19 : decode cX2_cueNumbered 19 = .ok (.iload_n 1, 1) := by decide +kernel
theorem dX2_cueNumbered_20 : decode cX2_cueNumbered 20 = .ok (.invokevirtual 70, 3) := by decide +kernel
theorem dX2_cueNumbered_23 : decode cX2_cueNumbered 23 = .ok (.checkcast 74, 3) := by decide +kernel
theorem dX2_cueNumbered_26 : decode cX2_cueNumbered 26 = .ok (.getfield 76, 3) := by decide +kernel
theorem dX2_cueNumbered_29 : decode cX2_cueNumbered 29 = .ok (.ifCond .eq 13, 3) := by decide +kernel
theorem dX2_cueNumbered_32 : decode cX2_cueNumbered 32 = .ok (.new 179, 3) := by decide +kernel
theorem dX2_cueNumbered_35 : decode cX2_cueNumbered 35 = .ok (.dup, 1) := by decide +kernel
theorem dX2_cueNumbered_36 : decode cX2_cueNumbered 36 = .ok (.ldc 184, 2) := by decide +kernel
theorem dX2_cueNumbered_38 : decode cX2_cueNumbered 38 = .ok (.invokespecial 183, 3) := by decide +kernel
theorem dX2_cueNumbered_41 : decode cX2_cueNumbered 41 = .ok (.athrow, 1) := by decide +kernel
theorem dX2_cueNumbered_42 : decode cX2_cueNumbered 42 = .ok (.aload_n 0, 1) := by decide +kernel
theorem dX2_cueNumbered_43 : decode cX2_cueNumbered 43 = .ok (.getfield 16, 3) := by decide +kernel
theorem dX2_cueNumbered_46 : decode cX2_cueNumbered 46 = .ok (.iload_n 1, 1) := by decide +kernel
theorem dX2_cueNumbered_47 : decode cX2_cueNumbered 47 = .ok (.invokevirtual 70, 3) := by decide +kernel
theorem dX2_cueNumbered_50 : decode cX2_cueNumbered 50 = .ok (.checkcast 74, 3) := by decide +kernel
theorem dX2_cueNumbered_53 : decode cX2_cueNumbered 53 = .ok (.areturn, 1) := by decide +kernel
theorem dX2_needRoomForMachine_0 : decode cX2_needRoomForMachine 0 = .ok (.aload_n 0, 1) := by decide +kernel
theorem dX2_needRoomForMachine_1 : decode cX2_needRoomForMachine 1 = .ok (.getfield 10, 3) := by decide +kernel
theorem dX2_needRoomForMachine_4 : decode cX2_needRoomForMachine 4 = .ok (.invokevirtual 66, 3) := by decide +kernel
theorem dX2_needRoomForMachine_7 : decode cX2_needRoomForMachine 7 = .ok (.bipush 6, 2) := by decide +kernel
theorem dX2_needRoomForMachine_9 : decode cX2_needRoomForMachine 9 = .ok (.if_icmp .lt 13, 3) := by decide +kernel
theorem dX2_needRoomForMachine_12 : decode cX2_needRoomForMachine 12 = .ok (.new 83, 3) := by decide +kernel
theorem dX2_needRoomForMachine_15 : decode cX2_needRoomForMachine 15 = .ok (.dup, 1) := by decide +kernel
theorem dX2_needRoomForMachine_16 : decode cX2_needRoomForMachine 16 = .ok (.ldc 186, 2) := by decide +kernel
theorem dX2_needRoomForMachine_18 : decode cX2_needRoomForMachine 18 = .ok (.invokespecial 87, 3) := by decide +kernel
theorem dX2_needRoomForMachine_21 : decode cX2_needRoomForMachine 21 = .ok (.athrow, 1) := by decide +kernel
theorem dX2_needRoomForMachine_22 : decode cX2_needRoomForMachine 22 = .ok (.return_, 1) := by decide +kernel
theorem dX2_add_0 : decode cX2_add 0 = .ok (.aload_n 0, 1) := by decide +kernel
theorem dX2_add_1 : decode cX2_add 1 = .ok (.getfield 10, 3) := by decide +kernel
theorem dX2_add_4 : decode cX2_add 4 = .ok (.aload_n 1, 1) := by decide +kernel
theorem dX2_add_5 : decode cX2_add 5 = .ok (.invokevirtual 106, 3) := by decide +kernel
theorem dX2_add_8 : decode cX2_add 8 = .ok (.pop, 1) := by decide +kernel
theorem dX2_add_9 : decode cX2_add 9 = .ok (.aload_n 0, 1) := by decide +kernel
theorem dX2_add_10 : decode cX2_add 10 = .ok (.getfield 10, 3) := by decide +kernel
theorem dX2_add_13 : decode cX2_add 13 = .ok (.invokevirtual 66, 3) := by decide +kernel
theorem dX2_add_16 : decode cX2_add 16 = .ok (.iconst 1, 1) := by decide +kernel
theorem dX2_add_17 : decode cX2_add 17 = .ok (.isub, 1) := by decide +kernel
theorem dX2_add_18 : decode cX2_add 18 = .ok (.ireturn, 1) := by decide +kernel
theorem dX2_insertByBar_0 : decode cX2_insertByBar 0 = .ok (.aload_n 0, 1) := by decide +kernel
theorem dX2_insertByBar_1 : decode cX2_insertByBar 1 = .ok (.getfield 19, 3) := by decide +kernel
theorem dX2_insertByBar_4 : decode cX2_insertByBar 4 = .ok (.invokevirtual 66, 3) := by decide +kernel
theorem dX2_insertByBar_7 : decode cX2_insertByBar 7 = .ok (.istore_n 2, 1) := by decide +kernel
theorem dX2_insertByBar_8 : decode cX2_insertByBar 8 = .ok (.iload_n 2, 1) := by decide +kernel
theorem dX2_insertByBar_9 : decode cX2_insertByBar 9 = .ok (.ifCond .le 32, 3) := by decide +kernel
theorem dX2_insertByBar_12 : decode cX2_insertByBar 12 = .ok (.aload_n 0, 1) := by decide +kernel
theorem dX2_insertByBar_13 : decode cX2_insertByBar 13 = .ok (.getfield 19, 3) := by decide +kernel
theorem dX2_insertByBar_16 : decode cX2_insertByBar 16 = .ok (.iload_n 2, 1) := by decide +kernel
theorem dX2_insertByBar_17 : decode cX2_insertByBar 17 = .ok (.iconst 1, 1) := by decide +kernel
theorem dX2_insertByBar_18 : decode cX2_insertByBar 18 = .ok (.isub, 1) := by decide +kernel
theorem dX2_insertByBar_19 : decode cX2_insertByBar 19 = .ok (.invokevirtual 70, 3) := by decide +kernel
theorem dX2_insertByBar_22 : decode cX2_insertByBar 22 = .ok (.checkcast 74, 3) := by decide +kernel
theorem dX2_insertByBar_25 : decode cX2_insertByBar 25 = .ok (.getfield 80, 3) := by decide +kernel
theorem dX2_insertByBar_28 : decode cX2_insertByBar 28 = .ok (.aload_n 1, 1) := by decide +kernel
theorem dX2_insertByBar_29 : decode cX2_insertByBar 29 = .ok (.getfield 80, 3) := by decide +kernel
theorem dX2_insertByBar_32 : decode cX2_insertByBar 32 = .ok (.if_icmp .le 9, 3) := by decide +kernel
theorem dX2_insertByBar_35 : decode cX2_insertByBar 35 = .ok (.iinc 2 (-1), 3) := by decide +kernel
theorem dX2_insertByBar_38 : decode cX2_insertByBar 38 = .ok (.goto (-30), 3) := by decide +kernel
theorem dX2_insertByBar_41 : decode cX2_insertByBar 41 = .ok (.aload_n 0, 1) := by decide +kernel
theorem dX2_insertByBar_42 : decode cX2_insertByBar 42 = .ok (.getfield 19, 3) := by decide +kernel
theorem dX2_insertByBar_45 : decode cX2_insertByBar 45 = .ok (.iload_n 2, 1) := by decide +kernel
theorem dX2_insertByBar_46 : decode cX2_insertByBar 46 = .ok (.aload_n 1, 1) := by decide +kernel
theorem dX2_insertByBar_47 : decode cX2_insertByBar 47 = .ok (.invokevirtual 188, 3) := by decide +kernel
theorem dX2_insertByBar_50 : decode cX2_insertByBar 50 = .ok (.return_, 1) := by decide +kernel
theorem dX2_highestCue_0 : decode cX2_highestCue 0 = .ok (.aload_n 0, 1) := by decide +kernel
theorem dX2_highestCue_1 : decode cX2_highestCue 1 = .ok (.getfield 16, 3) := by decide +kernel
theorem dX2_highestCue_4 : decode cX2_highestCue 4 = .ok (.invokevirtual 66, 3) := by decide +kernel
theorem dX2_highestCue_7 : decode cX2_highestCue 7 = .ok (.iconst 1, 1) := by decide +kernel
theorem dX2_highestCue_8 : decode cX2_highestCue 8 = .ok (.isub, 1) := by decide +kernel
theorem dX2_highestCue_9 : decode cX2_highestCue 9 = .ok (.istore_n 3, 1) := by decide +kernel
theorem dX2_highestCue_10 : decode cX2_highestCue 10 = .ok (.iload_n 3, 1) := by decide +kernel
theorem dX2_highestCue_11 : decode cX2_highestCue 11 = .ok (.ifCond .lt 51, 3) := by decide +kernel
theorem dX2_highestCue_14 : decode cX2_highestCue 14 = .ok (.aload_n 0, 1) := by decide +kernel
theorem dX2_highestCue_15 : decode cX2_highestCue 15 = .ok (.getfield 16, 3) := by decide +kernel
theorem dX2_highestCue_18 : decode cX2_highestCue 18 = .ok (.iload_n 3, 1) := by decide +kernel
theorem dX2_highestCue_19 : decode cX2_highestCue 19 = .ok (.invokevirtual 70, 3) := by decide +kernel
theorem dX2_highestCue_22 : decode cX2_highestCue 22 = .ok (.checkcast 74, 3) := by decide +kernel
theorem dX2_highestCue_25 : decode cX2_highestCue 25 = .ok (.astore 4, 2) := by decide +kernel
theorem dX2_highestCue_27 : decode cX2_highestCue 27 = .ok (.aload 4, 2) := by decide +kernel
theorem dX2_highestCue_29 : decode cX2_highestCue 29 = .ok (.getfield 76, 3) := by decide +kernel
theorem dX2_highestCue_32 : decode cX2_highestCue 32 = .ok (.ifCond .ne 24, 3) := by decide +kernel
theorem dX2_highestCue_35 : decode cX2_highestCue 35 = .ok (.aload 4, 2) := by decide +kernel
theorem dX2_highestCue_37 : decode cX2_highestCue 37 = .ok (.getfield 121, 3) := by decide +kernel
theorem dX2_highestCue_40 : decode cX2_highestCue 40 = .ok (.aload_n 1, 1) := by decide +kernel
theorem dX2_highestCue_41 : decode cX2_highestCue 41 = .ok (.if_acmp .ne 15, 3) := by decide +kernel
theorem dX2_highestCue_44 : decode cX2_highestCue 44 = .ok (.aload 4, 2) := by decide +kernel
theorem dX2_highestCue_46 : decode cX2_highestCue 46 = .ok (.getfield 80, 3) := by decide +kernel
theorem dX2_highestCue_49 : decode cX2_highestCue 49 = .ok (.iload_n 2, 1) := by decide +kernel
theorem dX2_highestCue_50 : decode cX2_highestCue 50 = .ok (.if_icmp .ne 6, 3) := by decide +kernel
theorem dX2_highestCue_53 : decode cX2_highestCue 53 = .ok (.aload 4, 2) := by decide +kernel
theorem dX2_highestCue_55 : decode cX2_highestCue 55 = .ok (.areturn, 1) := by decide +kernel
theorem dX2_highestCue_56 : decode cX2_highestCue 56 = .ok (.iinc 3 (-1), 3) := by decide +kernel
theorem dX2_highestCue_59 : decode cX2_highestCue 59 = .ok (.goto (-49), 3) := by decide +kernel
theorem dX2_highestCue_62 : decode cX2_highestCue 62 = .ok (.aconst_null, 1) := by decide +kernel
theorem dX2_highestCue_63 : decode cX2_highestCue 63 = .ok (.areturn, 1) := by decide +kernel
theorem dX2_barTicks_0 : decode cX2_barTicks 0 = .ok (.iload_n 1, 1) := by decide +kernel
theorem dX2_barTicks_1 : decode cX2_barTicks 1 = .ok (.iconst 1, 1) := by decide +kernel
theorem dX2_barTicks_2 : decode cX2_barTicks 2 = .ok (.if_icmp .ge 7, 3) := by decide +kernel
theorem dX2_barTicks_5 : decode cX2_barTicks 5 = .ok (.iconst 1, 1) := by decide +kernel
theorem dX2_barTicks_6 : decode cX2_barTicks 6 = .ok (.goto 16, 3) := by decide +kernel
theorem dX2_barTicks_9 : decode cX2_barTicks 9 = .ok (.iconst 1, 1) := by decide +kernel
theorem dX2_barTicks_10 : decode cX2_barTicks 10 = .ok (.aload_n 0, 1) := by decide +kernel
theorem dX2_barTicks_11 : decode cX2_barTicks 11 = .ok (.getfield 34, 3) := by decide +kernel
theorem dX2_barTicks_14 : decode cX2_barTicks 14 = .ok (.bipush 100, 2) := by decide +kernel
theorem dX2_barTicks_16 : decode cX2_barTicks 16 = .ok (.imul, 1) := by decide +kernel
theorem dX2_barTicks_17 : decode cX2_barTicks 17 = .ok (.iload_n 1, 1) := by decide +kernel
theorem dX2_barTicks_18 : decode cX2_barTicks 18 = .ok (.idiv, 1) := by decide +kernel
theorem dX2_barTicks_19 : decode cX2_barTicks 19 = .ok (.invokestatic 166, 3) := by decide +kernel
theorem dX2_barTicks_22 : decode cX2_barTicks 22 = .ok (.ireturn, 1) := by decide +kernel
theorem dX2_rewindAll_0 : decode cX2_rewindAll 0 = .ok (.iconst 0, 1) := by decide +kernel
theorem dX2_rewindAll_1 : decode cX2_rewindAll 1 = .ok (.istore_n 1, 1) := by decide +kernel
theorem dX2_rewindAll_2 : decode cX2_rewindAll 2 = .ok (.iload_n 1, 1) := by decide +kernel
theorem dX2_rewindAll_3 : decode cX2_rewindAll 3 = .ok (.aload_n 0, 1) := by decide +kernel
theorem dX2_rewindAll_4 : decode cX2_rewindAll 4 = .ok (.getfield 10, 3) := by decide +kernel
theorem dX2_rewindAll_7 : decode cX2_rewindAll 7 = .ok (.invokevirtual 66, 3) := by decide +kernel
theorem dX2_rewindAll_10 : decode cX2_rewindAll 10 = .ok (.if_icmp .ge 23, 3) := by decide +kernel
theorem dX2_rewindAll_13 : decode cX2_rewindAll 13 = .ok (.aload_n 0, 1) := by decide +kernel
theorem dX2_rewindAll_14 : decode cX2_rewindAll 14 = .ok (.getfield 10, 3) := by decide +kernel
theorem dX2_rewindAll_17 : decode cX2_rewindAll 17 = .ok (.iload_n 1, 1) := by decide +kernel
theorem dX2_rewindAll_18 : decode cX2_rewindAll 18 = .ok (.invokevirtual 70, 3) := by decide +kernel
theorem dX2_rewindAll_21 : decode cX2_rewindAll 21 = .ok (.checkcast 57, 3) := by decide +kernel
theorem dX2_rewindAll_24 : decode cX2_rewindAll 24 = .ok (.invokevirtual 133, 3) := by decide +kernel
theorem dX2_rewindAll_27 : decode cX2_rewindAll 27 = .ok (.iinc 1 1, 3) := by decide +kernel
theorem dX2_rewindAll_30 : decode cX2_rewindAll 30 = .ok (.goto (-28), 3) := by decide +kernel
theorem dX2_rewindAll_33 : decode cX2_rewindAll 33 = .ok (.return_, 1) := by decide +kernel
theorem dX2_startBarForAll_0 : decode cX2_startBarForAll 0 = .ok (.iconst 0, 1) := by decide +kernel
theorem dX2_startBarForAll_1 : decode cX2_startBarForAll 1 = .ok (.istore_n 2, 1) := by decide +kernel
theorem dX2_startBarForAll_2 : decode cX2_startBarForAll 2 = .ok (.iload_n 2, 1) := by decide +kernel
theorem dX2_startBarForAll_3 : decode cX2_startBarForAll 3 = .ok (.aload_n 0, 1) := by decide +kernel
theorem dX2_startBarForAll_4 : decode cX2_startBarForAll 4 = .ok (.getfield 10, 3) := by decide +kernel
theorem dX2_startBarForAll_7 : decode cX2_startBarForAll 7 = .ok (.invokevirtual 66, 3) := by decide +kernel
theorem dX2_startBarForAll_10 : decode cX2_startBarForAll 10 = .ok (.if_icmp .ge 24, 3) := by decide +kernel
theorem dX2_startBarForAll_13 : decode cX2_startBarForAll 13 = .ok (.aload_n 0, 1) := by decide +kernel
theorem dX2_startBarForAll_14 : decode cX2_startBarForAll 14 = .ok (.getfield 10, 3) := by decide +kernel
theorem dX2_startBarForAll_17 : decode cX2_startBarForAll 17 = .ok (.iload_n 2, 1) := by decide +kernel
theorem dX2_startBarForAll_18 : decode cX2_startBarForAll 18 = .ok (.invokevirtual 70, 3) := by decide +kernel
theorem dX2_startBarForAll_21 : decode cX2_startBarForAll 21 = .ok (.checkcast 57, 3) := by decide +kernel
theorem dX2_startBarForAll_24 : decode cX2_startBarForAll 24 = .ok (.iload_n 1, 1) := by decide +kernel
theorem dX2_startBarForAll_25 : decode cX2_startBarForAll 25 = .ok (.invokevirtual 136, 3) := by decide +kernel
theorem dX2_startBarForAll_28 : decode cX2_startBarForAll 28 = .ok (.iinc 2 1, 3) := by decide +kernel
theorem dX2_startBarForAll_31 : decode cX2_startBarForAll 31 = .ok (.goto (-29), 3) := by decide +kernel
theorem dX2_startBarForAll_34 : decode cX2_startBarForAll 34 = .ok (.return_, 1) := by decide +kernel
theorem dX2_goAll_0 : decode cX2_goAll 0 = .ok (.iconst 0, 1) := by decide +kernel
theorem dX2_goAll_1 : decode cX2_goAll 1 = .ok (.istore_n 1, 1) := by decide +kernel
theorem dX2_goAll_2 : decode cX2_goAll 2 = .ok (.iconst 0, 1) := by decide +kernel
theorem dX2_goAll_3 : decode cX2_goAll 3 = .ok (.istore_n 2, 1) := by decide +kernel
theorem dX2_goAll_4 : decode cX2_goAll 4 = .ok (.iload_n 2, 1) := by decide +kernel
theorem dX2_goAll_5 : decode cX2_goAll 5 = .ok (.aload_n 0, 1) := by decide +kernel
theorem dX2_goAll_6 : decode cX2_goAll 6 = .ok (.getfield 10, 3) := by decide +kernel
theorem dX2_goAll_9 : decode cX2_goAll 9 = .ok (.invokevirtual 66, 3) := by decide +kernel
theorem dX2_goAll_12 : decode cX2_goAll 12 = .ok (.if_icmp .ge 29, 3) := by decide +kernel
theorem dX2_goAll_15 : decode cX2_goAll 15 = .ok (.aload_n 0, 1) := by decide +kernel
theorem dX2_goAll_16 : decode cX2_goAll 16 = .ok (.getfield 10, 3) := by decide +kernel
theorem dX2_goAll_19 : decode cX2_goAll 19 = .ok (.iload_n 2, 1) := by decide +kernel
theorem dX2_goAll_20 : decode cX2_goAll 20 = .ok (.invokevirtual 70, 3) := by decide +kernel
theorem dX2_goAll_23 : decode cX2_goAll 23 = .ok (.checkcast 57, 3) := by decide +kernel
theorem dX2_goAll_26 : decode cX2_goAll 26 = .ok (.iconst 1, 1) := by decide +kernel
theorem dX2_goAll_27 : decode cX2_goAll 27 = .ok (.invokevirtual 140, 3) := by decide +kernel
theorem dX2_goAll_30 : decode cX2_goAll 30 = .ok (.ifCond .eq 5, 3) := by decide +kernel
theorem dX2_goAll_33 : decode cX2_goAll 33 = .ok (.iconst 1, 1) := by decide +kernel
theorem dX2_goAll_34 : decode cX2_goAll 34 = .ok (.istore_n 1, 1) := by decide +kernel
theorem dX2_goAll_35 : decode cX2_goAll 35 = .ok (.iinc 2 1, 3) := by decide +kernel
theorem dX2_goAll_38 : decode cX2_goAll 38 = .ok (.goto (-34), 3) := by decide +kernel
theorem dX2_goAll_41 : decode cX2_goAll 41 = .ok (.iload_n 1, 1) := by decide +kernel
theorem dX2_goAll_42 : decode cX2_goAll 42 = .ok (.ireturn, 1) := by decide +kernel
theorem dX2_firstMeeting_0 : decode cX2_firstMeeting 0 = .ok (.aload_n 0, 1) := by decide +kernel
theorem dX2_firstMeeting_1 : decode cX2_firstMeeting 1 = .ok (.invokevirtual 191, 3) := by decide +kernel
theorem dX2_firstMeeting_4 : decode cX2_firstMeeting 4 = .ok (.aload_n 0, 1) := by decide +kernel
theorem dX2_firstMeeting_5 : decode cX2_firstMeeting 5 = .ok (.invokevirtual 149, 3) := by decide +kernel
theorem dX2_firstMeeting_8 : decode cX2_firstMeeting 8 = .ok (.iconst (-1), 1) := by decide +kernel
theorem dX2_firstMeeting_9 : decode cX2_firstMeeting 9 = .ok (.if_icmp .eq 5, 3) := by decide +kernel
theorem dX2_firstMeeting_12 : decode cX2_firstMeeting 12 = .ok (.iconst 0, 1) := by decide +kernel
theorem dX2_firstMeeting_13 : decode cX2_firstMeeting 13 = .ok (.ireturn, 1) := by decide +kernel
theorem dX2_firstMeeting_14 : decode cX2_firstMeeting 14 = .ok (.iconst 0, 1) := by decide +kernel
theorem dX2_firstMeeting_15 : decode cX2_firstMeeting 15 = .ok (.istore_n 2, 1) := by decide +kernel
theorem dX2_firstMeeting_16 : decode cX2_firstMeeting 16 = .ok (.iload_n 2, 1) := by decide +kernel
theorem dX2_firstMeeting_17 : decode cX2_firstMeeting 17 = .ok (.aload_n 0, 1) := by decide +kernel
theorem dX2_firstMeeting_18 : decode cX2_firstMeeting 18 = .ok (.getfield 30, 3) := by decide +kernel
theorem dX2_firstMeeting_21 : decode cX2_firstMeeting 21 = .ok (.if_icmp .ge 48, 3) := by decide +kernel
theorem dX2_firstMeeting_24 : decode cX2_firstMeeting 24 = .ok (.aload_n 0, 1) := by decide +kernel
theorem dX2_firstMeeting_25 : decode cX2_firstMeeting 25 = .ok (.iload_n 2, 1) := by decide +kernel
theorem dX2_firstMeeting_26 : decode cX2_firstMeeting 26 = .ok (.invokevirtual 194, 3) := by decide +kernel
theorem dX2_firstMeeting_29 : decode cX2_firstMeeting 29 = .ok (.iconst 1, 1) := by decide +kernel
theorem dX2_firstMeeting_30 : decode cX2_firstMeeting 30 = .ok (.istore_n 3, 1) := by decide +kernel
theorem dX2_firstMeeting_31 : decode cX2_firstMeeting 31 = .ok (.iload_n 3, 1) := by decide +kernel
theorem dX2_firstMeeting_32 : decode cX2_firstMeeting 32 = .ok (.iload_n 1, 1) := by decide +kernel
theorem dX2_firstMeeting_33 : decode cX2_firstMeeting 33 = .ok (.if_icmp .gt 30, 3) := by decide +kernel
theorem dX2_firstMeeting_36 : decode cX2_firstMeeting 36 = .ok (.aload_n 0, 1) := by decide +kernel
theorem dX2_firstMeeting_37 : decode cX2_firstMeeting 37 = .ok (.invokevirtual 197, 3) := by decide +kernel
theorem dX2_firstMeeting_40 : decode cX2_firstMeeting 40 = .ok (.ifCond .eq 23, 3) := by decide +kernel
theorem dX2_firstMeeting_43 : decode cX2_firstMeeting 43 = .ok (.aload_n 0, 1) := by decide +kernel
theorem dX2_firstMeeting_44 : decode cX2_firstMeeting 44 = .ok (.invokevirtual 149, 3) := by decide +kernel
theorem dX2_firstMeeting_47 : decode cX2_firstMeeting 47 = .ok (.iconst (-1), 1) := by decide +kernel
theorem dX2_firstMeeting_48 : decode cX2_firstMeeting 48 = .ok (.if_icmp .eq 9, 3) := by decide +kernel
theorem dX2_firstMeeting_51 : decode cX2_firstMeeting 51 = .ok (.iload_n 2, 1) := by decide +kernel
theorem dX2_firstMeeting_52 : decode cX2_firstMeeting 52 = .ok (.iload_n 1, 1) := by decide +kernel
theorem dX2_firstMeeting_53 : decode cX2_firstMeeting 53 = .ok (.imul, 1) := by decide +kernel
theorem dX2_firstMeeting_54 : decode cX2_firstMeeting 54 = .ok (.iload_n 3, 1) := by decide +kernel
theorem dX2_firstMeeting_55 : decode cX2_firstMeeting 55 = .ok (.iadd, 1) := by decide +kernel
theorem dX2_firstMeeting_56 : decode cX2_firstMeeting 56 = .ok (.ireturn, 1) := by decide +kernel
theorem dX2_firstMeeting_57 : decode cX2_firstMeeting 57 = .ok (.iinc 3 1, 3) := by decide +kernel
theorem dX2_firstMeeting_60 : decode cX2_firstMeeting 60 = .ok (.goto (-29), 3) := by decide +kernel
theorem dX2_firstMeeting_63 : decode cX2_firstMeeting 63 = .ok (.iinc 2 1, 3) := by decide +kernel
theorem dX2_firstMeeting_66 : decode cX2_firstMeeting 66 = .ok (.goto (-50), 3) := by decide +kernel
theorem dX2_firstMeeting_69 : decode cX2_firstMeeting 69 = .ok (.iconst (-1), 1) := by decide +kernel
theorem dX2_firstMeeting_70 : decode cX2_firstMeeting 70 = .ok (.ireturn, 1) := by decide +kernel
theorem dX2_leastPairMeetingNow_0 : decode cX2_leastPairMeetingNow 0 = .ok (.iconst 0, 1) := by decide +kernel
theorem dX2_leastPairMeetingNow_1 : decode cX2_leastPairMeetingNow 1 = .ok (.istore_n 1, 1) := by decide +kernel
theorem dX2_leastPairMeetingNow_2 : decode cX2_leastPairMeetingNow 2 = .ok (.iload_n 1, 1) := by decide +kernel
theorem dX2_leastPairMeetingNow_3 : decode cX2_leastPairMeetingNow 3 = .ok (.aload_n 0, 1) := by decide +kernel
theorem dX2_leastPairMeetingNow_4 : decode cX2_leastPairMeetingNow 4 = .ok (.getfield 10, 3) := by decide +kernel
theorem dX2_leastPairMeetingNow_7 : decode cX2_leastPairMeetingNow 7 = .ok (.invokevirtual 66, 3) := by decide +kernel
theorem dX2_leastPairMeetingNow_10 : decode cX2_leastPairMeetingNow 10 = .ok (.if_icmp .ge 67, 3) := by decide +kernel
theorem dX2_leastPairMeetingNow_13 : decode cX2_leastPairMeetingNow 13 = .ok (.aload_n 0, 1) := by decide +kernel
theorem dX2_leastPairMeetingNow_14 : decode cX2_leastPairMeetingNow 14 = .ok (.getfield 10, 3) := by decide +kernel
theorem dX2_leastPairMeetingNow_17 : decode cX2_leastPairMeetingNow 17 = .ok (.iload_n 1, 1) := by decide +kernel
theorem dX2_leastPairMeetingNow_18 : decode cX2_leastPairMeetingNow 18 = .ok (.invokevirtual 70, 3) := by decide +kernel
theorem dX2_leastPairMeetingNow_21 : decode cX2_leastPairMeetingNow 21 = .ok (.checkcast 57, 3) := by decide +kernel
theorem dX2_leastPairMeetingNow_24 : decode cX2_leastPairMeetingNow 24 = .ok (.astore_n 2, 1) := by decide +kernel
theorem dX2_leastPairMeetingNow_25 : decode cX2_leastPairMeetingNow 25 = .ok (.iload_n 1, 1) := by decide +kernel
theorem dX2_leastPairMeetingNow_26 : decode cX2_leastPairMeetingNow 26 = .ok (.iconst 1, 1) := by decide +kernel
theorem dX2_leastPairMeetingNow_27 : decode cX2_leastPairMeetingNow 27 = .ok (.iadd, 1) := by decide +kernel
theorem dX2_leastPairMeetingNow_28 : decode cX2_leastPairMeetingNow 28 = .ok (.istore_n 3, 1) := by decide +kernel
theorem dX2_leastPairMeetingNow_29 : decode cX2_leastPairMeetingNow 29 = .ok (.iload_n 3, 1) := by decide +kernel
theorem dX2_leastPairMeetingNow_30 : decode cX2_leastPairMeetingNow 30 = .ok (.aload_n 0, 1) := by decide +kernel
theorem dX2_leastPairMeetingNow_31 : decode cX2_leastPairMeetingNow 31 = .ok (.getfield 10, 3) := by decide +kernel
theorem dX2_leastPairMeetingNow_34 : decode cX2_leastPairMeetingNow 34 = .ok (.invokevirtual 66, 3) := by decide +kernel
theorem dX2_leastPairMeetingNow_37 : decode cX2_leastPairMeetingNow 37 = .ok (.if_icmp .ge 34, 3) := by decide +kernel
theorem dX2_leastPairMeetingNow_40 : decode cX2_leastPairMeetingNow 40 = .ok (.aload_n 2, 1) := by decide +kernel
theorem dX2_leastPairMeetingNow_41 : decode cX2_leastPairMeetingNow 41 = .ok (.aload_n 0, 1) := by decide +kernel
theorem dX2_leastPairMeetingNow_42 : decode cX2_leastPairMeetingNow 42 = .ok (.getfield 10, 3) := by decide +kernel
theorem dX2_leastPairMeetingNow_45 : decode cX2_leastPairMeetingNow 45 = .ok (.iload_n 3, 1) := by decide +kernel
theorem dX2_leastPairMeetingNow_46 : decode cX2_leastPairMeetingNow 46 = .ok (.invokevirtual 70, 3) := by decide +kernel
theorem dX2_leastPairMeetingNow_49 : decode cX2_leastPairMeetingNow 49 = .ok (.checkcast 57, 3) := by decide +kernel
theorem dX2_leastPairMeetingNow_52 : decode cX2_leastPairMeetingNow 52 = .ok (.invokevirtual 201, 3) := by decide +kernel
theorem dX2_leastPairMeetingNow_55 : decode cX2_leastPairMeetingNow 55 = .ok (.ifCond .eq 10, 3) := by decide +kernel
theorem dX2_leastPairMeetingNow_58 : decode cX2_leastPairMeetingNow 58 = .ok (.bipush 10, 2) := by decide +kernel
theorem dX2_leastPairMeetingNow_60 : decode cX2_leastPairMeetingNow 60 = .ok (.iload_n 1, 1) := by decide +kernel
theorem dX2_leastPairMeetingNow_61 : decode cX2_leastPairMeetingNow 61 = .ok (.imul, 1) := by decide +kernel
theorem dX2_leastPairMeetingNow_62 : decode cX2_leastPairMeetingNow 62 = .ok (.iload_n 3, 1) := by decide +kernel
theorem dX2_leastPairMeetingNow_63 : decode cX2_leastPairMeetingNow 63 = .ok (.iadd, 1) := by decide +kernel
theorem dX2_leastPairMeetingNow_64 : decode cX2_leastPairMeetingNow 64 = .ok (.ireturn, 1) := by decide +kernel
theorem dX2_leastPairMeetingNow_65 : decode cX2_leastPairMeetingNow 65 = .ok (.iinc 3 1, 3) := by decide +kernel
theorem dX2_leastPairMeetingNow_68 : decode cX2_leastPairMeetingNow 68 = .ok (.goto (-39), 3) := by decide +kernel
theorem dX2_leastPairMeetingNow_71 : decode cX2_leastPairMeetingNow 71 = .ok (.iinc 1 1, 3) := by decide +kernel
theorem dX2_leastPairMeetingNow_74 : decode cX2_leastPairMeetingNow 74 = .ok (.goto (-72), 3) := by decide +kernel
theorem dX2_leastPairMeetingNow_77 : decode cX2_leastPairMeetingNow 77 = .ok (.iconst (-1), 1) := by decide +kernel
theorem dX2_leastPairMeetingNow_78 : decode cX2_leastPairMeetingNow 78 = .ok (.ireturn, 1) := by decide +kernel
theorem dX2_workerTonight_0 : decode cX2_workerTonight 0 = .ok (.aload_n 1, 1) := by decide +kernel
theorem dX2_workerTonight_1 : decode cX2_workerTonight 1 = .ok (.getfield 205, 3) := by decide +kernel
theorem dX2_workerTonight_4 : decode cX2_workerTonight 4 = .ok (.istore_n 2, 1) := by decide +kernel
theorem dX2_workerTonight_5 : decode cX2_workerTonight 5 = .ok (.iconst 0, 1) := by decide +kernel
theorem dX2_workerTonight_6 : decode cX2_workerTonight 6 = .ok (.istore_n 3, 1) := by decide +kernel
theorem dX2_workerTonight_7 : decode cX2_workerTonight 7 = .ok (.iload_n 3, 1) := by decide +kernel
theorem dX2_workerTonight_8 : decode cX2_workerTonight 8 = .ok (.bipush 6, 2) := by decide +kernel
theorem dX2_workerTonight_10 : decode cX2_workerTonight 10 = .ok (.if_icmp .ge 34, 3) := by decide +kernel
theorem dX2_workerTonight_13 : decode cX2_workerTonight 13 = .ok (.iload_n 2, 1) := by decide +kernel
theorem dX2_workerTonight_14 : decode cX2_workerTonight 14 = .ok (.invokestatic 97, 3) := by decide +kernel
theorem dX2_workerTonight_17 : decode cX2_workerTonight 17 = .ok (.ifCond .eq 27, 3) := by decide +kernel
theorem dX2_workerTonight_20 : decode cX2_workerTonight 20 = .ok (.aload_n 0, 1) := by decide +kernel
theorem dX2_workerTonight_21 : decode cX2_workerTonight 21 = .ok (.getfield 22, 3) := by decide +kernel
theorem dX2_workerTonight_24 : decode cX2_workerTonight 24 = .ok (.iload_n 2, 1) := by decide +kernel
theorem dX2_workerTonight_25 : decode cX2_workerTonight 25 = .ok (.baload, 1) := by decide +kernel
theorem dX2_workerTonight_26 : decode cX2_workerTonight 26 = .ok (.ifCond .ne 5, 3) := by decide +kernel
theorem dX2_workerTonight_29 : decode cX2_workerTonight 29 = .ok (.iload_n 2, 1) := by decide +kernel
theorem dX2_workerTonight_30 : decode cX2_workerTonight 30 = .ok (.ireturn, 1) := by decide +kernel
theorem dX2_workerTonight_31 : decode cX2_workerTonight 31 = .ok (.aload_n 0, 1) := by decide +kernel
theorem dX2_workerTonight_32 : decode cX2_workerTonight 32 = .ok (.getfield 26, 3) := by decide +kernel
theorem dX2_workerTonight_35 : decode cX2_workerTonight 35 = .ok (.iload_n 2, 1) := by decide +kernel
theorem dX2_workerTonight_36 : decode cX2_workerTonight 36 = .ok (.iaload, 1) := by decide +kernel
theorem dX2_workerTonight_37 : decode cX2_workerTonight 37 = .ok (.istore_n 2, 1) := by decide +kernel
theorem dX2_workerTonight_38 : decode cX2_workerTonight 38 = .ok (.iinc 3 1, 3) := by decide +kernel
theorem dX2_workerTonight_41 : decode cX2_workerTonight 41 = .ok (.goto (-34), 3) := by decide +kernel
theorem dX2_workerTonight_44 : decode cX2_workerTonight 44 = .ok (.iconst (-1), 1) := by decide +kernel
theorem dX2_workerTonight_45 : decode cX2_workerTonight 45 = .ok (.ireturn, 1) := by decide +kernel
theorem dX2_planWork_0 : decode cX2_planWork 0 = .ok (.iconst 0, 1) := by decide +kernel
theorem dX2_planWork_1 : decode cX2_planWork 1 = .ok (.istore_n 2, 1) := by decide +kernel
theorem dX2_planWork_2 : decode cX2_planWork 2 = .ok (.iload_n 2, 1) := by decide +kernel
theorem dX2_planWork_3 : decode cX2_planWork 3 = .ok (.aload_n 0, 1) := by decide +kernel
theorem dX2_planWork_4 : decode cX2_planWork 4 = .ok (.getfield 16, 3) := by decide +kernel
theorem dX2_planWork_7 : decode cX2_planWork 7 = .ok (.invokevirtual 66, 3) := by decide +kernel
theorem dX2_planWork_10 : decode cX2_planWork 10 = .ok (.if_icmp .ge 24, 3) := by decide +kernel
theorem dX2_planWork_13 : decode cX2_planWork 13 = .ok (.aload_n 0, 1) := by decide +kernel
theorem dX2_planWork_14 : decode cX2_planWork 14 = .ok (.getfield 16, 3) := by decide +kernel
theorem dX2_planWork_17 : decode cX2_planWork 17 = .ok (.iload_n 2, 1) := by decide +kernel
theorem dX2_planWork_18 : decode cX2_planWork 18 = .ok (.invokevirtual 70, 3) := by decide +kernel
theorem dX2_planWork_21 : decode cX2_planWork 21 = .ok (.checkcast 74, 3) := by decide +kernel
theorem dX2_planWork_24 : decode cX2_planWork 24 = .ok (.iconst 0, 1) := by decide +kernel
theorem dX2_planWork_25 : decode cX2_planWork 25 = .ok (.putfield 159, 3) := by decide +kernel
theorem dX2_planWork_28 : decode cX2_planWork 28 = .ok (.iinc 2 1, 3) := by decide +kernel
theorem dX2_planWork_31 : decode cX2_planWork 31 = .ok (.goto (-29), 3) := by decide +kernel
theorem dX2_planWork_34 : decode cX2_planWork 34 = .ok (.aload_n 0, 1) := by decide +kernel
theorem dX2_planWork_35 : decode cX2_planWork 35 = .ok (.invokevirtual 191, 3) := by decide +kernel
theorem dX2_planWork_38 : decode cX2_planWork 38 = .ok (.iconst 0, 1) := by decide +kernel
theorem dX2_planWork_39 : decode cX2_planWork 39 = .ok (.istore_n 2, 1) := by decide +kernel
theorem dX2_planWork_40 : decode cX2_planWork 40 = .ok (.iload_n 2, 1) := by decide +kernel
theorem dX2_planWork_41 : decode cX2_planWork 41 = .ok (.aload_n 0, 1) := by decide +kernel
theorem dX2_planWork_42 : decode cX2_planWork 42 = .ok (.getfield 30, 3) := by decide +kernel
theorem dX2_planWork_45 : decode cX2_planWork 45 = .ok (.if_icmp .ge 48, 3) := by decide +kernel
theorem dX2_planWork_48 : decode cX2_planWork 48 = .ok (.aload_n 0, 1) := by decide +kernel
theorem dX2_planWork_49 : decode cX2_planWork 49 = .ok (.iload_n 2, 1) := by decide +kernel
theorem dX2_planWork_50 : decode cX2_planWork 50 = .ok (.invokevirtual 194, 3) := by decide +kernel
theorem dX2_planWork_53 : decode cX2_planWork 53 = .ok (.iconst 0, 1) := by decide +kernel
theorem dX2_planWork_54 : decode cX2_planWork 54 = .ok (.istore_n 3, 1) := by decide +kernel
theorem dX2_planWork_55 : decode cX2_planWork 55 = .ok (.iload_n 3, 1) := by decide +kernel
theorem dX2_planWork_56 : decode cX2_planWork 56 = .ok (.aload_n 0, 1) := by decide +kernel
theorem dX2_planWork_57 : decode cX2_planWork 57 = .ok (.getfield 10, 3) := by decide +kernel
theorem dX2_planWork_60 : decode cX2_planWork 60 = .ok (.invokevirtual 66, 3) := by decide +kernel
theorem dX2_planWork_63 : decode cX2_planWork 63 = .ok (.if_icmp .ge 24, 3) := by decide +kernel
theorem dX2_planWork_66 : decode cX2_planWork 66 = .ok (.aload_n 0, 1) := by decide +kernel
theorem dX2_planWork_67 : decode cX2_planWork 67 = .ok (.getfield 10, 3) := by decide +kernel
theorem dX2_planWork_70 : decode cX2_planWork 70 = .ok (.iload_n 3, 1) := by decide +kernel
theorem dX2_planWork_71 : decode cX2_planWork 71 = .ok (.invokevirtual 70, 3) := by decide +kernel
theorem dX2_planWork_74 : decode cX2_planWork 74 = .ok (.checkcast 57, 3) := by decide +kernel
theorem dX2_planWork_77 : decode cX2_planWork 77 = .ok (.iload_n 1, 1) := by decide +kernel
theorem dX2_planWork_78 : decode cX2_planWork 78 = .ok (.invokevirtual 208, 3) := by decide +kernel
theorem dX2_planWork_81 : decode cX2_planWork 81 = .ok (.iinc 3 1, 3) := by decide +kernel
theorem dX2_planWork_84 : decode cX2_planWork 84 = .ok (.goto (-29), 3) := by decide +kernel
theorem dX2_planWork_87 : decode cX2_planWork 87 = .ok (.iinc 2 1, 3) := by decide +kernel
theorem dX2_planWork_90 : decode cX2_planWork 90 = .ok (.goto (-50), 3) := by decide +kernel
theorem dX2_planWork_93 : decode cX2_planWork 93 = .ok (.return_, 1) := by decide +kernel
theorem dX2_plannedClashes_0 : decode cX2_plannedClashes 0 = .ok (.iconst 0, 1) := by decide +kernel
theorem dX2_plannedClashes_1 : decode cX2_plannedClashes 1 = .ok (.istore_n 3, 1) := by decide +kernel
theorem dX2_plannedClashes_2 : decode cX2_plannedClashes 2 = .ok (.iconst 0, 1) := by decide +kernel
theorem dX2_plannedClashes_3 : decode cX2_plannedClashes 3 = .ok (.istore 4, 2) := by decide +kernel
theorem dX2_plannedClashes_5 : decode cX2_plannedClashes 5 = .ok (.iconst 0, 1) := by decide +kernel
theorem dX2_plannedClashes_6 : decode cX2_plannedClashes 6 = .ok (.istore 5, 2) := by decide +kernel
theorem dX2_plannedClashes_8 : decode cX2_plannedClashes 8 = .ok (.iconst 0, 1) := by decide +kernel
theorem dX2_plannedClashes_9 : decode cX2_plannedClashes 9 = .ok (.istore 6, 2) := by decide +kernel
theorem dX2_plannedClashes_11 : decode cX2_plannedClashes 11 = .ok (.iload 6, 2) := by decide +kernel
theorem dX2_plannedClashes_13 : decode cX2_plannedClashes 13 = .ok (.aload_n 0, 1) := by decide +kernel
theorem dX2_plannedClashes_14 : decode cX2_plannedClashes 14 = .ok (.getfield 19, 3) := by decide +kernel
theorem dX2_plannedClashes_17 : decode cX2_plannedClashes 17 = .ok (.invokevirtual 66, 3) := by decide +kernel
theorem dX2_plannedClashes_20 : decode cX2_plannedClashes 20 = .ok (.if_icmp .ge 83, 3) := by decide +kernel
theorem dX2_plannedClashes_23 : decode cX2_plannedClashes 23 = .ok (.aload_n 0, 1) := by decide +kernel
theorem dX2_plannedClashes_24 : decode cX2_plannedClashes 24 = .ok (.getfield 19, 3) := by decide +kernel
theorem dX2_plannedClashes_27 : decode cX2_plannedClashes 27 = .ok (.iload 6, 2) := by decide +kernel
theorem dX2_plannedClashes_29 : decode cX2_plannedClashes 29 = .ok (.invokevirtual 70, 3) := by decide +kernel
theorem dX2_plannedClashes_32 : decode cX2_plannedClashes 32 = .ok (.checkcast 74, 3) := by decide +kernel
theorem dX2_plannedClashes_35 : decode cX2_plannedClashes 35 = .ok (.astore 7, 2) := by decide +kernel
theorem dX2_plannedClashes_37 : decode cX2_plannedClashes 37 = .ok (.aload 7, 2) := by decide +kernel
theorem dX2_plannedClashes_39 : decode cX2_plannedClashes 39 = .ok (.getfield 159, 3) := by decide +kernel
theorem dX2_plannedClashes_42 : decode cX2_plannedClashes 42 = .ok (.ifCond .le 55, 3) := by decide +kernel
theorem dX2_plannedClashes_45 : decode cX2_plannedClashes 45 = .ok (.aload_n 0, 1) := by decide +kernel
theorem dX2_plannedClashes_46 : decode cX2_plannedClashes 46 = .ok (.aload 7, 2) := by decide +kernel
theorem dX2_plannedClashes_48 : decode cX2_plannedClashes 48 = .ok (.invokevirtual 152, 3) := by decide +kernel
theorem dX2_plannedClashes_51 : decode cX2_plannedClashes 51 = .ok (.iload_n 1, 1) := by decide +kernel
theorem dX2_plannedClashes_52 : decode cX2_plannedClashes 52 = .ok (.if_icmp .ne 45, 3) := by decide +kernel
theorem dX2_plannedClashes_55 : decode cX2_plannedClashes 55 = .ok (.aload 7, 2) := by decide +kernel
theorem dX2_plannedClashes_57 : decode cX2_plannedClashes 57 = .ok (.getfield 80, 3) := by decide +kernel
theorem dX2_plannedClashes_60 : decode cX2_plannedClashes 60 = .ok (.iload_n 2, 1) := by decide +kernel
theorem dX2_plannedClashes_61 : decode cX2_plannedClashes 61 = .ok (.imul, 1) := by decide +kernel
theorem dX2_plannedClashes_62 : decode cX2_plannedClashes 62 = .ok (.istore 8, 2) := by decide +kernel
theorem dX2_plannedClashes_64 : decode cX2_plannedClashes 64 = .ok (.iload 4, 2) := by decide +kernel
theorem dX2_plannedClashes_66 : decode cX2_plannedClashes 66 = .ok (.ifCond .eq 18, 3) := by decide +kernel
theorem dX2_plannedClashes_69 : decode cX2_plannedClashes 69 = .ok (.iload 8, 2) := by decide +kernel
theorem dX2_plannedClashes_71 : decode cX2_plannedClashes 71 = .ok (.iload 5, 2) := by decide +kernel
theorem dX2_plannedClashes_73 : decode cX2_plannedClashes 73 = .ok (.aload_n 0, 1) := by decide +kernel
theorem dX2_plannedClashes_74 : decode cX2_plannedClashes 74 = .ok (.getfield 40, 3) := by decide +kernel
theorem dX2_plannedClashes_77 : decode cX2_plannedClashes 77 = .ok (.iadd, 1) := by decide +kernel
theorem dX2_plannedClashes_78 : decode cX2_plannedClashes 78 = .ok (.if_icmp .ge 6, 3) := by decide +kernel
theorem dX2_plannedClashes_81 : decode cX2_plannedClashes 81 = .ok (.iinc 3 1, 3) := by decide +kernel
theorem dX2_plannedClashes_84 : decode cX2_plannedClashes 84 = .ok (.iconst 1, 1) := by decide +kernel
theorem dX2_plannedClashes_85 : decode cX2_plannedClashes 85 = .ok (.istore 4, 2) := by decide +kernel
theorem dX2_plannedClashes_87 : decode cX2_plannedClashes 87 = .ok (.iload 8, 2) := by decide +kernel
theorem dX2_plannedClashes_89 : decode cX2_plannedClashes 89 = .ok (.aload 7, 2) := by decide +kernel
theorem dX2_plannedClashes_91 : decode cX2_plannedClashes 91 = .ok (.getfield 159, 3) := by decide +kernel
theorem dX2_plannedClashes_94 : decode cX2_plannedClashes 94 = .ok (.iadd, 1) := by decide +kernel
theorem dX2_plannedClashes_95 : decode cX2_plannedClashes 95 = .ok (.istore 5, 2) := by decide +kernel
theorem dX2_plannedClashes_97 : decode cX2_plannedClashes 97 = .ok (.iinc 6 1, 3) := by decide +kernel
theorem dX2_plannedClashes_100 : decode cX2_plannedClashes 100 = .ok (.goto (-89), 3) := by decide +kernel
theorem dX2_plannedClashes_103 : decode cX2_plannedClashes 103 = .ok (.iload_n 3, 1) := by decide +kernel
theorem dX2_plannedClashes_104 : decode cX2_plannedClashes 104 = .ok (.ireturn, 1) := by decide +kernel
theorem dX2_plannedAllManned_0 : decode cX2_plannedAllManned 0 = .ok (.iconst 0, 1) := by decide +kernel
theorem dX2_plannedAllManned_1 : decode cX2_plannedAllManned 1 = .ok (.istore_n 1, 1) := by decide +kernel
theorem dX2_plannedAllManned_2 : decode cX2_plannedAllManned 2 = .ok (.iload_n 1, 1) := by decide +kernel
theorem dX2_plannedAllManned_3 : decode cX2_plannedAllManned 3 = .ok (.aload_n 0, 1) := by decide +kernel
theorem dX2_plannedAllManned_4 : decode cX2_plannedAllManned 4 = .ok (.getfield 16, 3) := by decide +kernel
theorem dX2_plannedAllManned_7 : decode cX2_plannedAllManned 7 = .ok (.invokevirtual 66, 3) := by decide +kernel
theorem dX2_plannedAllManned_10 : decode cX2_plannedAllManned 10 = .ok (.if_icmp .ge 39, 3) := by decide +kernel
theorem dX2_plannedAllManned_13 : decode cX2_plannedAllManned 13 = .ok (.aload_n 0, 1) := by decide +kernel
theorem dX2_plannedAllManned_14 : decode cX2_plannedAllManned 14 = .ok (.getfield 16, 3) := by decide +kernel
theorem dX2_plannedAllManned_17 : decode cX2_plannedAllManned 17 = .ok (.iload_n 1, 1) := by decide +kernel
theorem dX2_plannedAllManned_18 : decode cX2_plannedAllManned 18 = .ok (.invokevirtual 70, 3) := by decide +kernel
theorem dX2_plannedAllManned_21 : decode cX2_plannedAllManned 21 = .ok (.checkcast 74, 3) := by decide +kernel
theorem dX2_plannedAllManned_24 : decode cX2_plannedAllManned 24 = .ok (.astore_n 2, 1) := by decide +kernel
theorem dX2_plannedAllManned_25 : decode cX2_plannedAllManned 25 = .ok (.aload_n 2, 1) := by decide +kernel
theorem dX2_plannedAllManned_26 : decode cX2_plannedAllManned 26 = .ok (.getfield 159, 3) := by decide +kernel
theorem dX2_plannedAllManned_29 : decode cX2_plannedAllManned 29 = .ok (.ifCond .le 14, 3) := by decide +kernel
theorem dX2_plannedAllManned_32 : decode cX2_plannedAllManned 32 = .ok (.aload_n 0, 1) := by decide +kernel
theorem dX2_plannedAllManned_33 : decode cX2_plannedAllManned 33 = .ok (.aload_n 2, 1) := by decide +kernel
theorem dX2_plannedAllManned_34 : decode cX2_plannedAllManned 34 = .ok (.invokevirtual 152, 3) := by decide +kernel
theorem dX2_plannedAllManned_37 : decode cX2_plannedAllManned 37 = .ok (.iconst (-1), 1) := by decide +kernel
theorem dX2_plannedAllManned_38 : decode cX2_plannedAllManned 38 = .ok (.if_icmp .ne 5, 3) := by decide +kernel
theorem dX2_plannedAllManned_41 : decode cX2_plannedAllManned 41 = .ok (.iconst 0, 1) := by decide +kernel
theorem dX2_plannedAllManned_42 : decode cX2_plannedAllManned 42 = .ok (.ireturn, 1) := by decide +kernel
theorem dX2_plannedAllManned_43 : decode cX2_plannedAllManned 43 = .ok (.iinc 1 1, 3) := by decide +kernel
theorem dX2_plannedAllManned_46 : decode cX2_plannedAllManned 46 = .ok (.goto (-44), 3) := by decide +kernel
theorem dX2_plannedAllManned_49 : decode cX2_plannedAllManned 49 = .ok (.iconst 1, 1) := by decide +kernel
theorem dX2_plannedAllManned_50 : decode cX2_plannedAllManned 50 = .ok (.ireturn, 1) := by decide +kernel
theorem dX2_plannedWithoutClash_0 : decode cX2_plannedWithoutClash 0 = .ok (.iconst 0, 1) := by decide +kernel
theorem dX2_plannedWithoutClash_1 : decode cX2_plannedWithoutClash 1 = .ok (.istore_n 2, 1) := by decide +kernel
theorem dX2_plannedWithoutClash_2 : decode cX2_plannedWithoutClash 2 = .ok (.iload_n 2, 1) := by decide +kernel
theorem dX2_plannedWithoutClash_3 : decode cX2_plannedWithoutClash 3 = .ok (.bipush 6, 2) := by decide +kernel
theorem dX2_plannedWithoutClash_5 : decode cX2_plannedWithoutClash 5 = .ok (.if_icmp .ge 20, 3) := by decide +kernel
theorem dX2_plannedWithoutClash_8 : decode cX2_plannedWithoutClash 8 = .ok (.aload_n 0, 1) := by decide +kernel
theorem dX2_plannedWithoutClash_9 : decode cX2_plannedWithoutClash 9 = .ok (.iload_n 2, 1) := by decide +kernel
theorem dX2_plannedWithoutClash_10 : decode cX2_plannedWithoutClash 10 = .ok (.iload_n 1, 1) := by decide +kernel
theorem dX2_plannedWithoutClash_11 : decode cX2_plannedWithoutClash 11 = .ok (.invokevirtual 162, 3) := by decide +kernel
theorem dX2_plannedWithoutClash_14 : decode cX2_plannedWithoutClash 14 = .ok (.ifCond .le 5, 3) := by decide +kernel
theorem dX2_plannedWithoutClash_17 : decode cX2_plannedWithoutClash 17 = .ok (.iconst 0, 1) := by decide +kernel
theorem dX2_plannedWithoutClash_18 : decode cX2_plannedWithoutClash 18 = .ok (.ireturn, 1) := by decide +kernel
theorem dX2_plannedWithoutClash_19 : decode cX2_plannedWithoutClash 19 = .ok (.iinc 2 1, 3) := by decide +kernel
theorem dX2_plannedWithoutClash_22 : decode cX2_plannedWithoutClash 22 = .ok (.goto (-20), 3) := by decide +kernel
theorem dX2_plannedWithoutClash_25 : decode cX2_plannedWithoutClash 25 = .ok (.iconst 1, 1) := by decide +kernel
theorem dX2_plannedWithoutClash_26 : decode cX2_plannedWithoutClash 26 = .ok (.ireturn, 1) := by decide +kernel
theorem dX2_isFineWith_0 : decode cX2_isFineWith 0 = .ok (.aload_n 0, 1) := by decide +kernel
theorem dX2_isFineWith_1 : decode cX2_isFineWith 1 = .ok (.iload_n 1, 1) := by decide +kernel
theorem dX2_isFineWith_2 : decode cX2_isFineWith 2 = .ok (.invokevirtual 129, 3) := by decide +kernel
theorem dX2_isFineWith_5 : decode cX2_isFineWith 5 = .ok (.istore_n 2, 1) := by decide +kernel
theorem dX2_isFineWith_6 : decode cX2_isFineWith 6 = .ok (.aload_n 0, 1) := by decide +kernel
theorem dX2_isFineWith_7 : decode cX2_isFineWith 7 = .ok (.iload_n 2, 1) := by decide +kernel
theorem dX2_isFineWith_8 : decode cX2_isFineWith 8 = .ok (.invokevirtual 156, 3) := by decide +kernel
theorem dX2_isFineWith_11 : decode cX2_isFineWith 11 = .ok (.aload_n 0, 1) := by decide +kernel
theorem dX2_isFineWith_12 : decode cX2_isFineWith 12 = .ok (.invokevirtual 211, 3) := by decide +kernel
theorem dX2_isFineWith_15 : decode cX2_isFineWith 15 = .ok (.ifCond .eq 24, 3) := by decide +kernel
theorem dX2_isFineWith_18 : decode cX2_isFineWith 18 = .ok (.aload_n 0, 1) := by decide +kernel
theorem dX2_isFineWith_19 : decode cX2_isFineWith 19 = .ok (.iload_n 2, 1) := by decide +kernel
theorem dX2_isFineWith_20 : decode cX2_isFineWith 20 = .ok (.invokevirtual 214, 3) := by decide +kernel
theorem dX2_isFineWith_23 : decode cX2_isFineWith 23 = .ok (.ifCond .eq 16, 3) := by decide +kernel
theorem dX2_isFineWith_26 : decode cX2_isFineWith 26 = .ok (.aload_n 0, 1) := by decide +kernel
theorem dX2_isFineWith_27 : decode cX2_isFineWith 27 = .ok (.iload_n 2, 1) := by decide +kernel
theorem dX2_isFineWith_28 : decode cX2_isFineWith 28 = .ok (.invokevirtual 146, 3) := by decide +kernel
theorem dX2_isFineWith_31 : decode cX2_isFineWith 31 = .ok (.iconst (-1), 1) := by decide +kernel
theorem dX2_isFineWith_32 : decode cX2_isFineWith 32 = .ok (.if_icmp .ne 7, 3) := by decide +kernel
theorem dX2_isFineWith_35 : decode cX2_isFineWith 35 = .ok (.iconst 1, 1) := by decide +kernel
theorem dX2_isFineWith_36 : decode cX2_isFineWith 36 = .ok (.goto 4, 3) := by decide +kernel
theorem dX2_isFineWith_39 : decode cX2_isFineWith 39 = .ok (.iconst 0, 1) := by decide +kernel
theorem dX2_isFineWith_40 : decode cX2_isFineWith 40 = .ok (.ireturn, 1) := by decide +kernel
theorem dJ9_floorMod_7cf53_0 : decode cJ9_floorMod_7cf53 0 = .ok (.iload_n 0, 1) := by decide +kernel
theorem dJ9_floorMod_7cf53_1 : decode cJ9_floorMod_7cf53 1 = .ok (.iload_n 1, 1) := by decide +kernel
theorem dJ9_floorMod_7cf53_2 : decode cJ9_floorMod_7cf53 2 = .ok (.irem, 1) := by decide +kernel
theorem dJ9_floorMod_7cf53_3 : decode cJ9_floorMod_7cf53 3 = .ok (.istore_n 2, 1) := by decide +kernel
theorem dJ9_floorMod_7cf53_4 : decode cJ9_floorMod_7cf53 4 = .ok (.iload_n 0, 1) := by decide +kernel
theorem dJ9_floorMod_7cf53_5 : decode cJ9_floorMod_7cf53 5 = .ok (.iload_n 1, 1) := by decide +kernel
theorem dJ9_floorMod_7cf53_6 : decode cJ9_floorMod_7cf53 6 = .ok (.ixor, 1) := by decide +kernel
theorem dJ9_floorMod_7cf53_7 : decode cJ9_floorMod_7cf53 7 = .ok (.ifCond .ge 11, 3) := by decide +kernel
theorem dJ9_floorMod_7cf53_10 : decode cJ9_floorMod_7cf53 10 = .ok (.iload_n 2, 1) := by decide +kernel
theorem dJ9_floorMod_7cf53_11 : decode cJ9_floorMod_7cf53 11 = .ok (.ifCond .eq 7, 3) := by decide +kernel
theorem dJ9_floorMod_7cf53_14 : decode cJ9_floorMod_7cf53 14 = .ok (.iload_n 2, 1) := by decide +kernel
theorem dJ9_floorMod_7cf53_15 : decode cJ9_floorMod_7cf53 15 = .ok (.iload_n 1, 1) := by decide +kernel
theorem dJ9_floorMod_7cf53_16 : decode cJ9_floorMod_7cf53 16 = .ok (.iadd, 1) := by decide +kernel
theorem dJ9_floorMod_7cf53_17 : decode cJ9_floorMod_7cf53 17 = .ok (.ireturn, 1) := by decide +kernel
theorem dJ9_floorMod_7cf53_18 : decode cJ9_floorMod_7cf53 18 = .ok (.iload_n 2, 1) := by decide +kernel
theorem dJ9_floorMod_7cf53_19 : decode cJ9_floorMod_7cf53 19 = .ok (.ireturn, 1) := by decide +kernel
theorem dJxa1e45_init_da8c8_0 : decode cJxa1e45_init_da8c8 0 = .ok (.aload_n 0, 1) := by decide +kernel
theorem dJxa1e45_init_da8c8_1 : decode cJxa1e45_init_da8c8 1 = .ok (.invokespecial 1, 3) := by decide +kernel
theorem dJxa1e45_init_da8c8_4 : decode cJxa1e45_init_da8c8 4 = .ok (.return_, 1) := by decide +kernel
theorem dJxc12de_init_da8c8_0 : decode cJxc12de_init_da8c8 0 = .ok (.aload_n 0, 1) := by decide +kernel
theorem dJxc12de_init_da8c8_1 : decode cJxc12de_init_da8c8 1 = .ok (.invokespecial 1, 3) := by decide +kernel
theorem dJxc12de_init_da8c8_4 : decode cJxc12de_init_da8c8 4 = .ok (.aload_n 0, 1) := by decide +kernel
theorem dJxc12de_init_da8c8_5 : decode cJxc12de_init_da8c8 5 = .ok (.iconst 0, 1) := by decide +kernel
theorem dJxc12de_init_da8c8_6 : decode cJxc12de_init_da8c8 6 = .ok (.putfield 7, 3) := by decide +kernel
theorem dJxc12de_init_da8c8_9 : decode cJxc12de_init_da8c8 9 = .ok (.return_, 1) := by decide +kernel
theorem dJx4a65c_init_da8c8_0 : decode cJx4a65c_init_da8c8 0 = .ok (.aload_n 0, 1) := by decide +kernel
theorem dJx4a65c_init_da8c8_1 : decode cJx4a65c_init_da8c8 1 = .ok (.invokespecial 1, 3) := by decide +kernel
theorem dJx4a65c_init_da8c8_4 : decode cJx4a65c_init_da8c8 4 = .ok (.aload_n 0, 1) := by decide +kernel
theorem dJx4a65c_init_da8c8_5 : decode cJx4a65c_init_da8c8 5 = .ok (.getstatic 39, 3) := by decide +kernel
theorem dJx4a65c_init_da8c8_8 : decode cJx4a65c_init_da8c8 8 = .ok (.putfield 9, 3) := by decide +kernel
theorem dJx4a65c_init_da8c8_11 : decode cJx4a65c_init_da8c8 11 = .ok (.return_, 1) := by decide +kernel
theorem dJx4a65c_grow_92f84_0 : decode cJx4a65c_grow_92f84 0 = .ok (.aload_n 0, 1) := by decide +kernel
theorem dJx4a65c_grow_92f84_1 : decode cJx4a65c_grow_92f84 1 = .ok (.getfield 9, 3) := by decide +kernel
theorem dJx4a65c_grow_92f84_4 : decode cJx4a65c_grow_92f84 4 = .ok (.arraylength, 1) := by decide +kernel
theorem dJx4a65c_grow_92f84_5 : decode cJx4a65c_grow_92f84 5 = .ok (.istore_n 2, 1) := by decide +kernel
theorem dJx4a65c_grow_92f84_6 : decode cJx4a65c_grow_92f84 6 = .ok (.iload_n 2, 1) := by decide +kernel
theorem dJx4a65c_grow_92f84_7 : decode cJx4a65c_grow_92f84 7 = .ok (.ifCond .gt 13, 3) := by decide +kernel
theorem dJx4a65c_grow_92f84_10 : decode cJx4a65c_grow_92f84 10 = .ok (.aload_n 0, 1) := by decide +kernel
theorem dJx4a65c_grow_92f84_11 : decode cJx4a65c_grow_92f84 11 = .ok (.getfield 9, 3) := by decide +kernel
theorem dJx4a65c_grow_92f84_14 : decode cJx4a65c_grow_92f84 14 = .ok (.getstatic 39, 3) := by decide +kernel
theorem dJx4a65c_grow_92f84_17 : decode cJx4a65c_grow_92f84 17 = .ok (.if_acmp .eq 28, 3) := by decide +kernel
theorem dJx4a65c_grow_92f84_20 : decode cJx4a65c_grow_92f84 20 = .ok (.iload_n 2, 1) := by decide +kernel
theorem dJx4a65c_grow_92f84_21 : decode cJx4a65c_grow_92f84 21 = .ok (.iload_n 1, 1) := by decide +kernel
theorem dJx4a65c_grow_92f84_22 : decode cJx4a65c_grow_92f84 22 = .ok (.iload_n 2, 1) := by decide +kernel
theorem dJx4a65c_grow_92f84_23 : decode cJx4a65c_grow_92f84 23 = .ok (.isub, 1) := by decide +kernel
theorem dJx4a65c_grow_92f84_24 : decode cJx4a65c_grow_92f84 24 = .ok (.iload_n 2, 1) := by decide +kernel
theorem dJx4a65c_grow_92f84_25 : decode cJx4a65c_grow_92f84 25 = .ok (.iconst 1, 1) := by decide +kernel
theorem dJx4a65c_grow_92f84_26 : decode cJx4a65c_grow_92f84 26 = .ok (.ishr, 1) := by decide +kernel
theorem dJx4a65c_grow_92f84_27 : decode cJx4a65c_grow_92f84 27 = .ok (.invokestatic 73, 3) := by decide +kernel
theorem dJx4a65c_grow_92f84_30 : decode cJx4a65c_grow_92f84 30 = .ok (.istore_n 3, 1) := by decide +kernel
theorem dJx4a65c_grow_92f84_31 : decode cJx4a65c_grow_92f84 31 = .ok (.aload_n 0, 1) := by decide +kernel
theorem dJx4a65c_grow_92f84_32 : decode cJx4a65c_grow_92f84 32 = .ok (.aload_n 0, 1) := by decide +kernel
theorem dJx4a65c_grow_92f84_33 : decode cJx4a65c_grow_92f84 33 = .ok (.getfield 9, 3) := by decide +kernel
theorem dJx4a65c_grow_92f84_36 : decode cJx4a65c_grow_92f84 36 = .ok (.iload_n 3, 1) := by decide +kernel
theorem dJx4a65c_grow_92f84_37 : decode cJx4a65c_grow_92f84 37 = .ok (.invokestatic 66, 3) := by decide +kernel
theorem dJx4a65c_grow_92f84_40 : decode cJx4a65c_grow_92f84 40 = .ok (.dup_x1, 1) := by decide +kernel
theorem dJx4a65c_grow_92f84_41 : decode cJx4a65c_grow_92f84 41 = .ok (.putfield 9, 3) := by decide +kernel
theorem dJx4a65c_grow_92f84_44 : decode cJx4a65c_grow_92f84 44 = .ok (.areturn, 1) := by decide +kernel
theorem dJx4a65c_grow_92f84_45 : decode cJx4a65c_grow_92f84 45 = .ok (.aload_n 0, 1) := by decide +kernel
theorem dJx4a65c_grow_92f84_46 : decode cJx4a65c_grow_92f84 46 = .ok (.bipush 10, 2) := by decide +kernel
theorem dJx4a65c_grow_92f84_48 : decode cJx4a65c_grow_92f84 48 = .ok (.iload_n 1, 1) := by decide +kernel
theorem dJx4a65c_grow_92f84_49 : decode cJx4a65c_grow_92f84 49 = .ok (.invokestatic 79, 3) := by decide +kernel
theorem dJx4a65c_grow_92f84_52 : decode cJx4a65c_grow_92f84 52 = .ok (.anewarray 7, 3) := by decide +kernel
theorem dJx4a65c_grow_92f84_55 : decode cJx4a65c_grow_92f84 55 = .ok (.dup_x1, 1) := by decide +kernel
theorem dJx4a65c_grow_92f84_56 : decode cJx4a65c_grow_92f84 56 = .ok (.putfield 9, 3) := by decide +kernel
theorem dJx4a65c_grow_92f84_59 : decode cJx4a65c_grow_92f84 59 = .ok (.areturn, 1) := by decide +kernel
theorem dJx4a65c_grow_d5877_0 : decode cJx4a65c_grow_d5877 0 = .ok (.aload_n 0, 1) := by decide +kernel
theorem dJx4a65c_grow_d5877_1 : decode cJx4a65c_grow_d5877 1 = .ok (.aload_n 0, 1) := by decide +kernel
theorem dJx4a65c_grow_d5877_2 : decode cJx4a65c_grow_d5877 2 = .ok (.getfield 48, 3) := by decide +kernel
theorem dJx4a65c_grow_d5877_5 : decode cJx4a65c_grow_d5877 5 = .ok (.iconst 1, 1) := by decide +kernel
theorem dJx4a65c_grow_d5877_6 : decode cJx4a65c_grow_d5877 6 = .ok (.iadd, 1) := by decide +kernel
theorem dJx4a65c_grow_d5877_7 : decode cJx4a65c_grow_d5877 7 = .ok (.invokevirtual 69, 3) := by decide +kernel
theorem dJx4a65c_grow_d5877_10 : decode cJx4a65c_grow_d5877 10 = .ok (.areturn, 1) := by decide +kernel
theorem dJx4a65c_size_8abf5_0 : decode cJx4a65c_size_8abf5 0 = .ok (.aload_n 0, 1) := by decide +kernel
theorem dJx4a65c_size_8abf5_1 : decode cJx4a65c_size_8abf5 1 = .ok (.getfield 48, 3) := by decide +kernel
theorem dJx4a65c_size_8abf5_4 : decode cJx4a65c_size_8abf5 4 = .ok (.ireturn, 1) := by decide +kernel
theorem dJx4a65c_elementData_915e3_0 : decode cJx4a65c_elementData_915e3 0 = .ok (.aload_n 0, 1) := by decide +kernel
theorem dJx4a65c_elementData_915e3_1 : decode cJx4a65c_elementData_915e3 1 = .ok (.getfield 9, 3) := by decide +kernel
theorem dJx4a65c_elementData_915e3_4 : decode cJx4a65c_elementData_915e3 4 = .ok (.iload_n 1, 1) := by decide +kernel
theorem dJx4a65c_elementData_915e3_5 : decode cJx4a65c_elementData_915e3 5 = .ok (.aaload, 1) := by decide +kernel
theorem dJx4a65c_elementData_915e3_6 : decode cJx4a65c_elementData_915e3 6 = .ok (.areturn, 1) := by decide +kernel
theorem dJx4a65c_get_915e3_0 : decode cJx4a65c_get_915e3 0 = .ok (.iload_n 1, 1) := by decide +kernel
theorem dJx4a65c_get_915e3_1 : decode cJx4a65c_get_915e3 1 = .ok (.aload_n 0, 1) := by decide +kernel
theorem dJx4a65c_get_915e3_2 : decode cJx4a65c_get_915e3 2 = .ok (.getfield 48, 3) := by decide +kernel
theorem dJx4a65c_get_915e3_5 : decode cJx4a65c_get_915e3 5 = .ok (.invokestatic 118, 3) := by decide +kernel
theorem dJx4a65c_get_915e3_8 : decode cJx4a65c_get_915e3 8 = .ok (.pop, 1) := by decide +kernel
theorem dJx4a65c_get_915e3_9 : decode cJx4a65c_get_915e3 9 = .ok (.aload_n 0, 1) := by decide +kernel
theorem dJx4a65c_get_915e3_10 : decode cJx4a65c_get_915e3 10 = .ok (.iload_n 1, 1) := by decide +kernel
theorem dJx4a65c_get_915e3_11 : decode cJx4a65c_get_915e3 11 = .ok (.invokevirtual 123, 3) := by decide +kernel
theorem dJx4a65c_get_915e3_14 : decode cJx4a65c_get_915e3 14 = .ok (.areturn, 1) := by decide +kernel
theorem dJx4a65c_add_72be8_0 : decode cJx4a65c_add_72be8 0 = .ok (.iload_n 3, 1) := by decide +kernel
theorem dJx4a65c_add_72be8_1 : decode cJx4a65c_add_72be8 1 = .ok (.aload_n 2, 1) := by decide +kernel
theorem dJx4a65c_add_72be8_2 : decode cJx4a65c_add_72be8 2 = .ok (.arraylength, 1) := by decide +kernel
theorem dJx4a65c_add_72be8_3 : decode cJx4a65c_add_72be8 3 = .ok (.if_icmp .ne 8, 3) := by decide +kernel
theorem dJx4a65c_add_72be8_6 : decode cJx4a65c_add_72be8 6 = .ok (.aload_n 0, 1) := by decide +kernel
theorem dJx4a65c_add_72be8_7 : decode cJx4a65c_add_72be8 7 = .ok (.invokevirtual 129, 3) := by decide +kernel
theorem dJx4a65c_add_72be8_10 : decode cJx4a65c_add_72be8 10 = .ok (.astore_n 2, 1) := by decide +kernel
theorem dJx4a65c_add_72be8_11 : decode cJx4a65c_add_72be8 11 = .ok (.aload_n 2, 1) := by decide +kernel
theorem dJx4a65c_add_72be8_12 : decode cJx4a65c_add_72be8 12 = .ok (.iload_n 3, 1) := by decide +kernel
theorem dJx4a65c_add_72be8_13 : decode cJx4a65c_add_72be8 13 = .ok (.aload_n 1, 1) := by decide +kernel
theorem dJx4a65c_add_72be8_14 : decode cJx4a65c_add_72be8 14 = .ok (.aastore, 1) := by decide +kernel
theorem dJx4a65c_add_72be8_15 : decode cJx4a65c_add_72be8 15 = .ok (.aload_n 0, 1) := by decide +kernel
theorem dJx4a65c_add_72be8_16 : decode cJx4a65c_add_72be8 16 = .ok (.iload_n 3, 1) := by decide +kernel
theorem dJx4a65c_add_72be8_17 : decode cJx4a65c_add_72be8 17 = .ok (.iconst 1, 1) := by decide +kernel
theorem dJx4a65c_add_72be8_18 : decode cJx4a65c_add_72be8 18 = .ok (.iadd, 1) := by decide +kernel
theorem dJx4a65c_add_72be8_19 : decode cJx4a65c_add_72be8 19 = .ok (.putfield 48, 3) := by decide +kernel
theorem dJx4a65c_add_72be8_22 : decode cJx4a65c_add_72be8 22 = .ok (.return_, 1) := by decide +kernel
theorem dJx4a65c_add_9ea2d_0 : decode cJx4a65c_add_9ea2d 0 = .ok (.aload_n 0, 1) := by decide +kernel
theorem dJx4a65c_add_9ea2d_1 : decode cJx4a65c_add_9ea2d 1 = .ok (.dup, 1) := by decide +kernel
theorem dJx4a65c_add_9ea2d_2 : decode cJx4a65c_add_9ea2d 2 = .ok (.getfield 63, 3) := by decide +kernel
theorem dJx4a65c_add_9ea2d_5 : decode cJx4a65c_add_9ea2d 5 = .ok (.iconst 1, 1) := by decide +kernel
theorem dJx4a65c_add_9ea2d_6 : decode cJx4a65c_add_9ea2d 6 = .ok (.iadd, 1) := by decide +kernel
theorem dJx4a65c_add_9ea2d_7 : decode cJx4a65c_add_9ea2d 7 = .ok (.putfield 63, 3) := by decide +kernel
theorem dJx4a65c_add_9ea2d_10 : decode cJx4a65c_add_9ea2d 10 = .ok (.aload_n 0, 1) := by decide +kernel
theorem dJx4a65c_add_9ea2d_11 : decode cJx4a65c_add_9ea2d 11 = .ok (.aload_n 1, 1) := by decide +kernel
theorem dJx4a65c_add_9ea2d_12 : decode cJx4a65c_add_9ea2d 12 = .ok (.aload_n 0, 1) := by decide +kernel
theorem dJx4a65c_add_9ea2d_13 : decode cJx4a65c_add_9ea2d 13 = .ok (.getfield 9, 3) := by decide +kernel
theorem dJx4a65c_add_9ea2d_16 : decode cJx4a65c_add_9ea2d 16 = .ok (.aload_n 0, 1) := by decide +kernel
theorem dJx4a65c_add_9ea2d_17 : decode cJx4a65c_add_9ea2d 17 = .ok (.getfield 48, 3) := by decide +kernel
theorem dJx4a65c_add_9ea2d_20 : decode cJx4a65c_add_9ea2d 20 = .ok (.invokevirtual 131, 3) := by decide +kernel
theorem dJx4a65c_add_9ea2d_23 : decode cJx4a65c_add_9ea2d 23 = .ok (.iconst 1, 1) := by decide +kernel
theorem dJx4a65c_add_9ea2d_24 : decode cJx4a65c_add_9ea2d 24 = .ok (.ireturn, 1) := by decide +kernel
theorem dJx4a65c_add_7a177_0 : decode cJx4a65c_add_7a177 0 = .ok (.aload_n 0, 1) := by decide +kernel
theorem dJx4a65c_add_7a177_1 : decode cJx4a65c_add_7a177 1 = .ok (.iload_n 1, 1) := by decide +kernel
theorem dJx4a65c_add_7a177_2 : decode cJx4a65c_add_7a177 2 = .ok (.invokevirtual 135, 3) := by decide +kernel
theorem dJx4a65c_add_7a177_5 : decode cJx4a65c_add_7a177 5 = .ok (.aload_n 0, 1) := by decide +kernel
theorem dJx4a65c_add_7a177_6 : decode cJx4a65c_add_7a177 6 = .ok (.dup, 1) := by decide +kernel
theorem dJx4a65c_add_7a177_7 : decode cJx4a65c_add_7a177 7 = .ok (.getfield 63, 3) := by decide +kernel
theorem dJx4a65c_add_7a177_10 : decode cJx4a65c_add_7a177 10 = .ok (.iconst 1, 1) := by decide +kernel
theorem dJx4a65c_add_7a177_11 : decode cJx4a65c_add_7a177 11 = .ok (.iadd, 1) := by decide +kernel
theorem dJx4a65c_add_7a177_12 : decode cJx4a65c_add_7a177 12 = .ok (.putfield 63, 3) := by decide +kernel
theorem dJx4a65c_add_7a177_15 : decode cJx4a65c_add_7a177 15 = .ok (.aload_n 0, 1) := by decide +kernel
theorem dJx4a65c_add_7a177_16 : decode cJx4a65c_add_7a177 16 = .ok (.getfield 48, 3) := by decide +kernel
theorem dJx4a65c_add_7a177_19 : decode cJx4a65c_add_7a177 19 = .ok (.dup, 1) := by decide +kernel
theorem dJx4a65c_add_7a177_20 : decode cJx4a65c_add_7a177 20 = .ok (.istore_n 3, 1) := by decide +kernel
theorem dJx4a65c_add_7a177_21 : decode cJx4a65c_add_7a177 21 = .ok (.aload_n 0, 1) := by decide +kernel
theorem dJx4a65c_add_7a177_22 : decode cJx4a65c_add_7a177 22 = .ok (.getfield 9, 3) := by decide +kernel
theorem dJx4a65c_add_7a177_25 : decode cJx4a65c_add_7a177 25 = .ok (.dup, 1) := by decide +kernel
theorem dJx4a65c_add_7a177_26 : decode cJx4a65c_add_7a177 26 = .ok (.astore 4, 2) := by decide +kernel
theorem dJx4a65c_add_7a177_28 : decode cJx4a65c_add_7a177 28 = .ok (.arraylength, 1) := by decide +kernel
theorem dJx4a65c_add_7a177_29 : decode cJx4a65c_add_7a177 29 = .ok (.if_icmp .ne 9, 3) := by decide +kernel
theorem dJx4a65c_add_7a177_32 : decode cJx4a65c_add_7a177 32 = .ok (.aload_n 0, 1) := by decide +kernel
theorem dJx4a65c_add_7a177_33 : decode cJx4a65c_add_7a177 33 = .ok (.invokevirtual 129, 3) := by decide +kernel
theorem dJx4a65c_add_7a177_36 : decode cJx4a65c_add_7a177 36 = .ok (.astore 4, 2) := by decide +kernel
theorem dJx4a65c_add_7a177_38 : decode cJx4a65c_add_7a177 38 = .ok (.aload 4, 2) := by decide +kernel
theorem dJx4a65c_add_7a177_40 : decode cJx4a65c_add_7a177 40 = .ok (.iload_n 1, 1) := by decide +kernel
theorem dJx4a65c_add_7a177_41 : decode cJx4a65c_add_7a177 41 = .ok (.aload 4, 2) := by decide +kernel
theorem dJx4a65c_add_7a177_43 : decode cJx4a65c_add_7a177 43 = .ok (.iload_n 1, 1) := by decide +kernel
theorem dJx4a65c_add_7a177_44 : decode cJx4a65c_add_7a177 44 = .ok (.iconst 1, 1) := by decide +kernel
theorem dJx4a65c_add_7a177_45 : decode cJx4a65c_add_7a177 45 = .ok (.iadd, 1) := by decide +kernel
theorem dJx4a65c_add_7a177_46 : decode cJx4a65c_add_7a177 46 = .ok (.iload_n 3, 1) := by decide +kernel
theorem dJx4a65c_add_7a177_47 : decode cJx4a65c_add_7a177 47 = .ok (.iload_n 1, 1) := by decide +kernel
theorem dJx4a65c_add_7a177_48 : decode cJx4a65c_add_7a177 48 = .ok (.isub, 1) := by decide +kernel
theorem dJx4a65c_add_7a177_49 : decode cJx4a65c_add_7a177 49 = .ok (.invokestatic 112, 3) := by decide +kernel
theorem dJx4a65c_add_7a177_52 : decode cJx4a65c_add_7a177 52 = .ok (.aload 4, 2) := by decide +kernel
theorem dJx4a65c_add_7a177_54 : decode cJx4a65c_add_7a177 54 = .ok (.iload_n 1, 1) := by decide +kernel
theorem dJx4a65c_add_7a177_55 : decode cJx4a65c_add_7a177 55 = .ok (.aload_n 2, 1) := by decide +kernel
theorem dJx4a65c_add_7a177_56 : decode cJx4a65c_add_7a177 56 = .ok (.aastore, 1) := by decide +kernel
theorem dJx4a65c_add_7a177_57 : decode cJx4a65c_add_7a177 57 = .ok (.aload_n 0, 1) := by decide +kernel
theorem dJx4a65c_add_7a177_58 : decode cJx4a65c_add_7a177 58 = .ok (.iload_n 3, 1) := by decide +kernel
theorem dJx4a65c_add_7a177_59 : decode cJx4a65c_add_7a177 59 = .ok (.iconst 1, 1) := by decide +kernel
theorem dJx4a65c_add_7a177_60 : decode cJx4a65c_add_7a177 60 = .ok (.iadd, 1) := by decide +kernel
theorem dJx4a65c_add_7a177_61 : decode cJx4a65c_add_7a177 61 = .ok (.putfield 48, 3) := by decide +kernel
theorem dJx4a65c_add_7a177_64 : decode cJx4a65c_add_7a177 64 = .ok (.return_, 1) := by decide +kernel
theorem dJx4a65c_rangeCheckForAdd_d00df_0 : decode cJx4a65c_rangeCheckForAdd_d00df 0 = .ok (.iload_n 1, 1) := by decide +kernel
theorem dJx4a65c_rangeCheckForAdd_d00df_1 : decode cJx4a65c_rangeCheckForAdd_d00df 1 = .ok (.aload_n 0, 1) := by decide +kernel
theorem dJx4a65c_rangeCheckForAdd_d00df_2 : decode cJx4a65c_rangeCheckForAdd_d00df 2 = .ok (.getfield 48, 3) := by decide +kernel
theorem dJx4a65c_rangeCheckForAdd_d00df_5 : decode cJx4a65c_rangeCheckForAdd_d00df 5 = .ok (.if_icmp .gt 7, 3) := by decide +kernel
theorem dJx4a65c_rangeCheckForAdd_d00df_8 : decode cJx4a65c_rangeCheckForAdd_d00df 8 = .ok (.iload_n 1, 1) := by decide +kernel
theorem dJx4a65c_rangeCheckForAdd_d00df_9 : decode cJx4a65c_rangeCheckForAdd_d00df 9 = .ok (.ifCond .ge 16, 3) := by decide +kernel
theorem dJx4a65c_rangeCheckForAdd_d00df_12 : decode cJx4a65c_rangeCheckForAdd_d00df 12 = .ok (.new 187, 3) := by decide +kernel
theorem dJx4a65c_rangeCheckForAdd_d00df_15 : decode cJx4a65c_rangeCheckForAdd_d00df 15 = .ok (.dup, 1) := by decide +kernel
theorem dJx4a65c_rangeCheckForAdd_d00df_16 : decode cJx4a65c_rangeCheckForAdd_d00df 16 = .ok (.aload_n 0, 1) := by decide +kernel
theorem dJx4a65c_rangeCheckForAdd_d00df_17 : decode cJx4a65c_rangeCheckForAdd_d00df 17 = .ok (.iload_n 1, 1) := by decide +kernel
theorem dJx4a65c_rangeCheckForAdd_d00df_18 : decode cJx4a65c_rangeCheckForAdd_d00df 18 = .ok (.invokevirtual 198, 3) := by decide +kernel
theorem dJx4a65c_rangeCheckForAdd_d00df_21 : decode cJx4a65c_rangeCheckForAdd_d00df 21 = .ok (.invokespecial 193, 3) := by decide +kernel
theorem dJx4a65c_rangeCheckForAdd_d00df_24 : decode cJx4a65c_rangeCheckForAdd_d00df 24 = .ok (.athrow, 1) := by decide +kernel
theorem dJx4a65c_rangeCheckForAdd_d00df_25 : decode cJx4a65c_rangeCheckForAdd_d00df 25 = .ok (.return_, 1) := by decide +kernel
theorem dJ7_copyOf_1904c_0 : decode cJ7_copyOf_1904c 0 = .ok (.aload_n 0, 1) := by decide +kernel
theorem dJ7_copyOf_1904c_1 : decode cJ7_copyOf_1904c 1 = .ok (.iload_n 1, 1) := by decide +kernel
theorem dJ7_copyOf_1904c_2 : decode cJ7_copyOf_1904c 2 = .ok (.aload_n 0, 1) := by decide +kernel
theorem dJ7_copyOf_1904c_3 : decode cJ7_copyOf_1904c 3 = .ok (.invokevirtual 86, 3) := by decide +kernel
theorem dJ7_copyOf_1904c_6 : decode cJ7_copyOf_1904c 6 = .ok (.invokestatic 300, 3) := by decide +kernel
theorem dJ7_copyOf_1904c_9 : decode cJ7_copyOf_1904c 9 = .ok (.areturn, 1) := by decide +kernel
theorem dJ7_copyOf_6403c_0 : decode cJ7_copyOf_6403c 0 = .ok (.aload_n 2, 1) := by decide +kernel
theorem dJ7_copyOf_6403c_1 : decode cJ7_copyOf_6403c 1 = .ok (.ldc 110, 2) := by decide +kernel
theorem dJ7_copyOf_6403c_3 : decode cJ7_copyOf_6403c 3 = .ok (.if_acmp .ne 10, 3) := by decide +kernel
theorem dJ7_copyOf_6403c_6 : decode cJ7_copyOf_6403c 6 = .ok (.iload_n 1, 1) := by decide +kernel
theorem dJ7_copyOf_6403c_7 : decode cJ7_copyOf_6403c 7 = .ok (.anewarray 2, 3) := by decide +kernel
theorem dJ7_copyOf_6403c_10 : decode cJ7_copyOf_6403c 10 = .ok (.goto 14, 3) := by decide +kernel
theorem dJ7_copyOf_6403c_13 : decode cJ7_copyOf_6403c 13 = .ok (.aload_n 2, 1) := by decide +kernel
theorem dJ7_copyOf_6403c_14 : decode cJ7_copyOf_6403c 14 = .ok (.invokevirtual 90, 3) := by decide +kernel
theorem dJ7_copyOf_6403c_17 : decode cJ7_copyOf_6403c 17 = .ok (.iload_n 1, 1) := by decide +kernel
theorem dJ7_copyOf_6403c_18 : decode cJ7_copyOf_6403c 18 = .ok (.invokestatic 95, 3) := by decide +kernel
theorem dJ7_copyOf_6403c_21 : decode cJ7_copyOf_6403c 21 = .ok (.checkcast 110, 3) := by decide +kernel
theorem dJ7_copyOf_6403c_24 : decode cJ7_copyOf_6403c 24 = .ok (.astore_n 3, 1) := by decide +kernel
theorem dJ7_copyOf_6403c_25 : decode cJ7_copyOf_6403c 25 = .ok (.aload_n 0, 1) := by decide +kernel
theorem dJ7_copyOf_6403c_26 : decode cJ7_copyOf_6403c 26 = .ok (.iconst 0, 1) := by decide +kernel
theorem dJ7_copyOf_6403c_27 : decode cJ7_copyOf_6403c 27 = .ok (.aload_n 3, 1) := by decide +kernel
theorem dJ7_copyOf_6403c_28 : decode cJ7_copyOf_6403c 28 = .ok (.iconst 0, 1) := by decide +kernel
theorem dJ7_copyOf_6403c_29 : decode cJ7_copyOf_6403c 29 = .ok (.aload_n 0, 1) := by decide +kernel
theorem dJ7_copyOf_6403c_30 : decode cJ7_copyOf_6403c 30 = .ok (.arraylength, 1) := by decide +kernel
theorem dJ7_copyOf_6403c_31 : decode cJ7_copyOf_6403c 31 = .ok (.iload_n 1, 1) := by decide +kernel
theorem dJ7_copyOf_6403c_32 : decode cJ7_copyOf_6403c 32 = .ok (.invokestatic 304, 3) := by decide +kernel
theorem dJ7_copyOf_6403c_35 : decode cJ7_copyOf_6403c 35 = .ok (.invokestatic 150, 3) := by decide +kernel
theorem dJ7_copyOf_6403c_38 : decode cJ7_copyOf_6403c 38 = .ok (.aload_n 3, 1) := by decide +kernel
theorem dJ7_copyOf_6403c_39 : decode cJ7_copyOf_6403c 39 = .ok (.areturn, 1) := by decide +kernel
theorem dJ15_checkIndex_7cf53_0 : decode cJ15_checkIndex_7cf53 0 = .ok (.iload_n 0, 1) := by decide +kernel
theorem dJ15_checkIndex_7cf53_1 : decode cJ15_checkIndex_7cf53 1 = .ok (.iload_n 1, 1) := by decide +kernel
theorem dJ15_checkIndex_7cf53_2 : decode cJ15_checkIndex_7cf53 2 = .ok (.aconst_null, 1) := by decide +kernel
theorem dJ15_checkIndex_7cf53_3 : decode cJ15_checkIndex_7cf53 3 = .ok (.invokestatic 105, 3) := by decide +kernel
theorem dJ15_checkIndex_7cf53_6 : decode cJ15_checkIndex_7cf53 6 = .ok (.ireturn, 1) := by decide +kernel
theorem dJ8_newLength_cabcc_0 : decode cJ8_newLength_cabcc 0 = .ok (.iload_n 0, 1) := by decide +kernel
theorem dJ8_newLength_cabcc_1 : decode cJ8_newLength_cabcc 1 = .ok (.iload_n 1, 1) := by decide +kernel
theorem dJ8_newLength_cabcc_2 : decode cJ8_newLength_cabcc 2 = .ok (.iload_n 2, 1) := by decide +kernel
theorem dJ8_newLength_cabcc_3 : decode cJ8_newLength_cabcc 3 = .ok (.invokestatic 194, 3) := by decide +kernel
theorem dJ8_newLength_cabcc_6 : decode cJ8_newLength_cabcc 6 = .ok (.iadd, 1) := by decide +kernel
theorem dJ8_newLength_cabcc_7 : decode cJ8_newLength_cabcc 7 = .ok (.istore_n 3, 1) := by decide +kernel
theorem dJ8_newLength_cabcc_8 : decode cJ8_newLength_cabcc 8 = .ok (.iconst 0, 1) := by decide +kernel
theorem dJ8_newLength_cabcc_9 : decode cJ8_newLength_cabcc 9 = .ok (.iload_n 3, 1) := by decide +kernel
theorem dJ8_newLength_cabcc_10 : decode cJ8_newLength_cabcc 10 = .ok (.if_icmp .ge 11, 3) := by decide +kernel
theorem dJ8_newLength_cabcc_13 : decode cJ8_newLength_cabcc 13 = .ok (.iload_n 3, 1) := by decide +kernel
theorem dJ8_newLength_cabcc_14 : decode cJ8_newLength_cabcc 14 = .ok (.ldc 200, 2) := by decide +kernel
theorem dJ8_newLength_cabcc_16 : decode cJ8_newLength_cabcc 16 = .ok (.if_icmp .gt 5, 3) := by decide +kernel
theorem dJ8_newLength_cabcc_19 : decode cJ8_newLength_cabcc 19 = .ok (.iload_n 3, 1) := by decide +kernel
theorem dJ8_newLength_cabcc_20 : decode cJ8_newLength_cabcc 20 = .ok (.ireturn, 1) := by decide +kernel
theorem dJ8_newLength_cabcc_21 : decode cJ8_newLength_cabcc 21 = .ok (.iload_n 0, 1) := by decide +kernel
theorem dJ8_newLength_cabcc_22 : decode cJ8_newLength_cabcc 22 = .ok (.iload_n 1, 1) := by decide +kernel
theorem dJ8_newLength_cabcc_23 : decode cJ8_newLength_cabcc 23 = .ok (.invokestatic 201, 3) := by decide +kernel
theorem dJ8_newLength_cabcc_26 : decode cJ8_newLength_cabcc 26 = .ok (.ireturn, 1) := by decide +kernel
theorem dJ3_checkIndex_8e157_0 : decode cJ3_checkIndex_8e157 0 = .ok (.iload_n 0, 1) := by decide +kernel
theorem dJ3_checkIndex_8e157_1 : decode cJ3_checkIndex_8e157 1 = .ok (.ifCond .lt 8, 3) := by decide +kernel
theorem dJ3_checkIndex_8e157_4 : decode cJ3_checkIndex_8e157 4 = .ok (.iload_n 0, 1) := by decide +kernel
theorem dJ3_checkIndex_8e157_5 : decode cJ3_checkIndex_8e157 5 = .ok (.iload_n 1, 1) := by decide +kernel
theorem dJ3_checkIndex_8e157_6 : decode cJ3_checkIndex_8e157 6 = .ok (.if_icmp .lt 10, 3) := by decide +kernel
theorem dJ3_checkIndex_8e157_9 : decode cJ3_checkIndex_8e157 9 = .ok (.aload_n 2, 1) := by decide +kernel
theorem dJ3_checkIndex_8e157_10 : decode cJ3_checkIndex_8e157 10 = .ok (.iload_n 0, 1) := by decide +kernel
theorem dJ3_checkIndex_8e157_11 : decode cJ3_checkIndex_8e157 11 = .ok (.iload_n 1, 1) := by decide +kernel
theorem dJ3_checkIndex_8e157_12 : decode cJ3_checkIndex_8e157 12 = .ok (.invokestatic 95, 3) := by decide +kernel
theorem dJ3_checkIndex_8e157_15 : decode cJ3_checkIndex_8e157 15 = .ok (.athrow, 1) := by decide +kernel
theorem dJ3_checkIndex_8e157_16 : decode cJ3_checkIndex_8e157 16 = .ok (.iload_n 0, 1) := by decide +kernel
theorem dJ3_checkIndex_8e157_17 : decode cJ3_checkIndex_8e157 17 = .ok (.ireturn, 1) := by decide +kernel
