theorem dX7_addToMask_18 : decode cX7_addToMask 18 = .ok (.dup2, 1) := by decide +kernel
theorem dX7_addToMask_19 : decode cX7_addToMask 19 = .ok (.iaload, 1) := by decide +kernel
theorem dX7_addToMask_20 : decode cX7_addToMask 20 = .ok (.iload_n 3, 1) := by decide +kernel
theorem dX7_addToMask_21 : decode cX7_addToMask 21 = .ok (.ior, 1) := by decide +kernel
theorem dX7_addToMask_22 : decode cX7_addToMask 22 = .ok (.iastore, 1) := by decide +kernel
theorem dX7_addToMask_23 : decode cX7_addToMask 23 = .ok (.return_, 1) := by decide +kernel
theorem dX7_hasMask_0 : decode cX7_hasMask 0 = .ok (.iload_n 1, 1) := by decide +kernel
theorem dX7_hasMask_1 : decode cX7_hasMask 1 = .ok (.ifCond .lt 24, 3) := by decide +kernel
theorem dX7_hasMask_4 : decode cX7_hasMask 4 = .ok (.iload_n 1, 1) := by decide +kernel
theorem dX7_hasMask_5 : decode cX7_hasMask 5 = .ok (.aload_n 0, 1) := by decide +kernel
theorem dX7_hasMask_6 : decode cX7_hasMask 6 = .ok (.getfield 31, 3) := by decide +kernel
theorem dX7_hasMask_9 : decode cX7_hasMask 9 = .ok (.if_icmp .ge 16, 3) := by decide +kernel
theorem dX7_hasMask_12 : decode cX7_hasMask 12 = .ok (.iload_n 2, 1) := by decide +kernel
theorem dX7_hasMask_13 : decode cX7_hasMask 13 = .ok (.ifCond .lt 12, 3) := by decide +kernel
theorem dX7_hasMask_16 : decode cX7_hasMask 16 = .ok (.iload_n 2, 1) := by decide +kernel
theorem dX7_hasMask_17 : decode cX7_hasMask 17 = .ok (.iconst 5, 1) := by decide +kernel
theorem dX7_hasMask_18 : decode cX7_hasMask 18 = .ok (.if_icmp .ge 7, 3) := by decide +kernel
theorem dX7_hasMask_21 : decode cX7_hasMask 21 = .ok (.iconst 1, 1) := by decide +kernel
theorem dX7_hasMask_22 : decode cX7_hasMask 22 = .ok (.goto 4, 3) := by decide +kernel
theorem dX7_hasMask_25 : decode cX7_hasMask 25 = .ok (.iconst 0, 1) := by decide +kernel
theorem dX7_hasMask_26 : decode cX7_hasMask 26 = .ok (.ireturn, 1) := by decide +kernel
theorem dX7_permitted_0 : decode cX7_permitted 0 = .ok (.iconst 0, 1) := by decide +kernel
theorem dX7_permitted_1 : decode cX7_permitted 1 = .ok (.istore 4, 2) := by decide +kernel
theorem dX7_permitted_3 : decode cX7_permitted 3 = .ok (.aload_n 0, 1) := by decide +kernel
theorem dX7_permitted_4 : decode cX7_permitted 4 = .ok (.iload_n 1, 1) := by decide +kernel
theorem dX7_permitted_5 : decode cX7_permitted 5 = .ok (.invokevirtual 62, 3) := by decide +kernel
theorem dX7_permitted_8 : decode cX7_permitted 8 = .ok (.aload_n 0, 1) := by decide +kernel
theorem dX7_permitted_9 : decode cX7_permitted 9 = .ok (.iload_n 2, 1) := by decide +kernel
theorem dX7_permitted_10 : decode cX7_permitted 10 = .ok (.invokevirtual 62, 3) := by decide +kernel
theorem dX7_permitted_13 : decode cX7_permitted 13 = .ok (.if_icmp .ge 14, 3) := by decide +kernel
theorem dX7_permitted_16 : decode cX7_permitted 16 = .ok (.iload 4, 2) := by decide +kernel
theorem dX7_permitted_18 : decode cX7_permitted 18 = .ok (.aload_n 0, 1) := by decide +kernel
theorem dX7_permitted_19 : decode cX7_permitted 19 = .ok (.iload_n 3, 1) := by decide +kernel
theorem dX7_permitted_20 : decode cX7_permitted 20 = .ok (.iconst 0, 1) := by decide +kernel
theorem dX7_permitted_21 : decode cX7_permitted 21 = .ok (.invokevirtual 66, 3) := by decide +kernel
theorem dX7_permitted_24 : decode cX7_permitted 24 = .ok (.ior, 1) := by decide +kernel
theorem dX7_permitted_25 : decode cX7_permitted 25 = .ok (.istore 4, 2) := by decide +kernel
theorem dX7_permitted_27 : decode cX7_permitted 27 = .ok (.aload_n 0, 1) := by decide +kernel
theorem dX7_permitted_28 : decode cX7_permitted 28 = .ok (.iload_n 1, 1) := by decide +kernel
theorem dX7_permitted_29 : decode cX7_permitted 29 = .ok (.invokevirtual 62, 3) := by decide +kernel
theorem dX7_permitted_32 : decode cX7_permitted 32 = .ok (.aload_n 0, 1) := by decide +kernel
theorem dX7_permitted_33 : decode cX7_permitted 33 = .ok (.iload_n 2, 1) := by decide +kernel
theorem dX7_permitted_34 : decode cX7_permitted 34 = .ok (.invokevirtual 62, 3) := by decide +kernel
theorem dX7_permitted_37 : decode cX7_permitted 37 = .ok (.if_icmp .eq 14, 3) := by decide +kernel
theorem dX7_permitted_40 : decode cX7_permitted 40 = .ok (.iload 4, 2) := by decide +kernel
theorem dX7_permitted_42 : decode cX7_permitted 42 = .ok (.aload_n 0, 1) := by decide +kernel
theorem dX7_permitted_43 : decode cX7_permitted 43 = .ok (.iload_n 3, 1) := by decide +kernel
theorem dX7_permitted_44 : decode cX7_permitted 44 = .ok (.iconst 1, 1) := by decide +kernel
theorem dX7_permitted_45 : decode cX7_permitted 45 = .ok (.invokevirtual 66, 3) := by decide +kernel
theorem dX7_permitted_48 : decode cX7_permitted 48 = .ok (.ior, 1) := by decide +kernel
theorem dX7_permitted_49 : decode cX7_permitted 49 = .ok (.istore 4, 2) := by decide +kernel
theorem dX7_permitted_51 : decode cX7_permitted 51 = .ok (.aload_n 0, 1) := by decide +kernel
theorem dX7_permitted_52 : decode cX7_permitted 52 = .ok (.iload_n 1, 1) := by decide +kernel
theorem dX7_permitted_53 : decode cX7_permitted 53 = .ok (.invokevirtual 62, 3) := by decide +kernel
theorem dX7_permitted_56 : decode cX7_permitted 56 = .ok (.aload_n 0, 1) := by decide +kernel
theorem dX7_permitted_57 : decode cX7_permitted 57 = .ok (.iload_n 2, 1) := by decide +kernel
theorem dX7_permitted_58 : decode cX7_permitted 58 = .ok (.invokevirtual 62, 3) := by decide +kernel
theorem dX7_permitted_61 : decode cX7_permitted 61 = .ok (.if_icmp .le 14, 3) := by decide +kernel
theorem dX7_permitted_64 : decode cX7_permitted 64 = .ok (.iload 4, 2) := by decide +kernel
theorem dX7_permitted_66 : decode cX7_permitted 66 = .ok (.aload_n 0, 1) := by decide +kernel
theorem dX7_permitted_67 : decode cX7_permitted 67 = .ok (.iload_n 3, 1) := by decide +kernel
theorem dX7_permitted_68 : decode cX7_permitted 68 = .ok (.iconst 2, 1) := by decide +kernel
theorem dX7_permitted_69 : decode cX7_permitted 69 = .ok (.invokevirtual 66, 3) := by decide +kernel
theorem dX7_permitted_72 : decode cX7_permitted 72 = .ok (.ior, 1) := by decide +kernel
theorem dX7_permitted_73 : decode cX7_permitted 73 = .ok (.istore 4, 2) := by decide +kernel
theorem dX7_permitted_75 : decode cX7_permitted 75 = .ok (.aload_n 0, 1) := by decide +kernel
theorem dX7_permitted_76 : decode cX7_permitted 76 = .ok (.iload_n 1, 1) := by decide +kernel
theorem dX7_permitted_77 : decode cX7_permitted 77 = .ok (.iload_n 2, 1) := by decide +kernel
theorem dX7_permitted_78 : decode cX7_permitted 78 = .ok (.iload_n 3, 1) := by decide +kernel
theorem dX7_permitted_79 : decode cX7_permitted 79 = .ok (.invokevirtual 56, 3) := by decide +kernel
theorem dX7_permitted_82 : decode cX7_permitted 82 = .ok (.iload 4, 2) := by decide +kernel
theorem dX7_permitted_84 : decode cX7_permitted 84 = .ok (.iconst (-1), 1) := by decide +kernel
theorem dX7_permitted_85 : decode cX7_permitted 85 = .ok (.ixor, 1) := by decide +kernel
theorem dX7_permitted_86 : decode cX7_permitted 86 = .ok (.iand, 1) := by decide +kernel
theorem dX7_permitted_87 : decode cX7_permitted 87 = .ok (.ireturn, 1) := by decide +kernel
theorem dX7_stepsBetween_0 : decode cX7_stepsBetween 0 = .ok (.iconst 1, 1) := by decide +kernel
theorem dX7_stepsBetween_1 : decode cX7_stepsBetween 1 = .ok (.iload_n 1, 1) := by decide +kernel
theorem dX7_stepsBetween_2 : decode cX7_stepsBetween 2 = .ok (.ishl, 1) := by decide +kernel
theorem dX7_stepsBetween_3 : decode cX7_stepsBetween 3 = .ok (.istore_n 3, 1) := by decide +kernel
theorem dX7_stepsBetween_4 : decode cX7_stepsBetween 4 = .ok (.iconst 0, 1) := by decide +kernel
theorem dX7_stepsBetween_5 : decode cX7_stepsBetween 5 = .ok (.istore 4, 2) := by decide +kernel
theorem dX7_stepsBetween_7 : decode cX7_stepsBetween 7 = .ok (.iload 4, 2) := by decide +kernel
theorem dX7_stepsBetween_9 : decode cX7_stepsBetween 9 = .ok (.aload_n 0, 1) := by decide +kernel
theorem dX7_stepsBetween_10 : decode cX7_stepsBetween 10 = .ok (.getfield 27, 3) := by decide +kernel
theorem dX7_stepsBetween_13 : decode cX7_stepsBetween 13 = .ok (.if_icmp .ge 26, 3) := by decide +kernel
theorem dX7_stepsBetween_16 : decode cX7_stepsBetween 16 = .ok (.iload_n 3, 1) := by decide +kernel
theorem dX7_stepsBetween_17 : decode cX7_stepsBetween 17 = .ok (.iload_n 2, 1) := by decide +kernel
theorem dX7_stepsBetween_18 : decode cX7_stepsBetween 18 = .ok (.invokestatic 52, 3) := by decide +kernel
theorem dX7_stepsBetween_21 : decode cX7_stepsBetween 21 = .ok (.ifCond .eq 6, 3) := by decide +kernel
theorem dX7_stepsBetween_24 : decode cX7_stepsBetween 24 = .ok (.iload 4, 2) := by decide +kernel
theorem dX7_stepsBetween_26 : decode cX7_stepsBetween 26 = .ok (.ireturn, 1) := by decide +kernel
theorem dX7_stepsBetween_27 : decode cX7_stepsBetween 27 = .ok (.aload_n 0, 1) := by decide +kernel
theorem dX7_stepsBetween_28 : decode cX7_stepsBetween 28 = .ok (.iload_n 3, 1) := by decide +kernel
theorem dX7_stepsBetween_29 : decode cX7_stepsBetween 29 = .ok (.invokevirtual 70, 3) := by decide +kernel
theorem dX7_stepsBetween_32 : decode cX7_stepsBetween 32 = .ok (.istore_n 3, 1) := by decide +kernel
theorem dX7_stepsBetween_33 : decode cX7_stepsBetween 33 = .ok (.iinc 4 1, 3) := by decide +kernel
theorem dX7_stepsBetween_36 : decode cX7_stepsBetween 36 = .ok (.goto (-29), 3) := by decide +kernel
theorem dX7_stepsBetween_39 : decode cX7_stepsBetween 39 = .ok (.iconst (-1), 1) := by decide +kernel
theorem dX7_stepsBetween_40 : decode cX7_stepsBetween 40 = .ok (.ireturn, 1) := by decide +kernel
theorem dX7_spread_0 : decode cX7_spread 0 = .ok (.iload_n 1, 1) := by decide +kernel
theorem dX7_spread_1 : decode cX7_spread 1 = .ok (.istore_n 2, 1) := by decide +kernel
theorem dX7_spread_2 : decode cX7_spread 2 = .ok (.iconst 0, 1) := by decide +kernel
theorem dX7_spread_3 : decode cX7_spread 3 = .ok (.istore_n 3, 1) := by decide +kernel
theorem dX7_spread_4 : decode cX7_spread 4 = .ok (.iload_n 3, 1) := by decide +kernel
theorem dX7_spread_5 : decode cX7_spread 5 = .ok (.aload_n 0, 1) := by decide +kernel
theorem dX7_spread_6 : decode cX7_spread 6 = .ok (.getfield 27, 3) := by decide +kernel
theorem dX7_spread_9 : decode cX7_spread 9 = .ok (.if_icmp .ge 61, 3) := by decide +kernel
theorem dX7_spread_12 : decode cX7_spread 12 = .ok (.iconst 0, 1) := by decide +kernel
theorem dX7_spread_13 : decode cX7_spread 13 = .ok (.istore 4, 2) := by decide +kernel
theorem dX7_spread_15 : decode cX7_spread 15 = .ok (.iload 4, 2) := by decide +kernel
theorem dX7_spread_17 : decode cX7_spread 17 = .ok (.aload_n 0, 1) := by decide +kernel
theorem dX7_spread_18 : decode cX7_spread 18 = .ok (.getfield 27, 3) := by decide +kernel
theorem dX7_spread_21 : decode cX7_spread 21 = .ok (.if_icmp .ge 43, 3) := by decide +kernel
theorem dX7_spread_24 : decode cX7_spread 24 = .ok (.iload_n 1, 1) := by decide +kernel
theorem dX7_spread_25 : decode cX7_spread 25 = .ok (.iload_n 3, 1) := by decide +kernel
theorem dX7_spread_26 : decode cX7_spread 26 = .ok (.invokestatic 52, 3) := by decide +kernel
theorem dX7_spread_29 : decode cX7_spread 29 = .ok (.ifCond .eq 29, 3) := by decide +kernel
theorem dX7_spread_32 : decode cX7_spread 32 = .ok (.iload_n 2, 1) := by decide +kernel
theorem dX7_spread_33 : decode cX7_spread 33 = .ok (.iload 4, 2) := by decide +kernel
theorem dX7_spread_35 : decode cX7_spread 35 = .ok (.invokestatic 52, 3) := by decide +kernel
theorem dX7_spread_38 : decode cX7_spread 38 = .ok (.ifCond .ne 20, 3) := by decide +kernel
theorem dX7_spread_41 : decode cX7_spread 41 = .ok (.aload_n 0, 1) := by decide +kernel
theorem dX7_spread_42 : decode cX7_spread 42 = .ok (.iload_n 3, 1) := by decide +kernel
theorem dX7_spread_43 : decode cX7_spread 43 = .ok (.iload 4, 2) := by decide +kernel
theorem dX7_spread_45 : decode cX7_spread 45 = .ok (.invokevirtual 73, 3) := by decide +kernel
theorem dX7_spread_48 : decode cX7_spread 48 = .ok (.ifCond .eq 10, 3) := by decide +kernel
theorem dX7_spread_51 : decode cX7_spread 51 = .ok (.iload_n 2, 1) := by decide +kernel
theorem dX7_spread_52 : decode cX7_spread 52 = .ok (.iconst 1, 1) := by decide +kernel
theorem dX7_spread_53 : decode cX7_spread 53 = .ok (.iload 4, 2) := by decide +kernel
theorem dX7_spread_55 : decode cX7_spread 55 = .ok (.ishl, 1) := by decide +kernel
theorem dX7_spread_56 : decode cX7_spread 56 = .ok (.ior, 1) := by decide +kernel
theorem dX7_spread_57 : decode cX7_spread 57 = .ok (.istore_n 2, 1) := by decide +kernel
theorem dX7_spread_58 : decode cX7_spread 58 = .ok (.iinc 4 1, 3) := by decide +kernel
theorem dX7_spread_61 : decode cX7_spread 61 = .ok (.goto (-46), 3) := by decide +kernel
theorem dX7_spread_64 : decode cX7_spread 64 = .ok (.iinc 3 1, 3) := by decide +kernel
theorem dX7_spread_67 : decode cX7_spread 67 = .ok (.goto (-63), 3) := by decide +kernel
theorem dX7_spread_70 : decode cX7_spread 70 = .ok (.iload_n 2, 1) := by decide +kernel
theorem dX7_spread_71 : decode cX7_spread 71 = .ok (.ireturn, 1) := by decide +kernel
theorem dX7_flowsInOneStep_0 : decode cX7_flowsInOneStep 0 = .ok (.iconst 0, 1) := by decide +kernel
theorem dX7_flowsInOneStep_1 : decode cX7_flowsInOneStep 1 = .ok (.istore_n 3, 1) := by decide +kernel
theorem dX7_flowsInOneStep_2 : decode cX7_flowsInOneStep 2 = .ok (.iload_n 3, 1) := by decide +kernel
theorem dX7_flowsInOneStep_3 : decode cX7_flowsInOneStep 3 = .ok (.aload_n 0, 1) := by decide +kernel
theorem dX7_flowsInOneStep_4 : decode cX7_flowsInOneStep 4 = .ok (.getfield 31, 3) := by decide +kernel
theorem dX7_flowsInOneStep_7 : decode cX7_flowsInOneStep 7 = .ok (.if_icmp .ge 45, 3) := by decide +kernel
theorem dX7_flowsInOneStep_10 : decode cX7_flowsInOneStep 10 = .ok (.aload_n 0, 1) := by decide +kernel
theorem dX7_flowsInOneStep_11 : decode cX7_flowsInOneStep 11 = .ok (.iload_n 2, 1) := by decide +kernel
theorem dX7_flowsInOneStep_12 : decode cX7_flowsInOneStep 12 = .ok (.iload_n 1, 1) := by decide +kernel
theorem dX7_flowsInOneStep_13 : decode cX7_flowsInOneStep 13 = .ok (.iload_n 3, 1) := by decide +kernel
theorem dX7_flowsInOneStep_14 : decode cX7_flowsInOneStep 14 = .ok (.invokevirtual 76, 3) := by decide +kernel
theorem dX7_flowsInOneStep_17 : decode cX7_flowsInOneStep 17 = .ok (.aload_n 0, 1) := by decide +kernel
theorem dX7_flowsInOneStep_18 : decode cX7_flowsInOneStep 18 = .ok (.iload_n 3, 1) := by decide +kernel
theorem dX7_flowsInOneStep_19 : decode cX7_flowsInOneStep 19 = .ok (.iconst 3, 1) := by decide +kernel
theorem dX7_flowsInOneStep_20 : decode cX7_flowsInOneStep 20 = .ok (.invokevirtual 66, 3) := by decide +kernel
theorem dX7_flowsInOneStep_23 : decode cX7_flowsInOneStep 23 = .ok (.iand, 1) := by decide +kernel
theorem dX7_flowsInOneStep_24 : decode cX7_flowsInOneStep 24 = .ok (.ifCond .ne 20, 3) := by decide +kernel
theorem dX7_flowsInOneStep_27 : decode cX7_flowsInOneStep 27 = .ok (.aload_n 0, 1) := by decide +kernel
theorem dX7_flowsInOneStep_28 : decode cX7_flowsInOneStep 28 = .ok (.iload_n 1, 1) := by decide +kernel
theorem dX7_flowsInOneStep_29 : decode cX7_flowsInOneStep 29 = .ok (.iload_n 2, 1) := by decide +kernel
theorem dX7_flowsInOneStep_30 : decode cX7_flowsInOneStep 30 = .ok (.iload_n 3, 1) := by decide +kernel
theorem dX7_flowsInOneStep_31 : decode cX7_flowsInOneStep 31 = .ok (.invokevirtual 76, 3) := by decide +kernel
theorem dX7_flowsInOneStep_34 : decode cX7_flowsInOneStep 34 = .ok (.aload_n 0, 1) := by decide +kernel
theorem dX7_flowsInOneStep_35 : decode cX7_flowsInOneStep 35 = .ok (.iload_n 3, 1) := by decide +kernel
theorem dX7_flowsInOneStep_36 : decode cX7_flowsInOneStep 36 = .ok (.iconst 4, 1) := by decide +kernel
theorem dX7_flowsInOneStep_37 : decode cX7_flowsInOneStep 37 = .ok (.invokevirtual 66, 3) := by decide +kernel
theorem dX7_flowsInOneStep_40 : decode cX7_flowsInOneStep 40 = .ok (.iand, 1) := by decide +kernel
theorem dX7_flowsInOneStep_41 : decode cX7_flowsInOneStep 41 = .ok (.ifCond .eq 5, 3) := by decide +kernel
theorem dX7_flowsInOneStep_44 : decode cX7_flowsInOneStep 44 = .ok (.iconst 1, 1) := by decide +kernel
theorem dX7_flowsInOneStep_45 : decode cX7_flowsInOneStep 45 = .ok (.ireturn, 1) := by decide +kernel
theorem dX7_flowsInOneStep_46 : decode cX7_flowsInOneStep 46 = .ok (.iinc 3 1, 3) := by decide +kernel
theorem dX7_flowsInOneStep_49 : decode cX7_flowsInOneStep 49 = .ok (.goto (-47), 3) := by decide +kernel
theorem dX7_flowsInOneStep_52 : decode cX7_flowsInOneStep 52 = .ok (.iconst 0, 1) := by decide +kernel
theorem dX7_flowsInOneStep_53 : decode cX7_flowsInOneStep 53 = .ok (.ireturn, 1) := by decide +kernel
theorem dX8_init_0 : decode cX8_init 0 = .ok (.aload_n 0, 1) := by decide +kernel
theorem dX8_init_1 : decode cX8_init 1 = .ok (.invokespecial 3, 3) := by decide +kernel
theorem dX8_init_4 : decode cX8_init 4 = .ok (.aload_n 0, 1) := by decide +kernel
theorem dX8_init_5 : decode cX8_init 5 = .ok (.iconst 0, 1) := by decide +kernel
theorem dX8_init_6 : decode cX8_init 6 = .ok (.putfield 9, 3) := by decide +kernel
theorem dX8_init_9 : decode cX8_init 9 = .ok (.aload_n 0, 1) := by decide +kernel
theorem dX8_init_10 : decode cX8_init 10 = .ok (.aload_n 1, 1) := by decide +kernel
theorem dX8_init_11 : decode cX8_init 11 = .ok (.putfield 15, 3) := by decide +kernel
theorem dX8_init_14 : decode cX8_init 14 = .ok (.return_, 1) := by decide +kernel
theorem dX8_stoppedAt_0 : decode cX8_stoppedAt 0 = .ok (.aload_n 0, 1) := by decide +kernel
theorem dX8_stoppedAt_1 : decode cX8_stoppedAt 1 = .ok (.getfield 9, 3) := by decide +kernel
theorem dX8_stoppedAt_4 : decode cX8_stoppedAt 4 = .ok (.ireturn, 1) := by decide +kernel
theorem dX8_parse_0 : decode cX8_parse 0 = .ok (.aload_n 0, 1) := by decide +kernel
theorem dX8_parse_1 : decode cX8_parse 1 = .ok (.aload_n 1, 1) := by decide +kernel
theorem dX8_parse_2 : decode cX8_parse 2 = .ok (.invokevirtual 19, 3) := by decide +kernel
theorem dX8_parse_5 : decode cX8_parse 5 = .ok (.ifCond .ne 5, 3) := by decide +kernel
theorem dX8_parse_8 : decode cX8_parse 8 = .ok (.iconst 0, 1) := by decide +kernel
theorem dX8_parse_9 : decode cX8_parse 9 = .ok (.ireturn, 1) := by decide +kernel
theorem dX8_parse_10 : decode cX8_parse 10 = .ok (.aload_n 1, 1) := by decide +kernel
theorem dX8_parse_11 : decode cX8_parse 11 = .ok (.invokevirtual 23, 3) := by decide +kernel
theorem dX8_parse_14 : decode cX8_parse 14 = .ok (.astore_n 2, 1) := by decide +kernel
theorem dX8_parse_15 : decode cX8_parse 15 = .ok (.aload_n 0, 1) := by decide +kernel
theorem dX8_parse_16 : decode cX8_parse 16 = .ok (.aload_n 1, 1) := by decide +kernel
theorem dX8_parse_17 : decode cX8_parse 17 = .ok (.aload_n 2, 1) := by decide +kernel
theorem dX8_parse_18 : decode cX8_parse 18 = .ok (.getfield 29, 3) := by decide +kernel
theorem dX8_parse_21 : decode cX8_parse 21 = .ok (.invokevirtual 34, 3) := by decide +kernel
theorem dX8_parse_24 : decode cX8_parse 24 = .ok (.ifCond .eq 35, 3) := by decide +kernel
theorem dX8_parse_27 : decode cX8_parse 27 = .ok (.aload_n 0, 1) := by decide +kernel
theorem dX8_parse_28 : decode cX8_parse 28 = .ok (.aload_n 1, 1) := by decide +kernel
theorem dX8_parse_29 : decode cX8_parse 29 = .ok (.aload_n 2, 1) := by decide +kernel
theorem dX8_parse_30 : decode cX8_parse 30 = .ok (.getfield 37, 3) := by decide +kernel
theorem dX8_parse_33 : decode cX8_parse 33 = .ok (.invokevirtual 41, 3) := by decide +kernel
theorem dX8_parse_36 : decode cX8_parse 36 = .ok (.ifCond .eq 23, 3) := by decide +kernel
theorem dX8_parse_39 : decode cX8_parse 39 = .ok (.aload_n 0, 1) := by decide +kernel
theorem dX8_parse_40 : decode cX8_parse 40 = .ok (.aload_n 1, 1) := by decide +kernel
theorem dX8_parse_41 : decode cX8_parse 41 = .ok (.aload_n 2, 1) := by decide +kernel
theorem dX8_parse_42 : decode cX8_parse 42 = .ok (.getfield 45, 3) := by decide +kernel
theorem dX8_parse_45 : decode cX8_parse 45 = .ok (.aload_n 2, 1) := by decide +kernel
theorem dX8_parse_46 : decode cX8_parse 46 = .ok (.getfield 48, 3) := by decide +kernel
theorem dX8_parse_49 : decode cX8_parse 49 = .ok (.invokevirtual 51, 3) := by decide +kernel
theorem dX8_parse_52 : decode cX8_parse 52 = .ok (.ifCond .eq 7, 3) := by decide +kernel
theorem dX8_parse_55 : decode cX8_parse 55 = .ok (.iconst 1, 1) := by decide +kernel
theorem dX8_parse_56 : decode cX8_parse 56 = .ok (.goto 4, 3) := by decide +kernel
theorem dX8_parse_59 : decode cX8_parse 59 = .ok (.iconst 0, 1) := by decide +kernel
theorem dX8_parse_60 : decode cX8_parse 60 = .ok (.ireturn, 1) := by decide +kernel
theorem dX8_keyword_0 : decode cX8_keyword 0 = .ok (.aload_n 0, 1) := by decide +kernel
theorem dX8_keyword_1 : decode cX8_keyword 1 = .ok (.iconst 0, 1) := by decide +kernel
theorem dX8_keyword_2 : decode cX8_keyword 2 = .ok (.putfield 9, 3) := by decide +kernel
theorem dX8_keyword_5 : decode cX8_keyword 5 = .ok (.iconst 0, 1) := by decide +kernel
theorem dX8_keyword_6 : decode cX8_keyword 6 = .ok (.istore_n 2, 1) := by decide +kernel
theorem dX8_keyword_7 : decode cX8_keyword 7 = .ok (.iload_n 2, 1) := by decide +kernel
theorem dX8_keyword_8 : decode cX8_keyword 8 = .ok (.getstatic 55, 3) := by decide +kernel
theorem dX8_keyword_11 : decode cX8_keyword 11 = .ok (.arraylength, 1) := by decide +kernel
theorem dX8_keyword_12 : decode cX8_keyword 12 = .ok (.if_icmp .ge 65, 3) := by decide +kernel
theorem dX8_keyword_15 : decode cX8_keyword 15 = .ok (.aload_n 0, 1) := by decide +kernel
theorem dX8_keyword_16 : decode cX8_keyword 16 = .ok (.getstatic 55, 3) := by decide +kernel
theorem dX8_keyword_19 : decode cX8_keyword 19 = .ok (.iload_n 2, 1) := by decide +kernel
theorem dX8_keyword_20 : decode cX8_keyword 20 = .ok (.aaload, 1) := by decide +kernel
theorem dX8_keyword_21 : decode cX8_keyword 21 = .ok (.getfield 59, 3) := by decide +kernel
theorem dX8_keyword_24 : decode cX8_keyword 24 = .ok (.invokevirtual 62, 3) := by decide +kernel
theorem dX8_keyword_27 : decode cX8_keyword 27 = .ok (.istore_n 3, 1) := by decide +kernel
theorem dX8_keyword_28 : decode cX8_keyword 28 = .ok (.iload_n 3, 1) := by decide +kernel
theorem dX8_keyword_29 : decode cX8_keyword 29 = .ok (.getstatic 55, 3) := by decide +kernel
theorem dX8_keyword_32 : decode cX8_keyword 32 = .ok (.iload_n 2, 1) := by decide +kernel
theorem dX8_keyword_33 : decode cX8_keyword 33 = .ok (.aaload, 1) := by decide +kernel
theorem dX8_keyword_34 : decode cX8_keyword 34 = .ok (.getfield 59, 3) := by decide +kernel
theorem dX8_keyword_37 : decode cX8_keyword 37 = .ok (.invokevirtual 66, 3) := by decide +kernel
theorem dX8_keyword_40 : decode cX8_keyword 40 = .ok (.if_icmp .ne 19, 3) := by decide +kernel
theorem dX8_keyword_43 : decode cX8_keyword 43 = .ok (.aload_n 0, 1) := by decide +kernel
theorem dX8_keyword_44 : decode cX8_keyword 44 = .ok (.iload_n 3, 1) := by decide +kernel
theorem dX8_keyword_45 : decode cX8_keyword 45 = .ok (.putfield 9, 3) := by decide +kernel
theorem dX8_keyword_48 : decode cX8_keyword 48 = .ok (.aload_n 1, 1) := by decide +kernel
theorem dX8_keyword_49 : decode cX8_keyword 49 = .ok (.getstatic 55, 3) := by decide +kernel
theorem dX8_keyword_52 : decode cX8_keyword 52 = .ok (.iload_n 2, 1) := by decide +kernel
theorem dX8_keyword_53 : decode cX8_keyword 53 = .ok (.aaload, 1) := by decide +kernel
theorem dX8_keyword_54 : decode cX8_keyword 54 = .ok (.invokevirtual 72, 3) := by decide +kernel
theorem dX8_keyword_57 : decode cX8_keyword 57 = .ok (.iconst 1, 1) := by decide +kernel
theorem dX8_keyword_58 : decode cX8_keyword 58 = .ok (.ireturn, 1) := by decide +kernel
theorem dX8_keyword_59 : decode cX8_keyword 59 = .ok (.aload_n 0, 1) := by decide +kernel
theorem dX8_keyword_60 : decode cX8_keyword 60 = .ok (.aload_n 0, 1) := by decide +kernel
theorem dX8_keyword_61 : decode cX8_keyword 61 = .ok (.getfield 9, 3) := by decide +kernel
theorem dX8_keyword_64 : decode cX8_keyword 64 = .ok (.iload_n 3, 1) := by decide +kernel
theorem dX8_keyword_65 : decode cX8_keyword 65 = .ok (.invokestatic 76, 3) := by decide +kernel
theorem dX8_keyword_68 : decode cX8_keyword 68 = .ok (.putfield 9, 3) := by decide +kernel
theorem dX8_keyword_71 : decode cX8_keyword 71 = .ok (.iinc 2 1, 3) := by decide +kernel
theorem dX8_keyword_74 : decode cX8_keyword 74 = .ok (.goto (-67), 3) := by decide +kernel
theorem dX8_keyword_77 : decode cX8_keyword 77 = .ok (.iconst 0, 1) := by decide +kernel
theorem dX8_keyword_78 : decode cX8_keyword 78 = .ok (.ireturn, 1) := by decide +kernel
theorem dX8_lettersShared_0 : decode cX8_lettersShared 0 = .ok (.iconst 0, 1) := by decide +kernel
theorem dX8_lettersShared_1 : decode cX8_lettersShared 1 = .ok (.istore_n 2, 1) := by decide +kernel
theorem dX8_lettersShared_2 : decode cX8_lettersShared 2 = .ok (.iload_n 2, 1) := by decide +kernel
theorem dX8_lettersShared_3 : decode cX8_lettersShared 3 = .ok (.aload_n 1, 1) := by decide +kernel
theorem dX8_lettersShared_4 : decode cX8_lettersShared 4 = .ok (.invokevirtual 66, 3) := by decide +kernel
theorem dX8_lettersShared_7 : decode cX8_lettersShared 7 = .ok (.if_icmp .ge 27, 3) := by decide +kernel
theorem dX8_lettersShared_10 : decode cX8_lettersShared 10 = .ok (.aload_n 0, 1) := by decide +kernel
theorem dX8_lettersShared_11 : decode cX8_lettersShared 11 = .ok (.getfield 15, 3) := by decide +kernel
theorem dX8_lettersShared_14 : decode cX8_lettersShared 14 = .ok (.iload_n 2, 1) := by decide +kernel
theorem dX8_lettersShared_15 : decode cX8_lettersShared 15 = .ok (.invokevirtual 82, 3) := by decide +kernel
theorem dX8_lettersShared_18 : decode cX8_lettersShared 18 = .ok (.aload_n 1, 1) := by decide +kernel
theorem dX8_lettersShared_19 : decode cX8_lettersShared 19 = .ok (.iload_n 2, 1) := by decide +kernel
theorem dX8_lettersShared_20 : decode cX8_lettersShared 20 = .ok (.invokevirtual 88, 3) := by decide +kernel
theorem dX8_lettersShared_23 : decode cX8_lettersShared 23 = .ok (.if_icmp .eq 5, 3) := by decide +kernel
theorem dX8_lettersShared_26 : decode cX8_lettersShared 26 = .ok (.iload_n 2, 1) := by decide +kernel
theorem dX8_lettersShared_27 : decode cX8_lettersShared 27 = .ok (.ireturn, 1) := by decide +kernel
theorem dX8_lettersShared_28 : decode cX8_lettersShared 28 = .ok (.iinc 2 1, 3) := by decide +kernel
theorem dX8_lettersShared_31 : decode cX8_lettersShared 31 = .ok (.goto (-29), 3) := by decide +kernel
theorem dX8_lettersShared_34 : decode cX8_lettersShared 34 = .ok (.aload_n 1, 1) := by decide +kernel
theorem dX8_lettersShared_35 : decode cX8_lettersShared 35 = .ok (.invokevirtual 66, 3) := by decide +kernel
theorem dX8_lettersShared_38 : decode cX8_lettersShared 38 = .ok (.ireturn, 1) := by decide +kernel
theorem dX8_names_0 : decode cX8_names 0 = .ok (.iconst 0, 1) := by decide +kernel
theorem dX8_names_1 : decode cX8_names 1 = .ok (.istore_n 3, 1) := by decide +kernel
theorem dX8_names_2 : decode cX8_names 2 = .ok (.iload_n 3, 1) := by decide +kernel
theorem dX8_names_3 : decode cX8_names 3 = .ok (.iload_n 2, 1) := by decide +kernel
theorem dX8_names_4 : decode cX8_names 4 = .ok (.if_icmp .ge 26, 3) := by decide +kernel
theorem dX8_names_7 : decode cX8_names 7 = .ok (.aload_n 0, 1) := by decide +kernel
theorem dX8_names_8 : decode cX8_names 8 = .ok (.invokevirtual 92, 3) := by decide +kernel
theorem dX8_names_11 : decode cX8_names 11 = .ok (.ifCond .eq 11, 3) := by decide +kernel
theorem dX8_names_14 : decode cX8_names 14 = .ok (.aload_n 0, 1) := by decide +kernel
theorem dX8_names_15 : decode cX8_names 15 = .ok (.aload_n 1, 1) := by decide +kernel
theorem dX8_names_16 : decode cX8_names 16 = .ok (.invokevirtual 96, 3) := by decide +kernel
theorem dX8_names_19 : decode cX8_names 19 = .ok (.ifCond .ne 5, 3) := by decide +kernel
theorem dX8_names_22 : decode cX8_names 22 = .ok (.iconst 0, 1) := by decide +kernel
theorem dX8_names_23 : decode cX8_names 23 = .ok (.ireturn, 1) := by decide +kernel
theorem dX8_names_24 : decode cX8_names 24 = .ok (.iinc 3 1, 3) := by decide +kernel
theorem dX8_names_27 : decode cX8_names 27 = .ok (.goto (-25), 3) := by decide +kernel
theorem dX8_names_30 : decode cX8_names 30 = .ok (.iconst 1, 1) := by decide +kernel
theorem dX8_names_31 : decode cX8_names 31 = .ok (.ireturn, 1) := by decide +kernel
theorem dX8_mark_0 : decode cX8_mark 0 = .ok (.aload_n 2, 1) := by decide +kernel
theorem dX8_mark_1 : decode cX8_mark 1 = .ok (.invokevirtual 99, 3) := by decide +kernel
theorem dX8_mark_4 : decode cX8_mark 4 = .ok (.ifCond .eq 5, 3) := by decide +kernel
theorem dX8_mark_7 : decode cX8_mark 7 = .ok (.iconst 1, 1) := by decide +kernel
theorem dX8_mark_8 : decode cX8_mark 8 = .ok (.ireturn, 1) := by decide +kernel
theorem dX8_mark_9 : decode cX8_mark 9 = .ok (.aload_n 0, 1) := by decide +kernel
theorem dX8_mark_10 : decode cX8_mark 10 = .ok (.invokevirtual 92, 3) := by decide +kernel
theorem dX8_mark_13 : decode cX8_mark 13 = .ok (.ifCond .eq 10, 3) := by decide +kernel
theorem dX8_mark_16 : decode cX8_mark 16 = .ok (.aload_n 0, 1) := by decide +kernel
theorem dX8_mark_17 : decode cX8_mark 17 = .ok (.invokevirtual 102, 3) := by decide +kernel
theorem dX8_mark_20 : decode cX8_mark 20 = .ok (.ifCond .eq 5, 3) := by decide +kernel
theorem dX8_mark_23 : decode cX8_mark 23 = .ok (.iconst 0, 1) := by decide +kernel
theorem dX8_mark_24 : decode cX8_mark 24 = .ok (.ireturn, 1) := by decide +kernel
theorem dX8_mark_25 : decode cX8_mark 25 = .ok (.aload_n 2, 1) := by decide +kernel
theorem dX8_mark_26 : decode cX8_mark 26 = .ok (.aload_n 0, 1) := by decide +kernel
theorem dX8_mark_27 : decode cX8_mark 27 = .ok (.getfield 15, 3) := by decide +kernel
theorem dX8_mark_30 : decode cX8_mark 30 = .ok (.aload_n 0, 1) := by decide +kernel
theorem dX8_mark_31 : decode cX8_mark 31 = .ok (.getfield 9, 3) := by decide +kernel
theorem dX8_mark_34 : decode cX8_mark 34 = .ok (.invokevirtual 82, 3) := by decide +kernel
theorem dX8_mark_37 : decode cX8_mark 37 = .ok (.i2c, 1) := by decide +kernel
theorem dX8_mark_38 : decode cX8_mark 38 = .ok (.invokevirtual 105, 3) := by decide +kernel
theorem dX8_mark_41 : decode cX8_mark 41 = .ok (.istore_n 3, 1) := by decide +kernel
theorem dX8_mark_42 : decode cX8_mark 42 = .ok (.iload_n 3, 1) := by decide +kernel
theorem dX8_mark_43 : decode cX8_mark 43 = .ok (.ifCond .ge 5, 3) := by decide +kernel
theorem dX8_mark_46 : decode cX8_mark 46 = .ok (.iconst 0, 1) := by decide +kernel
theorem dX8_mark_47 : decode cX8_mark 47 = .ok (.ireturn, 1) := by decide +kernel
theorem dX8_mark_48 : decode cX8_mark 48 = .ok (.aload_n 1, 1) := by decide +kernel
theorem dX8_mark_49 : decode cX8_mark 49 = .ok (.iload_n 3, 1) := by decide +kernel
theorem dX8_mark_50 : decode cX8_mark 50 = .ok (.invokevirtual 108, 3) := by decide +kernel
theorem dX8_mark_53 : decode cX8_mark 53 = .ok (.aload_n 0, 1) := by decide +kernel
theorem dX8_mark_54 : decode cX8_mark 54 = .ok (.dup, 1) := by decide +kernel
theorem dX8_mark_55 : decode cX8_mark 55 = .ok (.getfield 9, 3) := by decide +kernel
theorem dX8_mark_58 : decode cX8_mark 58 = .ok (.iconst 1, 1) := by decide +kernel
theorem dX8_mark_59 : decode cX8_mark 59 = .ok (.iadd, 1) := by decide +kernel
theorem dX8_mark_60 : decode cX8_mark 60 = .ok (.putfield 9, 3) := by decide +kernel
theorem dX8_mark_63 : decode cX8_mark 63 = .ok (.iconst 1, 1) := by decide +kernel
theorem dX8_mark_64 : decode cX8_mark 64 = .ok (.ireturn, 1) := by decide +kernel
theorem dX8_list_0 : decode cX8_list 0 = .ok (.iconst 0, 1) := by decide +kernel
theorem dX8_list_1 : decode cX8_list 1 = .ok (.istore 4, 2) := by decide +kernel
theorem dX8_list_3 : decode cX8_list 3 = .ok (.iload 4, 2) := by decide +kernel
theorem dX8_list_5 : decode cX8_list 5 = .ok (.iload_n 3, 1) := by decide +kernel
theorem dX8_list_6 : decode cX8_list 6 = .ok (.if_icmp .ge 41, 3) := by decide +kernel
theorem dX8_list_9 : decode cX8_list 9 = .ok (.iload 4, 2) := by decide +kernel
theorem dX8_list_11 : decode cX8_list 11 = .ok (.iload_n 2, 1) := by decide +kernel
theorem dX8_list_12 : decode cX8_list 12 = .ok (.if_icmp .lt 12, 3) := by decide +kernel
theorem dX8_list_15 : decode cX8_list 15 = .ok (.aload_n 0, 1) := by decide +kernel
theorem dX8_list_16 : decode cX8_list 16 = .ok (.invokevirtual 102, 3) := by decide +kernel
theorem dX8_list_19 : decode cX8_list 19 = .ok (.ifCond .eq 5, 3) := by decide +kernel
theorem dX8_list_22 : decode cX8_list 22 = .ok (.iconst 1, 1) := by decide +kernel
theorem dX8_list_23 : decode cX8_list 23 = .ok (.ireturn, 1) := by decide +kernel
theorem dX8_list_24 : decode cX8_list 24 = .ok (.aload_n 0, 1) := by decide +kernel
theorem dX8_list_25 : decode cX8_list 25 = .ok (.invokevirtual 92, 3) := by decide +kernel
theorem dX8_list_28 : decode cX8_list 28 = .ok (.ifCond .eq 11, 3) := by decide +kernel
theorem dX8_list_31 : decode cX8_list 31 = .ok (.aload_n 0, 1) := by decide +kernel
theorem dX8_list_32 : decode cX8_list 32 = .ok (.aload_n 1, 1) := by decide +kernel
theorem dX8_list_33 : decode cX8_list 33 = .ok (.invokevirtual 96, 3) := by decide +kernel
theorem dX8_list_36 : decode cX8_list 36 = .ok (.ifCond .ne 5, 3) := by decide +kernel
theorem dX8_list_39 : decode cX8_list 39 = .ok (.iconst 0, 1) := by decide +kernel
theorem dX8_list_40 : decode cX8_list 40 = .ok (.ireturn, 1) := by decide +kernel
theorem dX8_list_41 : decode cX8_list 41 = .ok (.iinc 4 1, 3) := by decide +kernel
theorem dX8_list_44 : decode cX8_list 44 = .ok (.goto (-41), 3) := by decide +kernel
theorem dX8_list_47 : decode cX8_list 47 = .ok (.aload_n 0, 1) := by decide +kernel
theorem dX8_list_48 : decode cX8_list 48 = .ok (.invokevirtual 102, 3) := by decide +kernel
theorem dX8_list_51 : decode cX8_list 51 = .ok (.ireturn, 1) := by decide +kernel
theorem dX8_blank_0 : decode cX8_blank 0 = .ok (.aload_n 0, 1) := by decide +kernel
theorem dX8_blank_1 : decode cX8_blank 1 = .ok (.getfield 15, 3) := by decide +kernel
theorem dX8_blank_4 : decode cX8_blank 4 = .ok (.aload_n 0, 1) := by decide +kernel
theorem dX8_blank_5 : decode cX8_blank 5 = .ok (.getfield 9, 3) := by decide +kernel
theorem dX8_blank_8 : decode cX8_blank 8 = .ok (.invokevirtual 82, 3) := by decide +kernel
theorem dX8_blank_11 : decode cX8_blank 11 = .ok (.bipush 32, 2) := by decide +kernel
theorem dX8_blank_13 : decode cX8_blank 13 = .ok (.if_icmp .eq 5, 3) := by decide +kernel
theorem dX8_blank_16 : decode cX8_blank 16 = .ok (.iconst 0, 1) := by decide +kernel
theorem dX8_blank_17 : decode cX8_blank 17 = .ok (.ireturn, 1) := by decide +kernel
theorem dX8_blank_18 : decode cX8_blank 18 = .ok (.aload_n 0, 1) := by decide +kernel
theorem dX8_blank_19 : decode cX8_blank 19 = .ok (.dup, 1) := by decide +kernel
theorem dX8_blank_20 : decode cX8_blank 20 = .ok (.getfield 9, 3) := by decide +kernel
theorem dX8_blank_23 : decode cX8_blank 23 = .ok (.iconst 1, 1) := by decide +kernel
theorem dX8_blank_24 : decode cX8_blank 24 = .ok (.iadd, 1) := by decide +kernel
theorem dX8_blank_25 : decode cX8_blank 25 = .ok (.putfield 9, 3) := by decide +kernel
theorem dX8_blank_28 : decode cX8_blank 28 = .ok (.iconst 1, 1) := by decide +kernel
theorem dX8_blank_29 : decode cX8_blank 29 = .ok (.ireturn, 1) := by decide +kernel
theorem dX8_name_0 : decode cX8_name 0 = .ok (.iconst 0, 1) := by decide +kernel
theorem dX8_name_1 : decode cX8_name 1 = .ok (.istore_n 2, 1) := by decide +kernel
theorem dX8_name_2 : decode cX8_name 2 = .ok (.iconst 0, 1) := by decide +kernel
theorem dX8_name_3 : decode cX8_name 3 = .ok (.istore_n 3, 1) := by decide +kernel
theorem dX8_name_4 : decode cX8_name 4 = .ok (.iload_n 3, 1) := by decide +kernel
theorem dX8_name_5 : decode cX8_name 5 = .ok (.iconst 4, 1) := by decide +kernel
theorem dX8_name_6 : decode cX8_name 6 = .ok (.if_icmp .ge 58, 3) := by decide +kernel
theorem dX8_name_9 : decode cX8_name 9 = .ok (.aload_n 0, 1) := by decide +kernel
theorem dX8_name_10 : decode cX8_name 10 = .ok (.getfield 15, 3) := by decide +kernel
theorem dX8_name_13 : decode cX8_name 13 = .ok (.aload_n 0, 1) := by decide +kernel
theorem dX8_name_14 : decode cX8_name 14 = .ok (.getfield 9, 3) := by decide +kernel
theorem dX8_name_17 : decode cX8_name 17 = .ok (.invokevirtual 82, 3) := by decide +kernel
theorem dX8_name_20 : decode cX8_name 20 = .ok (.invokestatic 112, 3) := by decide +kernel
theorem dX8_name_23 : decode cX8_name 23 = .ok (.ifCond .eq 41, 3) := by decide +kernel
theorem dX8_name_26 : decode cX8_name 26 = .ok (.iload_n 2, 1) := by decide +kernel
theorem dX8_name_27 : decode cX8_name 27 = .ok (.bipush 32, 2) := by decide +kernel
theorem dX8_name_29 : decode cX8_name 29 = .ok (.imul, 1) := by decide +kernel
theorem dX8_name_30 : decode cX8_name 30 = .ok (.aload_n 0, 1) := by decide +kernel
theorem dX8_name_31 : decode cX8_name 31 = .ok (.getfield 15, 3) := by decide +kernel
theorem dX8_name_34 : decode cX8_name 34 = .ok (.aload_n 0, 1) := by decide +kernel
theorem dX8_name_35 : decode cX8_name 35 = .ok (.getfield 9, 3) := by decide +kernel
theorem dX8_name_38 : decode cX8_name 38 = .ok (.invokevirtual 82, 3) := by decide +kernel
theorem dX8_name_41 : decode cX8_name 41 = .ok (.iadd, 1) := by decide +kernel
theorem dX8_name_42 : decode cX8_name 42 = .ok (.bipush 97, 2) := by decide +kernel
theorem dX8_name_44 : decode cX8_name 44 = .ok (.isub, 1) := by decide +kernel
theorem dX8_name_45 : decode cX8_name 45 = .ok (.iconst 1, 1) := by decide +kernel
theorem dX8_name_46 : decode cX8_name 46 = .ok (.iadd, 1) := by decide +kernel
theorem dX8_name_47 : decode cX8_name 47 = .ok (.istore_n 2, 1) := by decide +kernel
theorem dX8_name_48 : decode cX8_name 48 = .ok (.iinc 3 1, 3) := by decide +kernel
theorem dX8_name_51 : decode cX8_name 51 = .ok (.aload_n 0, 1) := by decide +kernel
theorem dX8_name_52 : decode cX8_name 52 = .ok (.dup, 1) := by decide +kernel
theorem dX8_name_53 : decode cX8_name 53 = .ok (.getfield 9, 3) := by decide +kernel
theorem dX8_name_56 : decode cX8_name 56 = .ok (.iconst 1, 1) := by decide +kernel
theorem dX8_name_57 : decode cX8_name 57 = .ok (.iadd, 1) := by decide +kernel
theorem dX8_name_58 : decode cX8_name 58 = .ok (.putfield 9, 3) := by decide +kernel
theorem dX8_name_61 : decode cX8_name 61 = .ok (.goto (-57), 3) := by decide +kernel
theorem dX8_name_64 : decode cX8_name 64 = .ok (.iload_n 3, 1) := by decide +kernel
theorem dX8_name_65 : decode cX8_name 65 = .ok (.ifCond .ne 5, 3) := by decide +kernel
theorem dX8_name_68 : decode cX8_name 68 = .ok (.iconst 0, 1) := by decide +kernel
theorem dX8_name_69 : decode cX8_name 69 = .ok (.ireturn, 1) := by decide +kernel
theorem dX8_name_70 : decode cX8_name 70 = .ok (.aload_n 1, 1) := by decide +kernel
theorem dX8_name_71 : decode cX8_name 71 = .ok (.iload_n 2, 1) := by decide +kernel
theorem dX8_name_72 : decode cX8_name 72 = .ok (.invokevirtual 116, 3) := by decide +kernel
theorem dX8_name_75 : decode cX8_name 75 = .ok (.iconst 1, 1) := by decide +kernel
theorem dX8_name_76 : decode cX8_name 76 = .ok (.ireturn, 1) := by decide +kernel
theorem dX8_atEnd_0 : decode cX8_atEnd 0 = .ok (.aload_n 0, 1) := by decide +kernel
theorem dX8_atEnd_1 : decode cX8_atEnd 1 = .ok (.getfield 9, 3) := by decide +kernel
theorem dX8_atEnd_4 : decode cX8_atEnd 4 = .ok (.aload_n 0, 1) := by decide +kernel
theorem dX8_atEnd_5 : decode cX8_atEnd 5 = .ok (.getfield 15, 3) := by decide +kernel
theorem dX8_atEnd_8 : decode cX8_atEnd 8 = .ok (.invokevirtual 119, 3) := by decide +kernel
theorem dX8_atEnd_11 : decode cX8_atEnd 11 = .ok (.if_icmp .lt 7, 3) := by decide +kernel
theorem dX8_atEnd_14 : decode cX8_atEnd 14 = .ok (.iconst 1, 1) := by decide +kernel
theorem dX8_atEnd_15 : decode cX8_atEnd 15 = .ok (.goto 4, 3) := by decide +kernel
theorem dX8_atEnd_18 : decode cX8_atEnd 18 = .ok (.iconst 0, 1) := by decide +kernel
theorem dX8_atEnd_19 : decode cX8_atEnd 19 = .ok (.ireturn, 1) := by decide +kernel
theorem dX8_isLetter_0 : decode cX8_isLetter 0 = .ok (.iload_n 0, 1) := by decide +kernel
theorem dX8_isLetter_1 : decode cX8_isLetter 1 = .ok (.bipush 97, 2) := by decide +kernel
theorem dX8_isLetter_3 : decode cX8_isLetter 3 = .ok (.if_icmp .lt 13, 3) := by decide +kernel
theorem dX8_isLetter_6 : decode cX8_isLetter 6 = .ok (.iload_n 0, 1) := by decide +kernel
theorem dX8_isLetter_7 : decode cX8_isLetter 7 = .ok (.bipush 122, 2) := by decide +kernel
theorem dX8_isLetter_9 : decode cX8_isLetter 9 = .ok (.if_icmp .gt 7, 3) := by decide +kernel
theorem dX8_isLetter_12 : decode cX8_isLetter 12 = .ok (.iconst 1, 1) := by decide +kernel
theorem dX8_isLetter_13 : decode cX8_isLetter 13 = .ok (.goto 4, 3) := by decide +kernel
theorem dX8_isLetter_16 : decode cX8_isLetter 16 = .ok (.iconst 0, 1) := by decide +kernel
theorem dX8_isLetter_17 : decode cX8_isLetter 17 = .ok (.ireturn, 1) := by decide +kernel
theorem dX9_init_0 : decode cX9_init 0 = .ok (.aload_n 0, 1) := by decide +kernel
theorem dX9_init_1 : decode cX9_init 1 = .ok (.invokespecial 3, 3) := by decide +kernel
theorem dX9_init_4 : decode cX9_init 4 = .ok (.aload_n 0, 1) := by decide +kernel
theorem dX9_init_5 : decode cX9_init 5 = .ok (.bipush 9, 2) := by decide +kernel
theorem dX9_init_7 : decode cX9_init 7 = .ok (.newarray .int, 2) := by decide +kernel
theorem dX9_init_9 : decode cX9_init 9 = .ok (.putfield 9, 3) := by decide +kernel
theorem dX9_init_12 : decode cX9_init 12 = .ok (.aload_n 0, 1) := by decide +kernel
theorem dX9_init_13 : decode cX9_init 13 = .ok (.getstatic 15, 3) := by decide +kernel
theorem dX9_init_16 : decode cX9_init 16 = .ok (.putfield 21, 3) := by decide +kernel
theorem dX9_init_19 : decode cX9_init 19 = .ok (.aload_n 0, 1) := by decide +kernel
theorem dX9_init_20 : decode cX9_init 20 = .ok (.iconst 0, 1) := by decide +kernel
theorem dX9_init_21 : decode cX9_init 21 = .ok (.putfield 24, 3) := by decide +kernel
theorem dX9_init_24 : decode cX9_init 24 = .ok (.aload_n 0, 1) := by decide +kernel
theorem dX9_init_25 : decode cX9_init 25 = .ok (.iconst 0, 1) := by decide +kernel
theorem dX9_init_26 : decode cX9_init 26 = .ok (.putfield 28, 3) := by decide +kernel
theorem dX9_init_29 : decode cX9_init 29 = .ok (.return_, 1) := by decide +kernel
theorem dX9_begin_0 : decode cX9_begin 0 = .ok (.aload_n 0, 1) := by decide +kernel
theorem dX9_begin_1 : decode cX9_begin 1 = .ok (.aload_n 1, 1) := by decide +kernel
theorem dX9_begin_2 : decode cX9_begin 2 = .ok (.putfield 21, 3) := by decide +kernel
theorem dX9_begin_5 : decode cX9_begin 5 = .ok (.aload_n 0, 1) := by decide +kernel
theorem dX9_begin_6 : decode cX9_begin 6 = .ok (.iconst 0, 1) := by decide +kernel
theorem dX9_begin_7 : decode cX9_begin 7 = .ok (.putfield 24, 3) := by decide +kernel
theorem dX9_begin_10 : decode cX9_begin 10 = .ok (.aload_n 0, 1) := by decide +kernel
theorem dX9_begin_11 : decode cX9_begin 11 = .ok (.iconst 0, 1) := by decide +kernel
theorem dX9_begin_12 : decode cX9_begin 12 = .ok (.putfield 28, 3) := by decide +kernel
theorem dX9_begin_15 : decode cX9_begin 15 = .ok (.return_, 1) := by decide +kernel
theorem dX9_push_0 : decode cX9_push 0 = .ok (.aload_n 0, 1) := by decide +kernel
theorem dX9_push_1 : decode cX9_push 1 = .ok (.getfield 24, 3) := by decide +kernel
theorem dX9_push_4 : decode cX9_push 4 = .ok (.aload_n 0, 1) := by decide +kernel
theorem dX9_push_5 : decode cX9_push 5 = .ok (.getfield 9, 3) := by decide +kernel
theorem dX9_push_8 : decode cX9_push 8 = .ok (.arraylength, 1) := by decide +kernel
theorem dX9_push_9 : decode cX9_push 9 = .ok (.if_icmp .ge 23, 3) := by decide +kernel
theorem dX9_push_12 : decode cX9_push 12 = .ok (.aload_n 0, 1) := by decide +kernel
theorem dX9_push_13 : decode cX9_push 13 = .ok (.getfield 9, 3) := by decide +kernel
theorem dX9_push_16 : decode cX9_push 16 = .ok (.aload_n 0, 1) := by decide +kernel
theorem dX9_push_17 : decode cX9_push 17 = .ok (.getfield 24, 3) := by decide +kernel
theorem dX9_push_20 : decode cX9_push 20 = .ok (.iload_n 1, 1) := by decide +kernel
theorem dX9_push_21 : decode cX9_push 21 = .ok (.iastore, 1) := by decide +kernel
theorem dX9_push_22 : decode cX9_push 22 = .ok (.aload_n 0, 1) := by decide +kernel
theorem dX9_push_23 : decode cX9_push 23 = .ok (.dup, 1) := by decide +kernel
theorem dX9_push_24 : decode cX9_push 24 = .ok (.getfield 24, 3) := by decide +kernel
theorem dX9_push_27 : decode cX9_push 27 = .ok (.iconst 1, 1) := by decide +kernel
theorem dX9_push_28 : decode cX9_push 28 = .ok (.iadd, 1) := by decide +kernel
theorem dX9_push_29 : decode cX9_push 29 = .ok (.putfield 24, 3) := by decide +kernel
theorem dX9_push_32 : decode cX9_push 32 = .ok (.return_, 1) := by decide +kernel
theorem dX9_setMark_0 : decode cX9_setMark 0 = .ok (.aload_n 0, 1) := by decide +kernel
theorem dX9_setMark_1 : decode cX9_setMark 1 = .ok (.iload_n 1, 1) := by decide +kernel
theorem dX9_setMark_2 : decode cX9_setMark 2 = .ok (.putfield 28, 3) := by decide +kernel
theorem dX9_setMark_5 : decode cX9_setMark 5 = .ok (.return_, 1) := by decide +kernel
theorem dX9_kind_0 : decode cX9_kind 0 = .ok (.aload_n 0, 1) := by decide +kernel
theorem dX9_kind_1 : decode cX9_kind 1 = .ok (.getfield 21, 3) := by decide +kernel
theorem dX9_kind_4 : decode cX9_kind 4 = .ok (.areturn, 1) := by decide +kernel
theorem dX9_mark_0 : decode cX9_mark 0 = .ok (.aload_n 0, 1) := by decide +kernel
theorem dX9_mark_1 : decode cX9_mark 1 = .ok (.getfield 28, 3) := by decide +kernel
theorem dX9_mark_4 : decode cX9_mark 4 = .ok (.ireturn, 1) := by decide +kernel
theorem dX9_size_0 : decode cX9_size 0 = .ok (.aload_n 0, 1) := by decide +kernel
theorem dX9_size_1 : decode cX9_size 1 = .ok (.getfield 24, 3) := by decide +kernel
theorem dX9_size_4 : decode cX9_size 4 = .ok (.ireturn, 1) := by decide +kernel
theorem dX9_word_0 : decode cX9_word 0 = .ok (.iload_n 1, 1) := by decide +kernel
theorem dX9_word_1 : decode cX9_word 1 = .ok (.ifCond .lt 20, 3) := by decide +kernel
theorem dX9_word_4 : decode cX9_word 4 = .ok (.iload_n 1, 1) := by decide +kernel
theorem dX9_word_5 : decode cX9_word 5 = .ok (.aload_n 0, 1) := by decide +kernel
theorem dX9_word_6 : decode cX9_word 6 = .ok (.getfield 24, 3) := by decide +kernel
theorem dX9_word_9 : decode cX9_word 9 = .ok (.if_icmp .ge 12, 3) := by decide +kernel
theorem dX9_word_12 : decode cX9_word 12 = .ok (.aload_n 0, 1) := by decide +kernel
theorem dX9_word_13 : decode cX9_word 13 = .ok (.getfield 9, 3) := by decide +kernel
theorem dX9_word_16 : decode cX9_word 16 = .ok (.iload_n 1, 1) := by decide +kernel
theorem dX9_word_17 : decode cX9_word 17 = .ok (.iaload, 1) := by decide +kernel
theorem dX9_word_18 : decode cX9_word 18 = .ok (.goto 4, 3) := by decide +kernel
theorem dX9_word_21 : decode cX9_word 21 = .ok (.iconst 0, 1) := by decide +kernel
theorem dX9_word_22 : decode cX9_word 22 = .ok (.ireturn, 1) := by decide +kernel
theorem dX9_find_0 : decode cX9_find 0 = .ok (.iload_n 2, 1) := by decide +kernel
theorem dX9_find_1 : decode cX9_find 1 = .ok (.istore_n 3, 1) := by decide +kernel
theorem dX9_find_2 : decode cX9_find 2 = .ok (.iload_n 3, 1) := by decide +kernel
theorem dX9_find_3 : decode cX9_find 3 = .ok (.aload_n 0, 1) := by decide +kernel
theorem dX9_find_4 : decode cX9_find 4 = .ok (.getfield 24, 3) := by decide +kernel
theorem dX9_find_7 : decode cX9_find 7 = .ok (.if_icmp .ge 20, 3) := by decide +kernel
theorem dX9_find_10 : decode cX9_find 10 = .ok (.aload_n 0, 1) := by decide +kernel
theorem dX9_find_11 : decode cX9_find 11 = .ok (.iload_n 3, 1) := by decide +kernel
theorem dX9_find_12 : decode cX9_find 12 = .ok (.invokevirtual 31, 3) := by decide +kernel
theorem dX9_find_15 : decode cX9_find 15 = .ok (.iload_n 1, 1) := by decide +kernel
theorem dX9_find_16 : decode cX9_find 16 = .ok (.if_icmp .ne 5, 3) := by decide +kernel
theorem dX9_find_19 : decode cX9_find 19 = .ok (.iload_n 3, 1) := by decide +kernel
theorem dX9_find_20 : decode cX9_find 20 = .ok (.ireturn, 1) := by decide +kernel
theorem dX9_find_21 : decode cX9_find 21 = .ok (.iinc 3 1, 3) := by decide +kernel
theorem dX9_find_24 : decode cX9_find 24 = .ok (.goto (-22), 3) := by decide +kernel
theorem dX9_find_27 : decode cX9_find 27 = .ok (.iconst (-1), 1) := by decide +kernel
theorem dX9_find_28 : decode cX9_find 28 = .ok (.ireturn, 1) := by decide +kernel
theorem dX9_allDifferFrom_0 : decode cX9_allDifferFrom 0 = .ok (.iload_n 1, 1) := by decide +kernel
theorem dX9_allDifferFrom_1 : decode cX9_allDifferFrom 1 = .ok (.istore_n 2, 1) := by decide +kernel
theorem dX9_allDifferFrom_2 : decode cX9_allDifferFrom 2 = .ok (.iload_n 2, 1) := by decide +kernel
theorem dX9_allDifferFrom_3 : decode cX9_allDifferFrom 3 = .ok (.aload_n 0, 1) := by decide +kernel
theorem dX9_allDifferFrom_4 : decode cX9_allDifferFrom 4 = .ok (.getfield 24, 3) := by decide +kernel
theorem dX9_allDifferFrom_7 : decode cX9_allDifferFrom 7 = .ok (.if_icmp .ge 27, 3) := by decide +kernel
theorem dX9_allDifferFrom_10 : decode cX9_allDifferFrom 10 = .ok (.aload_n 0, 1) := by decide +kernel
theorem dX9_allDifferFrom_11 : decode cX9_allDifferFrom 11 = .ok (.aload_n 0, 1) := by decide +kernel
theorem dX9_allDifferFrom_12 : decode cX9_allDifferFrom 12 = .ok (.iload_n 2, 1) := by decide +kernel
theorem dX9_allDifferFrom_13 : decode cX9_allDifferFrom 13 = .ok (.invokevirtual 31, 3) := by decide +kernel
theorem dX9_allDifferFrom_16 : decode cX9_allDifferFrom 16 = .ok (.iload_n 2, 1) := by decide +kernel
theorem dX9_allDifferFrom_17 : decode cX9_allDifferFrom 17 = .ok (.iconst 1, 1) := by decide +kernel
theorem dX9_allDifferFrom_18 : decode cX9_allDifferFrom 18 = .ok (.iadd, 1) := by decide +kernel
theorem dX9_allDifferFrom_19 : decode cX9_allDifferFrom 19 = .ok (.invokevirtual 35, 3) := by decide +kernel
theorem dX9_allDifferFrom_22 : decode cX9_allDifferFrom 22 = .ok (.iconst (-1), 1) := by decide +kernel
theorem dX9_allDifferFrom_23 : decode cX9_allDifferFrom 23 = .ok (.if_icmp .eq 5, 3) := by decide +kernel
theorem dX9_allDifferFrom_26 : decode cX9_allDifferFrom 26 = .ok (.iconst 0, 1) := by decide +kernel
theorem dX9_allDifferFrom_27 : decode cX9_allDifferFrom 27 = .ok (.ireturn, 1) := by decide +kernel
theorem dX9_allDifferFrom_28 : decode cX9_allDifferFrom 28 = .ok (.iinc 2 1, 3) := by decide +kernel
theorem dX9_allDifferFrom_31 : decode cX9_allDifferFrom 31 = .ok (.goto (-29), 3) := by decide +kernel
theorem dX9_allDifferFrom_34 : decode cX9_allDifferFrom 34 = .ok (.iconst 1, 1) := by decide +kernel
theorem dX9_allDifferFrom_35 : decode cX9_allDifferFrom 35 = .ok (.ireturn, 1) := by decide +kernel
theorem dX9_beginsAs_0 : decode cX9_beginsAs 0 = .ok (.aload_n 0, 1) := by decide +kernel
theorem dX9_beginsAs_1 : decode cX9_beginsAs 1 = .ok (.getfield 21, 3) := by decide +kernel
theorem dX9_beginsAs_4 : decode cX9_beginsAs 4 = .ok (.aload_n 1, 1) := by decide +kernel
theorem dX9_beginsAs_5 : decode cX9_beginsAs 5 = .ok (.getfield 21, 3) := by decide +kernel
theorem dX9_beginsAs_8 : decode cX9_beginsAs 8 = .ok (.if_acmp .eq 5, 3) := by decide +kernel
theorem dX9_beginsAs_11 : decode cX9_beginsAs 11 = .ok (.iconst 0, 1) := by decide +kernel
theorem dX9_beginsAs_12 : decode cX9_beginsAs 12 = .ok (.ireturn, 1) := by decide +kernel
theorem dX9_beginsAs_13 : decode cX9_beginsAs 13 = .ok (.iconst 0, 1) := by decide +kernel
theorem dX9_beginsAs_14 : decode cX9_beginsAs 14 = .ok (.istore_n 3, 1) := by decide +kernel
theorem dX9_beginsAs_15 : decode cX9_beginsAs 15 = .ok (.iload_n 3, 1) := by decide +kernel
theorem dX9_beginsAs_16 : decode cX9_beginsAs 16 = .ok (.iload_n 2, 1) := by decide +kernel
theorem dX9_beginsAs_17 : decode cX9_beginsAs 17 = .ok (.if_icmp .ge 24, 3) := by decide +kernel
theorem dX9_beginsAs_20 : decode cX9_beginsAs 20 = .ok (.aload_n 0, 1) := by decide +kernel
theorem dX9_beginsAs_21 : decode cX9_beginsAs 21 = .ok (.iload_n 3, 1) := by decide +kernel
theorem dX9_beginsAs_22 : decode cX9_beginsAs 22 = .ok (.invokevirtual 31, 3) := by decide +kernel
theorem dX9_beginsAs_25 : decode cX9_beginsAs 25 = .ok (.aload_n 1, 1) := by decide +kernel
theorem dX9_beginsAs_26 : decode cX9_beginsAs 26 = .ok (.iload_n 3, 1) := by decide +kernel
theorem dX9_beginsAs_27 : decode cX9_beginsAs 27 = .ok (.invokevirtual 31, 3) := by decide +kernel
theorem dX9_beginsAs_30 : decode cX9_beginsAs 30 = .ok (.if_icmp .eq 5, 3) := by decide +kernel
theorem dX9_beginsAs_33 : decode cX9_beginsAs 33 = .ok (.iconst 0, 1) := by decide +kernel
theorem dX9_beginsAs_34 : decode cX9_beginsAs 34 = .ok (.ireturn, 1) := by decide +kernel
theorem dX9_beginsAs_35 : decode cX9_beginsAs 35 = .ok (.iinc 3 1, 3) := by decide +kernel
theorem dX9_beginsAs_38 : decode cX9_beginsAs 38 = .ok (.goto (-23), 3) := by decide +kernel
theorem dX9_beginsAs_41 : decode cX9_beginsAs 41 = .ok (.iconst 1, 1) := by decide +kernel
theorem dX9_beginsAs_42 : decode cX9_beginsAs 42 = .ok (.ireturn, 1) := by decide +kernel
theorem dX10_init_0 : decode cX10_init 0 = .ok (.aload_n 0, 1) := by decide +kernel
theorem dX10_init_1 : decode cX10_init 1 = .ok (.invokespecial 3, 3) := by decide +kernel
theorem dX10_init_4 : decode cX10_init 4 = .ok (.aload_n 0, 1) := by decide +kernel
theorem dX10_init_5 : decode cX10_init 5 = .ok (.bipush 72, 2) := by decide +kernel
theorem dX10_init_7 : decode cX10_init 7 = .ok (.newarray .int, 2) := by decide +kernel
theorem dX10_init_9 : decode cX10_init 9 = .ok (.putfield 9, 3) := by decide +kernel
theorem dX10_init_12 : decode cX10_init 12 = .ok (.aload_n 0, 1) := by decide +kernel
theorem dX10_init_13 : decode cX10_init 13 = .ok (.iconst 0, 1) := by decide +kernel
theorem dX10_init_14 : decode cX10_init 14 = .ok (.putfield 15, 3) := by decide +kernel
theorem dX10_init_17 : decode cX10_init 17 = .ok (.return_, 1) := by decide +kernel
theorem dX10_append_0 : decode cX10_append 0 = .ok (.iconst 0, 1) := by decide +kernel
theorem dX10_append_1 : decode cX10_append 1 = .ok (.istore_n 3, 1) := by decide +kernel
theorem dX10_append_2 : decode cX10_append 2 = .ok (.iconst 0, 1) := by decide +kernel
theorem dX10_append_3 : decode cX10_append 3 = .ok (.istore 4, 2) := by decide +kernel
theorem dX10_append_5 : decode cX10_append 5 = .ok (.iload 4, 2) := by decide +kernel
theorem dX10_append_7 : decode cX10_append 7 = .ok (.bipush 8, 2) := by decide +kernel
theorem dX10_append_9 : decode cX10_append 9 = .ok (.if_icmp .ge 51, 3) := by decide +kernel
theorem dX10_append_12 : decode cX10_append 12 = .ok (.lload_n 1, 1) := by decide +kernel
theorem dX10_append_13 : decode cX10_append 13 = .ok (.iload 4, 2) := by decide +kernel
theorem dX10_append_15 : decode cX10_append 15 = .ok (.invokestatic 19, 3) := by decide +kernel
theorem dX10_append_18 : decode cX10_append 18 = .ok (.istore 5, 2) := by decide +kernel
theorem dX10_append_20 : decode cX10_append 20 = .ok (.iload 5, 2) := by decide +kernel
theorem dX10_append_22 : decode cX10_append 22 = .ok (.ifCond .eq 19, 3) := by decide +kernel
theorem dX10_append_25 : decode cX10_append 25 = .ok (.iload 5, 2) := by decide +kernel
theorem dX10_append_27 : decode cX10_append 27 = .ok (.bipush 32, 2) := by decide +kernel
theorem dX10_append_29 : decode cX10_append 29 = .ok (.if_icmp .lt 10, 3) := by decide +kernel
theorem dX10_append_32 : decode cX10_append 32 = .ok (.iload 5, 2) := by decide +kernel
theorem dX10_append_34 : decode cX10_append 34 = .ok (.bipush 126, 2) := by decide +kernel
theorem dX10_append_36 : decode cX10_append 36 = .ok (.if_icmp .le 5, 3) := by decide +kernel
theorem dX10_append_39 : decode cX10_append 39 = .ok (.iconst 0, 1) := by decide +kernel
theorem dX10_append_40 : decode cX10_append 40 = .ok (.ireturn, 1) := by decide +kernel
theorem dX10_append_41 : decode cX10_append 41 = .ok (.iload_n 3, 1) := by decide +kernel
theorem dX10_append_42 : decode cX10_append 42 = .ok (.iload 5, 2) := by decide +kernel
theorem dX10_append_44 : decode cX10_append 44 = .ok (.ifCond .ne 7, 3) := by decide +kernel
theorem dX10_append_47 : decode cX10_append 47 = .ok (.iconst 0, 1) := by decide +kernel
theorem dX10_append_48 : decode cX10_append 48 = .ok (.goto 4, 3) := by decide +kernel
theorem dX10_append_51 : decode cX10_append 51 = .ok (.iconst 1, 1) := by decide +kernel
theorem dX10_append_52 : decode cX10_append 52 = .ok (.iadd, 1) := by decide +kernel
theorem dX10_append_53 : decode cX10_append 53 = .ok (.istore_n 3, 1) := by decide +kernel
theorem dX10_append_54 : decode cX10_append 54 = .ok (.iinc 4 1, 3) := by decide +kernel
theorem dX10_append_57 : decode cX10_append 57 = .ok (.goto (-52), 3) := by decide +kernel
theorem dX10_append_60 : decode cX10_append 60 = .ok (.iload_n 3, 1) := by decide +kernel
theorem dX10_append_61 : decode cX10_append 61 = .ok (.aload_n 0, 1) := by decide +kernel
theorem dX10_append_62 : decode cX10_append 62 = .ok (.getfield 9, 3) := by decide +kernel
theorem dX10_append_65 : decode cX10_append 65 = .ok (.arraylength, 1) := by decide +kernel
theorem dX10_append_66 : decode cX10_append 66 = .ok (.aload_n 0, 1) := by decide +kernel
theorem dX10_append_67 : decode cX10_append 67 = .ok (.getfield 15, 3) := by decide +kernel
theorem dX10_append_70 : decode cX10_append 70 = .ok (.isub, 1) := by decide +kernel
theorem dX10_append_71 : decode cX10_append 71 = .ok (.if_icmp .le 5, 3) := by decide +kernel
theorem dX10_append_74 : decode cX10_append 74 = .ok (.iconst 0, 1) := by decide +kernel
theorem dX10_append_75 : decode cX10_append 75 = .ok (.ireturn, 1) := by decide +kernel
theorem dX10_append_76 : decode cX10_append 76 = .ok (.iconst 0, 1) := by decide +kernel
theorem dX10_append_77 : decode cX10_append 77 = .ok (.istore 4, 2) := by decide +kernel
theorem dX10_append_79 : decode cX10_append 79 = .ok (.iload 4, 2) := by decide +kernel
theorem dX10_append_81 : decode cX10_append 81 = .ok (.bipush 8, 2) := by decide +kernel
theorem dX10_append_83 : decode cX10_append 83 = .ok (.if_icmp .ge 19, 3) := by decide +kernel
theorem dX10_append_86 : decode cX10_append 86 = .ok (.aload_n 0, 1) := by decide +kernel
theorem dX10_append_87 : decode cX10_append 87 = .ok (.lload_n 1, 1) := by decide +kernel
theorem dX10_append_88 : decode cX10_append 88 = .ok (.iload 4, 2) := by decide +kernel
theorem dX10_append_90 : decode cX10_append 90 = .ok (.invokestatic 19, 3) := by decide +kernel
theorem dX10_append_93 : decode cX10_append 93 = .ok (.invokevirtual 23, 3) := by decide +kernel
theorem dX10_append_96 : decode cX10_append 96 = .ok (.iinc 4 1, 3) := by decide +kernel
theorem dX10_append_99 : decode cX10_append 99 = .ok (.goto (-20), 3) := by decide +kernel
theorem dX10_append_102 : decode cX10_append 102 = .ok (.iconst 1, 1) := by decide +kernel
theorem dX10_append_103 : decode cX10_append 103 = .ok (.ireturn, 1) := by decide +kernel
theorem dX10_appendCode_0 : decode cX10_appendCode 0 = .ok (.iload_n 1, 1) := by decide +kernel
theorem dX10_appendCode_1 : decode cX10_appendCode 1 = .ok (.ifCond .eq 35, 3) := by decide +kernel
theorem dX10_appendCode_4 : decode cX10_appendCode 4 = .ok (.aload_n 0, 1) := by decide +kernel
theorem dX10_appendCode_5 : decode cX10_appendCode 5 = .ok (.getfield 15, 3) := by decide +kernel
theorem dX10_appendCode_8 : decode cX10_appendCode 8 = .ok (.aload_n 0, 1) := by decide +kernel
theorem dX10_appendCode_9 : decode cX10_appendCode 9 = .ok (.getfield 9, 3) := by decide +kernel
theorem dX10_appendCode_12 : decode cX10_appendCode 12 = .ok (.arraylength, 1) := by decide +kernel
theorem dX10_appendCode_13 : decode cX10_appendCode 13 = .ok (.if_icmp .ge 23, 3) := by decide +kernel
theorem dX10_appendCode_16 : decode cX10_appendCode 16 = .ok (.aload_n 0, 1) := by decide +kernel
theorem dX10_appendCode_17 : decode cX10_appendCode 17 = .ok (.getfield 9, 3) := by decide +kernel
theorem dX10_appendCode_20 : decode cX10_appendCode 20 = .ok (.aload_n 0, 1) := by decide +kernel
theorem dX10_appendCode_21 : decode cX10_appendCode 21 = .ok (.getfield 15, 3) := by decide +kernel
theorem dX10_appendCode_24 : decode cX10_appendCode 24 = .ok (.iload_n 1, 1) := by decide +kernel
theorem dX10_appendCode_25 : decode cX10_appendCode 25 = .ok (.iastore, 1) := by decide +kernel
theorem dX10_appendCode_26 : decode cX10_appendCode 26 = .ok (.aload_n 0, 1) := by decide +kernel
theorem dX10_appendCode_27 : decode cX10_appendCode 27 = .ok (.dup, 1) := by decide +kernel
theorem dX10_appendCode_28 : decode cX10_appendCode 28 = .ok (.getfield 15, 3) := by decide +kernel
theorem dX10_appendCode_31 : decode cX10_appendCode 31 = .ok (.iconst 1, 1) := by decide +kernel
theorem dX10_appendCode_32 : decode cX10_appendCode 32 = .ok (.iadd, 1) := by decide +kernel
theorem dX10_appendCode_33 : decode cX10_appendCode 33 = .ok (.putfield 15, 3) := by decide +kernel
theorem dX10_appendCode_36 : decode cX10_appendCode 36 = .ok (.return_, 1) := by decide +kernel
theorem dX10_codeAt_0 : decode cX10_codeAt 0 = .ok (.iload_n 1, 1) := by decide +kernel
theorem dX10_codeAt_1 : decode cX10_codeAt 1 = .ok (.ifCond .lt 20, 3) := by decide +kernel
theorem dX10_codeAt_4 : decode cX10_codeAt 4 = .ok (.iload_n 1, 1) := by decide +kernel
theorem dX10_codeAt_5 : decode cX10_codeAt 5 = .ok (.aload_n 0, 1) := by decide +kernel
theorem dX10_codeAt_6 : decode cX10_codeAt 6 = .ok (.getfield 15, 3) := by decide +kernel
theorem dX10_codeAt_9 : decode cX10_codeAt 9 = .ok (.if_icmp .ge 12, 3) := by decide +kernel
theorem dX10_codeAt_12 : decode cX10_codeAt 12 = .ok (.aload_n 0, 1) := by decide +kernel
theorem dX10_codeAt_13 : decode cX10_codeAt 13 = .ok (.getfield 9, 3) := by decide +kernel
theorem dX10_codeAt_16 : decode cX10_codeAt 16 = .ok (.iload_n 1, 1) := by decide +kernel
theorem dX10_codeAt_17 : decode cX10_codeAt 17 = .ok (.iaload, 1) := by decide +kernel
theorem dX10_codeAt_18 : decode cX10_codeAt 18 = .ok (.goto 4, 3) := by decide +kernel
theorem dX10_codeAt_21 : decode cX10_codeAt 21 = .ok (.iconst (-1), 1) := by decide +kernel
theorem dX10_codeAt_22 : decode cX10_codeAt 22 = .ok (.ireturn, 1) := by decide +kernel
theorem dX10_length_0 : decode cX10_length 0 = .ok (.aload_n 0, 1) := by decide +kernel
theorem dX10_length_1 : decode cX10_length 1 = .ok (.getfield 15, 3) := by decide +kernel
theorem dX10_length_4 : decode cX10_length 4 = .ok (.ireturn, 1) := by decide +kernel
theorem dX10_clear_0 : decode cX10_clear 0 = .ok (.aload_n 0, 1) := by decide +kernel
theorem dX10_clear_1 : decode cX10_clear 1 = .ok (.iconst 0, 1) := by decide +kernel
theorem dX10_clear_2 : decode cX10_clear 2 = .ok (.putfield 15, 3) := by decide +kernel
theorem dX10_clear_5 : decode cX10_clear 5 = .ok (.return_, 1) := by decide +kernel
theorem dX11_init_0 : decode cX11_init 0 = .ok (.aload_n 0, 1) := by decide +kernel
theorem dX11_init_1 : decode cX11_init 1 = .ok (.invokespecial 1, 3) := by decide +kernel
theorem dX11_init_4 : decode cX11_init 4 = .ok (.aload_n 0, 1) := by decide +kernel
theorem dX11_init_5 : decode cX11_init 5 = .ok (.new 7, 3) := by decide +kernel
theorem dX11_init_8 : decode cX11_init 8 = .ok (.dup, 1) := by decide +kernel
theorem dX11_init_9 : decode cX11_init 9 = .ok (.invokespecial 9, 3) := by decide +kernel
theorem dX11_init_12 : decode cX11_init 12 = .ok (.putfield 10, 3) := by decide +kernel
theorem dX11_init_15 : decode cX11_init 15 = .ok (.aload_n 0, 1) := by decide +kernel
theorem dX11_init_16 : decode cX11_init 16 = .ok (.new 16, 3) := by decide +kernel
theorem dX11_init_19 : decode cX11_init 19 = .ok (.dup, 1) := by decide +kernel
theorem dX11_init_20 : decode cX11_init 20 = .ok (.aload_n 0, 1) := by decide +kernel
theorem dX11_init_21 : decode cX11_init 21 = .ok (.getfield 10, 3) := by decide +kernel
theorem dX11_init_24 : decode cX11_init 24 = .ok (.invokespecial 18, 3) := by decide +kernel
theorem dX11_init_27 : decode cX11_init 27 = .ok (.putfield 21, 3) := by decide +kernel
theorem dX11_init_30 : decode cX11_init 30 = .ok (.aload_n 0, 1) := by decide +kernel
theorem dX11_init_31 : decode cX11_init 31 = .ok (.new 25, 3) := by decide +kernel
theorem dX11_init_34 : decode cX11_init 34 = .ok (.dup, 1) := by decide +kernel
theorem dX11_init_35 : decode cX11_init 35 = .ok (.invokespecial 27, 3) := by decide +kernel
theorem dX11_init_38 : decode cX11_init 38 = .ok (.putfield 28, 3) := by decide +kernel
theorem dX11_init_41 : decode cX11_init 41 = .ok (.aload_n 0, 1) := by decide +kernel
theorem dX11_init_42 : decode cX11_init 42 = .ok (.new 32, 3) := by decide +kernel
theorem dX11_init_45 : decode cX11_init 45 = .ok (.dup, 1) := by decide +kernel
theorem dX11_init_46 : decode cX11_init 46 = .ok (.iconst 1, 1) := by decide +kernel
theorem dX11_init_47 : decode cX11_init 47 = .ok (.bipush 8, 2) := by decide +kernel
theorem dX11_init_49 : decode cX11_init 49 = .ok (.iload_n 1, 1) := by decide +kernel
theorem dX11_init_50 : decode cX11_init 50 = .ok (.invokestatic 34, 3) := by decide +kernel
theorem dX11_init_53 : decode cX11_init 53 = .ok (.invokestatic 40, 3) := by decide +kernel
theorem dX11_init_56 : decode cX11_init 56 = .ok (.invokespecial 43, 3) := by decide +kernel
theorem dX11_init_59 : decode cX11_init 59 = .ok (.putfield 46, 3) := by decide +kernel
theorem dX11_init_62 : decode cX11_init 62 = .ok (.aload_n 0, 1) := by decide +kernel
theorem dX11_init_63 : decode cX11_init 63 = .ok (.new 50, 3) := by decide +kernel
theorem dX11_init_66 : decode cX11_init 66 = .ok (.dup, 1) := by decide +kernel
theorem dX11_init_67 : decode cX11_init 67 = .ok (.invokespecial 52, 3) := by decide +kernel
theorem dX11_init_70 : decode cX11_init 70 = .ok (.putfield 53, 3) := by decide +kernel
theorem dX11_init_73 : decode cX11_init 73 = .ok (.aload_n 0, 1) := by decide +kernel
theorem dX11_init_74 : decode cX11_init 74 = .ok (.new 50, 3) := by decide +kernel
theorem dX11_init_77 : decode cX11_init 77 = .ok (.dup, 1) := by decide +kernel
theorem dX11_init_78 : decode cX11_init 78 = .ok (.invokespecial 52, 3) := by decide +kernel
theorem dX11_init_81 : decode cX11_init 81 = .ok (.putfield 57, 3) := by decide +kernel
theorem dX11_init_84 : decode cX11_init 84 = .ok (.aload_n 0, 1) := by decide +kernel
theorem dX11_init_85 : decode cX11_init 85 = .ok (.new 60, 3) := by decide +kernel
theorem dX11_init_88 : decode cX11_init 88 = .ok (.dup, 1) := by decide +kernel
theorem dX11_init_89 : decode cX11_init 89 = .ok (.invokespecial 62, 3) := by decide +kernel
theorem dX11_init_92 : decode cX11_init 92 = .ok (.putfield 63, 3) := by decide +kernel
theorem dX11_init_95 : decode cX11_init 95 = .ok (.aload_n 0, 1) := by decide +kernel
theorem dX11_init_96 : decode cX11_init 96 = .ok (.new 60, 3) := by decide +kernel
theorem dX11_init_99 : decode cX11_init 99 = .ok (.dup, 1) := by decide +kernel
theorem dX11_init_100 : decode cX11_init 100 = .ok (.invokespecial 62, 3) := by decide +kernel
theorem dX11_init_103 : decode cX11_init 103 = .ok (.putfield 67, 3) := by decide +kernel
theorem dX11_init_106 : decode cX11_init 106 = .ok (.aload_n 0, 1) := by decide +kernel
theorem dX11_init_107 : decode cX11_init 107 = .ok (.iconst (-1), 1) := by decide +kernel
theorem dX11_init_108 : decode cX11_init 108 = .ok (.putfield 70, 3) := by decide +kernel
theorem dX11_init_111 : decode cX11_init 111 = .ok (.aload_n 0, 1) := by decide +kernel
theorem dX11_init_112 : decode cX11_init 112 = .ok (.iconst (-1), 1) := by decide +kernel
theorem dX11_init_113 : decode cX11_init 113 = .ok (.putfield 74, 3) := by decide +kernel
theorem dX11_init_116 : decode cX11_init 116 = .ok (.return_, 1) := by decide +kernel
theorem dX11_write_0 : decode cX11_write 0 = .ok (.aload_n 0, 1) := by decide +kernel
theorem dX11_write_1 : decode cX11_write 1 = .ok (.getfield 10, 3) := by decide +kernel
theorem dX11_write_4 : decode cX11_write 4 = .ok (.lload_n 1, 1) := by decide +kernel
theorem dX11_write_5 : decode cX11_write 5 = .ok (.invokevirtual 77, 3) := by decide +kernel
theorem dX11_write_8 : decode cX11_write 8 = .ok (.ireturn, 1) := by decide +kernel
theorem dX11_add_0 : decode cX11_add 0 = .ok (.aload_n 0, 1) := by decide +kernel
theorem dX11_add_1 : decode cX11_add 1 = .ok (.getfield 21, 3) := by decide +kernel
theorem dX11_add_4 : decode cX11_add 4 = .ok (.aload_n 0, 1) := by decide +kernel
theorem dX11_add_5 : decode cX11_add 5 = .ok (.getfield 28, 3) := by decide +kernel
theorem dX11_add_8 : decode cX11_add 8 = .ok (.invokevirtual 81, 3) := by decide +kernel
theorem dX11_add_11 : decode cX11_add 11 = .ok (.invokevirtual 85, 3) := by decide +kernel
theorem dX11_add_14 : decode cX11_add 14 = .ok (.istore_n 1, 1) := by decide +kernel
theorem dX11_add_15 : decode cX11_add 15 = .ok (.aload_n 0, 1) := by decide +kernel
theorem dX11_add_16 : decode cX11_add 16 = .ok (.iload_n 1, 1) := by decide +kernel
theorem dX11_add_17 : decode cX11_add 17 = .ok (.ifCond .eq 7, 3) := by decide +kernel
theorem dX11_add_20 : decode cX11_add 20 = .ok (.iconst (-1), 1) := by decide +kernel
theorem dX11_add_21 : decode cX11_add 21 = .ok (.goto 10, 3) := by decide +kernel
theorem dX11_add_24 : decode cX11_add 24 = .ok (.aload_n 0, 1) := by decide +kernel
theorem dX11_add_25 : decode cX11_add 25 = .ok (.getfield 21, 3) := by decide +kernel
theorem dX11_add_28 : decode cX11_add 28 = .ok (.invokevirtual 89, 3) := by decide +kernel
theorem dX11_add_31 : decode cX11_add 31 = .ok (.putfield 70, 3) := by decide +kernel
theorem dX11_add_34 : decode cX11_add 34 = .ok (.aload_n 0, 1) := by decide +kernel
theorem dX11_add_35 : decode cX11_add 35 = .ok (.getfield 10, 3) := by decide +kernel
theorem dX11_add_38 : decode cX11_add 38 = .ok (.invokevirtual 93, 3) := by decide +kernel
theorem dX11_add_41 : decode cX11_add 41 = .ok (.iload_n 1, 1) := by decide +kernel
theorem dX11_add_42 : decode cX11_add 42 = .ok (.ifCond .ne 13, 3) := by decide +kernel
theorem dX11_add_45 : decode cX11_add 45 = .ok (.new 96, 3) := by decide +kernel
theorem dX11_add_48 : decode cX11_add 48 = .ok (.dup, 1) := by decide +kernel
theorem dX11_add_49 : decode cX11_add 49 = .ok (.ldc 98, 2) := by decide +kernel
theorem dX11_add_51 : decode cX11_add 51 = .ok (.invokespecial 100, 3) := by decide +kernel
theorem dX11_add_54 : decode cX11_add 54 = .ok (.athrow, 1) := by decide +kernel
theorem dX11_add_55 : decode cX11_add 55 = .ok (.aload_n 0, 1) := by decide +kernel
theorem dX11_add_56 : decode cX11_add 56 = .ok (.getfield 28, 3) := by decide +kernel
theorem dX11_add_59 : decode cX11_add 59 = .ok (.invokevirtual 103, 3) := by decide +kernel
theorem dX11_add_62 : decode cX11_add 62 = .ok (.ifCond .ne 13, 3) := by decide +kernel
theorem dX11_add_65 : decode cX11_add 65 = .ok (.new 107, 3) := by decide +kernel
theorem dX11_add_68 : decode cX11_add 68 = .ok (.dup, 1) := by decide +kernel
theorem dX11_add_69 : decode cX11_add 69 = .ok (.ldc 109, 2) := by decide +kernel
theorem dX11_add_71 : decode cX11_add 71 = .ok (.invokespecial 111, 3) := by decide +kernel
theorem dX11_add_74 : decode cX11_add 74 = .ok (.athrow, 1) := by decide +kernel
theorem dX11_add_75 : decode cX11_add 75 = .ok (.aload_n 0, 1) := by decide +kernel
theorem dX11_add_76 : decode cX11_add 76 = .ok (.getfield 28, 3) := by decide +kernel
theorem dX11_add_79 : decode cX11_add 79 = .ok (.invokevirtual 112, 3) := by decide +kernel
theorem dX11_add_82 : decode cX11_add 82 = .ok (.ireturn, 1) := by decide +kernel
theorem dX11_position_0 : decode cX11_position 0 = .ok (.aload_n 0, 1) := by decide +kernel
theorem dX11_position_1 : decode cX11_position 1 = .ok (.getfield 70, 3) := by decide +kernel
theorem dX11_position_4 : decode cX11_position 4 = .ok (.ireturn, 1) := by decide +kernel
theorem dX11_cut_0 : decode cX11_cut 0 = .ok (.aload_n 0, 1) := by decide +kernel
theorem dX11_cut_1 : decode cX11_cut 1 = .ok (.getfield 28, 3) := by decide +kernel
theorem dX11_cut_4 : decode cX11_cut 4 = .ok (.iload_n 1, 1) := by decide +kernel
theorem dX11_cut_5 : decode cX11_cut 5 = .ok (.invokevirtual 115, 3) := by decide +kernel
theorem dX11_cut_8 : decode cX11_cut 8 = .ok (.ireturn, 1) := by decide +kernel
theorem dX11_accept_0 : decode cX11_accept 0 = .ok (.aload_n 0, 1) := by decide +kernel
theorem dX11_accept_1 : decode cX11_accept 1 = .ok (.aload_n 0, 1) := by decide +kernel
theorem dX11_accept_2 : decode cX11_accept 2 = .ok (.getfield 28, 3) := by decide +kernel
theorem dX11_accept_5 : decode cX11_accept 5 = .ok (.invokevirtual 119, 3) := by decide +kernel
theorem dX11_accept_8 : decode cX11_accept 8 = .ok (.putfield 74, 3) := by decide +kernel
theorem dX11_accept_11 : decode cX11_accept 11 = .ok (.aload_n 0, 1) := by decide +kernel
theorem dX11_accept_12 : decode cX11_accept 12 = .ok (.getfield 74, 3) := by decide +kernel
theorem dX11_accept_15 : decode cX11_accept 15 = .ok (.iconst (-1), 1) := by decide +kernel
theorem dX11_accept_16 : decode cX11_accept 16 = .ok (.if_icmp .eq 13, 3) := by decide +kernel
theorem dX11_accept_19 : decode cX11_accept 19 = .ok (.new 96, 3) := by decide +kernel
theorem dX11_accept_22 : decode cX11_accept 22 = .ok (.dup, 1) := by decide +kernel
theorem dX11_accept_23 : decode cX11_accept 23 = .ok (.ldc 122, 2) := by decide +kernel
theorem dX11_accept_25 : decode cX11_accept 25 = .ok (.invokespecial 100, 3) := by decide +kernel
theorem dX11_accept_28 : decode cX11_accept 28 = .ok (.athrow, 1) := by decide +kernel
theorem dX11_accept_29 : decode cX11_accept 29 = .ok (.aload_n 0, 1) := by decide +kernel
theorem dX11_accept_30 : decode cX11_accept 30 = .ok (.getfield 28, 3) := by decide +kernel
theorem dX11_accept_33 : decode cX11_accept 33 = .ok (.aload_n 0, 1) := by decide +kernel
theorem dX11_accept_34 : decode cX11_accept 34 = .ok (.getfield 67, 3) := by decide +kernel
theorem dX11_accept_37 : decode cX11_accept 37 = .ok (.invokestatic 124, 3) := by decide +kernel
theorem dX11_accept_40 : decode cX11_accept 40 = .ok (.aload_n 0, 1) := by decide +kernel
theorem dX11_accept_41 : decode cX11_accept 41 = .ok (.aload_n 0, 1) := by decide +kernel
theorem dX11_accept_42 : decode cX11_accept 42 = .ok (.getfield 28, 3) := by decide +kernel
theorem dX11_accept_45 : decode cX11_accept 45 = .ok (.aload_n 0, 1) := by decide +kernel
theorem dX11_accept_46 : decode cX11_accept 46 = .ok (.getfield 67, 3) := by decide +kernel
theorem dX11_accept_49 : decode cX11_accept 49 = .ok (.invokestatic 130, 3) := by decide +kernel
theorem dX11_accept_52 : decode cX11_accept 52 = .ok (.putfield 74, 3) := by decide +kernel
theorem dX11_accept_55 : decode cX11_accept 55 = .ok (.aload_n 0, 1) := by decide +kernel
theorem dX11_accept_56 : decode cX11_accept 56 = .ok (.getfield 74, 3) := by decide +kernel
theorem dX11_accept_59 : decode cX11_accept 59 = .ok (.iconst (-1), 1) := by decide +kernel
theorem dX11_accept_60 : decode cX11_accept 60 = .ok (.if_icmp .eq 13, 3) := by decide +kernel
theorem dX11_accept_63 : decode cX11_accept 63 = .ok (.new 107, 3) := by decide +kernel
theorem dX11_accept_66 : decode cX11_accept 66 = .ok (.dup, 1) := by decide +kernel
theorem dX11_accept_67 : decode cX11_accept 67 = .ok (.ldc 134, 2) := by decide +kernel
theorem dX11_accept_69 : decode cX11_accept 69 = .ok (.invokespecial 111, 3) := by decide +kernel
theorem dX11_accept_72 : decode cX11_accept 72 = .ok (.athrow, 1) := by decide +kernel
theorem dX11_accept_73 : decode cX11_accept 73 = .ok (.aload_n 0, 1) := by decide +kernel
theorem dX11_accept_74 : decode cX11_accept 74 = .ok (.invokevirtual 136, 3) := by decide +kernel
theorem dX11_accept_77 : decode cX11_accept 77 = .ok (.ireturn, 1) := by decide +kernel
theorem dX11_fault_0 : decode cX11_fault 0 = .ok (.aload_n 0, 1) := by decide +kernel
theorem dX11_fault_1 : decode cX11_fault 1 = .ok (.getfield 74, 3) := by decide +kernel
theorem dX11_fault_4 : decode cX11_fault 4 = .ok (.ireturn, 1) := by decide +kernel
theorem dX11_may_0 : decode cX11_may 0 = .ok (.aload_n 0, 1) := by decide +kernel
theorem dX11_may_1 : decode cX11_may 1 = .ok (.getfield 63, 3) := by decide +kernel
theorem dX11_may_4 : decode cX11_may 4 = .ok (.iload_n 1, 1) := by decide +kernel
theorem dX11_may_5 : decode cX11_may 5 = .ok (.iload_n 2, 1) := by decide +kernel
theorem dX11_may_6 : decode cX11_may 6 = .ok (.iload_n 3, 1) := by decide +kernel
theorem dX11_may_7 : decode cX11_may 7 = .ok (.invokevirtual 139, 3) := by decide +kernel
theorem dX11_may_10 : decode cX11_may 10 = .ok (.ifCond .ne 13, 3) := by decide +kernel
theorem dX11_may_13 : decode cX11_may 13 = .ok (.new 143, 3) := by decide +kernel
theorem dX11_may_16 : decode cX11_may 16 = .ok (.dup, 1) := by decide +kernel
theorem dX11_may_17 : decode cX11_may 17 = .ok (.ldc 145, 2) := by decide +kernel
theorem dX11_may_19 : decode cX11_may 19 = .ok (.invokespecial 147, 3) := by decide +kernel
theorem dX11_may_22 : decode cX11_may 22 = .ok (.athrow, 1) := by decide +kernel
theorem dX11_may_23 : decode cX11_may 23 = .ok (.iload_n 1, 1) := by decide +kernel
theorem dX11_may_24 : decode cX11_may 24 = .ok (.iload_n 2, 1) := by decide +kernel
theorem dX11_may_25 : decode cX11_may 25 = .ok (.iload_n 3, 1) := by decide +kernel
theorem dX11_may_26 : decode cX11_may 26 = .ok (.invokestatic 148, 3) := by decide +kernel
theorem dX11_may_29 : decode cX11_may 29 = .ok (.istore 4, 2) := by decide +kernel
theorem dX11_may_31 : decode cX11_may 31 = .ok (.aload_n 0, 1) := by decide +kernel
theorem dX11_may_32 : decode cX11_may 32 = .ok (.getfield 46, 3) := by decide +kernel
theorem dX11_may_35 : decode cX11_may 35 = .ok (.iload 4, 2) := by decide +kernel
theorem dX11_may_37 : decode cX11_may 37 = .ok (.invokevirtual 152, 3) := by decide +kernel
theorem dX11_may_40 : decode cX11_may 40 = .ok (.istore 5, 2) := by decide +kernel
theorem dX11_may_42 : decode cX11_may 42 = .ok (.iload 5, 2) := by decide +kernel
theorem dX11_may_44 : decode cX11_may 44 = .ok (.iconst (-1), 1) := by decide +kernel
theorem dX11_may_45 : decode cX11_may 45 = .ok (.if_icmp .eq 6, 3) := by decide +kernel
theorem dX11_may_48 : decode cX11_may 48 = .ok (.iload 5, 2) := by decide +kernel
theorem dX11_may_50 : decode cX11_may 50 = .ok (.ireturn, 1) := by decide +kernel
theorem dX11_may_51 : decode cX11_may 51 = .ok (.aload_n 0, 1) := by decide +kernel
theorem dX11_may_52 : decode cX11_may 52 = .ok (.getfield 63, 3) := by decide +kernel
theorem dX11_may_55 : decode cX11_may 55 = .ok (.iload_n 1, 1) := by decide +kernel
theorem dX11_may_56 : decode cX11_may 56 = .ok (.iload_n 2, 1) := by decide +kernel
theorem dX11_may_57 : decode cX11_may 57 = .ok (.iload_n 3, 1) := by decide +kernel
theorem dX11_may_58 : decode cX11_may 58 = .ok (.invokevirtual 156, 3) := by decide +kernel
theorem dX11_may_61 : decode cX11_may 61 = .ok (.istore 6, 2) := by decide +kernel
theorem dX11_may_63 : decode cX11_may 63 = .ok (.aload_n 0, 1) := by decide +kernel
theorem dX11_may_64 : decode cX11_may 64 = .ok (.getfield 46, 3) := by decide +kernel
theorem dX11_may_67 : decode cX11_may 67 = .ok (.iload 4, 2) := by decide +kernel
theorem dX11_may_69 : decode cX11_may 69 = .ok (.iload 6, 2) := by decide +kernel
theorem dX11_may_71 : decode cX11_may 71 = .ok (.invokevirtual 159, 3) := by decide +kernel
theorem dX11_may_74 : decode cX11_may 74 = .ok (.iload 6, 2) := by decide +kernel
theorem dX11_may_76 : decode cX11_may 76 = .ok (.ireturn, 1) := by decide +kernel
theorem dX11_made_0 : decode cX11_made 0 = .ok (.aload_n 0, 1) := by decide +kernel
theorem dX11_made_1 : decode cX11_made 1 = .ok (.getfield 63, 3) := by decide +kernel
theorem dX11_made_4 : decode cX11_made 4 = .ok (.iload_n 1, 1) := by decide +kernel
theorem dX11_made_5 : decode cX11_made 5 = .ok (.iload_n 2, 1) := by decide +kernel
theorem dX11_made_6 : decode cX11_made 6 = .ok (.iload_n 3, 1) := by decide +kernel
theorem dX11_made_7 : decode cX11_made 7 = .ok (.invokevirtual 163, 3) := by decide +kernel
theorem dX11_made_10 : decode cX11_made 10 = .ok (.iconst 1, 1) := by decide +kernel
theorem dX11_made_11 : decode cX11_made 11 = .ok (.isub, 1) := by decide +kernel
theorem dX11_made_12 : decode cX11_made 12 = .ok (.ireturn, 1) := by decide +kernel
theorem dX11_flow_0 : decode cX11_flow 0 = .ok (.aload_n 0, 1) := by decide +kernel
theorem dX11_flow_1 : decode cX11_flow 1 = .ok (.getfield 63, 3) := by decide +kernel
theorem dX11_flow_4 : decode cX11_flow 4 = .ok (.iload_n 1, 1) := by decide +kernel
theorem dX11_flow_5 : decode cX11_flow 5 = .ok (.invokevirtual 166, 3) := by decide +kernel
theorem dX11_flow_8 : decode cX11_flow 8 = .ok (.ifCond .eq 26, 3) := by decide +kernel
theorem dX11_flow_11 : decode cX11_flow 11 = .ok (.aload_n 0, 1) := by decide +kernel
theorem dX11_flow_12 : decode cX11_flow 12 = .ok (.getfield 63, 3) := by decide +kernel
theorem dX11_flow_15 : decode cX11_flow 15 = .ok (.iload_n 2, 1) := by decide +kernel
theorem dX11_flow_16 : decode cX11_flow 16 = .ok (.invokevirtual 166, 3) := by decide +kernel
theorem dX11_flow_19 : decode cX11_flow 19 = .ok (.ifCond .eq 15, 3) := by decide +kernel
theorem dX11_flow_22 : decode cX11_flow 22 = .ok (.aload_n 0, 1) := by decide +kernel
theorem dX11_flow_23 : decode cX11_flow 23 = .ok (.getfield 63, 3) := by decide +kernel
theorem dX11_flow_26 : decode cX11_flow 26 = .ok (.iload_n 1, 1) := by decide +kernel
theorem dX11_flow_27 : decode cX11_flow 27 = .ok (.iload_n 2, 1) := by decide +kernel
theorem dX11_flow_28 : decode cX11_flow 28 = .ok (.invokevirtual 169, 3) := by decide +kernel
theorem dX11_flow_31 : decode cX11_flow 31 = .ok (.goto 4, 3) := by decide +kernel
theorem dX11_flow_34 : decode cX11_flow 34 = .ok (.iconst (-1), 1) := by decide +kernel
theorem dX11_flow_35 : decode cX11_flow 35 = .ok (.ireturn, 1) := by decide +kernel
theorem dX11_count_0 : decode cX11_count 0 = .ok (.iload_n 1, 1) := by decide +kernel
theorem dX11_count_1 : decode cX11_count 1 = .ok (.tableswitch 87 0 5 #[39, 47, 55, 63, 71, 79], 39) := by decide +kernel
theorem dX11_count_40 : decode cX11_count 40 = .ok (.aload_n 0, 1) := by decide +kernel
theorem dX11_count_41 : decode cX11_count 41 = .ok (.getfield 63, 3) := by decide +kernel
theorem dX11_count_44 : decode cX11_count 44 = .ok (.invokevirtual 172, 3) := by decide +kernel
theorem dX11_count_47 : decode cX11_count 47 = .ok (.ireturn, 1) := by decide +kernel
theorem dX11_count_48 : decode cX11_count 48 = .ok (.aload_n 0, 1) := by decide +kernel
theorem dX11_count_49 : decode cX11_count 49 = .ok (.getfield 63, 3) := by decide +kernel
theorem dX11_count_52 : decode cX11_count 52 = .ok (.invokevirtual 175, 3) := by decide +kernel
theorem dX11_count_55 : decode cX11_count 55 = .ok (.ireturn, 1) := by decide +kernel
theorem dX11_count_56 : decode cX11_count 56 = .ok (.aload_n 0, 1) := by decide +kernel
theorem dX11_count_57 : decode cX11_count 57 = .ok (.getfield 46, 3) := by decide +kernel
theorem dX11_count_60 : decode cX11_count 60 = .ok (.invokevirtual 178, 3) := by decide +kernel
theorem dX11_count_63 : decode cX11_count 63 = .ok (.ireturn, 1) := by decide +kernel
theorem dX11_count_64 : decode cX11_count 64 = .ok (.aload_n 0, 1) := by decide +kernel
theorem dX11_count_65 : decode cX11_count 65 = .ok (.getfield 46, 3) := by decide +kernel
theorem dX11_count_68 : decode cX11_count 68 = .ok (.invokevirtual 181, 3) := by decide +kernel
theorem dX11_count_71 : decode cX11_count 71 = .ok (.ireturn, 1) := by decide +kernel
theorem dX11_count_72 : decode cX11_count 72 = .ok (.aload_n 0, 1) := by decide +kernel
theorem dX11_count_73 : decode cX11_count 73 = .ok (.getfield 46, 3) := by decide +kernel
theorem dX11_count_76 : decode cX11_count 76 = .ok (.invokevirtual 184, 3) := by decide +kernel
theorem dX11_count_79 : decode cX11_count 79 = .ok (.ireturn, 1) := by decide +kernel
theorem dX11_count_80 : decode cX11_count 80 = .ok (.aload_n 0, 1) := by decide +kernel
theorem dX11_count_81 : decode cX11_count 81 = .ok (.getfield 28, 3) := by decide +kernel
theorem dX11_count_84 : decode cX11_count 84 = .ok (.invokevirtual 187, 3) := by decide +kernel
theorem dX11_count_87 : decode cX11_count 87 = .ok (.ireturn, 1) := by decide +kernel
theorem dX11_count_88 : decode cX11_count 88 = .ok (.iconst 0, 1) := by decide +kernel
theorem dX11_count_89 : decode cX11_count 89 = .ok (.ireturn, 1) := by decide +kernel
theorem dX11_image_0 : decode cX11_image 0 = .ok (.aload_n 0, 1) := by decide +kernel
theorem dX11_image_1 : decode cX11_image 1 = .ok (.getfield 63, 3) := by decide +kernel
theorem dX11_image_4 : decode cX11_image 4 = .ok (.invokevirtual 172, 3) := by decide +kernel
theorem dX11_image_7 : decode cX11_image 7 = .ok (.ifCond .ne 5, 3) := by decide +kernel
theorem dX11_image_10 : decode cX11_image 10 = .ok (.iconst 0, 1) := by decide +kernel
theorem dX11_image_11 : decode cX11_image 11 = .ok (.ireturn, 1) := by decide +kernel
theorem dX11_image_12 : decode cX11_image 12 = .ok (.aload_n 0, 1) := by decide +kernel
theorem dX11_image_13 : decode cX11_image 13 = .ok (.getfield 63, 3) := by decide +kernel
theorem dX11_image_16 : decode cX11_image 16 = .ok (.aload_n 0, 1) := by decide +kernel
theorem dX11_image_17 : decode cX11_image 17 = .ok (.getfield 53, 3) := by decide +kernel
theorem dX11_image_20 : decode cX11_image 20 = .ok (.invokestatic 188, 3) := by decide +kernel
theorem dX11_image_23 : decode cX11_image 23 = .ok (.aload_n 0, 1) := by decide +kernel
theorem dX11_image_24 : decode cX11_image 24 = .ok (.getfield 53, 3) := by decide +kernel
theorem dX11_image_27 : decode cX11_image 27 = .ok (.invokevirtual 194, 3) := by decide +kernel
theorem dX11_image_30 : decode cX11_image 30 = .ok (.ireturn, 1) := by decide +kernel
theorem dX11_imageAt_0 : decode cX11_imageAt 0 = .ok (.aload_n 0, 1) := by decide +kernel
theorem dX11_imageAt_1 : decode cX11_imageAt 1 = .ok (.getfield 53, 3) := by decide +kernel
theorem dX11_imageAt_4 : decode cX11_imageAt 4 = .ok (.iload_n 1, 1) := by decide +kernel
theorem dX11_imageAt_5 : decode cX11_imageAt 5 = .ok (.invokevirtual 197, 3) := by decide +kernel
theorem dX11_imageAt_8 : decode cX11_imageAt 8 = .ok (.ireturn, 1) := by decide +kernel
theorem dX11_feed_0 : decode cX11_feed 0 = .ok (.iload_n 3, 1) := by decide +kernel
theorem dX11_feed_1 : decode cX11_feed 1 = .ok (.iconst 1, 1) := by decide +kernel
theorem dX11_feed_2 : decode cX11_feed 2 = .ok (.if_icmp .lt 20, 3) := by decide +kernel
theorem dX11_feed_5 : decode cX11_feed 5 = .ok (.iload_n 3, 1) := by decide +kernel
theorem dX11_feed_6 : decode cX11_feed 6 = .ok (.bipush 8, 2) := by decide +kernel
theorem dX11_feed_8 : decode cX11_feed 8 = .ok (.if_icmp .gt 14, 3) := by decide +kernel
theorem dX11_feed_11 : decode cX11_feed 11 = .ok (.iload_n 3, 1) := by decide +kernel
theorem dX11_feed_12 : decode cX11_feed 12 = .ok (.aload_n 0, 1) := by decide +kernel
theorem dX11_feed_13 : decode cX11_feed 13 = .ok (.getfield 57, 3) := by decide +kernel
theorem dX11_feed_16 : decode cX11_feed 16 = .ok (.invokevirtual 200, 3) := by decide +kernel
theorem dX11_feed_19 : decode cX11_feed 19 = .ok (.if_icmp .le 5, 3) := by decide +kernel
theorem dX11_feed_22 : decode cX11_feed 22 = .ok (.iconst (-1), 1) := by decide +kernel
theorem dX11_feed_23 : decode cX11_feed 23 = .ok (.ireturn, 1) := by decide +kernel
theorem dX11_feed_24 : decode cX11_feed 24 = .ok (.iconst 0, 1) := by decide +kernel
theorem dX11_feed_25 : decode cX11_feed 25 = .ok (.istore 4, 2) := by decide +kernel
theorem dX11_feed_27 : decode cX11_feed 27 = .ok (.iload 4, 2) := by decide +kernel
theorem dX11_feed_29 : decode cX11_feed 29 = .ok (.iload_n 3, 1) := by decide +kernel
theorem dX11_feed_30 : decode cX11_feed 30 = .ok (.if_icmp .ge 22, 3) := by decide +kernel
theorem dX11_feed_33 : decode cX11_feed 33 = .ok (.aload_n 0, 1) := by decide +kernel
theorem dX11_feed_34 : decode cX11_feed 34 = .ok (.getfield 57, 3) := by decide +kernel
theorem dX11_feed_37 : decode cX11_feed 37 = .ok (.lload_n 1, 1) := by decide +kernel
theorem dX11_feed_38 : decode cX11_feed 38 = .ok (.iload 4, 2) := by decide +kernel
theorem dX11_feed_40 : decode cX11_feed 40 = .ok (.invokestatic 203, 3) := by decide +kernel
theorem dX11_feed_43 : decode cX11_feed 43 = .ok (.invokevirtual 207, 3) := by decide +kernel
theorem dX11_feed_46 : decode cX11_feed 46 = .ok (.iinc 4 1, 3) := by decide +kernel
theorem dX11_feed_49 : decode cX11_feed 49 = .ok (.goto (-22), 3) := by decide +kernel
theorem dX11_feed_52 : decode cX11_feed 52 = .ok (.aload_n 0, 1) := by decide +kernel
theorem dX11_feed_53 : decode cX11_feed 53 = .ok (.getfield 57, 3) := by decide +kernel
theorem dX11_feed_56 : decode cX11_feed 56 = .ok (.invokevirtual 194, 3) := by decide +kernel
theorem dX11_feed_59 : decode cX11_feed 59 = .ok (.ireturn, 1) := by decide +kernel
theorem dX11_read_0 : decode cX11_read 0 = .ok (.aload_n 0, 1) := by decide +kernel
theorem dX11_read_1 : decode cX11_read 1 = .ok (.getfield 57, 3) := by decide +kernel
theorem dX11_read_4 : decode cX11_read 4 = .ok (.aload_n 0, 1) := by decide +kernel
theorem dX11_read_5 : decode cX11_read 5 = .ok (.getfield 67, 3) := by decide +kernel
theorem dX11_read_8 : decode cX11_read 8 = .ok (.invokestatic 210, 3) := by decide +kernel
theorem dX11_read_11 : decode cX11_read 11 = .ok (.istore_n 1, 1) := by decide +kernel
theorem dX11_read_12 : decode cX11_read 12 = .ok (.aload_n 0, 1) := by decide +kernel
theorem dX11_read_13 : decode cX11_read 13 = .ok (.getfield 57, 3) := by decide +kernel
theorem dX11_read_16 : decode cX11_read 16 = .ok (.invokevirtual 214, 3) := by decide +kernel
theorem dX11_read_19 : decode cX11_read 19 = .ok (.iload_n 1, 1) := by decide +kernel
theorem dX11_read_20 : decode cX11_read 20 = .ok (.ifCond .ne 13, 3) := by decide +kernel
theorem dX11_read_23 : decode cX11_read 23 = .ok (.new 96, 3) := by decide +kernel
theorem dX11_read_26 : decode cX11_read 26 = .ok (.dup, 1) := by decide +kernel
theorem dX11_read_27 : decode cX11_read 27 = .ok (.ldc 215, 2) := by decide +kernel
theorem dX11_read_29 : decode cX11_read 29 = .ok (.invokespecial 100, 3) := by decide +kernel
theorem dX11_read_32 : decode cX11_read 32 = .ok (.athrow, 1) := by decide +kernel
theorem dX11_read_33 : decode cX11_read 33 = .ok (.aload_n 0, 1) := by decide +kernel
theorem dX11_read_34 : decode cX11_read 34 = .ok (.invokevirtual 136, 3) := by decide +kernel
theorem dX11_read_37 : decode cX11_read 37 = .ok (.ireturn, 1) := by decide +kernel
theorem dX11_putInForce_0 : decode cX11_putInForce 0 = .ok (.aload_n 0, 1) := by decide +kernel
theorem dX11_putInForce_1 : decode cX11_putInForce 1 = .ok (.getfield 63, 3) := by decide +kernel
theorem dX11_putInForce_4 : decode cX11_putInForce 4 = .ok (.astore_n 1, 1) := by decide +kernel
theorem dX11_putInForce_5 : decode cX11_putInForce 5 = .ok (.aload_n 0, 1) := by decide +kernel
theorem dX11_putInForce_6 : decode cX11_putInForce 6 = .ok (.aload_n 0, 1) := by decide +kernel
theorem dX11_putInForce_7 : decode cX11_putInForce 7 = .ok (.getfield 67, 3) := by decide +kernel
theorem dX11_putInForce_10 : decode cX11_putInForce 10 = .ok (.putfield 63, 3) := by decide +kernel
theorem dX11_putInForce_13 : decode cX11_putInForce 13 = .ok (.aload_n 0, 1) := by decide +kernel
theorem dX11_putInForce_14 : decode cX11_putInForce 14 = .ok (.aload_n 1, 1) := by decide +kernel
theorem dX11_putInForce_15 : decode cX11_putInForce 15 = .ok (.putfield 67, 3) := by decide +kernel
theorem dX11_putInForce_18 : decode cX11_putInForce 18 = .ok (.aload_n 0, 1) := by decide +kernel
theorem dX11_putInForce_19 : decode cX11_putInForce 19 = .ok (.getfield 46, 3) := by decide +kernel
theorem dX11_putInForce_22 : decode cX11_putInForce 22 = .ok (.invokevirtual 217, 3) := by decide +kernel
theorem dX11_putInForce_25 : decode cX11_putInForce 25 = .ok (.aload_n 0, 1) := by decide +kernel
theorem dX11_putInForce_26 : decode cX11_putInForce 26 = .ok (.getfield 63, 3) := by decide +kernel
theorem dX11_putInForce_29 : decode cX11_putInForce 29 = .ok (.invokevirtual 172, 3) := by decide +kernel
theorem dX11_putInForce_32 : decode cX11_putInForce 32 = .ok (.ireturn, 1) := by decide +kernel
theorem dX11_byteOf_0 : decode cX11_byteOf 0 = .ok (.lload_n 0, 1) := by decide +kernel
theorem dX11_byteOf_1 : decode cX11_byteOf 1 = .ok (.bipush 56, 2) := by decide +kernel
theorem dX11_byteOf_3 : decode cX11_byteOf 3 = .ok (.bipush 8, 2) := by decide +kernel
theorem dX11_byteOf_5 : decode cX11_byteOf 5 = .ok (.iload_n 2, 1) := by decide +kernel
theorem dX11_byteOf_6 : decode cX11_byteOf 6 = .ok (.imul, 1) := by decide +kernel
theorem dX11_byteOf_7 : decode cX11_byteOf 7 = .ok (.isub, 1) := by decide +kernel
theorem dX11_byteOf_8 : decode cX11_byteOf 8 = .ok (.lushr, 1) := by decide +kernel
theorem dX11_byteOf_9 : decode cX11_byteOf 9 = .ok (.l2i, 1) := by decide +kernel
theorem dX11_byteOf_10 : decode cX11_byteOf 10 = .ok (.sipush 255, 3) := by decide +kernel
theorem dX11_byteOf_13 : decode cX11_byteOf 13 = .ok (.iand, 1) := by decide +kernel
theorem dX11_byteOf_14 : decode cX11_byteOf 14 = .ok (.ireturn, 1) := by decide +kernel
theorem dX11_cellOf_0 : decode cX11_cellOf 0 = .ok (.iload_n 2, 1) := by decide +kernel
theorem dX11_cellOf_1 : decode cX11_cellOf 1 = .ok (.bipush 8, 2) := by decide +kernel
theorem dX11_cellOf_3 : decode cX11_cellOf 3 = .ok (.imul, 1) := by decide +kernel
theorem dX11_cellOf_4 : decode cX11_cellOf 4 = .ok (.iload_n 0, 1) := by decide +kernel
theorem dX11_cellOf_5 : decode cX11_cellOf 5 = .ok (.iadd, 1) := by decide +kernel
theorem dX11_cellOf_6 : decode cX11_cellOf 6 = .ok (.bipush 8, 2) := by decide +kernel
theorem dX11_cellOf_8 : decode cX11_cellOf 8 = .ok (.imul, 1) := by decide +kernel
theorem dX11_cellOf_9 : decode cX11_cellOf 9 = .ok (.iload_n 1, 1) := by decide +kernel
theorem dX11_cellOf_10 : decode cX11_cellOf 10 = .ok (.iadd, 1) := by decide +kernel
theorem dX11_cellOf_11 : decode cX11_cellOf 11 = .ok (.ireturn, 1) := by decide +kernel
theorem dX11_hasBit_0 : decode cX11_hasBit 0 = .ok (.iload_n 0, 1) := by decide +kernel
theorem dX11_hasBit_1 : decode cX11_hasBit 1 = .ok (.iload_n 1, 1) := by decide +kernel
theorem dX11_hasBit_2 : decode cX11_hasBit 2 = .ok (.ishr, 1) := by decide +kernel
theorem dX11_hasBit_3 : decode cX11_hasBit 3 = .ok (.iconst 1, 1) := by decide +kernel
theorem dX11_hasBit_4 : decode cX11_hasBit 4 = .ok (.iand, 1) := by decide +kernel
theorem dX11_hasBit_5 : decode cX11_hasBit 5 = .ok (.ifCond .eq 7, 3) := by decide +kernel
theorem dX11_hasBit_8 : decode cX11_hasBit 8 = .ok (.iconst 1, 1) := by decide +kernel
theorem dX11_hasBit_9 : decode cX11_hasBit 9 = .ok (.goto 4, 3) := by decide +kernel
theorem dX11_hasBit_12 : decode cX11_hasBit 12 = .ok (.iconst 0, 1) := by decide +kernel
theorem dX11_hasBit_13 : decode cX11_hasBit 13 = .ok (.ireturn, 1) := by decide +kernel
theorem dX12_init_0 : decode cX12_init 0 = .ok (.aload_n 0, 1) := by decide +kernel
theorem dX12_init_1 : decode cX12_init 1 = .ok (.invokespecial 1, 3) := by decide +kernel
theorem dX12_init_4 : decode cX12_init 4 = .ok (.aload_n 0, 1) := by decide +kernel
theorem dX12_init_5 : decode cX12_init 5 = .ok (.bipush 72, 2) := by decide +kernel
theorem dX12_init_7 : decode cX12_init 7 = .ok (.newarray .char, 2) := by decide +kernel
theorem dX12_init_9 : decode cX12_init 9 = .ok (.putfield 7, 3) := by decide +kernel
theorem dX12_init_12 : decode cX12_init 12 = .ok (.aload_n 0, 1) := by decide +kernel
theorem dX12_init_13 : decode cX12_init 13 = .ok (.iconst (-1), 1) := by decide +kernel
theorem dX12_init_14 : decode cX12_init 14 = .ok (.putfield 13, 3) := by decide +kernel
theorem dX12_init_17 : decode cX12_init 17 = .ok (.aload_n 0, 1) := by decide +kernel
theorem dX12_init_18 : decode cX12_init 18 = .ok (.bipush 41, 2) := by decide +kernel
theorem dX12_init_20 : decode cX12_init 20 = .ok (.newarray .int, 2) := by decide +kernel
theorem dX12_init_22 : decode cX12_init 22 = .ok (.putfield 17, 3) := by decide +kernel
theorem dX12_init_25 : decode cX12_init 25 = .ok (.aload_n 0, 1) := by decide +kernel
theorem dX12_init_26 : decode cX12_init 26 = .ok (.bipush 41, 2) := by decide +kernel
theorem dX12_init_28 : decode cX12_init 28 = .ok (.newarray .int, 2) := by decide +kernel
theorem dX12_init_30 : decode cX12_init 30 = .ok (.putfield 21, 3) := by decide +kernel
theorem dX12_init_33 : decode cX12_init 33 = .ok (.aload_n 0, 1) := by decide +kernel
theorem dX12_init_34 : decode cX12_init 34 = .ok (.sipush 410, 3) := by decide +kernel
theorem dX12_init_37 : decode cX12_init 37 = .ok (.newarray .int, 2) := by decide +kernel
theorem dX12_init_39 : decode cX12_init 39 = .ok (.putfield 24, 3) := by decide +kernel
theorem dX12_init_42 : decode cX12_init 42 = .ok (.aload_n 0, 1) := by decide +kernel
theorem dX12_init_43 : decode cX12_init 43 = .ok (.bipush 41, 2) := by decide +kernel
theorem dX12_init_45 : decode cX12_init 45 = .ok (.newarray .int, 2) := by decide +kernel
theorem dX12_init_47 : decode cX12_init 47 = .ok (.putfield 27, 3) := by decide +kernel
theorem dX12_init_50 : decode cX12_init 50 = .ok (.aload_n 0, 1) := by decide +kernel
theorem dX12_init_51 : decode cX12_init 51 = .ok (.iconst (-1), 1) := by decide +kernel
theorem dX12_init_52 : decode cX12_init 52 = .ok (.putfield 30, 3) := by decide +kernel
theorem dX12_init_55 : decode cX12_init 55 = .ok (.aload_n 0, 1) := by decide +kernel
theorem dX12_init_56 : decode cX12_init 56 = .ok (.iconst 3, 1) := by decide +kernel
theorem dX12_init_57 : decode cX12_init 57 = .ok (.newarray .int, 2) := by decide +kernel
theorem dX12_init_59 : decode cX12_init 59 = .ok (.putfield 33, 3) := by decide +kernel
theorem dX12_init_62 : decode cX12_init 62 = .ok (.aload_n 0, 1) := by decide +kernel
theorem dX12_init_63 : decode cX12_init 63 = .ok (.bipush 8, 2) := by decide +kernel
theorem dX12_init_65 : decode cX12_init 65 = .ok (.newarray .int, 2) := by decide +kernel
theorem dX12_init_67 : decode cX12_init 67 = .ok (.putfield 36, 3) := by decide +kernel
theorem dX12_init_70 : decode cX12_init 70 = .ok (.aload_n 0, 1) := by decide +kernel
theorem dX12_init_71 : decode cX12_init 71 = .ok (.sipush 192, 3) := by decide +kernel
theorem dX12_init_74 : decode cX12_init 74 = .ok (.newarray .int, 2) := by decide +kernel
theorem dX12_init_76 : decode cX12_init 76 = .ok (.putfield 39, 3) := by decide +kernel
theorem dX12_init_79 : decode cX12_init 79 = .ok (.aload_n 0, 1) := by decide +kernel
theorem dX12_init_80 : decode cX12_init 80 = .ok (.sipush 192, 3) := by decide +kernel
theorem dX12_init_83 : decode cX12_init 83 = .ok (.newarray .int, 2) := by decide +kernel
theorem dX12_init_85 : decode cX12_init 85 = .ok (.putfield 42, 3) := by decide +kernel
theorem dX12_init_88 : decode cX12_init 88 = .ok (.aload_n 0, 1) := by decide +kernel
theorem dX12_init_89 : decode cX12_init 89 = .ok (.bipush 15, 2) := by decide +kernel
theorem dX12_init_91 : decode cX12_init 91 = .ok (.newarray .int, 2) := by decide +kernel
theorem dX12_init_93 : decode cX12_init 93 = .ok (.putfield 45, 3) := by decide +kernel
theorem dX12_init_96 : decode cX12_init 96 = .ok (.aload_n 0, 1) := by decide +kernel
theorem dX12_init_97 : decode cX12_init 97 = .ok (.bipush 8, 2) := by decide +kernel
theorem dX12_init_99 : decode cX12_init 99 = .ok (.newarray .int, 2) := by decide +kernel
theorem dX12_init_101 : decode cX12_init 101 = .ok (.putfield 48, 3) := by decide +kernel
theorem dX12_init_104 : decode cX12_init 104 = .ok (.aload_n 0, 1) := by decide +kernel
theorem dX12_init_105 : decode cX12_init 105 = .ok (.iconst 3, 1) := by decide +kernel
theorem dX12_init_106 : decode cX12_init 106 = .ok (.newarray .int, 2) := by decide +kernel
theorem dX12_init_108 : decode cX12_init 108 = .ok (.putfield 51, 3) := by decide +kernel
theorem dX12_init_111 : decode cX12_init 111 = .ok (.aload_n 0, 1) := by decide +kernel
theorem dX12_init_112 : decode cX12_init 112 = .ok (.bipush 9, 2) := by decide +kernel
theorem dX12_init_114 : decode cX12_init 114 = .ok (.newarray .int, 2) := by decide +kernel
theorem dX12_init_116 : decode cX12_init 116 = .ok (.putfield 54, 3) := by decide +kernel
theorem dX12_init_119 : decode cX12_init 119 = .ok (.aload_n 0, 1) := by decide +kernel
theorem dX12_init_120 : decode cX12_init 120 = .ok (.bipush 9, 2) := by decide +kernel
theorem dX12_init_122 : decode cX12_init 122 = .ok (.newarray .int, 2) := by decide +kernel
theorem dX12_init_124 : decode cX12_init 124 = .ok (.putfield 57, 3) := by decide +kernel
theorem dX12_init_127 : decode cX12_init 127 = .ok (.aload_n 0, 1) := by decide +kernel
theorem dX12_init_128 : decode cX12_init 128 = .ok (.sipush 420, 3) := by decide +kernel
theorem dX12_init_131 : decode cX12_init 131 = .ok (.newarray .int, 2) := by decide +kernel
theorem dX12_init_133 : decode cX12_init 133 = .ok (.putfield 60, 3) := by decide +kernel
theorem dX12_init_136 : decode cX12_init 136 = .ok (.aload_n 0, 1) := by decide +kernel
theorem dX12_init_137 : decode cX12_init 137 = .ok (.sipush 420, 3) := by decide +kernel
theorem dX12_init_140 : decode cX12_init 140 = .ok (.newarray .int, 2) := by decide +kernel
theorem dX12_init_142 : decode cX12_init 142 = .ok (.putfield 63, 3) := by decide +kernel
theorem dX12_init_145 : decode cX12_init 145 = .ok (.aload_n 0, 1) := by decide +kernel
theorem dX12_init_146 : decode cX12_init 146 = .ok (.bipush 8, 2) := by decide +kernel
theorem dX12_init_148 : decode cX12_init 148 = .ok (.newarray .boolean, 2) := by decide +kernel
theorem dX12_init_150 : decode cX12_init 150 = .ok (.putfield 66, 3) := by decide +kernel
theorem dX12_init_153 : decode cX12_init 153 = .ok (.aload_n 0, 1) := by decide +kernel
theorem dX12_init_154 : decode cX12_init 154 = .ok (.bipush 8, 2) := by decide +kernel
theorem dX12_init_156 : decode cX12_init 156 = .ok (.newarray .boolean, 2) := by decide +kernel
theorem dX12_init_158 : decode cX12_init 158 = .ok (.putfield 70, 3) := by decide +kernel
theorem dX12_init_161 : decode cX12_init 161 = .ok (.aload_n 0, 1) := by decide +kernel
theorem dX12_init_162 : decode cX12_init 162 = .ok (.iload_n 1, 1) := by decide +kernel
theorem dX12_init_163 : decode cX12_init 163 = .ok (.iconst 1, 1) := by decide +kernel
theorem dX12_init_164 : decode cX12_init 164 = .ok (.if_icmp .ge 7, 3) := by decide +kernel
theorem dX12_init_167 : decode cX12_init 167 = .ok (.iconst 1, 1) := by decide +kernel
theorem dX12_init_168 : decode cX12_init 168 = .ok (.goto 15, 3) := by decide +kernel
theorem dX12_init_171 : decode cX12_init 171 = .ok (.iload_n 1, 1) := by decide +kernel
theorem dX12_init_172 : decode cX12_init 172 = .ok (.bipush 8, 2) := by decide +kernel
theorem dX12_init_174 : decode cX12_init 174 = .ok (.if_icmp .le 8, 3) := by decide +kernel
theorem dX12_init_177 : decode cX12_init 177 = .ok (.bipush 8, 2) := by decide +kernel
theorem dX12_init_179 : decode cX12_init 179 = .ok (.goto 4, 3) := by decide +kernel
theorem dX12_init_182 : decode cX12_init 182 = .ok (.iload_n 1, 1) := by decide +kernel
theorem dX12_init_183 : decode cX12_init 183 = .ok (.putfield 73, 3) := by decide +kernel
theorem dX12_init_186 : decode cX12_init 186 = .ok (.return_, 1) := by decide +kernel
theorem dX12_thrown_0 : decode cX12_thrown 0 = .ok (.aload_n 0, 1) := by decide +kernel
theorem dX12_thrown_1 : decode cX12_thrown 1 = .ok (.getfield 76, 3) := by decide +kernel
theorem dX12_thrown_4 : decode cX12_thrown 4 = .ok (.ireturn, 1) := by decide +kernel
theorem dX12_write_0 : decode cX12_write 0 = .ok (.aload_n 0, 1) := by decide +kernel
theorem dX12_write_1 : decode cX12_write 1 = .ok (.iconst 0, 1) := by decide +kernel
theorem dX12_write_2 : decode cX12_write 2 = .ok (.putfield 76, 3) := by decide +kernel
theorem dX12_write_5 : decode cX12_write 5 = .ok (.iconst 0, 1) := by decide +kernel
theorem dX12_write_6 : decode cX12_write 6 = .ok (.istore_n 3, 1) := by decide +kernel
theorem dX12_write_7 : decode cX12_write 7 = .ok (.bipush 56, 2) := by decide +kernel
theorem dX12_write_9 : decode cX12_write 9 = .ok (.istore 4, 2) := by decide +kernel
theorem dX12_write_11 : decode cX12_write 11 = .ok (.iload 4, 2) := by decide +kernel
theorem dX12_write_13 : decode cX12_write 13 = .ok (.ifCond .lt 58, 3) := by decide +kernel
theorem dX12_write_16 : decode cX12_write 16 = .ok (.lload_n 1, 1) := by decide +kernel
theorem dX12_write_17 : decode cX12_write 17 = .ok (.iload 4, 2) := by decide +kernel
theorem dX12_write_19 : decode cX12_write 19 = .ok (.lushr, 1) := by decide +kernel
theorem dX12_write_20 : decode cX12_write 20 = .ok (.ldc2_w 79, 3) := by decide +kernel
theorem dX12_write_23 : decode cX12_write 23 = .ok (.land, 1) := by decide +kernel
theorem dX12_write_24 : decode cX12_write 24 = .ok (.l2i, 1) := by decide +kernel
theorem dX12_write_25 : decode cX12_write 25 = .ok (.istore 5, 2) := by decide +kernel
theorem dX12_write_27 : decode cX12_write 27 = .ok (.iload 5, 2) := by decide +kernel
theorem dX12_write_29 : decode cX12_write 29 = .ok (.ifCond .eq 19, 3) := by decide +kernel
theorem dX12_write_32 : decode cX12_write 32 = .ok (.iload 5, 2) := by decide +kernel
theorem dX12_write_34 : decode cX12_write 34 = .ok (.bipush 32, 2) := by decide +kernel
theorem dX12_write_36 : decode cX12_write 36 = .ok (.if_icmp .lt 10, 3) := by decide +kernel
theorem dX12_write_39 : decode cX12_write 39 = .ok (.iload 5, 2) := by decide +kernel
theorem dX12_write_41 : decode cX12_write 41 = .ok (.bipush 126, 2) := by decide +kernel
theorem dX12_write_43 : decode cX12_write 43 = .ok (.if_icmp .le 5, 3) := by decide +kernel
theorem dX12_write_46 : decode cX12_write 46 = .ok (.iconst 0, 1) := by decide +kernel
theorem dX12_write_47 : decode cX12_write 47 = .ok (.ireturn, 1) := by decide +kernel
theorem dX12_write_48 : decode cX12_write 48 = .ok (.iload 5, 2) := by decide +kernel
theorem dX12_write_50 : decode cX12_write 50 = .ok (.ifCond .eq 9, 3) := by decide +kernel
theorem dX12_write_53 : decode cX12_write 53 = .ok (.iload_n 3, 1) := by decide +kernel
theorem dX12_write_54 : decode cX12_write 54 = .ok (.iconst 1, 1) := by decide +kernel
theorem dX12_write_55 : decode cX12_write 55 = .ok (.iadd, 1) := by decide +kernel
theorem dX12_write_56 : decode cX12_write 56 = .ok (.goto 4, 3) := by decide +kernel
theorem dX12_write_59 : decode cX12_write 59 = .ok (.iload_n 3, 1) := by decide +kernel
theorem dX12_write_60 : decode cX12_write 60 = .ok (.istore_n 3, 1) := by decide +kernel
theorem dX12_write_61 : decode cX12_write 61 = .ok (.iload 4, 2) := by decide +kernel
theorem dX12_write_63 : decode cX12_write 63 = .ok (.bipush 8, 2) := by decide +kernel
theorem dX12_write_65 : decode cX12_write 65 = .ok (.isub, 1) := by decide +kernel
theorem dX12_write_66 : decode cX12_write 66 = .ok (.istore 4, 2) := by decide +kernel
theorem dX12_write_68 : decode cX12_write 68 = .ok (.goto (-57), 3) := by decide +kernel
theorem dX12_write_71 : decode cX12_write 71 = .ok (.aload_n 0, 1) := by decide +kernel
theorem dX12_write_72 : decode cX12_write 72 = .ok (.getfield 81, 3) := by decide +kernel
theorem dX12_write_75 : decode cX12_write 75 = .ok (.iload_n 3, 1) := by decide +kernel
theorem dX12_write_76 : decode cX12_write 76 = .ok (.iadd, 1) := by decide +kernel
theorem dX12_write_77 : decode cX12_write 77 = .ok (.bipush 72, 2) := by decide +kernel
theorem dX12_write_79 : decode cX12_write 79 = .ok (.if_icmp .le 5, 3) := by decide +kernel
theorem dX12_write_82 : decode cX12_write 82 = .ok (.iconst 0, 1) := by decide +kernel
theorem dX12_write_83 : decode cX12_write 83 = .ok (.ireturn, 1) := by decide +kernel
theorem dX12_write_84 : decode cX12_write 84 = .ok (.bipush 56, 2) := by decide +kernel
theorem dX12_write_86 : decode cX12_write 86 = .ok (.istore 4, 2) := by decide +kernel
theorem dX12_write_88 : decode cX12_write 88 = .ok (.iload 4, 2) := by decide +kernel
theorem dX12_write_90 : decode cX12_write 90 = .ok (.ifCond .lt 51, 3) := by decide +kernel
theorem dX12_write_93 : decode cX12_write 93 = .ok (.lload_n 1, 1) := by decide +kernel
theorem dX12_write_94 : decode cX12_write 94 = .ok (.iload 4, 2) := by decide +kernel
theorem dX12_write_96 : decode cX12_write 96 = .ok (.lushr, 1) := by decide +kernel
theorem dX12_write_97 : decode cX12_write 97 = .ok (.ldc2_w 79, 3) := by decide +kernel
theorem dX12_write_100 : decode cX12_write 100 = .ok (.land, 1) := by decide +kernel
theorem dX12_write_101 : decode cX12_write 101 = .ok (.l2i, 1) := by decide +kernel
theorem dX12_write_102 : decode cX12_write 102 = .ok (.istore 5, 2) := by decide +kernel
theorem dX12_write_104 : decode cX12_write 104 = .ok (.iload 5, 2) := by decide +kernel
theorem dX12_write_106 : decode cX12_write 106 = .ok (.ifCond .eq 25, 3) := by decide +kernel
theorem dX12_write_109 : decode cX12_write 109 = .ok (.aload_n 0, 1) := by decide +kernel
theorem dX12_write_110 : decode cX12_write 110 = .ok (.getfield 7, 3) := by decide +kernel
theorem dX12_write_113 : decode cX12_write 113 = .ok (.aload_n 0, 1) := by decide +kernel
theorem dX12_write_114 : decode cX12_write 114 = .ok (.getfield 81, 3) := by decide +kernel
theorem dX12_write_117 : decode cX12_write 117 = .ok (.iload 5, 2) := by decide +kernel
theorem dX12_write_119 : decode cX12_write 119 = .ok (.i2c, 1) := by decide +kernel
theorem dX12_write_120 : decode cX12_write 120 = .ok (.castore, 1) := by decide +kernel
theorem dX12_write_121 : decode cX12_write 121 = .ok (.aload_n 0, 1) := by decide +kernel
theorem dX12_write_122 : decode cX12_write 122 = .ok (.dup, 1) := by decide +kernel
theorem dX12_write_123 : decode cX12_write 123 = .ok (.getfield 81, 3) := by decide +kernel
theorem dX12_write_126 : decode cX12_write 126 = .ok (.iconst 1, 1) := by decide +kernel
theorem dX12_write_127 : decode cX12_write 127 = .ok (.iadd, 1) := by decide +kernel
theorem dX12_write_128 : decode cX12_write 128 = .ok (.putfield 81, 3) := by decide +kernel
theorem dX12_write_131 : decode cX12_write 131 = .ok (.iload 4, 2) := by decide +kernel
theorem dX12_write_133 : decode cX12_write 133 = .ok (.bipush 8, 2) := by decide +kernel
theorem dX12_write_135 : decode cX12_write 135 = .ok (.isub, 1) := by decide +kernel
theorem dX12_write_136 : decode cX12_write 136 = .ok (.istore 4, 2) := by decide +kernel
theorem dX12_write_138 : decode cX12_write 138 = .ok (.goto (-50), 3) := by decide +kernel
theorem dX12_write_141 : decode cX12_write 141 = .ok (.iconst 1, 1) := by decide +kernel
theorem dX12_write_142 : decode cX12_write 142 = .ok (.ireturn, 1) := by decide +kernel
theorem dX12_here_0 : decode cX12_here 0 = .ok (.aload_n 0, 1) := by decide +kernel
theorem dX12_here_1 : decode cX12_here 1 = .ok (.getfield 84, 3) := by decide +kernel
theorem dX12_here_4 : decode cX12_here 4 = .ok (.aload_n 0, 1) := by decide +kernel
theorem dX12_here_5 : decode cX12_here 5 = .ok (.getfield 81, 3) := by decide +kernel
theorem dX12_here_8 : decode cX12_here 8 = .ok (.if_icmp .ge 15, 3) := by decide +kernel
theorem dX12_here_11 : decode cX12_here 11 = .ok (.aload_n 0, 1) := by decide +kernel
theorem dX12_here_12 : decode cX12_here 12 = .ok (.getfield 7, 3) := by decide +kernel
theorem dX12_here_15 : decode cX12_here 15 = .ok (.aload_n 0, 1) := by decide +kernel
theorem dX12_here_16 : decode cX12_here 16 = .ok (.getfield 84, 3) := by decide +kernel
theorem dX12_here_19 : decode cX12_here 19 = .ok (.caload, 1) := by decide +kernel
theorem dX12_here_20 : decode cX12_here 20 = .ok (.goto 4, 3) := by decide +kernel
theorem dX12_here_23 : decode cX12_here 23 = .ok (.iconst 0, 1) := by decide +kernel
theorem dX12_here_24 : decode cX12_here 24 = .ok (.ireturn, 1) := by decide +kernel
theorem dX12_isLetter_0 : decode cX12_isLetter 0 = .ok (.aload_n 0, 1) := by decide +kernel
theorem dX12_isLetter_1 : decode cX12_isLetter 1 = .ok (.invokevirtual 87, 3) := by decide +kernel
theorem dX12_isLetter_4 : decode cX12_isLetter 4 = .ok (.bipush 97, 2) := by decide +kernel
theorem dX12_isLetter_6 : decode cX12_isLetter 6 = .ok (.if_icmp .lt 16, 3) := by decide +kernel
theorem dX12_isLetter_9 : decode cX12_isLetter 9 = .ok (.aload_n 0, 1) := by decide +kernel
theorem dX12_isLetter_10 : decode cX12_isLetter 10 = .ok (.invokevirtual 87, 3) := by decide +kernel
theorem dX12_isLetter_13 : decode cX12_isLetter 13 = .ok (.bipush 122, 2) := by decide +kernel
theorem dX12_isLetter_15 : decode cX12_isLetter 15 = .ok (.if_icmp .gt 7, 3) := by decide +kernel
theorem dX12_isLetter_18 : decode cX12_isLetter 18 = .ok (.iconst 1, 1) := by decide +kernel
theorem dX12_isLetter_19 : decode cX12_isLetter 19 = .ok (.goto 4, 3) := by decide +kernel
theorem dX12_isLetter_22 : decode cX12_isLetter 22 = .ok (.iconst 0, 1) := by decide +kernel
theorem dX12_isLetter_23 : decode cX12_isLetter 23 = .ok (.ireturn, 1) := by decide +kernel
theorem dX12_word_0 : decode cX12_word 0 = .ok (.iload 4, 2) := by decide +kernel
theorem dX12_word_2 : decode cX12_word 2 = .ok (.ifCond .ne 7, 3) := by decide +kernel
theorem dX12_word_5 : decode cX12_word 5 = .ok (.iconst 0, 1) := by decide +kernel
theorem dX12_word_6 : decode cX12_word 6 = .ok (.goto 8, 3) := by decide +kernel
theorem dX12_word_9 : decode cX12_word 9 = .ok (.iload 4, 2) := by decide +kernel
theorem dX12_word_11 : decode cX12_word 11 = .ok (.bipush 96, 2) := by decide +kernel
theorem dX12_word_13 : decode cX12_word 13 = .ok (.isub, 1) := by decide +kernel
theorem dX12_word_14 : decode cX12_word 14 = .ok (.istore 5, 2) := by decide +kernel
theorem dX12_word_16 : decode cX12_word 16 = .ok (.iload_n 0, 1) := by decide +kernel
theorem dX12_word_17 : decode cX12_word 17 = .ok (.bipush 96, 2) := by decide +kernel
theorem dX12_word_19 : decode cX12_word 19 = .ok (.isub, 1) := by decide +kernel
theorem dX12_word_20 : decode cX12_word 20 = .ok (.iload_n 1, 1) := by decide +kernel
theorem dX12_word_21 : decode cX12_word 21 = .ok (.bipush 96, 2) := by decide +kernel
theorem dX12_word_23 : decode cX12_word 23 = .ok (.isub, 1) := by decide +kernel
theorem dX12_word_24 : decode cX12_word 24 = .ok (.iconst 5, 1) := by decide +kernel
theorem dX12_word_25 : decode cX12_word 25 = .ok (.ishl, 1) := by decide +kernel
theorem dX12_word_26 : decode cX12_word 26 = .ok (.ior, 1) := by decide +kernel
theorem dX12_word_27 : decode cX12_word 27 = .ok (.iload_n 2, 1) := by decide +kernel
theorem dX12_word_28 : decode cX12_word 28 = .ok (.bipush 96, 2) := by decide +kernel
theorem dX12_word_30 : decode cX12_word 30 = .ok (.isub, 1) := by decide +kernel
theorem dX12_word_31 : decode cX12_word 31 = .ok (.bipush 10, 2) := by decide +kernel
theorem dX12_word_33 : decode cX12_word 33 = .ok (.ishl, 1) := by decide +kernel
theorem dX12_word_34 : decode cX12_word 34 = .ok (.ior, 1) := by decide +kernel
theorem dX12_word_35 : decode cX12_word 35 = .ok (.iload_n 3, 1) := by decide +kernel
theorem dX12_word_36 : decode cX12_word 36 = .ok (.bipush 96, 2) := by decide +kernel
theorem dX12_word_38 : decode cX12_word 38 = .ok (.isub, 1) := by decide +kernel
theorem dX12_word_39 : decode cX12_word 39 = .ok (.bipush 15, 2) := by decide +kernel
theorem dX12_word_41 : decode cX12_word 41 = .ok (.ishl, 1) := by decide +kernel
theorem dX12_word_42 : decode cX12_word 42 = .ok (.ior, 1) := by decide +kernel
theorem dX12_word_43 : decode cX12_word 43 = .ok (.iload 5, 2) := by decide +kernel
theorem dX12_word_45 : decode cX12_word 45 = .ok (.bipush 20, 2) := by decide +kernel
theorem dX12_word_47 : decode cX12_word 47 = .ok (.ishl, 1) := by decide +kernel
theorem dX12_word_48 : decode cX12_word 48 = .ok (.ior, 1) := by decide +kernel
theorem dX12_word_49 : decode cX12_word 49 = .ok (.ireturn, 1) := by decide +kernel
theorem dX12_keyword_0 : decode cX12_keyword 0 = .ok (.iload_n 0, 1) := by decide +kernel
theorem dX12_keyword_1 : decode cX12_keyword 1 = .ok (.tableswitch 154 0 7 #[47, 61, 74, 88, 102, 115, 128, 141], 47) := by decide +kernel
theorem dX12_keyword_48 : decode cX12_keyword 48 = .ok (.bipush 99, 2) := by decide +kernel
theorem dX12_keyword_50 : decode cX12_keyword 50 = .ok (.bipush 108, 2) := by decide +kernel
theorem dX12_keyword_52 : decode cX12_keyword 52 = .ok (.bipush 97, 2) := by decide +kernel
theorem dX12_keyword_54 : decode cX12_keyword 54 = .ok (.bipush 115, 2) := by decide +kernel
theorem dX12_keyword_56 : decode cX12_keyword 56 = .ok (.bipush 115, 2) := by decide +kernel
theorem dX12_keyword_58 : decode cX12_keyword 58 = .ok (.invokestatic 91, 3) := by decide +kernel
theorem dX12_keyword_61 : decode cX12_keyword 61 = .ok (.ireturn, 1) := by decide +kernel
theorem dX12_keyword_62 : decode cX12_keyword 62 = .ok (.bipush 116, 2) := by decide +kernel
theorem dX12_keyword_64 : decode cX12_keyword 64 = .ok (.bipush 121, 2) := by decide +kernel
theorem dX12_keyword_66 : decode cX12_keyword 66 = .ok (.bipush 112, 2) := by decide +kernel
theorem dX12_keyword_68 : decode cX12_keyword 68 = .ok (.bipush 101, 2) := by decide +kernel
theorem dX12_keyword_70 : decode cX12_keyword 70 = .ok (.iconst 0, 1) := by decide +kernel
theorem dX12_keyword_71 : decode cX12_keyword 71 = .ok (.invokestatic 91, 3) := by decide +kernel
theorem dX12_keyword_74 : decode cX12_keyword 74 = .ok (.ireturn, 1) := by decide +kernel
theorem dX12_keyword_75 : decode cX12_keyword 75 = .ok (.bipush 97, 2) := by decide +kernel
theorem dX12_keyword_77 : decode cX12_keyword 77 = .ok (.bipush 108, 2) := by decide +kernel
theorem dX12_keyword_79 : decode cX12_keyword 79 = .ok (.bipush 108, 2) := by decide +kernel
theorem dX12_keyword_81 : decode cX12_keyword 81 = .ok (.bipush 111, 2) := by decide +kernel
theorem dX12_keyword_83 : decode cX12_keyword 83 = .ok (.bipush 119, 2) := by decide +kernel
theorem dX12_keyword_85 : decode cX12_keyword 85 = .ok (.invokestatic 91, 3) := by decide +kernel
theorem dX12_keyword_88 : decode cX12_keyword 88 = .ok (.ireturn, 1) := by decide +kernel
theorem dX12_keyword_89 : decode cX12_keyword 89 = .ok (.bipush 110, 2) := by decide +kernel
theorem dX12_keyword_91 : decode cX12_keyword 91 = .ok (.bipush 101, 2) := by decide +kernel
theorem dX12_keyword_93 : decode cX12_keyword 93 = .ok (.bipush 118, 2) := by decide +kernel
theorem dX12_keyword_95 : decode cX12_keyword 95 = .ok (.bipush 101, 2) := by decide +kernel
theorem dX12_keyword_97 : decode cX12_keyword 97 = .ok (.bipush 114, 2) := by decide +kernel
theorem dX12_keyword_99 : decode cX12_keyword 99 = .ok (.invokestatic 91, 3) := by decide +kernel
theorem dX12_keyword_102 : decode cX12_keyword 102 = .ok (.ireturn, 1) := by decide +kernel
theorem dX12_keyword_103 : decode cX12_keyword 103 = .ok (.bipush 109, 2) := by decide +kernel
theorem dX12_keyword_105 : decode cX12_keyword 105 = .ok (.bipush 97, 2) := by decide +kernel
theorem dX12_keyword_107 : decode cX12_keyword 107 = .ok (.bipush 107, 2) := by decide +kernel
theorem dX12_keyword_109 : decode cX12_keyword 109 = .ok (.bipush 101, 2) := by decide +kernel
theorem dX12_keyword_111 : decode cX12_keyword 111 = .ok (.iconst 0, 1) := by decide +kernel
theorem dX12_keyword_112 : decode cX12_keyword 112 = .ok (.invokestatic 91, 3) := by decide +kernel
theorem dX12_keyword_115 : decode cX12_keyword 115 = .ok (.ireturn, 1) := by decide +kernel
theorem dX12_keyword_116 : decode cX12_keyword 116 = .ok (.bipush 114, 2) := by decide +kernel
theorem dX12_keyword_118 : decode cX12_keyword 118 = .ok (.bipush 97, 2) := by decide +kernel
theorem dX12_keyword_120 : decode cX12_keyword 120 = .ok (.bipush 110, 2) := by decide +kernel
theorem dX12_keyword_122 : decode cX12_keyword 122 = .ok (.bipush 107, 2) := by decide +kernel
theorem dX12_keyword_124 : decode cX12_keyword 124 = .ok (.iconst 0, 1) := by decide +kernel
theorem dX12_keyword_125 : decode cX12_keyword 125 = .ok (.invokestatic 91, 3) := by decide +kernel
theorem dX12_keyword_128 : decode cX12_keyword 128 = .ok (.ireturn, 1) := by decide +kernel
theorem dX12_keyword_129 : decode cX12_keyword 129 = .ok (.bipush 110, 2) := by decide +kernel
theorem dX12_keyword_131 : decode cX12_keyword 131 = .ok (.bipush 101, 2) := by decide +kernel
theorem dX12_keyword_133 : decode cX12_keyword 133 = .ok (.bipush 101, 2) := by decide +kernel
theorem dX12_keyword_135 : decode cX12_keyword 135 = .ok (.bipush 100, 2) := by decide +kernel
theorem dX12_keyword_137 : decode cX12_keyword 137 = .ok (.iconst 0, 1) := by decide +kernel
theorem dX12_keyword_138 : decode cX12_keyword 138 = .ok (.invokestatic 91, 3) := by decide +kernel
theorem dX12_keyword_141 : decode cX12_keyword 141 = .ok (.ireturn, 1) := by decide +kernel
theorem dX12_keyword_142 : decode cX12_keyword 142 = .ok (.bipush 115, 2) := by decide +kernel
theorem dX12_keyword_144 : decode cX12_keyword 144 = .ok (.bipush 101, 2) := by decide +kernel
theorem dX12_keyword_146 : decode cX12_keyword 146 = .ok (.bipush 101, 2) := by decide +kernel
theorem dX12_keyword_148 : decode cX12_keyword 148 = .ok (.bipush 115, 2) := by decide +kernel
theorem dX12_keyword_150 : decode cX12_keyword 150 = .ok (.iconst 0, 1) := by decide +kernel
theorem dX12_keyword_151 : decode cX12_keyword 151 = .ok (.invokestatic 91, 3) := by decide +kernel
theorem dX12_keyword_154 : decode cX12_keyword 154 = .ok (.ireturn, 1) := by decide +kernel
theorem dX12_keyword_155 : decode cX12_keyword 155 = .ok (.bipush 112, 2) := by decide +kernel
theorem dX12_keyword_157 : decode cX12_keyword 157 = .ok (.bipush 117, 2) := by decide +kernel
theorem dX12_keyword_159 : decode cX12_keyword 159 = .ok (.bipush 116, 2) := by decide +kernel
theorem dX12_keyword_161 : decode cX12_keyword 161 = .ok (.bipush 115, 2) := by decide +kernel
theorem dX12_keyword_163 : decode cX12_keyword 163 = .ok (.iconst 0, 1) := by decide +kernel
theorem dX12_keyword_164 : decode cX12_keyword 164 = .ok (.invokestatic 91, 3) := by decide +kernel
theorem dX12_keyword_167 : decode cX12_keyword 167 = .ok (.ireturn, 1) := by decide +kernel
theorem dX12_readKind_0 : decode cX12_readKind 0 = .ok (.iconst 0, 1) := by decide +kernel
theorem dX12_readKind_1 : decode cX12_readKind 1 = .ok (.istore_n 1, 1) := by decide +kernel
theorem dX12_readKind_2 : decode cX12_readKind 2 = .ok (.iconst 0, 1) := by decide +kernel
theorem dX12_readKind_3 : decode cX12_readKind 3 = .ok (.istore_n 2, 1) := by decide +kernel
theorem dX12_readKind_4 : decode cX12_readKind 4 = .ok (.iconst 0, 1) := by decide +kernel
theorem dX12_readKind_5 : decode cX12_readKind 5 = .ok (.istore_n 3, 1) := by decide +kernel
theorem dX12_readKind_6 : decode cX12_readKind 6 = .ok (.iload_n 3, 1) := by decide +kernel
theorem dX12_readKind_7 : decode cX12_readKind 7 = .ok (.bipush 6, 2) := by decide +kernel
theorem dX12_readKind_9 : decode cX12_readKind 9 = .ok (.if_icmp .ge 152, 3) := by decide +kernel
theorem dX12_readKind_12 : decode cX12_readKind 12 = .ok (.iconst (-1), 1) := by decide +kernel
theorem dX12_readKind_13 : decode cX12_readKind 13 = .ok (.istore 4, 2) := by decide +kernel
theorem dX12_readKind_15 : decode cX12_readKind 15 = .ok (.iconst 0, 1) := by decide +kernel
theorem dX12_readKind_16 : decode cX12_readKind 16 = .ok (.istore 5, 2) := by decide +kernel
theorem dX12_readKind_18 : decode cX12_readKind 18 = .ok (.iload 5, 2) := by decide +kernel
theorem dX12_readKind_20 : decode cX12_readKind 20 = .ok (.bipush 9, 2) := by decide +kernel
theorem dX12_readKind_22 : decode cX12_readKind 22 = .ok (.if_icmp .ge 27, 3) := by decide +kernel
theorem dX12_readKind_25 : decode cX12_readKind 25 = .ok (.iload 5, 2) := by decide +kernel
theorem dX12_readKind_27 : decode cX12_readKind 27 = .ok (.invokestatic 95, 3) := by decide +kernel
theorem dX12_readKind_30 : decode cX12_readKind 30 = .ok (.iload_n 1, 1) := by decide +kernel
theorem dX12_readKind_31 : decode cX12_readKind 31 = .ok (.if_icmp .ne 8, 3) := by decide +kernel
theorem dX12_readKind_34 : decode cX12_readKind 34 = .ok (.iload 5, 2) := by decide +kernel
theorem dX12_readKind_36 : decode cX12_readKind 36 = .ok (.goto 5, 3) := by decide +kernel
theorem dX12_readKind_39 : decode cX12_readKind 39 = .ok (.iload 4, 2) := by decide +kernel
theorem dX12_readKind_41 : decode cX12_readKind 41 = .ok (.istore 4, 2) := by decide +kernel
theorem dX12_readKind_43 : decode cX12_readKind 43 = .ok (.iinc 5 1, 3) := by decide +kernel
theorem dX12_readKind_46 : decode cX12_readKind 46 = .ok (.goto (-28), 3) := by decide +kernel
theorem dX12_readKind_49 : decode cX12_readKind 49 = .ok (.iload 4, 2) := by decide +kernel
theorem dX12_readKind_51 : decode cX12_readKind 51 = .ok (.ifCond .lt 6, 3) := by decide +kernel
theorem dX12_readKind_54 : decode cX12_readKind 54 = .ok (.iload 4, 2) := by decide +kernel
theorem dX12_readKind_56 : decode cX12_readKind 56 = .ok (.ireturn, 1) := by decide +kernel
theorem dX12_readKind_57 : decode cX12_readKind 57 = .ok (.aload_n 0, 1) := by decide +kernel
theorem dX12_readKind_58 : decode cX12_readKind 58 = .ok (.invokevirtual 99, 3) := by decide +kernel
theorem dX12_readKind_61 : decode cX12_readKind 61 = .ok (.ifCond .ne 5, 3) := by decide +kernel
theorem dX12_readKind_64 : decode cX12_readKind 64 = .ok (.iconst (-1), 1) := by decide +kernel
theorem dX12_readKind_65 : decode cX12_readKind 65 = .ok (.ireturn, 1) := by decide +kernel
theorem dX12_readKind_66 : decode cX12_readKind 66 = .ok (.iload_n 1, 1) := by decide +kernel
theorem dX12_readKind_67 : decode cX12_readKind 67 = .ok (.aload_n 0, 1) := by decide +kernel
theorem dX12_readKind_68 : decode cX12_readKind 68 = .ok (.invokevirtual 87, 3) := by decide +kernel
theorem dX12_readKind_71 : decode cX12_readKind 71 = .ok (.bipush 96, 2) := by decide +kernel
theorem dX12_readKind_73 : decode cX12_readKind 73 = .ok (.isub, 1) := by decide +kernel
theorem dX12_readKind_74 : decode cX12_readKind 74 = .ok (.iconst 5, 1) := by decide +kernel
theorem dX12_readKind_75 : decode cX12_readKind 75 = .ok (.iload_n 2, 1) := by decide +kernel
theorem dX12_readKind_76 : decode cX12_readKind 76 = .ok (.imul, 1) := by decide +kernel
theorem dX12_readKind_77 : decode cX12_readKind 77 = .ok (.ishl, 1) := by decide +kernel
theorem dX12_readKind_78 : decode cX12_readKind 78 = .ok (.ior, 1) := by decide +kernel
theorem dX12_readKind_79 : decode cX12_readKind 79 = .ok (.istore 5, 2) := by decide +kernel
theorem dX12_readKind_81 : decode cX12_readKind 81 = .ok (.iconst 0, 1) := by decide +kernel
theorem dX12_readKind_82 : decode cX12_readKind 82 = .ok (.istore 6, 2) := by decide +kernel
theorem dX12_readKind_84 : decode cX12_readKind 84 = .ok (.iconst 0, 1) := by decide +kernel
theorem dX12_readKind_85 : decode cX12_readKind 85 = .ok (.istore 7, 2) := by decide +kernel
theorem dX12_readKind_87 : decode cX12_readKind 87 = .ok (.iload 7, 2) := by decide +kernel
theorem dX12_readKind_89 : decode cX12_readKind 89 = .ok (.bipush 9, 2) := by decide +kernel
theorem dX12_readKind_91 : decode cX12_readKind 91 = .ok (.if_icmp .ge 41, 3) := by decide +kernel
theorem dX12_readKind_94 : decode cX12_readKind 94 = .ok (.iload 6, 2) := by decide +kernel
theorem dX12_readKind_96 : decode cX12_readKind 96 = .ok (.ifCond .ne 23, 3) := by decide +kernel
theorem dX12_readKind_99 : decode cX12_readKind 99 = .ok (.iload 7, 2) := by decide +kernel
theorem dX12_readKind_101 : decode cX12_readKind 101 = .ok (.invokestatic 95, 3) := by decide +kernel
theorem dX12_readKind_104 : decode cX12_readKind 104 = .ok (.iconst 1, 1) := by decide +kernel
theorem dX12_readKind_105 : decode cX12_readKind 105 = .ok (.iconst 5, 1) := by decide +kernel
theorem dX12_readKind_106 : decode cX12_readKind 106 = .ok (.iload_n 2, 1) := by decide +kernel
theorem dX12_readKind_107 : decode cX12_readKind 107 = .ok (.imul, 1) := by decide +kernel
theorem dX12_readKind_108 : decode cX12_readKind 108 = .ok (.iconst 5, 1) := by decide +kernel
theorem dX12_readKind_109 : decode cX12_readKind 109 = .ok (.iadd, 1) := by decide +kernel
theorem dX12_readKind_110 : decode cX12_readKind 110 = .ok (.ishl, 1) := by decide +kernel
theorem dX12_readKind_111 : decode cX12_readKind 111 = .ok (.iconst 1, 1) := by decide +kernel
theorem dX12_readKind_112 : decode cX12_readKind 112 = .ok (.isub, 1) := by decide +kernel
theorem dX12_readKind_113 : decode cX12_readKind 113 = .ok (.iand, 1) := by decide +kernel
theorem dX12_readKind_114 : decode cX12_readKind 114 = .ok (.iload 5, 2) := by decide +kernel
theorem dX12_readKind_116 : decode cX12_readKind 116 = .ok (.if_icmp .ne 7, 3) := by decide +kernel
theorem dX12_readKind_119 : decode cX12_readKind 119 = .ok (.iconst 1, 1) := by decide +kernel
theorem dX12_readKind_120 : decode cX12_readKind 120 = .ok (.goto 4, 3) := by decide +kernel
theorem dX12_readKind_123 : decode cX12_readKind 123 = .ok (.iconst 0, 1) := by decide +kernel
theorem dX12_readKind_124 : decode cX12_readKind 124 = .ok (.istore 6, 2) := by decide +kernel
theorem dX12_readKind_126 : decode cX12_readKind 126 = .ok (.iinc 7 1, 3) := by decide +kernel
theorem dX12_readKind_129 : decode cX12_readKind 129 = .ok (.goto (-42), 3) := by decide +kernel
theorem dX12_readKind_132 : decode cX12_readKind 132 = .ok (.iload 6, 2) := by decide +kernel
theorem dX12_readKind_134 : decode cX12_readKind 134 = .ok (.ifCond .ne 5, 3) := by decide +kernel
theorem dX12_readKind_137 : decode cX12_readKind 137 = .ok (.iconst (-1), 1) := by decide +kernel
theorem dX12_readKind_138 : decode cX12_readKind 138 = .ok (.ireturn, 1) := by decide +kernel
theorem dX12_readKind_139 : decode cX12_readKind 139 = .ok (.iload 5, 2) := by decide +kernel
theorem dX12_readKind_141 : decode cX12_readKind 141 = .ok (.istore_n 1, 1) := by decide +kernel
theorem dX12_readKind_142 : decode cX12_readKind 142 = .ok (.iinc 2 1, 3) := by decide +kernel
theorem dX12_readKind_145 : decode cX12_readKind 145 = .ok (.aload_n 0, 1) := by decide +kernel
theorem dX12_readKind_146 : decode cX12_readKind 146 = .ok (.dup, 1) := by decide +kernel
theorem dX12_readKind_147 : decode cX12_readKind 147 = .ok (.getfield 84, 3) := by decide +kernel
theorem dX12_readKind_150 : decode cX12_readKind 150 = .ok (.iconst 1, 1) := by decide +kernel
theorem dX12_readKind_151 : decode cX12_readKind 151 = .ok (.iadd, 1) := by decide +kernel
theorem dX12_readKind_152 : decode cX12_readKind 152 = .ok (.putfield 84, 3) := by decide +kernel
theorem dX12_readKind_155 : decode cX12_readKind 155 = .ok (.iinc 3 1, 3) := by decide +kernel
theorem dX12_readKind_158 : decode cX12_readKind 158 = .ok (.goto (-152), 3) := by decide +kernel
theorem dX12_readKind_161 : decode cX12_readKind 161 = .ok (.iconst (-1), 1) := by decide +kernel
theorem dX12_readKind_162 : decode cX12_readKind 162 = .ok (.ireturn, 1) := by decide +kernel
theorem dX12_readName_0 : decode cX12_readName 0 = .ok (.aload_n 0, 1) := by decide +kernel
theorem dX12_readName_1 : decode cX12_readName 1 = .ok (.invokevirtual 87, 3) := by decide +kernel
theorem dX12_readName_4 : decode cX12_readName 4 = .ok (.bipush 32, 2) := by decide +kernel
theorem dX12_readName_6 : decode cX12_readName 6 = .ok (.if_icmp .eq 5, 3) := by decide +kernel
theorem dX12_readName_9 : decode cX12_readName 9 = .ok (.iconst 0, 1) := by decide +kernel
theorem dX12_readName_10 : decode cX12_readName 10 = .ok (.ireturn, 1) := by decide +kernel
theorem dX12_readName_11 : decode cX12_readName 11 = .ok (.aload_n 0, 1) := by decide +kernel
theorem dX12_readName_12 : decode cX12_readName 12 = .ok (.dup, 1) := by decide +kernel
theorem dX12_readName_13 : decode cX12_readName 13 = .ok (.getfield 84, 3) := by decide +kernel
theorem dX12_readName_16 : decode cX12_readName 16 = .ok (.iconst 1, 1) := by decide +kernel
theorem dX12_readName_17 : decode cX12_readName 17 = .ok (.iadd, 1) := by decide +kernel
theorem dX12_readName_18 : decode cX12_readName 18 = .ok (.putfield 84, 3) := by decide +kernel
theorem dX12_readName_21 : decode cX12_readName 21 = .ok (.iconst 0, 1) := by decide +kernel
theorem dX12_readName_22 : decode cX12_readName 22 = .ok (.istore_n 1, 1) := by decide +kernel
theorem dX12_readName_23 : decode cX12_readName 23 = .ok (.iconst 0, 1) := by decide +kernel
theorem dX12_readName_24 : decode cX12_readName 24 = .ok (.istore_n 2, 1) := by decide +kernel
theorem dX12_readName_25 : decode cX12_readName 25 = .ok (.iload_n 2, 1) := by decide +kernel
theorem dX12_readName_26 : decode cX12_readName 26 = .ok (.iconst 4, 1) := by decide +kernel
theorem dX12_readName_27 : decode cX12_readName 27 = .ok (.if_icmp .ge 40, 3) := by decide +kernel
theorem dX12_readName_30 : decode cX12_readName 30 = .ok (.aload_n 0, 1) := by decide +kernel
theorem dX12_readName_31 : decode cX12_readName 31 = .ok (.invokevirtual 99, 3) := by decide +kernel
theorem dX12_readName_34 : decode cX12_readName 34 = .ok (.ifCond .eq 33, 3) := by decide +kernel
theorem dX12_readName_37 : decode cX12_readName 37 = .ok (.iload_n 1, 1) := by decide +kernel
theorem dX12_readName_38 : decode cX12_readName 38 = .ok (.aload_n 0, 1) := by decide +kernel
theorem dX12_readName_39 : decode cX12_readName 39 = .ok (.invokevirtual 87, 3) := by decide +kernel
theorem dX12_readName_42 : decode cX12_readName 42 = .ok (.bipush 96, 2) := by decide +kernel
theorem dX12_readName_44 : decode cX12_readName 44 = .ok (.isub, 1) := by decide +kernel
theorem dX12_readName_45 : decode cX12_readName 45 = .ok (.iconst 5, 1) := by decide +kernel
theorem dX12_readName_46 : decode cX12_readName 46 = .ok (.iload_n 2, 1) := by decide +kernel
theorem dX12_readName_47 : decode cX12_readName 47 = .ok (.imul, 1) := by decide +kernel
theorem dX12_readName_48 : decode cX12_readName 48 = .ok (.ishl, 1) := by decide +kernel
theorem dX12_readName_49 : decode cX12_readName 49 = .ok (.ior, 1) := by decide +kernel
theorem dX12_readName_50 : decode cX12_readName 50 = .ok (.istore_n 1, 1) := by decide +kernel
theorem dX12_readName_51 : decode cX12_readName 51 = .ok (.iinc 2 1, 3) := by decide +kernel
theorem dX12_readName_54 : decode cX12_readName 54 = .ok (.aload_n 0, 1) := by decide +kernel
theorem dX12_readName_55 : decode cX12_readName 55 = .ok (.dup, 1) := by decide +kernel
theorem dX12_readName_56 : decode cX12_readName 56 = .ok (.getfield 84, 3) := by decide +kernel
theorem dX12_readName_59 : decode cX12_readName 59 = .ok (.iconst 1, 1) := by decide +kernel
theorem dX12_readName_60 : decode cX12_readName 60 = .ok (.iadd, 1) := by decide +kernel
theorem dX12_readName_61 : decode cX12_readName 61 = .ok (.putfield 84, 3) := by decide +kernel
theorem dX12_readName_64 : decode cX12_readName 64 = .ok (.goto (-39), 3) := by decide +kernel
theorem dX12_readName_67 : decode cX12_readName 67 = .ok (.iload_n 1, 1) := by decide +kernel
theorem dX12_readName_68 : decode cX12_readName 68 = .ok (.ireturn, 1) := by decide +kernel
theorem dX12_readNames_0 : decode cX12_readNames 0 = .ok (.iconst 0, 1) := by decide +kernel
theorem dX12_readNames_1 : decode cX12_readNames 1 = .ok (.istore 4, 2) := by decide +kernel
theorem dX12_readNames_3 : decode cX12_readNames 3 = .ok (.iload 4, 2) := by decide +kernel
theorem dX12_readNames_5 : decode cX12_readNames 5 = .ok (.iload_n 2, 1) := by decide +kernel
theorem dX12_readNames_6 : decode cX12_readNames 6 = .ok (.if_icmp .lt 20, 3) := by decide +kernel
theorem dX12_readNames_9 : decode cX12_readNames 9 = .ok (.iload 4, 2) := by decide +kernel
theorem dX12_readNames_11 : decode cX12_readNames 11 = .ok (.iload_n 3, 1) := by decide +kernel
theorem dX12_readNames_12 : decode cX12_readNames 12 = .ok (.if_icmp .ge 61, 3) := by decide +kernel
theorem dX12_readNames_15 : decode cX12_readNames 15 = .ok (.aload_n 0, 1) := by decide +kernel
theorem dX12_readNames_16 : decode cX12_readNames 16 = .ok (.getfield 84, 3) := by decide +kernel
theorem dX12_readNames_19 : decode cX12_readNames 19 = .ok (.aload_n 0, 1) := by decide +kernel
theorem dX12_readNames_20 : decode cX12_readNames 20 = .ok (.getfield 81, 3) := by decide +kernel
theorem dX12_readNames_23 : decode cX12_readNames 23 = .ok (.if_icmp .ge 50, 3) := by decide +kernel
theorem dX12_readNames_26 : decode cX12_readNames 26 = .ok (.aload_n 0, 1) := by decide +kernel
theorem dX12_readNames_27 : decode cX12_readNames 27 = .ok (.invokevirtual 103, 3) := by decide +kernel
theorem dX12_readNames_30 : decode cX12_readNames 30 = .ok (.istore 5, 2) := by decide +kernel
theorem dX12_readNames_32 : decode cX12_readNames 32 = .ok (.iload 5, 2) := by decide +kernel
theorem dX12_readNames_34 : decode cX12_readNames 34 = .ok (.ifCond .ne 5, 3) := by decide +kernel
theorem dX12_readNames_37 : decode cX12_readNames 37 = .ok (.iconst 0, 1) := by decide +kernel
theorem dX12_readNames_38 : decode cX12_readNames 38 = .ok (.ireturn, 1) := by decide +kernel
theorem dX12_readNames_39 : decode cX12_readNames 39 = .ok (.aload_n 0, 1) := by decide +kernel
theorem dX12_readNames_40 : decode cX12_readNames 40 = .ok (.getfield 24, 3) := by decide +kernel
theorem dX12_readNames_43 : decode cX12_readNames 43 = .ok (.bipush 10, 2) := by decide +kernel
theorem dX12_readNames_45 : decode cX12_readNames 45 = .ok (.iload_n 1, 1) := by decide +kernel
theorem dX12_readNames_46 : decode cX12_readNames 46 = .ok (.imul, 1) := by decide +kernel
theorem dX12_readNames_47 : decode cX12_readNames 47 = .ok (.aload_n 0, 1) := by decide +kernel
theorem dX12_readNames_48 : decode cX12_readNames 48 = .ok (.getfield 21, 3) := by decide +kernel
theorem dX12_readNames_51 : decode cX12_readNames 51 = .ok (.iload_n 1, 1) := by decide +kernel
theorem dX12_readNames_52 : decode cX12_readNames 52 = .ok (.iaload, 1) := by decide +kernel
theorem dX12_readNames_53 : decode cX12_readNames 53 = .ok (.iadd, 1) := by decide +kernel
theorem dX12_readNames_54 : decode cX12_readNames 54 = .ok (.iload 5, 2) := by decide +kernel
theorem dX12_readNames_56 : decode cX12_readNames 56 = .ok (.iastore, 1) := by decide +kernel
theorem dX12_readNames_57 : decode cX12_readNames 57 = .ok (.aload_n 0, 1) := by decide +kernel
theorem dX12_readNames_58 : decode cX12_readNames 58 = .ok (.getfield 21, 3) := by decide +kernel
theorem dX12_readNames_61 : decode cX12_readNames 61 = .ok (.iload_n 1, 1) := by decide +kernel
theorem dX12_readNames_62 : decode cX12_readNames 62 = .ok (.dup2, 1) := by decide +kernel
theorem dX12_readNames_63 : decode cX12_readNames 63 = .ok (.iaload, 1) := by decide +kernel
theorem dX12_readNames_64 : decode cX12_readNames 64 = .ok (.iconst 1, 1) := by decide +kernel
theorem dX12_readNames_65 : decode cX12_readNames 65 = .ok (.iadd, 1) := by decide +kernel
theorem dX12_readNames_66 : decode cX12_readNames 66 = .ok (.iastore, 1) := by decide +kernel
theorem dX12_readNames_67 : decode cX12_readNames 67 = .ok (.iinc 4 1, 3) := by decide +kernel
theorem dX12_readNames_70 : decode cX12_readNames 70 = .ok (.goto (-67), 3) := by decide +kernel
theorem dX12_readNames_73 : decode cX12_readNames 73 = .ok (.iconst 1, 1) := by decide +kernel
theorem dX12_readNames_74 : decode cX12_readNames 74 = .ok (.ireturn, 1) := by decide +kernel
theorem dX12_readStatement_0 : decode cX12_readStatement 0 = .ok (.aload_n 0, 1) := by decide +kernel
theorem dX12_readStatement_1 : decode cX12_readStatement 1 = .ok (.iconst 0, 1) := by decide +kernel
theorem dX12_readStatement_2 : decode cX12_readStatement 2 = .ok (.putfield 84, 3) := by decide +kernel
theorem dX12_readStatement_5 : decode cX12_readStatement 5 = .ok (.aload_n 0, 1) := by decide +kernel
theorem dX12_readStatement_6 : decode cX12_readStatement 6 = .ok (.getfield 107, 3) := by decide +kernel
theorem dX12_readStatement_9 : decode cX12_readStatement 9 = .ok (.istore_n 1, 1) := by decide +kernel
theorem dX12_readStatement_10 : decode cX12_readStatement 10 = .ok (.aload_n 0, 1) := by decide +kernel
theorem dX12_readStatement_11 : decode cX12_readStatement 11 = .ok (.invokevirtual 110, 3) := by decide +kernel
theorem dX12_readStatement_14 : decode cX12_readStatement 14 = .ok (.istore_n 2, 1) := by decide +kernel
theorem dX12_readStatement_15 : decode cX12_readStatement 15 = .ok (.iload_n 2, 1) := by decide +kernel
theorem dX12_readStatement_16 : decode cX12_readStatement 16 = .ok (.ifCond .ge 5, 3) := by decide +kernel
theorem dX12_readStatement_19 : decode cX12_readStatement 19 = .ok (.iconst 0, 1) := by decide +kernel
theorem dX12_readStatement_20 : decode cX12_readStatement 20 = .ok (.ireturn, 1) := by decide +kernel
theorem dX12_readStatement_21 : decode cX12_readStatement 21 = .ok (.aload_n 0, 1) := by decide +kernel
theorem dX12_readStatement_22 : decode cX12_readStatement 22 = .ok (.getfield 17, 3) := by decide +kernel
theorem dX12_readStatement_25 : decode cX12_readStatement 25 = .ok (.iload_n 1, 1) := by decide +kernel
theorem dX12_readStatement_26 : decode cX12_readStatement 26 = .ok (.iload_n 2, 1) := by decide +kernel
theorem dX12_readStatement_27 : decode cX12_readStatement 27 = .ok (.iastore, 1) := by decide +kernel
theorem dX12_readStatement_28 : decode cX12_readStatement 28 = .ok (.aload_n 0, 1) := by decide +kernel
theorem dX12_readStatement_29 : decode cX12_readStatement 29 = .ok (.getfield 21, 3) := by decide +kernel
theorem dX12_readStatement_32 : decode cX12_readStatement 32 = .ok (.iload_n 1, 1) := by decide +kernel
theorem dX12_readStatement_33 : decode cX12_readStatement 33 = .ok (.iconst 0, 1) := by decide +kernel
theorem dX12_readStatement_34 : decode cX12_readStatement 34 = .ok (.iastore, 1) := by decide +kernel
theorem dX12_readStatement_35 : decode cX12_readStatement 35 = .ok (.aload_n 0, 1) := by decide +kernel
theorem dX12_readStatement_36 : decode cX12_readStatement 36 = .ok (.getfield 27, 3) := by decide +kernel
theorem dX12_readStatement_39 : decode cX12_readStatement 39 = .ok (.iload_n 1, 1) := by decide +kernel
theorem dX12_readStatement_40 : decode cX12_readStatement 40 = .ok (.iconst 0, 1) := by decide +kernel
theorem dX12_readStatement_41 : decode cX12_readStatement 41 = .ok (.iastore, 1) := by decide +kernel
theorem dX12_readStatement_42 : decode cX12_readStatement 42 = .ok (.iconst 1, 1) := by decide +kernel
theorem dX12_readStatement_43 : decode cX12_readStatement 43 = .ok (.istore_n 3, 1) := by decide +kernel
theorem dX12_readStatement_44 : decode cX12_readStatement 44 = .ok (.iload_n 2, 1) := by decide +kernel
theorem dX12_readStatement_45 : decode cX12_readStatement 45 = .ok (.ifCond .eq 15, 3) := by decide +kernel
theorem dX12_readStatement_48 : decode cX12_readStatement 48 = .ok (.iload_n 2, 1) := by decide +kernel
theorem dX12_readStatement_49 : decode cX12_readStatement 49 = .ok (.bipush 7, 2) := by decide +kernel
theorem dX12_readStatement_51 : decode cX12_readStatement 51 = .ok (.if_icmp .eq 9, 3) := by decide +kernel
theorem dX12_readStatement_54 : decode cX12_readStatement 54 = .ok (.iload_n 2, 1) := by decide +kernel
theorem dX12_readStatement_55 : decode cX12_readStatement 55 = .ok (.bipush 8, 2) := by decide +kernel
theorem dX12_readStatement_57 : decode cX12_readStatement 57 = .ok (.if_icmp .ne 15, 3) := by decide +kernel
theorem dX12_readStatement_60 : decode cX12_readStatement 60 = .ok (.aload_n 0, 1) := by decide +kernel
theorem dX12_readStatement_61 : decode cX12_readStatement 61 = .ok (.iload_n 1, 1) := by decide +kernel
theorem dX12_readStatement_62 : decode cX12_readStatement 62 = .ok (.iconst 2, 1) := by decide +kernel
theorem dX12_readStatement_63 : decode cX12_readStatement 63 = .ok (.bipush 7, 2) := by decide +kernel
theorem dX12_readStatement_65 : decode cX12_readStatement 65 = .ok (.invokevirtual 113, 3) := by decide +kernel
theorem dX12_readStatement_68 : decode cX12_readStatement 68 = .ok (.istore_n 3, 1) := by decide +kernel
theorem dX12_readStatement_69 : decode cX12_readStatement 69 = .ok (.goto 98, 3) := by decide +kernel
theorem dX12_readStatement_72 : decode cX12_readStatement 72 = .ok (.iload_n 2, 1) := by decide +kernel
theorem dX12_readStatement_73 : decode cX12_readStatement 73 = .ok (.iconst 1, 1) := by decide +kernel
theorem dX12_readStatement_74 : decode cX12_readStatement 74 = .ok (.if_icmp .ne 14, 3) := by decide +kernel
theorem dX12_readStatement_77 : decode cX12_readStatement 77 = .ok (.aload_n 0, 1) := by decide +kernel
theorem dX12_readStatement_78 : decode cX12_readStatement 78 = .ok (.iload_n 1, 1) := by decide +kernel
theorem dX12_readStatement_79 : decode cX12_readStatement 79 = .ok (.iconst 1, 1) := by decide +kernel
theorem dX12_readStatement_80 : decode cX12_readStatement 80 = .ok (.iconst 5, 1) := by decide +kernel
theorem dX12_readStatement_81 : decode cX12_readStatement 81 = .ok (.invokevirtual 113, 3) := by decide +kernel
theorem dX12_readStatement_84 : decode cX12_readStatement 84 = .ok (.istore_n 3, 1) := by decide +kernel
theorem dX12_readStatement_85 : decode cX12_readStatement 85 = .ok (.goto 82, 3) := by decide +kernel
theorem dX12_readStatement_88 : decode cX12_readStatement 88 = .ok (.iload_n 2, 1) := by decide +kernel
theorem dX12_readStatement_89 : decode cX12_readStatement 89 = .ok (.iconst 2, 1) := by decide +kernel
theorem dX12_readStatement_90 : decode cX12_readStatement 90 = .ok (.if_icmp .eq 8, 3) := by decide +kernel
theorem dX12_readStatement_93 : decode cX12_readStatement 93 = .ok (.iload_n 2, 1) := by decide +kernel
theorem dX12_readStatement_94 : decode cX12_readStatement 94 = .ok (.iconst 3, 1) := by decide +kernel
theorem dX12_readStatement_95 : decode cX12_readStatement 95 = .ok (.if_icmp .ne 15, 3) := by decide +kernel
theorem dX12_readStatement_98 : decode cX12_readStatement 98 = .ok (.aload_n 0, 1) := by decide +kernel
theorem dX12_readStatement_99 : decode cX12_readStatement 99 = .ok (.iload_n 1, 1) := by decide +kernel
theorem dX12_readStatement_100 : decode cX12_readStatement 100 = .ok (.iconst 4, 1) := by decide +kernel
theorem dX12_readStatement_101 : decode cX12_readStatement 101 = .ok (.bipush 9, 2) := by decide +kernel
theorem dX12_readStatement_103 : decode cX12_readStatement 103 = .ok (.invokevirtual 113, 3) := by decide +kernel
theorem dX12_readStatement_106 : decode cX12_readStatement 106 = .ok (.istore_n 3, 1) := by decide +kernel
theorem dX12_readStatement_107 : decode cX12_readStatement 107 = .ok (.goto 60, 3) := by decide +kernel
theorem dX12_readStatement_110 : decode cX12_readStatement 110 = .ok (.iload_n 2, 1) := by decide +kernel
theorem dX12_readStatement_111 : decode cX12_readStatement 111 = .ok (.iconst 4, 1) := by decide +kernel
theorem dX12_readStatement_112 : decode cX12_readStatement 112 = .ok (.if_icmp .ne 14, 3) := by decide +kernel
theorem dX12_readStatement_115 : decode cX12_readStatement 115 = .ok (.aload_n 0, 1) := by decide +kernel
