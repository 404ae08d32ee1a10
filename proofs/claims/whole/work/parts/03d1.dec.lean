theorem dX1_init_0 : decode cX1_init 0 = .ok (.aload_n 0, 1) := by decide +kernel
theorem dX1_init_1 : decode cX1_init 1 = .ok (.invokespecial 3, 3) := by decide +kernel
theorem dX1_init_4 : decode cX1_init 4 = .ok (.aload_n 0, 1) := by decide +kernel
theorem dX1_init_5 : decode cX1_init 5 = .ok (.sipush 420, 3) := by decide +kernel
theorem dX1_init_8 : decode cX1_init 8 = .ok (.newarray .int, 2) := by decide +kernel
theorem dX1_init_10 : decode cX1_init 10 = .ok (.putfield 9, 3) := by decide +kernel
theorem dX1_init_13 : decode cX1_init 13 = .ok (.aload_n 0, 1) := by decide +kernel
theorem dX1_init_14 : decode cX1_init 14 = .ok (.iconst 0, 1) := by decide +kernel
theorem dX1_init_15 : decode cX1_init 15 = .ok (.putfield 15, 3) := by decide +kernel
theorem dX1_init_18 : decode cX1_init 18 = .ok (.aload_n 0, 1) := by decide +kernel
theorem dX1_init_19 : decode cX1_init 19 = .ok (.iconst 0, 1) := by decide +kernel
theorem dX1_init_20 : decode cX1_init 20 = .ok (.putfield 19, 3) := by decide +kernel
theorem dX1_init_23 : decode cX1_init 23 = .ok (.aload_n 0, 1) := by decide +kernel
theorem dX1_init_24 : decode cX1_init 24 = .ok (.iconst 0, 1) := by decide +kernel
theorem dX1_init_25 : decode cX1_init 25 = .ok (.putfield 22, 3) := by decide +kernel
theorem dX1_init_28 : decode cX1_init 28 = .ok (.return_, 1) := by decide +kernel
theorem dX1_length_0 : decode cX1_length 0 = .ok (.aload_n 0, 1) := by decide +kernel
theorem dX1_length_1 : decode cX1_length 1 = .ok (.getfield 15, 3) := by decide +kernel
theorem dX1_length_4 : decode cX1_length 4 = .ok (.ireturn, 1) := by decide +kernel
theorem dX1_room_0 : decode cX1_room 0 = .ok (.aload_n 0, 1) := by decide +kernel
theorem dX1_room_1 : decode cX1_room 1 = .ok (.getfield 9, 3) := by decide +kernel
theorem dX1_room_4 : decode cX1_room 4 = .ok (.arraylength, 1) := by decide +kernel
theorem dX1_room_5 : decode cX1_room 5 = .ok (.aload_n 0, 1) := by decide +kernel
theorem dX1_room_6 : decode cX1_room 6 = .ok (.getfield 15, 3) := by decide +kernel
theorem dX1_room_9 : decode cX1_room 9 = .ok (.isub, 1) := by decide +kernel
theorem dX1_room_10 : decode cX1_room 10 = .ok (.ireturn, 1) := by decide +kernel
theorem dX1_clear_0 : decode cX1_clear 0 = .ok (.aload_n 0, 1) := by decide +kernel
theorem dX1_clear_1 : decode cX1_clear 1 = .ok (.iconst 0, 1) := by decide +kernel
theorem dX1_clear_2 : decode cX1_clear 2 = .ok (.putfield 15, 3) := by decide +kernel
theorem dX1_clear_5 : decode cX1_clear 5 = .ok (.return_, 1) := by decide +kernel
theorem dX1_push_0 : decode cX1_push 0 = .ok (.aload_n 0, 1) := by decide +kernel
theorem dX1_push_1 : decode cX1_push 1 = .ok (.getfield 15, 3) := by decide +kernel
theorem dX1_push_4 : decode cX1_push 4 = .ok (.aload_n 0, 1) := by decide +kernel
theorem dX1_push_5 : decode cX1_push 5 = .ok (.getfield 9, 3) := by decide +kernel
theorem dX1_push_8 : decode cX1_push 8 = .ok (.arraylength, 1) := by decide +kernel
theorem dX1_push_9 : decode cX1_push 9 = .ok (.if_icmp .ge 23, 3) := by decide +kernel
theorem dX1_push_12 : decode cX1_push 12 = .ok (.aload_n 0, 1) := by decide +kernel
theorem dX1_push_13 : decode cX1_push 13 = .ok (.getfield 9, 3) := by decide +kernel
theorem dX1_push_16 : decode cX1_push 16 = .ok (.aload_n 0, 1) := by decide +kernel
theorem dX1_push_17 : decode cX1_push 17 = .ok (.getfield 15, 3) := by decide +kernel
theorem dX1_push_20 : decode cX1_push 20 = .ok (.iload_n 1, 1) := by decide +kernel
theorem dX1_push_21 : decode cX1_push 21 = .ok (.iastore, 1) := by decide +kernel
theorem dX1_push_22 : decode cX1_push 22 = .ok (.aload_n 0, 1) := by decide +kernel
theorem dX1_push_23 : decode cX1_push 23 = .ok (.dup, 1) := by decide +kernel
theorem dX1_push_24 : decode cX1_push 24 = .ok (.getfield 15, 3) := by decide +kernel
theorem dX1_push_27 : decode cX1_push 27 = .ok (.iconst 1, 1) := by decide +kernel
theorem dX1_push_28 : decode cX1_push 28 = .ok (.iadd, 1) := by decide +kernel
theorem dX1_push_29 : decode cX1_push 29 = .ok (.putfield 15, 3) := by decide +kernel
theorem dX1_push_32 : decode cX1_push 32 = .ok (.return_, 1) := by decide +kernel
theorem dX1_byteAt_0 : decode cX1_byteAt 0 = .ok (.iload_n 1, 1) := by decide +kernel
theorem dX1_byteAt_1 : decode cX1_byteAt 1 = .ok (.ifCond .lt 20, 3) := by decide +kernel
theorem dX1_byteAt_4 : decode cX1_byteAt 4 = .ok (.iload_n 1, 1) := by decide +kernel
theorem dX1_byteAt_5 : decode cX1_byteAt 5 = .ok (.aload_n 0, 1) := by decide +kernel
theorem dX1_byteAt_6 : decode cX1_byteAt 6 = .ok (.getfield 15, 3) := by decide +kernel
theorem dX1_byteAt_9 : decode cX1_byteAt 9 = .ok (.if_icmp .ge 12, 3) := by decide +kernel
theorem dX1_byteAt_12 : decode cX1_byteAt 12 = .ok (.aload_n 0, 1) := by decide +kernel
theorem dX1_byteAt_13 : decode cX1_byteAt 13 = .ok (.getfield 9, 3) := by decide +kernel
theorem dX1_byteAt_16 : decode cX1_byteAt 16 = .ok (.iload_n 1, 1) := by decide +kernel
theorem dX1_byteAt_17 : decode cX1_byteAt 17 = .ok (.iaload, 1) := by decide +kernel
theorem dX1_byteAt_18 : decode cX1_byteAt 18 = .ok (.goto 4, 3) := by decide +kernel
theorem dX1_byteAt_21 : decode cX1_byteAt 21 = .ok (.iconst (-1), 1) := by decide +kernel
theorem dX1_byteAt_22 : decode cX1_byteAt 22 = .ok (.ireturn, 1) := by decide +kernel
theorem dX1_rewind_0 : decode cX1_rewind 0 = .ok (.aload_n 0, 1) := by decide +kernel
theorem dX1_rewind_1 : decode cX1_rewind 1 = .ok (.iconst 0, 1) := by decide +kernel
theorem dX1_rewind_2 : decode cX1_rewind 2 = .ok (.putfield 19, 3) := by decide +kernel
theorem dX1_rewind_5 : decode cX1_rewind 5 = .ok (.aload_n 0, 1) := by decide +kernel
theorem dX1_rewind_6 : decode cX1_rewind 6 = .ok (.iconst 0, 1) := by decide +kernel
theorem dX1_rewind_7 : decode cX1_rewind 7 = .ok (.putfield 22, 3) := by decide +kernel
theorem dX1_rewind_10 : decode cX1_rewind 10 = .ok (.return_, 1) := by decide +kernel
theorem dX1_take_0 : decode cX1_take 0 = .ok (.aload_n 0, 1) := by decide +kernel
theorem dX1_take_1 : decode cX1_take 1 = .ok (.aload_n 0, 1) := by decide +kernel
theorem dX1_take_2 : decode cX1_take 2 = .ok (.getfield 19, 3) := by decide +kernel
theorem dX1_take_5 : decode cX1_take 5 = .ok (.invokevirtual 26, 3) := by decide +kernel
theorem dX1_take_8 : decode cX1_take 8 = .ok (.istore_n 3, 1) := by decide +kernel
theorem dX1_take_9 : decode cX1_take 9 = .ok (.aload_n 0, 1) := by decide +kernel
theorem dX1_take_10 : decode cX1_take 10 = .ok (.dup, 1) := by decide +kernel
theorem dX1_take_11 : decode cX1_take 11 = .ok (.getfield 19, 3) := by decide +kernel
theorem dX1_take_14 : decode cX1_take 14 = .ok (.iconst 1, 1) := by decide +kernel
theorem dX1_take_15 : decode cX1_take 15 = .ok (.iadd, 1) := by decide +kernel
theorem dX1_take_16 : decode cX1_take 16 = .ok (.putfield 19, 3) := by decide +kernel
theorem dX1_take_19 : decode cX1_take 19 = .ok (.iload_n 3, 1) := by decide +kernel
theorem dX1_take_20 : decode cX1_take 20 = .ok (.iload_n 1, 1) := by decide +kernel
theorem dX1_take_21 : decode cX1_take 21 = .ok (.if_icmp .lt 8, 3) := by decide +kernel
theorem dX1_take_24 : decode cX1_take 24 = .ok (.iload_n 3, 1) := by decide +kernel
theorem dX1_take_25 : decode cX1_take 25 = .ok (.iload_n 2, 1) := by decide +kernel
theorem dX1_take_26 : decode cX1_take 26 = .ok (.if_icmp .le 10, 3) := by decide +kernel
theorem dX1_take_29 : decode cX1_take 29 = .ok (.aload_n 0, 1) := by decide +kernel
theorem dX1_take_30 : decode cX1_take 30 = .ok (.iconst 1, 1) := by decide +kernel
theorem dX1_take_31 : decode cX1_take 31 = .ok (.putfield 22, 3) := by decide +kernel
theorem dX1_take_34 : decode cX1_take 34 = .ok (.iload_n 1, 1) := by decide +kernel
theorem dX1_take_35 : decode cX1_take 35 = .ok (.ireturn, 1) := by decide +kernel
theorem dX1_take_36 : decode cX1_take 36 = .ok (.iload_n 3, 1) := by decide +kernel
theorem dX1_take_37 : decode cX1_take 37 = .ok (.ireturn, 1) := by decide +kernel
theorem dX1_isTakenWhole_0 : decode cX1_isTakenWhole 0 = .ok (.aload_n 0, 1) := by decide +kernel
theorem dX1_isTakenWhole_1 : decode cX1_isTakenWhole 1 = .ok (.getfield 22, 3) := by decide +kernel
theorem dX1_isTakenWhole_4 : decode cX1_isTakenWhole 4 = .ok (.ifCond .ne 18, 3) := by decide +kernel
theorem dX1_isTakenWhole_7 : decode cX1_isTakenWhole 7 = .ok (.aload_n 0, 1) := by decide +kernel
theorem dX1_isTakenWhole_8 : decode cX1_isTakenWhole 8 = .ok (.getfield 19, 3) := by decide +kernel
theorem dX1_isTakenWhole_11 : decode cX1_isTakenWhole 11 = .ok (.aload_n 0, 1) := by decide +kernel
theorem dX1_isTakenWhole_12 : decode cX1_isTakenWhole 12 = .ok (.getfield 15, 3) := by decide +kernel
theorem dX1_isTakenWhole_15 : decode cX1_isTakenWhole 15 = .ok (.if_icmp .ne 7, 3) := by decide +kernel
theorem dX1_isTakenWhole_18 : decode cX1_isTakenWhole 18 = .ok (.iconst 1, 1) := by decide +kernel
theorem dX1_isTakenWhole_19 : decode cX1_isTakenWhole 19 = .ok (.goto 4, 3) := by decide +kernel
theorem dX1_isTakenWhole_22 : decode cX1_isTakenWhole 22 = .ok (.iconst 0, 1) := by decide +kernel
theorem dX1_isTakenWhole_23 : decode cX1_isTakenWhole 23 = .ok (.ireturn, 1) := by decide +kernel
theorem dX2_compose_0 : decode cX2_compose 0 = .ok (.aload_n 1, 1) := by decide +kernel
theorem dX2_compose_1 : decode cX2_compose 1 = .ok (.invokevirtual 9, 3) := by decide +kernel
theorem dX2_compose_4 : decode cX2_compose 4 = .ok (.iconst 0, 1) := by decide +kernel
theorem dX2_compose_5 : decode cX2_compose 5 = .ok (.istore_n 2, 1) := by decide +kernel
theorem dX2_compose_6 : decode cX2_compose 6 = .ok (.iload_n 2, 1) := by decide +kernel
theorem dX2_compose_7 : decode cX2_compose 7 = .ok (.aload_n 0, 1) := by decide +kernel
theorem dX2_compose_8 : decode cX2_compose 8 = .ok (.invokevirtual 14, 3) := by decide +kernel
theorem dX2_compose_11 : decode cX2_compose 11 = .ok (.if_icmp .ge 18, 3) := by decide +kernel
theorem dX2_compose_14 : decode cX2_compose 14 = .ok (.aload_n 0, 1) := by decide +kernel
theorem dX2_compose_15 : decode cX2_compose 15 = .ok (.iload_n 2, 1) := by decide +kernel
theorem dX2_compose_16 : decode cX2_compose 16 = .ok (.invokevirtual 20, 3) := by decide +kernel
theorem dX2_compose_19 : decode cX2_compose 19 = .ok (.aload_n 1, 1) := by decide +kernel
theorem dX2_compose_20 : decode cX2_compose 20 = .ok (.invokestatic 24, 3) := by decide +kernel
theorem dX2_compose_23 : decode cX2_compose 23 = .ok (.iinc 2 1, 3) := by decide +kernel
theorem dX2_compose_26 : decode cX2_compose 26 = .ok (.goto (-20), 3) := by decide +kernel
theorem dX2_compose_29 : decode cX2_compose 29 = .ok (.iconst 0, 1) := by decide +kernel
theorem dX2_compose_30 : decode cX2_compose 30 = .ok (.istore_n 2, 1) := by decide +kernel
theorem dX2_compose_31 : decode cX2_compose 31 = .ok (.iload_n 2, 1) := by decide +kernel
theorem dX2_compose_32 : decode cX2_compose 32 = .ok (.aload_n 0, 1) := by decide +kernel
theorem dX2_compose_33 : decode cX2_compose 33 = .ok (.invokevirtual 14, 3) := by decide +kernel
theorem dX2_compose_36 : decode cX2_compose 36 = .ok (.if_icmp .ge 19, 3) := by decide +kernel
theorem dX2_compose_39 : decode cX2_compose 39 = .ok (.aload_n 0, 1) := by decide +kernel
theorem dX2_compose_40 : decode cX2_compose 40 = .ok (.aload_n 0, 1) := by decide +kernel
theorem dX2_compose_41 : decode cX2_compose 41 = .ok (.iload_n 2, 1) := by decide +kernel
theorem dX2_compose_42 : decode cX2_compose 42 = .ok (.invokevirtual 20, 3) := by decide +kernel
theorem dX2_compose_45 : decode cX2_compose 45 = .ok (.aload_n 1, 1) := by decide +kernel
theorem dX2_compose_46 : decode cX2_compose 46 = .ok (.invokestatic 30, 3) := by decide +kernel
theorem dX2_compose_49 : decode cX2_compose 49 = .ok (.iinc 2 1, 3) := by decide +kernel
theorem dX2_compose_52 : decode cX2_compose 52 = .ok (.goto (-21), 3) := by decide +kernel
theorem dX2_compose_55 : decode cX2_compose 55 = .ok (.return_, 1) := by decide +kernel
theorem dX2_declare_0 : decode cX2_declare 0 = .ok (.aload_n 0, 1) := by decide +kernel
theorem dX2_declare_1 : decode cX2_declare 1 = .ok (.invokevirtual 34, 3) := by decide +kernel
theorem dX2_declare_4 : decode cX2_declare 4 = .ok (.getstatic 40, 3) := by decide +kernel
theorem dX2_declare_7 : decode cX2_declare 7 = .ok (.if_acmp .ne 7, 3) := by decide +kernel
theorem dX2_declare_10 : decode cX2_declare 10 = .ok (.aload_n 1, 1) := by decide +kernel
theorem dX2_declare_11 : decode cX2_declare 11 = .ok (.invokevirtual 46, 3) := by decide +kernel
theorem dX2_declare_14 : decode cX2_declare 14 = .ok (.aload_n 0, 1) := by decide +kernel
theorem dX2_declare_15 : decode cX2_declare 15 = .ok (.invokevirtual 34, 3) := by decide +kernel
theorem dX2_declare_18 : decode cX2_declare 18 = .ok (.getstatic 49, 3) := by decide +kernel
theorem dX2_declare_21 : decode cX2_declare 21 = .ok (.if_acmp .ne 13, 3) := by decide +kernel
theorem dX2_declare_24 : decode cX2_declare 24 = .ok (.aload_n 1, 1) := by decide +kernel
theorem dX2_declare_25 : decode cX2_declare 25 = .ok (.aload_n 0, 1) := by decide +kernel
theorem dX2_declare_26 : decode cX2_declare 26 = .ok (.invokevirtual 52, 3) := by decide +kernel
theorem dX2_declare_29 : decode cX2_declare 29 = .ok (.iconst 1, 1) := by decide +kernel
theorem dX2_declare_30 : decode cX2_declare 30 = .ok (.isub, 1) := by decide +kernel
theorem dX2_declare_31 : decode cX2_declare 31 = .ok (.invokevirtual 53, 3) := by decide +kernel
theorem dX2_declare_34 : decode cX2_declare 34 = .ok (.return_, 1) := by decide +kernel
theorem dX2_apply_0 : decode cX2_apply 0 = .ok (.getstatic 57, 3) := by decide +kernel
theorem dX2_apply_3 : decode cX2_apply 3 = .ok (.aload_n 1, 1) := by decide +kernel
theorem dX2_apply_4 : decode cX2_apply 4 = .ok (.invokevirtual 34, 3) := by decide +kernel
theorem dX2_apply_7 : decode cX2_apply 7 = .ok (.invokevirtual 63, 3) := by decide +kernel
theorem dX2_apply_10 : decode cX2_apply 10 = .ok (.iaload, 1) := by decide +kernel
theorem dX2_apply_11 : decode cX2_apply 11 = .ok (.tableswitch 163 3 9 #[41, 163, 50, 107, 130, 143, 153], 41) := by decide +kernel
theorem dX2_apply_52 : decode cX2_apply 52 = .ok (.aload_n 0, 1) := by decide +kernel
theorem dX2_apply_53 : decode cX2_apply 53 = .ok (.aload_n 1, 1) := by decide +kernel
theorem dX2_apply_54 : decode cX2_apply 54 = .ok (.aload_n 2, 1) := by decide +kernel
theorem dX2_apply_55 : decode cX2_apply 55 = .ok (.invokestatic 66, 3) := by decide +kernel
theorem dX2_apply_58 : decode cX2_apply 58 = .ok (.goto 116, 3) := by decide +kernel
theorem dX2_apply_61 : decode cX2_apply 61 = .ok (.aload_n 2, 1) := by decide +kernel
theorem dX2_apply_62 : decode cX2_apply 62 = .ok (.aload_n 0, 1) := by decide +kernel
theorem dX2_apply_63 : decode cX2_apply 63 = .ok (.getstatic 40, 3) := by decide +kernel
theorem dX2_apply_66 : decode cX2_apply 66 = .ok (.aload_n 1, 1) := by decide +kernel
theorem dX2_apply_67 : decode cX2_apply 67 = .ok (.iconst 0, 1) := by decide +kernel
theorem dX2_apply_68 : decode cX2_apply 68 = .ok (.invokevirtual 69, 3) := by decide +kernel
theorem dX2_apply_71 : decode cX2_apply 71 = .ok (.invokevirtual 73, 3) := by decide +kernel
theorem dX2_apply_74 : decode cX2_apply 74 = .ok (.aload_n 0, 1) := by decide +kernel
theorem dX2_apply_75 : decode cX2_apply 75 = .ok (.getstatic 40, 3) := by decide +kernel
theorem dX2_apply_78 : decode cX2_apply 78 = .ok (.aload_n 1, 1) := by decide +kernel
theorem dX2_apply_79 : decode cX2_apply 79 = .ok (.iconst 1, 1) := by decide +kernel
theorem dX2_apply_80 : decode cX2_apply 80 = .ok (.invokevirtual 69, 3) := by decide +kernel
theorem dX2_apply_83 : decode cX2_apply 83 = .ok (.invokevirtual 73, 3) := by decide +kernel
theorem dX2_apply_86 : decode cX2_apply 86 = .ok (.aload_n 0, 1) := by decide +kernel
theorem dX2_apply_87 : decode cX2_apply 87 = .ok (.getstatic 49, 3) := by decide +kernel
theorem dX2_apply_90 : decode cX2_apply 90 = .ok (.aload_n 1, 1) := by decide +kernel
theorem dX2_apply_91 : decode cX2_apply 91 = .ok (.iconst 2, 1) := by decide +kernel
theorem dX2_apply_92 : decode cX2_apply 92 = .ok (.invokevirtual 69, 3) := by decide +kernel
theorem dX2_apply_95 : decode cX2_apply 95 = .ok (.invokevirtual 73, 3) := by decide +kernel
theorem dX2_apply_98 : decode cX2_apply 98 = .ok (.aload_n 0, 1) := by decide +kernel
theorem dX2_apply_99 : decode cX2_apply 99 = .ok (.getstatic 40, 3) := by decide +kernel
theorem dX2_apply_102 : decode cX2_apply 102 = .ok (.aload_n 1, 1) := by decide +kernel
theorem dX2_apply_103 : decode cX2_apply 103 = .ok (.iconst 3, 1) := by decide +kernel
theorem dX2_apply_104 : decode cX2_apply 104 = .ok (.invokevirtual 69, 3) := by decide +kernel
theorem dX2_apply_107 : decode cX2_apply 107 = .ok (.invokevirtual 73, 3) := by decide +kernel
theorem dX2_apply_110 : decode cX2_apply 110 = .ok (.iconst 1, 1) := by decide +kernel
theorem dX2_apply_111 : decode cX2_apply 111 = .ok (.iadd, 1) := by decide +kernel
theorem dX2_apply_112 : decode cX2_apply 112 = .ok (.invokevirtual 77, 3) := by decide +kernel
theorem dX2_apply_115 : decode cX2_apply 115 = .ok (.goto 59, 3) := by decide +kernel
theorem dX2_apply_118 : decode cX2_apply 118 = .ok (.aload_n 2, 1) := by decide +kernel
theorem dX2_apply_119 : decode cX2_apply 119 = .ok (.aload_n 0, 1) := by decide +kernel
theorem dX2_apply_120 : decode cX2_apply 120 = .ok (.getstatic 40, 3) := by decide +kernel
theorem dX2_apply_123 : decode cX2_apply 123 = .ok (.aload_n 1, 1) := by decide +kernel
theorem dX2_apply_124 : decode cX2_apply 124 = .ok (.iconst 0, 1) := by decide +kernel
theorem dX2_apply_125 : decode cX2_apply 125 = .ok (.invokevirtual 69, 3) := by decide +kernel
theorem dX2_apply_128 : decode cX2_apply 128 = .ok (.invokevirtual 73, 3) := by decide +kernel
theorem dX2_apply_131 : decode cX2_apply 131 = .ok (.aload_n 1, 1) := by decide +kernel
theorem dX2_apply_132 : decode cX2_apply 132 = .ok (.invokevirtual 81, 3) := by decide +kernel
theorem dX2_apply_135 : decode cX2_apply 135 = .ok (.invokevirtual 84, 3) := by decide +kernel
theorem dX2_apply_138 : decode cX2_apply 138 = .ok (.goto 36, 3) := by decide +kernel
theorem dX2_apply_141 : decode cX2_apply 141 = .ok (.aload_n 0, 1) := by decide +kernel
theorem dX2_apply_142 : decode cX2_apply 142 = .ok (.aload_n 1, 1) := by decide +kernel
theorem dX2_apply_143 : decode cX2_apply 143 = .ok (.aload_n 2, 1) := by decide +kernel
theorem dX2_apply_144 : decode cX2_apply 144 = .ok (.aload_n 1, 1) := by decide +kernel
theorem dX2_apply_145 : decode cX2_apply 145 = .ok (.invokevirtual 81, 3) := by decide +kernel
theorem dX2_apply_148 : decode cX2_apply 148 = .ok (.invokestatic 88, 3) := by decide +kernel
theorem dX2_apply_151 : decode cX2_apply 151 = .ok (.goto 23, 3) := by decide +kernel
theorem dX2_apply_154 : decode cX2_apply 154 = .ok (.aload_n 0, 1) := by decide +kernel
theorem dX2_apply_155 : decode cX2_apply 155 = .ok (.aload_n 1, 1) := by decide +kernel
theorem dX2_apply_156 : decode cX2_apply 156 = .ok (.aload_n 2, 1) := by decide +kernel
theorem dX2_apply_157 : decode cX2_apply 157 = .ok (.iconst 3, 1) := by decide +kernel
theorem dX2_apply_158 : decode cX2_apply 158 = .ok (.invokestatic 88, 3) := by decide +kernel
theorem dX2_apply_161 : decode cX2_apply 161 = .ok (.goto 13, 3) := by decide +kernel
theorem dX2_apply_164 : decode cX2_apply 164 = .ok (.aload_n 0, 1) := by decide +kernel
theorem dX2_apply_165 : decode cX2_apply 165 = .ok (.aload_n 1, 1) := by decide +kernel
theorem dX2_apply_166 : decode cX2_apply 166 = .ok (.aload_n 2, 1) := by decide +kernel
theorem dX2_apply_167 : decode cX2_apply 167 = .ok (.iconst 4, 1) := by decide +kernel
theorem dX2_apply_168 : decode cX2_apply 168 = .ok (.invokestatic 88, 3) := by decide +kernel
theorem dX2_apply_171 : decode cX2_apply 171 = .ok (.goto 3, 3) := by decide +kernel
theorem dX2_apply_174 : decode cX2_apply 174 = .ok (.return_, 1) := by decide +kernel
theorem dX2_widen_0 : decode cX2_widen 0 = .ok (.aload_n 2, 1) := by decide +kernel
theorem dX2_widen_1 : decode cX2_widen 1 = .ok (.aload_n 0, 1) := by decide +kernel
theorem dX2_widen_2 : decode cX2_widen 2 = .ok (.getstatic 49, 3) := by decide +kernel
theorem dX2_widen_5 : decode cX2_widen 5 = .ok (.aload_n 1, 1) := by decide +kernel
theorem dX2_widen_6 : decode cX2_widen 6 = .ok (.iconst 0, 1) := by decide +kernel
theorem dX2_widen_7 : decode cX2_widen 7 = .ok (.invokevirtual 69, 3) := by decide +kernel
theorem dX2_widen_10 : decode cX2_widen 10 = .ok (.invokevirtual 73, 3) := by decide +kernel
theorem dX2_widen_13 : decode cX2_widen 13 = .ok (.iload_n 3, 1) := by decide +kernel
theorem dX2_widen_14 : decode cX2_widen 14 = .ok (.aload_n 0, 1) := by decide +kernel
theorem dX2_widen_15 : decode cX2_widen 15 = .ok (.aload_n 1, 1) := by decide +kernel
theorem dX2_widen_16 : decode cX2_widen 16 = .ok (.iconst 0, 1) := by decide +kernel
theorem dX2_widen_17 : decode cX2_widen 17 = .ok (.invokevirtual 92, 3) := by decide +kernel
theorem dX2_widen_20 : decode cX2_widen 20 = .ok (.invokevirtual 96, 3) := by decide +kernel
theorem dX2_widen_23 : decode cX2_widen 23 = .ok (.return_, 1) := by decide +kernel
theorem dX2_allow_0 : decode cX2_allow 0 = .ok (.aload_n 0, 1) := by decide +kernel
theorem dX2_allow_1 : decode cX2_allow 1 = .ok (.aload_n 1, 1) := by decide +kernel
theorem dX2_allow_2 : decode cX2_allow 2 = .ok (.iconst 0, 1) := by decide +kernel
theorem dX2_allow_3 : decode cX2_allow 3 = .ok (.invokevirtual 69, 3) := by decide +kernel
theorem dX2_allow_6 : decode cX2_allow 6 = .ok (.invokevirtual 100, 3) := by decide +kernel
theorem dX2_allow_9 : decode cX2_allow 9 = .ok (.istore_n 3, 1) := by decide +kernel
theorem dX2_allow_10 : decode cX2_allow 10 = .ok (.aload_n 0, 1) := by decide +kernel
theorem dX2_allow_11 : decode cX2_allow 11 = .ok (.aload_n 1, 1) := by decide +kernel
theorem dX2_allow_12 : decode cX2_allow 12 = .ok (.iconst 1, 1) := by decide +kernel
theorem dX2_allow_13 : decode cX2_allow 13 = .ok (.invokevirtual 69, 3) := by decide +kernel
theorem dX2_allow_16 : decode cX2_allow 16 = .ok (.invokevirtual 100, 3) := by decide +kernel
theorem dX2_allow_19 : decode cX2_allow 19 = .ok (.istore 4, 2) := by decide +kernel
theorem dX2_allow_21 : decode cX2_allow 21 = .ok (.aload_n 0, 1) := by decide +kernel
theorem dX2_allow_22 : decode cX2_allow 22 = .ok (.getstatic 49, 3) := by decide +kernel
theorem dX2_allow_25 : decode cX2_allow 25 = .ok (.aload_n 1, 1) := by decide +kernel
theorem dX2_allow_26 : decode cX2_allow 26 = .ok (.iconst 2, 1) := by decide +kernel
theorem dX2_allow_27 : decode cX2_allow 27 = .ok (.invokevirtual 69, 3) := by decide +kernel
theorem dX2_allow_30 : decode cX2_allow 30 = .ok (.invokevirtual 73, 3) := by decide +kernel
theorem dX2_allow_33 : decode cX2_allow 33 = .ok (.istore 5, 2) := by decide +kernel
theorem dX2_allow_35 : decode cX2_allow 35 = .ok (.aload_n 0, 1) := by decide +kernel
theorem dX2_allow_36 : decode cX2_allow 36 = .ok (.aload_n 1, 1) := by decide +kernel
theorem dX2_allow_37 : decode cX2_allow 37 = .ok (.iconst 2, 1) := by decide +kernel
theorem dX2_allow_38 : decode cX2_allow 38 = .ok (.invokevirtual 92, 3) := by decide +kernel
theorem dX2_allow_41 : decode cX2_allow 41 = .ok (.istore 6, 2) := by decide +kernel
theorem dX2_allow_43 : decode cX2_allow 43 = .ok (.iconst 0, 1) := by decide +kernel
theorem dX2_allow_44 : decode cX2_allow 44 = .ok (.istore 7, 2) := by decide +kernel
theorem dX2_allow_46 : decode cX2_allow 46 = .ok (.iload 7, 2) := by decide +kernel
theorem dX2_allow_48 : decode cX2_allow 48 = .ok (.aload_n 2, 1) := by decide +kernel
theorem dX2_allow_49 : decode cX2_allow 49 = .ok (.invokevirtual 103, 3) := by decide +kernel
theorem dX2_allow_52 : decode cX2_allow 52 = .ok (.if_icmp .ge 36, 3) := by decide +kernel
theorem dX2_allow_55 : decode cX2_allow 55 = .ok (.iload_n 3, 1) := by decide +kernel
theorem dX2_allow_56 : decode cX2_allow 56 = .ok (.iload 7, 2) := by decide +kernel
theorem dX2_allow_58 : decode cX2_allow 58 = .ok (.invokestatic 106, 3) := by decide +kernel
theorem dX2_allow_61 : decode cX2_allow 61 = .ok (.ifCond .eq 21, 3) := by decide +kernel
theorem dX2_allow_64 : decode cX2_allow 64 = .ok (.aload_n 2, 1) := by decide +kernel
theorem dX2_allow_65 : decode cX2_allow 65 = .ok (.iload 7, 2) := by decide +kernel
theorem dX2_allow_67 : decode cX2_allow 67 = .ok (.aload_n 1, 1) := by decide +kernel
theorem dX2_allow_68 : decode cX2_allow 68 = .ok (.iload 7, 2) := by decide +kernel
theorem dX2_allow_70 : decode cX2_allow 70 = .ok (.iload 4, 2) := by decide +kernel
theorem dX2_allow_72 : decode cX2_allow 72 = .ok (.invokestatic 110, 3) := by decide +kernel
theorem dX2_allow_75 : decode cX2_allow 75 = .ok (.iload 5, 2) := by decide +kernel
theorem dX2_allow_77 : decode cX2_allow 77 = .ok (.iload 6, 2) := by decide +kernel
theorem dX2_allow_79 : decode cX2_allow 79 = .ok (.invokevirtual 114, 3) := by decide +kernel
theorem dX2_allow_82 : decode cX2_allow 82 = .ok (.iinc 7 1, 3) := by decide +kernel
theorem dX2_allow_85 : decode cX2_allow 85 = .ok (.goto (-39), 3) := by decide +kernel
theorem dX2_allow_88 : decode cX2_allow 88 = .ok (.return_, 1) := by decide +kernel
theorem dX2_firstAgainst_0 : decode cX2_firstAgainst 0 = .ok (.iconst 0, 1) := by decide +kernel
theorem dX2_firstAgainst_1 : decode cX2_firstAgainst 1 = .ok (.istore_n 2, 1) := by decide +kernel
theorem dX2_firstAgainst_2 : decode cX2_firstAgainst 2 = .ok (.iload_n 2, 1) := by decide +kernel
theorem dX2_firstAgainst_3 : decode cX2_firstAgainst 3 = .ok (.aload_n 0, 1) := by decide +kernel
theorem dX2_firstAgainst_4 : decode cX2_firstAgainst 4 = .ok (.invokevirtual 14, 3) := by decide +kernel
theorem dX2_firstAgainst_7 : decode cX2_firstAgainst 7 = .ok (.if_icmp .ge 38, 3) := by decide +kernel
theorem dX2_firstAgainst_10 : decode cX2_firstAgainst 10 = .ok (.aload_n 0, 1) := by decide +kernel
theorem dX2_firstAgainst_11 : decode cX2_firstAgainst 11 = .ok (.iload_n 2, 1) := by decide +kernel
theorem dX2_firstAgainst_12 : decode cX2_firstAgainst 12 = .ok (.invokevirtual 20, 3) := by decide +kernel
theorem dX2_firstAgainst_15 : decode cX2_firstAgainst 15 = .ok (.invokevirtual 34, 3) := by decide +kernel
theorem dX2_firstAgainst_18 : decode cX2_firstAgainst 18 = .ok (.getstatic 117, 3) := by decide +kernel
theorem dX2_firstAgainst_21 : decode cX2_firstAgainst 21 = .ok (.if_acmp .ne 18, 3) := by decide +kernel
theorem dX2_firstAgainst_24 : decode cX2_firstAgainst 24 = .ok (.aload_n 0, 1) := by decide +kernel
theorem dX2_firstAgainst_25 : decode cX2_firstAgainst 25 = .ok (.aload_n 0, 1) := by decide +kernel
theorem dX2_firstAgainst_26 : decode cX2_firstAgainst 26 = .ok (.iload_n 2, 1) := by decide +kernel
theorem dX2_firstAgainst_27 : decode cX2_firstAgainst 27 = .ok (.invokevirtual 20, 3) := by decide +kernel
theorem dX2_firstAgainst_30 : decode cX2_firstAgainst 30 = .ok (.aload_n 1, 1) := by decide +kernel
theorem dX2_firstAgainst_31 : decode cX2_firstAgainst 31 = .ok (.invokestatic 120, 3) := by decide +kernel
theorem dX2_firstAgainst_34 : decode cX2_firstAgainst 34 = .ok (.ifCond .eq 5, 3) := by decide +kernel
theorem dX2_firstAgainst_37 : decode cX2_firstAgainst 37 = .ok (.iload_n 2, 1) := by decide +kernel
theorem dX2_firstAgainst_38 : decode cX2_firstAgainst 38 = .ok (.ireturn, 1) := by decide +kernel
theorem dX2_firstAgainst_39 : decode cX2_firstAgainst 39 = .ok (.iinc 2 1, 3) := by decide +kernel
theorem dX2_firstAgainst_42 : decode cX2_firstAgainst 42 = .ok (.goto (-40), 3) := by decide +kernel
theorem dX2_firstAgainst_45 : decode cX2_firstAgainst 45 = .ok (.iconst (-1), 1) := by decide +kernel
theorem dX2_firstAgainst_46 : decode cX2_firstAgainst 46 = .ok (.ireturn, 1) := by decide +kernel
theorem dX2_isAgainst_0 : decode cX2_isAgainst 0 = .ok (.aload_n 0, 1) := by decide +kernel
theorem dX2_isAgainst_1 : decode cX2_isAgainst 1 = .ok (.aload_n 1, 1) := by decide +kernel
theorem dX2_isAgainst_2 : decode cX2_isAgainst 2 = .ok (.iconst 0, 1) := by decide +kernel
theorem dX2_isAgainst_3 : decode cX2_isAgainst 3 = .ok (.invokevirtual 69, 3) := by decide +kernel
theorem dX2_isAgainst_6 : decode cX2_isAgainst 6 = .ok (.invokevirtual 100, 3) := by decide +kernel
theorem dX2_isAgainst_9 : decode cX2_isAgainst 9 = .ok (.istore_n 3, 1) := by decide +kernel
theorem dX2_isAgainst_10 : decode cX2_isAgainst 10 = .ok (.aload_n 0, 1) := by decide +kernel
theorem dX2_isAgainst_11 : decode cX2_isAgainst 11 = .ok (.aload_n 1, 1) := by decide +kernel
theorem dX2_isAgainst_12 : decode cX2_isAgainst 12 = .ok (.iconst 1, 1) := by decide +kernel
theorem dX2_isAgainst_13 : decode cX2_isAgainst 13 = .ok (.invokevirtual 69, 3) := by decide +kernel
theorem dX2_isAgainst_16 : decode cX2_isAgainst 16 = .ok (.invokevirtual 100, 3) := by decide +kernel
theorem dX2_isAgainst_19 : decode cX2_isAgainst 19 = .ok (.istore 4, 2) := by decide +kernel
theorem dX2_isAgainst_21 : decode cX2_isAgainst 21 = .ok (.aload_n 0, 1) := by decide +kernel
theorem dX2_isAgainst_22 : decode cX2_isAgainst 22 = .ok (.getstatic 49, 3) := by decide +kernel
theorem dX2_isAgainst_25 : decode cX2_isAgainst 25 = .ok (.aload_n 1, 1) := by decide +kernel
theorem dX2_isAgainst_26 : decode cX2_isAgainst 26 = .ok (.iconst 2, 1) := by decide +kernel
theorem dX2_isAgainst_27 : decode cX2_isAgainst 27 = .ok (.invokevirtual 69, 3) := by decide +kernel
theorem dX2_isAgainst_30 : decode cX2_isAgainst 30 = .ok (.invokevirtual 73, 3) := by decide +kernel
theorem dX2_isAgainst_33 : decode cX2_isAgainst 33 = .ok (.istore 5, 2) := by decide +kernel
theorem dX2_isAgainst_35 : decode cX2_isAgainst 35 = .ok (.aload_n 0, 1) := by decide +kernel
theorem dX2_isAgainst_36 : decode cX2_isAgainst 36 = .ok (.aload_n 1, 1) := by decide +kernel
theorem dX2_isAgainst_37 : decode cX2_isAgainst 37 = .ok (.iconst 2, 1) := by decide +kernel
theorem dX2_isAgainst_38 : decode cX2_isAgainst 38 = .ok (.invokevirtual 92, 3) := by decide +kernel
theorem dX2_isAgainst_41 : decode cX2_isAgainst 41 = .ok (.istore 6, 2) := by decide +kernel
theorem dX2_isAgainst_43 : decode cX2_isAgainst 43 = .ok (.iconst 0, 1) := by decide +kernel
theorem dX2_isAgainst_44 : decode cX2_isAgainst 44 = .ok (.istore 7, 2) := by decide +kernel
theorem dX2_isAgainst_46 : decode cX2_isAgainst 46 = .ok (.iload 7, 2) := by decide +kernel
theorem dX2_isAgainst_48 : decode cX2_isAgainst 48 = .ok (.aload_n 2, 1) := by decide +kernel
theorem dX2_isAgainst_49 : decode cX2_isAgainst 49 = .ok (.invokevirtual 103, 3) := by decide +kernel
theorem dX2_isAgainst_52 : decode cX2_isAgainst 52 = .ok (.if_icmp .ge 41, 3) := by decide +kernel
theorem dX2_isAgainst_55 : decode cX2_isAgainst 55 = .ok (.iload_n 3, 1) := by decide +kernel
theorem dX2_isAgainst_56 : decode cX2_isAgainst 56 = .ok (.iload 7, 2) := by decide +kernel
theorem dX2_isAgainst_58 : decode cX2_isAgainst 58 = .ok (.invokestatic 106, 3) := by decide +kernel
theorem dX2_isAgainst_61 : decode cX2_isAgainst 61 = .ok (.ifCond .eq 26, 3) := by decide +kernel
theorem dX2_isAgainst_64 : decode cX2_isAgainst 64 = .ok (.aload_n 2, 1) := by decide +kernel
theorem dX2_isAgainst_65 : decode cX2_isAgainst 65 = .ok (.iload 7, 2) := by decide +kernel
theorem dX2_isAgainst_67 : decode cX2_isAgainst 67 = .ok (.aload_n 1, 1) := by decide +kernel
theorem dX2_isAgainst_68 : decode cX2_isAgainst 68 = .ok (.iload 7, 2) := by decide +kernel
theorem dX2_isAgainst_70 : decode cX2_isAgainst 70 = .ok (.iload 4, 2) := by decide +kernel
theorem dX2_isAgainst_72 : decode cX2_isAgainst 72 = .ok (.invokestatic 110, 3) := by decide +kernel
theorem dX2_isAgainst_75 : decode cX2_isAgainst 75 = .ok (.iload 5, 2) := by decide +kernel
theorem dX2_isAgainst_77 : decode cX2_isAgainst 77 = .ok (.iload 6, 2) := by decide +kernel
theorem dX2_isAgainst_79 : decode cX2_isAgainst 79 = .ok (.invokevirtual 124, 3) := by decide +kernel
theorem dX2_isAgainst_82 : decode cX2_isAgainst 82 = .ok (.ifCond .eq 5, 3) := by decide +kernel
theorem dX2_isAgainst_85 : decode cX2_isAgainst 85 = .ok (.iconst 1, 1) := by decide +kernel
theorem dX2_isAgainst_86 : decode cX2_isAgainst 86 = .ok (.ireturn, 1) := by decide +kernel
theorem dX2_isAgainst_87 : decode cX2_isAgainst 87 = .ok (.iinc 7 1, 3) := by decide +kernel
theorem dX2_isAgainst_90 : decode cX2_isAgainst 90 = .ok (.goto (-44), 3) := by decide +kernel
theorem dX2_isAgainst_93 : decode cX2_isAgainst 93 = .ok (.iconst 0, 1) := by decide +kernel
theorem dX2_isAgainst_94 : decode cX2_isAgainst 94 = .ok (.ireturn, 1) := by decide +kernel
theorem dX2_othersFor_0 : decode cX2_othersFor 0 = .ok (.aload_n 0, 1) := by decide +kernel
theorem dX2_othersFor_1 : decode cX2_othersFor 1 = .ok (.iconst 1, 1) := by decide +kernel
theorem dX2_othersFor_2 : decode cX2_othersFor 2 = .ok (.invokevirtual 69, 3) := by decide +kernel
theorem dX2_othersFor_5 : decode cX2_othersFor 5 = .ok (.ldc 128, 2) := by decide +kernel
theorem dX2_othersFor_7 : decode cX2_othersFor 7 = .ok (.if_icmp .ne 9, 3) := by decide +kernel
theorem dX2_othersFor_10 : decode cX2_othersFor 10 = .ok (.iconst 1, 1) := by decide +kernel
theorem dX2_othersFor_11 : decode cX2_othersFor 11 = .ok (.iload_n 1, 1) := by decide +kernel
theorem dX2_othersFor_12 : decode cX2_othersFor 12 = .ok (.ishl, 1) := by decide +kernel
theorem dX2_othersFor_13 : decode cX2_othersFor 13 = .ok (.goto 4, 3) := by decide +kernel
theorem dX2_othersFor_16 : decode cX2_othersFor 16 = .ok (.iload_n 2, 1) := by decide +kernel
theorem dX2_othersFor_17 : decode cX2_othersFor 17 = .ok (.ireturn, 1) := by decide +kernel
theorem dX3_init_0 : decode cX3_init 0 = .ok (.aload_n 0, 1) := by decide +kernel
theorem dX3_init_1 : decode cX3_init 1 = .ok (.invokespecial 3, 3) := by decide +kernel
theorem dX3_init_4 : decode cX3_init 4 = .ok (.aload_n 0, 1) := by decide +kernel
theorem dX3_init_5 : decode cX3_init 5 = .ok (.bipush 41, 2) := by decide +kernel
theorem dX3_init_7 : decode cX3_init 7 = .ok (.anewarray 9, 3) := by decide +kernel
theorem dX3_init_10 : decode cX3_init 10 = .ok (.putfield 11, 3) := by decide +kernel
theorem dX3_init_13 : decode cX3_init 13 = .ok (.aload_n 0, 1) := by decide +kernel
theorem dX3_init_14 : decode cX3_init 14 = .ok (.iconst 0, 1) := by decide +kernel
theorem dX3_init_15 : decode cX3_init 15 = .ok (.putfield 17, 3) := by decide +kernel
theorem dX3_init_18 : decode cX3_init 18 = .ok (.iconst 0, 1) := by decide +kernel
theorem dX3_init_19 : decode cX3_init 19 = .ok (.istore_n 1, 1) := by decide +kernel
theorem dX3_init_20 : decode cX3_init 20 = .ok (.iload_n 1, 1) := by decide +kernel
theorem dX3_init_21 : decode cX3_init 21 = .ok (.aload_n 0, 1) := by decide +kernel
theorem dX3_init_22 : decode cX3_init 22 = .ok (.getfield 11, 3) := by decide +kernel
theorem dX3_init_25 : decode cX3_init 25 = .ok (.arraylength, 1) := by decide +kernel
theorem dX3_init_26 : decode cX3_init 26 = .ok (.if_icmp .ge 22, 3) := by decide +kernel
theorem dX3_init_29 : decode cX3_init 29 = .ok (.aload_n 0, 1) := by decide +kernel
theorem dX3_init_30 : decode cX3_init 30 = .ok (.getfield 11, 3) := by decide +kernel
theorem dX3_init_33 : decode cX3_init 33 = .ok (.iload_n 1, 1) := by decide +kernel
theorem dX3_init_34 : decode cX3_init 34 = .ok (.new 9, 3) := by decide +kernel
theorem dX3_init_37 : decode cX3_init 37 = .ok (.dup, 1) := by decide +kernel
theorem dX3_init_38 : decode cX3_init 38 = .ok (.invokespecial 21, 3) := by decide +kernel
theorem dX3_init_41 : decode cX3_init 41 = .ok (.aastore, 1) := by decide +kernel
theorem dX3_init_42 : decode cX3_init 42 = .ok (.iinc 1 1, 3) := by decide +kernel
theorem dX3_init_45 : decode cX3_init 45 = .ok (.goto (-25), 3) := by decide +kernel
theorem dX3_init_48 : decode cX3_init 48 = .ok (.return_, 1) := by decide +kernel
theorem dX3_size_0 : decode cX3_size 0 = .ok (.aload_n 0, 1) := by decide +kernel
theorem dX3_size_1 : decode cX3_size 1 = .ok (.getfield 17, 3) := by decide +kernel
theorem dX3_size_4 : decode cX3_size 4 = .ok (.ireturn, 1) := by decide +kernel
theorem dX3_row_0 : decode cX3_row 0 = .ok (.aload_n 0, 1) := by decide +kernel
theorem dX3_row_1 : decode cX3_row 1 = .ok (.getfield 11, 3) := by decide +kernel
theorem dX3_row_4 : decode cX3_row 4 = .ok (.iload_n 1, 1) := by decide +kernel
theorem dX3_row_5 : decode cX3_row 5 = .ok (.ifCond .lt 15, 3) := by decide +kernel
theorem dX3_row_8 : decode cX3_row 8 = .ok (.iload_n 1, 1) := by decide +kernel
theorem dX3_row_9 : decode cX3_row 9 = .ok (.aload_n 0, 1) := by decide +kernel
theorem dX3_row_10 : decode cX3_row 10 = .ok (.getfield 17, 3) := by decide +kernel
theorem dX3_row_13 : decode cX3_row 13 = .ok (.if_icmp .ge 7, 3) := by decide +kernel
theorem dX3_row_16 : decode cX3_row 16 = .ok (.iload_n 1, 1) := by decide +kernel
theorem dX3_row_17 : decode cX3_row 17 = .ok (.goto 7, 3) := by decide +kernel
theorem dX3_row_20 : decode cX3_row 20 = .ok (.aload_n 0, 1) := by decide +kernel
theorem dX3_row_21 : decode cX3_row 21 = .ok (.getfield 17, 3) := by decide +kernel
theorem dX3_row_24 : decode cX3_row 24 = .ok (.aaload, 1) := by decide +kernel
theorem dX3_row_25 : decode cX3_row 25 = .ok (.areturn, 1) := by decide +kernel
theorem dX3_spare_0 : decode cX3_spare 0 = .ok (.aload_n 0, 1) := by decide +kernel
theorem dX3_spare_1 : decode cX3_spare 1 = .ok (.getfield 11, 3) := by decide +kernel
theorem dX3_spare_4 : decode cX3_spare 4 = .ok (.aload_n 0, 1) := by decide +kernel
theorem dX3_spare_5 : decode cX3_spare 5 = .ok (.getfield 17, 3) := by decide +kernel
theorem dX3_spare_8 : decode cX3_spare 8 = .ok (.aaload, 1) := by decide +kernel
theorem dX3_spare_9 : decode cX3_spare 9 = .ok (.areturn, 1) := by decide +kernel
theorem dX3_hasRoom_0 : decode cX3_hasRoom 0 = .ok (.aload_n 0, 1) := by decide +kernel
theorem dX3_hasRoom_1 : decode cX3_hasRoom 1 = .ok (.getfield 17, 3) := by decide +kernel
theorem dX3_hasRoom_4 : decode cX3_hasRoom 4 = .ok (.bipush 40, 2) := by decide +kernel
theorem dX3_hasRoom_6 : decode cX3_hasRoom 6 = .ok (.if_icmp .ge 7, 3) := by decide +kernel
theorem dX3_hasRoom_9 : decode cX3_hasRoom 9 = .ok (.iconst 1, 1) := by decide +kernel
theorem dX3_hasRoom_10 : decode cX3_hasRoom 10 = .ok (.goto 4, 3) := by decide +kernel
theorem dX3_hasRoom_13 : decode cX3_hasRoom 13 = .ok (.iconst 0, 1) := by decide +kernel
theorem dX3_hasRoom_14 : decode cX3_hasRoom 14 = .ok (.ireturn, 1) := by decide +kernel
theorem dX3_keepSpare_0 : decode cX3_keepSpare 0 = .ok (.aload_n 0, 1) := by decide +kernel
theorem dX3_keepSpare_1 : decode cX3_keepSpare 1 = .ok (.getfield 17, 3) := by decide +kernel
theorem dX3_keepSpare_4 : decode cX3_keepSpare 4 = .ok (.istore_n 1, 1) := by decide +kernel
theorem dX3_keepSpare_5 : decode cX3_keepSpare 5 = .ok (.aload_n 0, 1) := by decide +kernel
theorem dX3_keepSpare_6 : decode cX3_keepSpare 6 = .ok (.dup, 1) := by decide +kernel
theorem dX3_keepSpare_7 : decode cX3_keepSpare 7 = .ok (.getfield 17, 3) := by decide +kernel
theorem dX3_keepSpare_10 : decode cX3_keepSpare 10 = .ok (.aload_n 0, 1) := by decide +kernel
theorem dX3_keepSpare_11 : decode cX3_keepSpare 11 = .ok (.invokevirtual 22, 3) := by decide +kernel
theorem dX3_keepSpare_14 : decode cX3_keepSpare 14 = .ok (.ifCond .eq 7, 3) := by decide +kernel
theorem dX3_keepSpare_17 : decode cX3_keepSpare 17 = .ok (.iconst 1, 1) := by decide +kernel
theorem dX3_keepSpare_18 : decode cX3_keepSpare 18 = .ok (.goto 4, 3) := by decide +kernel
theorem dX3_keepSpare_21 : decode cX3_keepSpare 21 = .ok (.iconst 0, 1) := by decide +kernel
theorem dX3_keepSpare_22 : decode cX3_keepSpare 22 = .ok (.iadd, 1) := by decide +kernel
theorem dX3_keepSpare_23 : decode cX3_keepSpare 23 = .ok (.putfield 17, 3) := by decide +kernel
theorem dX3_keepSpare_26 : decode cX3_keepSpare 26 = .ok (.iload_n 1, 1) := by decide +kernel
theorem dX3_keepSpare_27 : decode cX3_keepSpare 27 = .ok (.ireturn, 1) := by decide +kernel
theorem dX3_shorten_0 : decode cX3_shorten 0 = .ok (.iload_n 1, 1) := by decide +kernel
theorem dX3_shorten_1 : decode cX3_shorten 1 = .ok (.ifCond .lt 11, 3) := by decide +kernel
theorem dX3_shorten_4 : decode cX3_shorten 4 = .ok (.iload_n 1, 1) := by decide +kernel
theorem dX3_shorten_5 : decode cX3_shorten 5 = .ok (.aload_n 0, 1) := by decide +kernel
theorem dX3_shorten_6 : decode cX3_shorten 6 = .ok (.getfield 17, 3) := by decide +kernel
theorem dX3_shorten_9 : decode cX3_shorten 9 = .ok (.if_icmp .le 5, 3) := by decide +kernel
theorem dX3_shorten_12 : decode cX3_shorten 12 = .ok (.iconst 0, 1) := by decide +kernel
theorem dX3_shorten_13 : decode cX3_shorten 13 = .ok (.ireturn, 1) := by decide +kernel
theorem dX3_shorten_14 : decode cX3_shorten 14 = .ok (.aload_n 0, 1) := by decide +kernel
theorem dX3_shorten_15 : decode cX3_shorten 15 = .ok (.iload_n 1, 1) := by decide +kernel
theorem dX3_shorten_16 : decode cX3_shorten 16 = .ok (.putfield 17, 3) := by decide +kernel
theorem dX3_shorten_19 : decode cX3_shorten 19 = .ok (.iconst 1, 1) := by decide +kernel
theorem dX3_shorten_20 : decode cX3_shorten 20 = .ok (.ireturn, 1) := by decide +kernel
theorem dX3_firstWrong_0 : decode cX3_firstWrong 0 = .ok (.iconst 0, 1) := by decide +kernel
theorem dX3_firstWrong_1 : decode cX3_firstWrong 1 = .ok (.istore_n 1, 1) := by decide +kernel
theorem dX3_firstWrong_2 : decode cX3_firstWrong 2 = .ok (.iload_n 1, 1) := by decide +kernel
theorem dX3_firstWrong_3 : decode cX3_firstWrong 3 = .ok (.aload_n 0, 1) := by decide +kernel
theorem dX3_firstWrong_4 : decode cX3_firstWrong 4 = .ok (.getfield 17, 3) := by decide +kernel
theorem dX3_firstWrong_7 : decode cX3_firstWrong 7 = .ok (.if_icmp .ge 19, 3) := by decide +kernel
theorem dX3_firstWrong_10 : decode cX3_firstWrong 10 = .ok (.aload_n 0, 1) := by decide +kernel
theorem dX3_firstWrong_11 : decode cX3_firstWrong 11 = .ok (.iload_n 1, 1) := by decide +kernel
theorem dX3_firstWrong_12 : decode cX3_firstWrong 12 = .ok (.invokevirtual 26, 3) := by decide +kernel
theorem dX3_firstWrong_15 : decode cX3_firstWrong 15 = .ok (.ifCond .eq 5, 3) := by decide +kernel
theorem dX3_firstWrong_18 : decode cX3_firstWrong 18 = .ok (.iload_n 1, 1) := by decide +kernel
theorem dX3_firstWrong_19 : decode cX3_firstWrong 19 = .ok (.ireturn, 1) := by decide +kernel
theorem dX3_firstWrong_20 : decode cX3_firstWrong 20 = .ok (.iinc 1 1, 3) := by decide +kernel
theorem dX3_firstWrong_23 : decode cX3_firstWrong 23 = .ok (.goto (-21), 3) := by decide +kernel
theorem dX3_firstWrong_26 : decode cX3_firstWrong 26 = .ok (.aload_n 0, 1) := by decide +kernel
theorem dX3_firstWrong_27 : decode cX3_firstWrong 27 = .ok (.getstatic 30, 3) := by decide +kernel
theorem dX3_firstWrong_30 : decode cX3_firstWrong 30 = .ok (.aload_n 0, 1) := by decide +kernel
theorem dX3_firstWrong_31 : decode cX3_firstWrong 31 = .ok (.getfield 17, 3) := by decide +kernel
theorem dX3_firstWrong_34 : decode cX3_firstWrong 34 = .ok (.invokevirtual 36, 3) := by decide +kernel
theorem dX3_firstWrong_37 : decode cX3_firstWrong 37 = .ok (.ifCond .eq 17, 3) := by decide +kernel
theorem dX3_firstWrong_40 : decode cX3_firstWrong 40 = .ok (.aload_n 0, 1) := by decide +kernel
theorem dX3_firstWrong_41 : decode cX3_firstWrong 41 = .ok (.getstatic 40, 3) := by decide +kernel
theorem dX3_firstWrong_44 : decode cX3_firstWrong 44 = .ok (.aload_n 0, 1) := by decide +kernel
theorem dX3_firstWrong_45 : decode cX3_firstWrong 45 = .ok (.getfield 17, 3) := by decide +kernel
theorem dX3_firstWrong_48 : decode cX3_firstWrong 48 = .ok (.invokevirtual 36, 3) := by decide +kernel
theorem dX3_firstWrong_51 : decode cX3_firstWrong 51 = .ok (.ifCond .ne 10, 3) := by decide +kernel
theorem dX3_firstWrong_54 : decode cX3_firstWrong 54 = .ok (.aload_n 0, 1) := by decide +kernel
theorem dX3_firstWrong_55 : decode cX3_firstWrong 55 = .ok (.getfield 17, 3) := by decide +kernel
theorem dX3_firstWrong_58 : decode cX3_firstWrong 58 = .ok (.goto 4, 3) := by decide +kernel
theorem dX3_firstWrong_61 : decode cX3_firstWrong 61 = .ok (.iconst (-1), 1) := by decide +kernel
theorem dX3_firstWrong_62 : decode cX3_firstWrong 62 = .ok (.ireturn, 1) := by decide +kernel
theorem dX3_isWrong_0 : decode cX3_isWrong 0 = .ok (.aload_n 0, 1) := by decide +kernel
theorem dX3_isWrong_1 : decode cX3_isWrong 1 = .ok (.getfield 11, 3) := by decide +kernel
theorem dX3_isWrong_4 : decode cX3_isWrong 4 = .ok (.iload_n 1, 1) := by decide +kernel
theorem dX3_isWrong_5 : decode cX3_isWrong 5 = .ok (.aaload, 1) := by decide +kernel
theorem dX3_isWrong_6 : decode cX3_isWrong 6 = .ok (.astore_n 2, 1) := by decide +kernel
theorem dX3_isWrong_7 : decode cX3_isWrong 7 = .ok (.getstatic 43, 3) := by decide +kernel
theorem dX3_isWrong_10 : decode cX3_isWrong 10 = .ok (.aload_n 2, 1) := by decide +kernel
theorem dX3_isWrong_11 : decode cX3_isWrong 11 = .ok (.invokevirtual 49, 3) := by decide +kernel
theorem dX3_isWrong_14 : decode cX3_isWrong 14 = .ok (.invokevirtual 53, 3) := by decide +kernel
theorem dX3_isWrong_17 : decode cX3_isWrong 17 = .ok (.iaload, 1) := by decide +kernel
theorem dX3_isWrong_18 : decode cX3_isWrong 18 = .ok (.tableswitch 264 1 6 #[38, 73, 121, 121, 170, 237], 38) := by decide +kernel
theorem dX3_isWrong_56 : decode cX3_isWrong 56 = .ok (.aload_n 0, 1) := by decide +kernel
theorem dX3_isWrong_57 : decode cX3_isWrong 57 = .ok (.iload_n 1, 1) := by decide +kernel
theorem dX3_isWrong_58 : decode cX3_isWrong 58 = .ok (.iconst 1, 1) := by decide +kernel
theorem dX3_isWrong_59 : decode cX3_isWrong 59 = .ok (.invokevirtual 57, 3) := by decide +kernel
theorem dX3_isWrong_62 : decode cX3_isWrong 62 = .ok (.ifCond .ne 23, 3) := by decide +kernel
theorem dX3_isWrong_65 : decode cX3_isWrong 65 = .ok (.aload_n 2, 1) := by decide +kernel
theorem dX3_isWrong_66 : decode cX3_isWrong 66 = .ok (.iconst 1, 1) := by decide +kernel
theorem dX3_isWrong_67 : decode cX3_isWrong 67 = .ok (.invokevirtual 61, 3) := by decide +kernel
theorem dX3_isWrong_70 : decode cX3_isWrong 70 = .ok (.ifCond .eq 15, 3) := by decide +kernel
theorem dX3_isWrong_73 : decode cX3_isWrong 73 = .ok (.aload_n 0, 1) := by decide +kernel
theorem dX3_isWrong_74 : decode cX3_isWrong 74 = .ok (.getstatic 40, 3) := by decide +kernel
theorem dX3_isWrong_77 : decode cX3_isWrong 77 = .ok (.iload_n 1, 1) := by decide +kernel
theorem dX3_isWrong_78 : decode cX3_isWrong 78 = .ok (.invokevirtual 36, 3) := by decide +kernel
theorem dX3_isWrong_81 : decode cX3_isWrong 81 = .ok (.iconst 3, 1) := by decide +kernel
theorem dX3_isWrong_82 : decode cX3_isWrong 82 = .ok (.if_icmp .lt 7, 3) := by decide +kernel
theorem dX3_isWrong_85 : decode cX3_isWrong 85 = .ok (.iconst 1, 1) := by decide +kernel
theorem dX3_isWrong_86 : decode cX3_isWrong 86 = .ok (.goto 4, 3) := by decide +kernel
theorem dX3_isWrong_89 : decode cX3_isWrong 89 = .ok (.iconst 0, 1) := by decide +kernel
theorem dX3_isWrong_90 : decode cX3_isWrong 90 = .ok (.ireturn, 1) := by decide +kernel
theorem dX3_isWrong_91 : decode cX3_isWrong 91 = .ok (.aload_n 0, 1) := by decide +kernel
theorem dX3_isWrong_92 : decode cX3_isWrong 92 = .ok (.iload_n 1, 1) := by decide +kernel
theorem dX3_isWrong_93 : decode cX3_isWrong 93 = .ok (.iconst 1, 1) := by decide +kernel
theorem dX3_isWrong_94 : decode cX3_isWrong 94 = .ok (.invokevirtual 57, 3) := by decide +kernel
theorem dX3_isWrong_97 : decode cX3_isWrong 97 = .ok (.ifCond .ne 36, 3) := by decide +kernel
theorem dX3_isWrong_100 : decode cX3_isWrong 100 = .ok (.aload_n 0, 1) := by decide +kernel
theorem dX3_isWrong_101 : decode cX3_isWrong 101 = .ok (.aload_n 2, 1) := by decide +kernel
theorem dX3_isWrong_102 : decode cX3_isWrong 102 = .ok (.iconst 0, 1) := by decide +kernel
theorem dX3_isWrong_103 : decode cX3_isWrong 103 = .ok (.invokevirtual 64, 3) := by decide +kernel
theorem dX3_isWrong_106 : decode cX3_isWrong 106 = .ok (.invokevirtual 68, 3) := by decide +kernel
theorem dX3_isWrong_109 : decode cX3_isWrong 109 = .ok (.ifCond .ne 24, 3) := by decide +kernel
theorem dX3_isWrong_112 : decode cX3_isWrong 112 = .ok (.aload_n 2, 1) := by decide +kernel
theorem dX3_isWrong_113 : decode cX3_isWrong 113 = .ok (.iconst 1, 1) := by decide +kernel
theorem dX3_isWrong_114 : decode cX3_isWrong 114 = .ok (.invokevirtual 61, 3) := by decide +kernel
theorem dX3_isWrong_117 : decode cX3_isWrong 117 = .ok (.ifCond .eq 16, 3) := by decide +kernel
theorem dX3_isWrong_120 : decode cX3_isWrong 120 = .ok (.aload_n 0, 1) := by decide +kernel
theorem dX3_isWrong_121 : decode cX3_isWrong 121 = .ok (.getstatic 30, 3) := by decide +kernel
theorem dX3_isWrong_124 : decode cX3_isWrong 124 = .ok (.iload_n 1, 1) := by decide +kernel
theorem dX3_isWrong_125 : decode cX3_isWrong 125 = .ok (.invokevirtual 36, 3) := by decide +kernel
theorem dX3_isWrong_128 : decode cX3_isWrong 128 = .ok (.bipush 8, 2) := by decide +kernel
theorem dX3_isWrong_130 : decode cX3_isWrong 130 = .ok (.if_icmp .lt 7, 3) := by decide +kernel
theorem dX3_isWrong_133 : decode cX3_isWrong 133 = .ok (.iconst 1, 1) := by decide +kernel
theorem dX3_isWrong_134 : decode cX3_isWrong 134 = .ok (.goto 4, 3) := by decide +kernel
theorem dX3_isWrong_137 : decode cX3_isWrong 137 = .ok (.iconst 0, 1) := by decide +kernel
theorem dX3_isWrong_138 : decode cX3_isWrong 138 = .ok (.ireturn, 1) := by decide +kernel
theorem dX3_isWrong_139 : decode cX3_isWrong 139 = .ok (.aload_n 0, 1) := by decide +kernel
theorem dX3_isWrong_140 : decode cX3_isWrong 140 = .ok (.aload_n 2, 1) := by decide +kernel
theorem dX3_isWrong_141 : decode cX3_isWrong 141 = .ok (.iconst 0, 1) := by decide +kernel
theorem dX3_isWrong_142 : decode cX3_isWrong 142 = .ok (.invokevirtual 64, 3) := by decide +kernel
theorem dX3_isWrong_145 : decode cX3_isWrong 145 = .ok (.invokevirtual 71, 3) := by decide +kernel
theorem dX3_isWrong_148 : decode cX3_isWrong 148 = .ok (.ifCond .eq 34, 3) := by decide +kernel
theorem dX3_isWrong_151 : decode cX3_isWrong 151 = .ok (.aload_n 2, 1) := by decide +kernel
theorem dX3_isWrong_152 : decode cX3_isWrong 152 = .ok (.iconst 1, 1) := by decide +kernel
theorem dX3_isWrong_153 : decode cX3_isWrong 153 = .ok (.invokevirtual 64, 3) := by decide +kernel
theorem dX3_isWrong_156 : decode cX3_isWrong 156 = .ok (.ldc 74, 2) := by decide +kernel
theorem dX3_isWrong_158 : decode cX3_isWrong 158 = .ok (.if_icmp .eq 15, 3) := by decide +kernel
theorem dX3_isWrong_161 : decode cX3_isWrong 161 = .ok (.aload_n 0, 1) := by decide +kernel
theorem dX3_isWrong_162 : decode cX3_isWrong 162 = .ok (.aload_n 2, 1) := by decide +kernel
theorem dX3_isWrong_163 : decode cX3_isWrong 163 = .ok (.iconst 1, 1) := by decide +kernel
theorem dX3_isWrong_164 : decode cX3_isWrong 164 = .ok (.invokevirtual 64, 3) := by decide +kernel
theorem dX3_isWrong_167 : decode cX3_isWrong 167 = .ok (.invokevirtual 71, 3) := by decide +kernel
theorem dX3_isWrong_170 : decode cX3_isWrong 170 = .ok (.ifCond .eq 12, 3) := by decide +kernel
theorem dX3_isWrong_173 : decode cX3_isWrong 173 = .ok (.aload_n 0, 1) := by decide +kernel
theorem dX3_isWrong_174 : decode cX3_isWrong 174 = .ok (.aload_n 2, 1) := by decide +kernel
theorem dX3_isWrong_175 : decode cX3_isWrong 175 = .ok (.iconst 2, 1) := by decide +kernel
theorem dX3_isWrong_176 : decode cX3_isWrong 176 = .ok (.invokevirtual 75, 3) := by decide +kernel
theorem dX3_isWrong_179 : decode cX3_isWrong 179 = .ok (.ifCond .ne 7, 3) := by decide +kernel
theorem dX3_isWrong_182 : decode cX3_isWrong 182 = .ok (.iconst 1, 1) := by decide +kernel
theorem dX3_isWrong_183 : decode cX3_isWrong 183 = .ok (.goto 4, 3) := by decide +kernel
theorem dX3_isWrong_186 : decode cX3_isWrong 186 = .ok (.iconst 0, 1) := by decide +kernel
theorem dX3_isWrong_187 : decode cX3_isWrong 187 = .ok (.ireturn, 1) := by decide +kernel
theorem dX3_isWrong_188 : decode cX3_isWrong 188 = .ok (.aload_n 0, 1) := by decide +kernel
theorem dX3_isWrong_189 : decode cX3_isWrong 189 = .ok (.iload_n 1, 1) := by decide +kernel
theorem dX3_isWrong_190 : decode cX3_isWrong 190 = .ok (.iconst 3, 1) := by decide +kernel
theorem dX3_isWrong_191 : decode cX3_isWrong 191 = .ok (.invokevirtual 57, 3) := by decide +kernel
theorem dX3_isWrong_194 : decode cX3_isWrong 194 = .ok (.ifCond .ne 55, 3) := by decide +kernel
theorem dX3_isWrong_197 : decode cX3_isWrong 197 = .ok (.aload_n 0, 1) := by decide +kernel
theorem dX3_isWrong_198 : decode cX3_isWrong 198 = .ok (.aload_n 2, 1) := by decide +kernel
theorem dX3_isWrong_199 : decode cX3_isWrong 199 = .ok (.iconst 0, 1) := by decide +kernel
theorem dX3_isWrong_200 : decode cX3_isWrong 200 = .ok (.invokevirtual 64, 3) := by decide +kernel
theorem dX3_isWrong_203 : decode cX3_isWrong 203 = .ok (.invokevirtual 79, 3) := by decide +kernel
theorem dX3_isWrong_206 : decode cX3_isWrong 206 = .ok (.ifCond .eq 43, 3) := by decide +kernel
theorem dX3_isWrong_209 : decode cX3_isWrong 209 = .ok (.aload_n 0, 1) := by decide +kernel
theorem dX3_isWrong_210 : decode cX3_isWrong 210 = .ok (.aload_n 2, 1) := by decide +kernel
theorem dX3_isWrong_211 : decode cX3_isWrong 211 = .ok (.iconst 1, 1) := by decide +kernel
theorem dX3_isWrong_212 : decode cX3_isWrong 212 = .ok (.invokevirtual 64, 3) := by decide +kernel
theorem dX3_isWrong_215 : decode cX3_isWrong 215 = .ok (.invokevirtual 79, 3) := by decide +kernel
theorem dX3_isWrong_218 : decode cX3_isWrong 218 = .ok (.ifCond .eq 31, 3) := by decide +kernel
theorem dX3_isWrong_221 : decode cX3_isWrong 221 = .ok (.aload_n 0, 1) := by decide +kernel
theorem dX3_isWrong_222 : decode cX3_isWrong 222 = .ok (.getstatic 40, 3) := by decide +kernel
theorem dX3_isWrong_225 : decode cX3_isWrong 225 = .ok (.aload_n 2, 1) := by decide +kernel
theorem dX3_isWrong_226 : decode cX3_isWrong 226 = .ok (.iconst 2, 1) := by decide +kernel
theorem dX3_isWrong_227 : decode cX3_isWrong 227 = .ok (.invokevirtual 64, 3) := by decide +kernel
theorem dX3_isWrong_230 : decode cX3_isWrong 230 = .ok (.invokevirtual 82, 3) := by decide +kernel
theorem dX3_isWrong_233 : decode cX3_isWrong 233 = .ok (.iconst (-1), 1) := by decide +kernel
theorem dX3_isWrong_234 : decode cX3_isWrong 234 = .ok (.if_icmp .eq 15, 3) := by decide +kernel
theorem dX3_isWrong_237 : decode cX3_isWrong 237 = .ok (.aload_n 0, 1) := by decide +kernel
theorem dX3_isWrong_238 : decode cX3_isWrong 238 = .ok (.aload_n 2, 1) := by decide +kernel
theorem dX3_isWrong_239 : decode cX3_isWrong 239 = .ok (.iconst 3, 1) := by decide +kernel
theorem dX3_isWrong_240 : decode cX3_isWrong 240 = .ok (.invokevirtual 64, 3) := by decide +kernel
theorem dX3_isWrong_243 : decode cX3_isWrong 243 = .ok (.invokevirtual 79, 3) := by decide +kernel
theorem dX3_isWrong_246 : decode cX3_isWrong 246 = .ok (.ifCond .ne 7, 3) := by decide +kernel
theorem dX3_isWrong_249 : decode cX3_isWrong 249 = .ok (.iconst 1, 1) := by decide +kernel
theorem dX3_isWrong_250 : decode cX3_isWrong 250 = .ok (.goto 4, 3) := by decide +kernel
theorem dX3_isWrong_253 : decode cX3_isWrong 253 = .ok (.iconst 0, 1) := by decide +kernel
theorem dX3_isWrong_254 : decode cX3_isWrong 254 = .ok (.ireturn, 1) := by decide +kernel
theorem dX3_isWrong_255 : decode cX3_isWrong 255 = .ok (.aload_n 0, 1) := by decide +kernel
theorem dX3_isWrong_256 : decode cX3_isWrong 256 = .ok (.iload_n 1, 1) := by decide +kernel
theorem dX3_isWrong_257 : decode cX3_isWrong 257 = .ok (.iconst 1, 1) := by decide +kernel
theorem dX3_isWrong_258 : decode cX3_isWrong 258 = .ok (.invokevirtual 57, 3) := by decide +kernel
theorem dX3_isWrong_261 : decode cX3_isWrong 261 = .ok (.ifCond .ne 15, 3) := by decide +kernel
theorem dX3_isWrong_264 : decode cX3_isWrong 264 = .ok (.aload_n 0, 1) := by decide +kernel
theorem dX3_isWrong_265 : decode cX3_isWrong 265 = .ok (.aload_n 2, 1) := by decide +kernel
theorem dX3_isWrong_266 : decode cX3_isWrong 266 = .ok (.iconst 0, 1) := by decide +kernel
theorem dX3_isWrong_267 : decode cX3_isWrong 267 = .ok (.invokevirtual 64, 3) := by decide +kernel
theorem dX3_isWrong_270 : decode cX3_isWrong 270 = .ok (.invokevirtual 79, 3) := by decide +kernel
theorem dX3_isWrong_273 : decode cX3_isWrong 273 = .ok (.ifCond .ne 7, 3) := by decide +kernel
theorem dX3_isWrong_276 : decode cX3_isWrong 276 = .ok (.iconst 1, 1) := by decide +kernel
theorem dX3_isWrong_277 : decode cX3_isWrong 277 = .ok (.goto 4, 3) := by decide +kernel
theorem dX3_isWrong_280 : decode cX3_isWrong 280 = .ok (.iconst 0, 1) := by decide +kernel
theorem dX3_isWrong_281 : decode cX3_isWrong 281 = .ok (.ireturn, 1) := by decide +kernel
theorem dX3_isWrong_282 : decode cX3_isWrong 282 = .ok (.aload_n 0, 1) := by decide +kernel
theorem dX3_isWrong_283 : decode cX3_isWrong 283 = .ok (.aload_n 2, 1) := by decide +kernel
theorem dX3_isWrong_284 : decode cX3_isWrong 284 = .ok (.iconst 0, 1) := by decide +kernel
theorem dX3_isWrong_285 : decode cX3_isWrong 285 = .ok (.invokevirtual 75, 3) := by decide +kernel
theorem dX3_isWrong_288 : decode cX3_isWrong 288 = .ok (.ifCond .ne 7, 3) := by decide +kernel
theorem dX3_isWrong_291 : decode cX3_isWrong 291 = .ok (.iconst 1, 1) := by decide +kernel
theorem dX3_isWrong_292 : decode cX3_isWrong 292 = .ok (.goto 4, 3) := by decide +kernel
theorem dX3_isWrong_295 : decode cX3_isWrong 295 = .ok (.iconst 0, 1) := by decide +kernel
theorem dX3_isWrong_296 : decode cX3_isWrong 296 = .ok (.ireturn, 1) := by decide +kernel
theorem dX3_repeats_0 : decode cX3_repeats 0 = .ok (.iconst 0, 1) := by decide +kernel
theorem dX3_repeats_1 : decode cX3_repeats 1 = .ok (.istore_n 3, 1) := by decide +kernel
theorem dX3_repeats_2 : decode cX3_repeats 2 = .ok (.iload_n 3, 1) := by decide +kernel
theorem dX3_repeats_3 : decode cX3_repeats 3 = .ok (.iload_n 1, 1) := by decide +kernel
theorem dX3_repeats_4 : decode cX3_repeats 4 = .ok (.if_icmp .ge 30, 3) := by decide +kernel
theorem dX3_repeats_7 : decode cX3_repeats 7 = .ok (.aload_n 0, 1) := by decide +kernel
theorem dX3_repeats_8 : decode cX3_repeats 8 = .ok (.getfield 11, 3) := by decide +kernel
theorem dX3_repeats_11 : decode cX3_repeats 11 = .ok (.iload_n 3, 1) := by decide +kernel
theorem dX3_repeats_12 : decode cX3_repeats 12 = .ok (.aaload, 1) := by decide +kernel
theorem dX3_repeats_13 : decode cX3_repeats 13 = .ok (.aload_n 0, 1) := by decide +kernel
theorem dX3_repeats_14 : decode cX3_repeats 14 = .ok (.getfield 11, 3) := by decide +kernel
theorem dX3_repeats_17 : decode cX3_repeats 17 = .ok (.iload_n 1, 1) := by decide +kernel
theorem dX3_repeats_18 : decode cX3_repeats 18 = .ok (.aaload, 1) := by decide +kernel
theorem dX3_repeats_19 : decode cX3_repeats 19 = .ok (.iload_n 2, 1) := by decide +kernel
theorem dX3_repeats_20 : decode cX3_repeats 20 = .ok (.invokevirtual 85, 3) := by decide +kernel
theorem dX3_repeats_23 : decode cX3_repeats 23 = .ok (.ifCond .eq 5, 3) := by decide +kernel
theorem dX3_repeats_26 : decode cX3_repeats 26 = .ok (.iconst 1, 1) := by decide +kernel
theorem dX3_repeats_27 : decode cX3_repeats 27 = .ok (.ireturn, 1) := by decide +kernel
theorem dX3_repeats_28 : decode cX3_repeats 28 = .ok (.iinc 3 1, 3) := by decide +kernel
theorem dX3_repeats_31 : decode cX3_repeats 31 = .ok (.goto (-29), 3) := by decide +kernel
theorem dX3_repeats_34 : decode cX3_repeats 34 = .ok (.iconst 0, 1) := by decide +kernel
theorem dX3_repeats_35 : decode cX3_repeats 35 = .ok (.ireturn, 1) := by decide +kernel
theorem dX3_howMany_0 : decode cX3_howMany 0 = .ok (.iconst 0, 1) := by decide +kernel
theorem dX3_howMany_1 : decode cX3_howMany 1 = .ok (.istore_n 3, 1) := by decide +kernel
theorem dX3_howMany_2 : decode cX3_howMany 2 = .ok (.iconst 0, 1) := by decide +kernel
theorem dX3_howMany_3 : decode cX3_howMany 3 = .ok (.istore 4, 2) := by decide +kernel
theorem dX3_howMany_5 : decode cX3_howMany 5 = .ok (.iload 4, 2) := by decide +kernel
theorem dX3_howMany_7 : decode cX3_howMany 7 = .ok (.iload_n 2, 1) := by decide +kernel
theorem dX3_howMany_8 : decode cX3_howMany 8 = .ok (.if_icmp .ge 31, 3) := by decide +kernel
theorem dX3_howMany_11 : decode cX3_howMany 11 = .ok (.iload_n 3, 1) := by decide +kernel
theorem dX3_howMany_12 : decode cX3_howMany 12 = .ok (.aload_n 0, 1) := by decide +kernel
theorem dX3_howMany_13 : decode cX3_howMany 13 = .ok (.getfield 11, 3) := by decide +kernel
theorem dX3_howMany_16 : decode cX3_howMany 16 = .ok (.iload 4, 2) := by decide +kernel
theorem dX3_howMany_18 : decode cX3_howMany 18 = .ok (.aaload, 1) := by decide +kernel
theorem dX3_howMany_19 : decode cX3_howMany 19 = .ok (.invokevirtual 49, 3) := by decide +kernel
theorem dX3_howMany_22 : decode cX3_howMany 22 = .ok (.aload_n 1, 1) := by decide +kernel
theorem dX3_howMany_23 : decode cX3_howMany 23 = .ok (.if_acmp .ne 7, 3) := by decide +kernel
theorem dX3_howMany_26 : decode cX3_howMany 26 = .ok (.iconst 1, 1) := by decide +kernel
theorem dX3_howMany_27 : decode cX3_howMany 27 = .ok (.goto 4, 3) := by decide +kernel
theorem dX3_howMany_30 : decode cX3_howMany 30 = .ok (.iconst 0, 1) := by decide +kernel
theorem dX3_howMany_31 : decode cX3_howMany 31 = .ok (.iadd, 1) := by decide +kernel
theorem dX3_howMany_32 : decode cX3_howMany 32 = .ok (.istore_n 3, 1) := by decide +kernel
theorem dX3_howMany_33 : decode cX3_howMany 33 = .ok (.iinc 4 1, 3) := by decide +kernel
theorem dX3_howMany_36 : decode cX3_howMany 36 = .ok (.goto (-31), 3) := by decide +kernel
theorem dX3_howMany_39 : decode cX3_howMany 39 = .ok (.iload_n 3, 1) := by decide +kernel
theorem dX3_howMany_40 : decode cX3_howMany 40 = .ok (.ireturn, 1) := by decide +kernel
theorem dX3_isType_0 : decode cX3_isType 0 = .ok (.aload_n 0, 1) := by decide +kernel
theorem dX3_isType_1 : decode cX3_isType 1 = .ok (.getstatic 30, 3) := by decide +kernel
theorem dX3_isType_4 : decode cX3_isType 4 = .ok (.iload_n 1, 1) := by decide +kernel
theorem dX3_isType_5 : decode cX3_isType 5 = .ok (.invokevirtual 82, 3) := by decide +kernel
theorem dX3_isType_8 : decode cX3_isType 8 = .ok (.iconst (-1), 1) := by decide +kernel
theorem dX3_isType_9 : decode cX3_isType 9 = .ok (.if_icmp .eq 7, 3) := by decide +kernel
theorem dX3_isType_12 : decode cX3_isType 12 = .ok (.iconst 1, 1) := by decide +kernel
theorem dX3_isType_13 : decode cX3_isType 13 = .ok (.goto 4, 3) := by decide +kernel
theorem dX3_isType_16 : decode cX3_isType 16 = .ok (.iconst 0, 1) := by decide +kernel
theorem dX3_isType_17 : decode cX3_isType 17 = .ok (.ireturn, 1) := by decide +kernel
theorem dX3_isAttribute_0 : decode cX3_isAttribute 0 = .ok (.iconst 0, 1) := by decide +kernel
theorem dX3_isAttribute_1 : decode cX3_isAttribute 1 = .ok (.istore_n 2, 1) := by decide +kernel
theorem dX3_isAttribute_2 : decode cX3_isAttribute 2 = .ok (.iload_n 2, 1) := by decide +kernel
theorem dX3_isAttribute_3 : decode cX3_isAttribute 3 = .ok (.aload_n 0, 1) := by decide +kernel
theorem dX3_isAttribute_4 : decode cX3_isAttribute 4 = .ok (.getfield 17, 3) := by decide +kernel
theorem dX3_isAttribute_7 : decode cX3_isAttribute 7 = .ok (.if_icmp .ge 41, 3) := by decide +kernel
theorem dX3_isAttribute_10 : decode cX3_isAttribute 10 = .ok (.aload_n 0, 1) := by decide +kernel
theorem dX3_isAttribute_11 : decode cX3_isAttribute 11 = .ok (.getfield 11, 3) := by decide +kernel
theorem dX3_isAttribute_14 : decode cX3_isAttribute 14 = .ok (.iload_n 2, 1) := by decide +kernel
theorem dX3_isAttribute_15 : decode cX3_isAttribute 15 = .ok (.aaload, 1) := by decide +kernel
theorem dX3_isAttribute_16 : decode cX3_isAttribute 16 = .ok (.invokevirtual 49, 3) := by decide +kernel
theorem dX3_isAttribute_19 : decode cX3_isAttribute 19 = .ok (.getstatic 30, 3) := by decide +kernel
theorem dX3_isAttribute_22 : decode cX3_isAttribute 22 = .ok (.if_acmp .ne 20, 3) := by decide +kernel
theorem dX3_isAttribute_25 : decode cX3_isAttribute 25 = .ok (.aload_n 0, 1) := by decide +kernel
theorem dX3_isAttribute_26 : decode cX3_isAttribute 26 = .ok (.getfield 11, 3) := by decide +kernel
theorem dX3_isAttribute_29 : decode cX3_isAttribute 29 = .ok (.iload_n 2, 1) := by decide +kernel
theorem dX3_isAttribute_30 : decode cX3_isAttribute 30 = .ok (.aaload, 1) := by decide +kernel
theorem dX3_isAttribute_31 : decode cX3_isAttribute 31 = .ok (.iload_n 1, 1) := by decide +kernel
theorem dX3_isAttribute_32 : decode cX3_isAttribute 32 = .ok (.iconst 1, 1) := by decide +kernel
theorem dX3_isAttribute_33 : decode cX3_isAttribute 33 = .ok (.invokevirtual 88, 3) := by decide +kernel
theorem dX3_isAttribute_36 : decode cX3_isAttribute 36 = .ok (.iconst (-1), 1) := by decide +kernel
theorem dX3_isAttribute_37 : decode cX3_isAttribute 37 = .ok (.if_icmp .eq 5, 3) := by decide +kernel
theorem dX3_isAttribute_40 : decode cX3_isAttribute 40 = .ok (.iconst 1, 1) := by decide +kernel
theorem dX3_isAttribute_41 : decode cX3_isAttribute 41 = .ok (.ireturn, 1) := by decide +kernel
theorem dX3_isAttribute_42 : decode cX3_isAttribute 42 = .ok (.iinc 2 1, 3) := by decide +kernel
theorem dX3_isAttribute_45 : decode cX3_isAttribute 45 = .ok (.goto (-43), 3) := by decide +kernel
theorem dX3_isAttribute_48 : decode cX3_isAttribute 48 = .ok (.iconst 0, 1) := by decide +kernel
theorem dX3_isAttribute_49 : decode cX3_isAttribute 49 = .ok (.ireturn, 1) := by decide +kernel
theorem dX3_isDoer_0 : decode cX3_isDoer 0 = .ok (.aload_n 0, 1) := by decide +kernel
theorem dX3_isDoer_1 : decode cX3_isDoer 1 = .ok (.iload_n 1, 1) := by decide +kernel
theorem dX3_isDoer_2 : decode cX3_isDoer 2 = .ok (.invokevirtual 79, 3) := by decide +kernel
theorem dX3_isDoer_5 : decode cX3_isDoer 5 = .ok (.ifCond .ne 11, 3) := by decide +kernel
theorem dX3_isDoer_8 : decode cX3_isDoer 8 = .ok (.aload_n 0, 1) := by decide +kernel
theorem dX3_isDoer_9 : decode cX3_isDoer 9 = .ok (.iload_n 1, 1) := by decide +kernel
theorem dX3_isDoer_10 : decode cX3_isDoer 10 = .ok (.invokevirtual 68, 3) := by decide +kernel
theorem dX3_isDoer_13 : decode cX3_isDoer 13 = .ok (.ifCond .eq 7, 3) := by decide +kernel
theorem dX3_isDoer_16 : decode cX3_isDoer 16 = .ok (.iconst 1, 1) := by decide +kernel
theorem dX3_isDoer_17 : decode cX3_isDoer 17 = .ok (.goto 4, 3) := by decide +kernel
theorem dX3_isDoer_20 : decode cX3_isDoer 20 = .ok (.iconst 0, 1) := by decide +kernel
theorem dX3_isDoer_21 : decode cX3_isDoer 21 = .ok (.ireturn, 1) := by decide +kernel
theorem dX3_declaresPermissions_0 : decode cX3_declaresPermissions 0 = .ok (.iload_n 2, 1) := by decide +kernel
theorem dX3_declaresPermissions_1 : decode cX3_declaresPermissions 1 = .ok (.iconst 1, 1) := by decide +kernel
theorem dX3_declaresPermissions_2 : decode cX3_declaresPermissions 2 = .ok (.iadd, 1) := by decide +kernel
theorem dX3_declaresPermissions_3 : decode cX3_declaresPermissions 3 = .ok (.istore_n 3, 1) := by decide +kernel
theorem dX3_declaresPermissions_4 : decode cX3_declaresPermissions 4 = .ok (.iload_n 3, 1) := by decide +kernel
theorem dX3_declaresPermissions_5 : decode cX3_declaresPermissions 5 = .ok (.aload_n 1, 1) := by decide +kernel
theorem dX3_declaresPermissions_6 : decode cX3_declaresPermissions 6 = .ok (.invokevirtual 92, 3) := by decide +kernel
theorem dX3_declaresPermissions_9 : decode cX3_declaresPermissions 9 = .ok (.if_icmp .ge 28, 3) := by decide +kernel
theorem dX3_declaresPermissions_12 : decode cX3_declaresPermissions 12 = .ok (.aload_n 0, 1) := by decide +kernel
theorem dX3_declaresPermissions_13 : decode cX3_declaresPermissions 13 = .ok (.aload_n 1, 1) := by decide +kernel
theorem dX3_declaresPermissions_14 : decode cX3_declaresPermissions 14 = .ok (.iload_n 2, 1) := by decide +kernel
theorem dX3_declaresPermissions_15 : decode cX3_declaresPermissions 15 = .ok (.invokevirtual 64, 3) := by decide +kernel
theorem dX3_declaresPermissions_18 : decode cX3_declaresPermissions 18 = .ok (.aload_n 1, 1) := by decide +kernel
theorem dX3_declaresPermissions_19 : decode cX3_declaresPermissions 19 = .ok (.iload_n 3, 1) := by decide +kernel
theorem dX3_declaresPermissions_20 : decode cX3_declaresPermissions 20 = .ok (.invokevirtual 64, 3) := by decide +kernel
theorem dX3_declaresPermissions_23 : decode cX3_declaresPermissions 23 = .ok (.invokevirtual 94, 3) := by decide +kernel
theorem dX3_declaresPermissions_26 : decode cX3_declaresPermissions 26 = .ok (.ifCond .ne 5, 3) := by decide +kernel
theorem dX3_declaresPermissions_29 : decode cX3_declaresPermissions 29 = .ok (.iconst 0, 1) := by decide +kernel
theorem dX3_declaresPermissions_30 : decode cX3_declaresPermissions 30 = .ok (.ireturn, 1) := by decide +kernel
theorem dX3_declaresPermissions_31 : decode cX3_declaresPermissions 31 = .ok (.iinc 3 1, 3) := by decide +kernel
theorem dX3_declaresPermissions_34 : decode cX3_declaresPermissions 34 = .ok (.goto (-30), 3) := by decide +kernel
theorem dX3_declaresPermissions_37 : decode cX3_declaresPermissions 37 = .ok (.iconst 1, 1) := by decide +kernel
theorem dX3_declaresPermissions_38 : decode cX3_declaresPermissions 38 = .ok (.ireturn, 1) := by decide +kernel
theorem dX3_declaresPermission_0 : decode cX3_declaresPermission 0 = .ok (.iconst 0, 1) := by decide +kernel
theorem dX3_declaresPermission_1 : decode cX3_declaresPermission 1 = .ok (.istore_n 3, 1) := by decide +kernel
theorem dX3_declaresPermission_2 : decode cX3_declaresPermission 2 = .ok (.iload_n 3, 1) := by decide +kernel
theorem dX3_declaresPermission_3 : decode cX3_declaresPermission 3 = .ok (.aload_n 0, 1) := by decide +kernel
theorem dX3_declaresPermission_4 : decode cX3_declaresPermission 4 = .ok (.getfield 17, 3) := by decide +kernel
theorem dX3_declaresPermission_7 : decode cX3_declaresPermission 7 = .ok (.if_icmp .ge 51, 3) := by decide +kernel
theorem dX3_declaresPermission_10 : decode cX3_declaresPermission 10 = .ok (.aload_n 0, 1) := by decide +kernel
theorem dX3_declaresPermission_11 : decode cX3_declaresPermission 11 = .ok (.getfield 11, 3) := by decide +kernel
theorem dX3_declaresPermission_14 : decode cX3_declaresPermission 14 = .ok (.iload_n 3, 1) := by decide +kernel
theorem dX3_declaresPermission_15 : decode cX3_declaresPermission 15 = .ok (.aaload, 1) := by decide +kernel
theorem dX3_declaresPermission_16 : decode cX3_declaresPermission 16 = .ok (.astore 4, 2) := by decide +kernel
theorem dX3_declaresPermission_18 : decode cX3_declaresPermission 18 = .ok (.aload 4, 2) := by decide +kernel
theorem dX3_declaresPermission_20 : decode cX3_declaresPermission 20 = .ok (.invokevirtual 49, 3) := by decide +kernel
theorem dX3_declaresPermission_23 : decode cX3_declaresPermission 23 = .ok (.getstatic 40, 3) := by decide +kernel
theorem dX3_declaresPermission_26 : decode cX3_declaresPermission 26 = .ok (.if_acmp .ne 26, 3) := by decide +kernel
theorem dX3_declaresPermission_29 : decode cX3_declaresPermission 29 = .ok (.aload 4, 2) := by decide +kernel
theorem dX3_declaresPermission_31 : decode cX3_declaresPermission 31 = .ok (.iconst 0, 1) := by decide +kernel
theorem dX3_declaresPermission_32 : decode cX3_declaresPermission 32 = .ok (.invokevirtual 64, 3) := by decide +kernel
theorem dX3_declaresPermission_35 : decode cX3_declaresPermission 35 = .ok (.iload_n 1, 1) := by decide +kernel
theorem dX3_declaresPermission_36 : decode cX3_declaresPermission 36 = .ok (.if_icmp .ne 16, 3) := by decide +kernel
theorem dX3_declaresPermission_39 : decode cX3_declaresPermission 39 = .ok (.aload 4, 2) := by decide +kernel
theorem dX3_declaresPermission_41 : decode cX3_declaresPermission 41 = .ok (.iload_n 2, 1) := by decide +kernel
theorem dX3_declaresPermission_42 : decode cX3_declaresPermission 42 = .ok (.iconst 1, 1) := by decide +kernel
theorem dX3_declaresPermission_43 : decode cX3_declaresPermission 43 = .ok (.invokevirtual 88, 3) := by decide +kernel
theorem dX3_declaresPermission_46 : decode cX3_declaresPermission 46 = .ok (.iconst (-1), 1) := by decide +kernel
theorem dX3_declaresPermission_47 : decode cX3_declaresPermission 47 = .ok (.if_icmp .eq 5, 3) := by decide +kernel
theorem dX3_declaresPermission_50 : decode cX3_declaresPermission 50 = .ok (.iconst 1, 1) := by decide +kernel
theorem dX3_declaresPermission_51 : decode cX3_declaresPermission 51 = .ok (.ireturn, 1) := by decide +kernel
theorem dX3_declaresPermission_52 : decode cX3_declaresPermission 52 = .ok (.iinc 3 1, 3) := by decide +kernel
theorem dX3_declaresPermission_55 : decode cX3_declaresPermission 55 = .ok (.goto (-53), 3) := by decide +kernel
theorem dX3_declaresPermission_58 : decode cX3_declaresPermission 58 = .ok (.iconst 0, 1) := by decide +kernel
theorem dX3_declaresPermission_59 : decode cX3_declaresPermission 59 = .ok (.ireturn, 1) := by decide +kernel
theorem dX3_numberOf_0 : decode cX3_numberOf 0 = .ok (.iconst 0, 1) := by decide +kernel
theorem dX3_numberOf_1 : decode cX3_numberOf 1 = .ok (.istore_n 3, 1) := by decide +kernel
theorem dX3_numberOf_2 : decode cX3_numberOf 2 = .ok (.iconst 0, 1) := by decide +kernel
theorem dX3_numberOf_3 : decode cX3_numberOf 3 = .ok (.istore 4, 2) := by decide +kernel
theorem dX3_numberOf_5 : decode cX3_numberOf 5 = .ok (.iload 4, 2) := by decide +kernel
theorem dX3_numberOf_7 : decode cX3_numberOf 7 = .ok (.aload_n 0, 1) := by decide +kernel
theorem dX3_numberOf_8 : decode cX3_numberOf 8 = .ok (.getfield 17, 3) := by decide +kernel
theorem dX3_numberOf_11 : decode cX3_numberOf 11 = .ok (.if_icmp .ge 43, 3) := by decide +kernel
theorem dX3_numberOf_14 : decode cX3_numberOf 14 = .ok (.aload_n 0, 1) := by decide +kernel
theorem dX3_numberOf_15 : decode cX3_numberOf 15 = .ok (.getfield 11, 3) := by decide +kernel
theorem dX3_numberOf_18 : decode cX3_numberOf 18 = .ok (.iload 4, 2) := by decide +kernel
theorem dX3_numberOf_20 : decode cX3_numberOf 20 = .ok (.aaload, 1) := by decide +kernel
theorem dX3_numberOf_21 : decode cX3_numberOf 21 = .ok (.invokevirtual 49, 3) := by decide +kernel
theorem dX3_numberOf_24 : decode cX3_numberOf 24 = .ok (.aload_n 1, 1) := by decide +kernel
theorem dX3_numberOf_25 : decode cX3_numberOf 25 = .ok (.if_acmp .ne 23, 3) := by decide +kernel
theorem dX3_numberOf_28 : decode cX3_numberOf 28 = .ok (.aload_n 0, 1) := by decide +kernel
theorem dX3_numberOf_29 : decode cX3_numberOf 29 = .ok (.getfield 11, 3) := by decide +kernel
theorem dX3_numberOf_32 : decode cX3_numberOf 32 = .ok (.iload 4, 2) := by decide +kernel
theorem dX3_numberOf_34 : decode cX3_numberOf 34 = .ok (.aaload, 1) := by decide +kernel
theorem dX3_numberOf_35 : decode cX3_numberOf 35 = .ok (.iconst 0, 1) := by decide +kernel
theorem dX3_numberOf_36 : decode cX3_numberOf 36 = .ok (.invokevirtual 64, 3) := by decide +kernel
theorem dX3_numberOf_39 : decode cX3_numberOf 39 = .ok (.iload_n 2, 1) := by decide +kernel
theorem dX3_numberOf_40 : decode cX3_numberOf 40 = .ok (.if_icmp .ne 5, 3) := by decide +kernel
theorem dX3_numberOf_43 : decode cX3_numberOf 43 = .ok (.iload_n 3, 1) := by decide +kernel
theorem dX3_numberOf_44 : decode cX3_numberOf 44 = .ok (.ireturn, 1) := by decide +kernel
theorem dX3_numberOf_45 : decode cX3_numberOf 45 = .ok (.iinc 3 1, 3) := by decide +kernel
theorem dX3_numberOf_48 : decode cX3_numberOf 48 = .ok (.iinc 4 1, 3) := by decide +kernel
theorem dX3_numberOf_51 : decode cX3_numberOf 51 = .ok (.goto (-46), 3) := by decide +kernel
theorem dX3_numberOf_54 : decode cX3_numberOf 54 = .ok (.iconst (-1), 1) := by decide +kernel
theorem dX3_numberOf_55 : decode cX3_numberOf 55 = .ok (.ireturn, 1) := by decide +kernel
theorem dX3_typesNamed_0 : decode cX3_typesNamed 0 = .ok (.iconst 0, 1) := by decide +kernel
theorem dX3_typesNamed_1 : decode cX3_typesNamed 1 = .ok (.istore_n 2, 1) := by decide +kernel
theorem dX3_typesNamed_2 : decode cX3_typesNamed 2 = .ok (.iconst 0, 1) := by decide +kernel
theorem dX3_typesNamed_3 : decode cX3_typesNamed 3 = .ok (.istore_n 3, 1) := by decide +kernel
theorem dX3_typesNamed_4 : decode cX3_typesNamed 4 = .ok (.iconst 0, 1) := by decide +kernel
theorem dX3_typesNamed_5 : decode cX3_typesNamed 5 = .ok (.istore 4, 2) := by decide +kernel
theorem dX3_typesNamed_7 : decode cX3_typesNamed 7 = .ok (.iload 4, 2) := by decide +kernel
theorem dX3_typesNamed_9 : decode cX3_typesNamed 9 = .ok (.aload_n 0, 1) := by decide +kernel
theorem dX3_typesNamed_10 : decode cX3_typesNamed 10 = .ok (.getfield 17, 3) := by decide +kernel
theorem dX3_typesNamed_13 : decode cX3_typesNamed 13 = .ok (.if_icmp .ge 54, 3) := by decide +kernel
theorem dX3_typesNamed_16 : decode cX3_typesNamed 16 = .ok (.aload_n 0, 1) := by decide +kernel
theorem dX3_typesNamed_17 : decode cX3_typesNamed 17 = .ok (.getfield 11, 3) := by decide +kernel
theorem dX3_typesNamed_20 : decode cX3_typesNamed 20 = .ok (.iload 4, 2) := by decide +kernel
theorem dX3_typesNamed_22 : decode cX3_typesNamed 22 = .ok (.aaload, 1) := by decide +kernel
theorem dX3_typesNamed_23 : decode cX3_typesNamed 23 = .ok (.invokevirtual 49, 3) := by decide +kernel
theorem dX3_typesNamed_26 : decode cX3_typesNamed 26 = .ok (.getstatic 30, 3) := by decide +kernel
theorem dX3_typesNamed_29 : decode cX3_typesNamed 29 = .ok (.if_acmp .ne 32, 3) := by decide +kernel
theorem dX3_typesNamed_32 : decode cX3_typesNamed 32 = .ok (.iload_n 2, 1) := by decide +kernel
theorem dX3_typesNamed_33 : decode cX3_typesNamed 33 = .ok (.aload_n 0, 1) := by decide +kernel
theorem dX3_typesNamed_34 : decode cX3_typesNamed 34 = .ok (.getfield 11, 3) := by decide +kernel
theorem dX3_typesNamed_37 : decode cX3_typesNamed 37 = .ok (.iload 4, 2) := by decide +kernel
theorem dX3_typesNamed_39 : decode cX3_typesNamed 39 = .ok (.aaload, 1) := by decide +kernel
theorem dX3_typesNamed_40 : decode cX3_typesNamed 40 = .ok (.iload_n 1, 1) := by decide +kernel
theorem dX3_typesNamed_41 : decode cX3_typesNamed 41 = .ok (.iconst 0, 1) := by decide +kernel
theorem dX3_typesNamed_42 : decode cX3_typesNamed 42 = .ok (.invokevirtual 88, 3) := by decide +kernel
theorem dX3_typesNamed_45 : decode cX3_typesNamed 45 = .ok (.iconst (-1), 1) := by decide +kernel
theorem dX3_typesNamed_46 : decode cX3_typesNamed 46 = .ok (.if_icmp .eq 9, 3) := by decide +kernel
theorem dX3_typesNamed_49 : decode cX3_typesNamed 49 = .ok (.iconst 1, 1) := by decide +kernel
theorem dX3_typesNamed_50 : decode cX3_typesNamed 50 = .ok (.iload_n 3, 1) := by decide +kernel
theorem dX3_typesNamed_51 : decode cX3_typesNamed 51 = .ok (.ishl, 1) := by decide +kernel
theorem dX3_typesNamed_52 : decode cX3_typesNamed 52 = .ok (.goto 4, 3) := by decide +kernel
theorem dX3_typesNamed_55 : decode cX3_typesNamed 55 = .ok (.iconst 0, 1) := by decide +kernel
theorem dX3_typesNamed_56 : decode cX3_typesNamed 56 = .ok (.ior, 1) := by decide +kernel
theorem dX3_typesNamed_57 : decode cX3_typesNamed 57 = .ok (.istore_n 2, 1) := by decide +kernel
theorem dX3_typesNamed_58 : decode cX3_typesNamed 58 = .ok (.iinc 3 1, 3) := by decide +kernel
theorem dX3_typesNamed_61 : decode cX3_typesNamed 61 = .ok (.iinc 4 1, 3) := by decide +kernel
theorem dX3_typesNamed_64 : decode cX3_typesNamed 64 = .ok (.goto (-57), 3) := by decide +kernel
theorem dX3_typesNamed_67 : decode cX3_typesNamed 67 = .ok (.iload_n 2, 1) := by decide +kernel
theorem dX3_typesNamed_68 : decode cX3_typesNamed 68 = .ok (.ireturn, 1) := by decide +kernel
theorem dX3_maskOf_0 : decode cX3_maskOf 0 = .ok (.iconst 0, 1) := by decide +kernel
theorem dX3_maskOf_1 : decode cX3_maskOf 1 = .ok (.istore_n 3, 1) := by decide +kernel
theorem dX3_maskOf_2 : decode cX3_maskOf 2 = .ok (.iconst 0, 1) := by decide +kernel
theorem dX3_maskOf_3 : decode cX3_maskOf 3 = .ok (.istore 4, 2) := by decide +kernel
theorem dX3_maskOf_5 : decode cX3_maskOf 5 = .ok (.iload 4, 2) := by decide +kernel
theorem dX3_maskOf_7 : decode cX3_maskOf 7 = .ok (.aload_n 0, 1) := by decide +kernel
theorem dX3_maskOf_8 : decode cX3_maskOf 8 = .ok (.getfield 17, 3) := by decide +kernel
theorem dX3_maskOf_11 : decode cX3_maskOf 11 = .ok (.if_icmp .ge 102, 3) := by decide +kernel
theorem dX3_maskOf_14 : decode cX3_maskOf 14 = .ok (.aload_n 0, 1) := by decide +kernel
theorem dX3_maskOf_15 : decode cX3_maskOf 15 = .ok (.getfield 11, 3) := by decide +kernel
theorem dX3_maskOf_18 : decode cX3_maskOf 18 = .ok (.iload 4, 2) := by decide +kernel
theorem dX3_maskOf_20 : decode cX3_maskOf 20 = .ok (.aaload, 1) := by decide +kernel
theorem dX3_maskOf_21 : decode cX3_maskOf 21 = .ok (.invokevirtual 49, 3) := by decide +kernel
theorem dX3_maskOf_24 : decode cX3_maskOf 24 = .ok (.getstatic 40, 3) := by decide +kernel
theorem dX3_maskOf_27 : decode cX3_maskOf 27 = .ok (.if_acmp .ne 80, 3) := by decide +kernel
theorem dX3_maskOf_30 : decode cX3_maskOf 30 = .ok (.aload_n 0, 1) := by decide +kernel
theorem dX3_maskOf_31 : decode cX3_maskOf 31 = .ok (.getfield 11, 3) := by decide +kernel
theorem dX3_maskOf_34 : decode cX3_maskOf 34 = .ok (.iload 4, 2) := by decide +kernel
theorem dX3_maskOf_36 : decode cX3_maskOf 36 = .ok (.aaload, 1) := by decide +kernel
theorem dX3_maskOf_37 : decode cX3_maskOf 37 = .ok (.iconst 0, 1) := by decide +kernel
theorem dX3_maskOf_38 : decode cX3_maskOf 38 = .ok (.invokevirtual 64, 3) := by decide +kernel
theorem dX3_maskOf_41 : decode cX3_maskOf 41 = .ok (.aload_n 1, 1) := by decide +kernel
theorem dX3_maskOf_42 : decode cX3_maskOf 42 = .ok (.iload_n 2, 1) := by decide +kernel
theorem dX3_maskOf_43 : decode cX3_maskOf 43 = .ok (.invokevirtual 64, 3) := by decide +kernel
theorem dX3_maskOf_46 : decode cX3_maskOf 46 = .ok (.if_icmp .ne 61, 3) := by decide +kernel
theorem dX3_maskOf_49 : decode cX3_maskOf 49 = .ok (.iload_n 2, 1) := by decide +kernel
theorem dX3_maskOf_50 : decode cX3_maskOf 50 = .ok (.iconst 1, 1) := by decide +kernel
theorem dX3_maskOf_51 : decode cX3_maskOf 51 = .ok (.iadd, 1) := by decide +kernel
theorem dX3_maskOf_52 : decode cX3_maskOf 52 = .ok (.istore 5, 2) := by decide +kernel
theorem dX3_maskOf_54 : decode cX3_maskOf 54 = .ok (.iload 5, 2) := by decide +kernel
theorem dX3_maskOf_56 : decode cX3_maskOf 56 = .ok (.aload_n 1, 1) := by decide +kernel
theorem dX3_maskOf_57 : decode cX3_maskOf 57 = .ok (.invokevirtual 92, 3) := by decide +kernel
theorem dX3_maskOf_60 : decode cX3_maskOf 60 = .ok (.if_icmp .ge 47, 3) := by decide +kernel
theorem dX3_maskOf_63 : decode cX3_maskOf 63 = .ok (.aload_n 0, 1) := by decide +kernel
theorem dX3_maskOf_64 : decode cX3_maskOf 64 = .ok (.getfield 11, 3) := by decide +kernel
theorem dX3_maskOf_67 : decode cX3_maskOf 67 = .ok (.iload 4, 2) := by decide +kernel
theorem dX3_maskOf_69 : decode cX3_maskOf 69 = .ok (.aaload, 1) := by decide +kernel
theorem dX3_maskOf_70 : decode cX3_maskOf 70 = .ok (.aload_n 1, 1) := by decide +kernel
theorem dX3_maskOf_71 : decode cX3_maskOf 71 = .ok (.iload 5, 2) := by decide +kernel
theorem dX3_maskOf_73 : decode cX3_maskOf 73 = .ok (.invokevirtual 64, 3) := by decide +kernel
theorem dX3_maskOf_76 : decode cX3_maskOf 76 = .ok (.iconst 1, 1) := by decide +kernel
theorem dX3_maskOf_77 : decode cX3_maskOf 77 = .ok (.invokevirtual 88, 3) := by decide +kernel
theorem dX3_maskOf_80 : decode cX3_maskOf 80 = .ok (.istore 6, 2) := by decide +kernel
theorem dX3_maskOf_82 : decode cX3_maskOf 82 = .ok (.iload_n 3, 1) := by decide +kernel
theorem dX3_maskOf_83 : decode cX3_maskOf 83 = .ok (.iload 6, 2) := by decide +kernel
theorem dX3_maskOf_85 : decode cX3_maskOf 85 = .ok (.iconst (-1), 1) := by decide +kernel
theorem dX3_maskOf_86 : decode cX3_maskOf 86 = .ok (.if_icmp .ne 7, 3) := by decide +kernel
theorem dX3_maskOf_89 : decode cX3_maskOf 89 = .ok (.iconst 0, 1) := by decide +kernel
theorem dX3_maskOf_90 : decode cX3_maskOf 90 = .ok (.goto 9, 3) := by decide +kernel
theorem dX3_maskOf_93 : decode cX3_maskOf 93 = .ok (.iconst 1, 1) := by decide +kernel
theorem dX3_maskOf_94 : decode cX3_maskOf 94 = .ok (.iload 6, 2) := by decide +kernel
theorem dX3_maskOf_96 : decode cX3_maskOf 96 = .ok (.iconst 1, 1) := by decide +kernel
theorem dX3_maskOf_97 : decode cX3_maskOf 97 = .ok (.isub, 1) := by decide +kernel
theorem dX3_maskOf_98 : decode cX3_maskOf 98 = .ok (.ishl, 1) := by decide +kernel
theorem dX3_maskOf_99 : decode cX3_maskOf 99 = .ok (.ior, 1) := by decide +kernel
theorem dX3_maskOf_100 : decode cX3_maskOf 100 = .ok (.istore_n 3, 1) := by decide +kernel
theorem dX3_maskOf_101 : decode cX3_maskOf 101 = .ok (.iinc 5 1, 3) := by decide +kernel
theorem dX3_maskOf_104 : decode cX3_maskOf 104 = .ok (.goto (-50), 3) := by decide +kernel
theorem dX3_maskOf_107 : decode cX3_maskOf 107 = .ok (.iinc 4 1, 3) := by decide +kernel
theorem dX3_maskOf_110 : decode cX3_maskOf 110 = .ok (.goto (-105), 3) := by decide +kernel
theorem dX3_maskOf_113 : decode cX3_maskOf 113 = .ok (.iload_n 3, 1) := by decide +kernel
theorem dX3_maskOf_114 : decode cX3_maskOf 114 = .ok (.ireturn, 1) := by decide +kernel
theorem dX4_encode_0 : decode cX4_encode 0 = .ok (.aload_n 1, 1) := by decide +kernel
theorem dX4_encode_1 : decode cX4_encode 1 = .ok (.invokevirtual 9, 3) := by decide +kernel
theorem dX4_encode_4 : decode cX4_encode 4 = .ok (.aload_n 1, 1) := by decide +kernel
theorem dX4_encode_5 : decode cX4_encode 5 = .ok (.aload_n 0, 1) := by decide +kernel
theorem dX4_encode_6 : decode cX4_encode 6 = .ok (.invokevirtual 14, 3) := by decide +kernel
theorem dX4_encode_9 : decode cX4_encode 9 = .ok (.invokevirtual 20, 3) := by decide +kernel
theorem dX4_encode_12 : decode cX4_encode 12 = .ok (.aload_n 1, 1) := by decide +kernel
theorem dX4_encode_13 : decode cX4_encode 13 = .ok (.aload_n 0, 1) := by decide +kernel
theorem dX4_encode_14 : decode cX4_encode 14 = .ok (.invokevirtual 24, 3) := by decide +kernel
theorem dX4_encode_17 : decode cX4_encode 17 = .ok (.invokevirtual 20, 3) := by decide +kernel
theorem dX4_encode_20 : decode cX4_encode 20 = .ok (.iconst 0, 1) := by decide +kernel
theorem dX4_encode_21 : decode cX4_encode 21 = .ok (.istore_n 2, 1) := by decide +kernel
theorem dX4_encode_22 : decode cX4_encode 22 = .ok (.iload_n 2, 1) := by decide +kernel
theorem dX4_encode_23 : decode cX4_encode 23 = .ok (.aload_n 0, 1) := by decide +kernel
theorem dX4_encode_24 : decode cX4_encode 24 = .ok (.invokevirtual 24, 3) := by decide +kernel
theorem dX4_encode_27 : decode cX4_encode 27 = .ok (.if_icmp .ge 18, 3) := by decide +kernel
theorem dX4_encode_30 : decode cX4_encode 30 = .ok (.aload_n 1, 1) := by decide +kernel
theorem dX4_encode_31 : decode cX4_encode 31 = .ok (.aload_n 0, 1) := by decide +kernel
theorem dX4_encode_32 : decode cX4_encode 32 = .ok (.iload_n 2, 1) := by decide +kernel
theorem dX4_encode_33 : decode cX4_encode 33 = .ok (.invokevirtual 27, 3) := by decide +kernel
theorem dX4_encode_36 : decode cX4_encode 36 = .ok (.invokevirtual 20, 3) := by decide +kernel
theorem dX4_encode_39 : decode cX4_encode 39 = .ok (.iinc 2 1, 3) := by decide +kernel
theorem dX4_encode_42 : decode cX4_encode 42 = .ok (.goto (-20), 3) := by decide +kernel
theorem dX4_encode_45 : decode cX4_encode 45 = .ok (.iconst 0, 1) := by decide +kernel
theorem dX4_encode_46 : decode cX4_encode 46 = .ok (.istore_n 2, 1) := by decide +kernel
theorem dX4_encode_47 : decode cX4_encode 47 = .ok (.iload_n 2, 1) := by decide +kernel
theorem dX4_encode_48 : decode cX4_encode 48 = .ok (.aload_n 0, 1) := by decide +kernel
theorem dX4_encode_49 : decode cX4_encode 49 = .ok (.invokevirtual 14, 3) := by decide +kernel
theorem dX4_encode_52 : decode cX4_encode 52 = .ok (.if_icmp .ge 18, 3) := by decide +kernel
theorem dX4_encode_55 : decode cX4_encode 55 = .ok (.aload_n 1, 1) := by decide +kernel
theorem dX4_encode_56 : decode cX4_encode 56 = .ok (.aload_n 0, 1) := by decide +kernel
theorem dX4_encode_57 : decode cX4_encode 57 = .ok (.iload_n 2, 1) := by decide +kernel
theorem dX4_encode_58 : decode cX4_encode 58 = .ok (.invokevirtual 31, 3) := by decide +kernel
theorem dX4_encode_61 : decode cX4_encode 61 = .ok (.invokevirtual 20, 3) := by decide +kernel
theorem dX4_encode_64 : decode cX4_encode 64 = .ok (.iinc 2 1, 3) := by decide +kernel
theorem dX4_encode_67 : decode cX4_encode 67 = .ok (.goto (-20), 3) := by decide +kernel
theorem dX4_encode_70 : decode cX4_encode 70 = .ok (.iconst 0, 1) := by decide +kernel
theorem dX4_encode_71 : decode cX4_encode 71 = .ok (.istore_n 2, 1) := by decide +kernel
theorem dX4_encode_72 : decode cX4_encode 72 = .ok (.iload_n 2, 1) := by decide +kernel
theorem dX4_encode_73 : decode cX4_encode 73 = .ok (.aload_n 0, 1) := by decide +kernel
theorem dX4_encode_74 : decode cX4_encode 74 = .ok (.invokevirtual 24, 3) := by decide +kernel
theorem dX4_encode_77 : decode cX4_encode 77 = .ok (.if_icmp .ge 15, 3) := by decide +kernel
theorem dX4_encode_80 : decode cX4_encode 80 = .ok (.aload_n 0, 1) := by decide +kernel
theorem dX4_encode_81 : decode cX4_encode 81 = .ok (.iload_n 2, 1) := by decide +kernel
theorem dX4_encode_82 : decode cX4_encode 82 = .ok (.aload_n 1, 1) := by decide +kernel
theorem dX4_encode_83 : decode cX4_encode 83 = .ok (.invokestatic 34, 3) := by decide +kernel
theorem dX4_encode_86 : decode cX4_encode 86 = .ok (.iinc 2 1, 3) := by decide +kernel
theorem dX4_encode_89 : decode cX4_encode 89 = .ok (.goto (-17), 3) := by decide +kernel
theorem dX4_encode_92 : decode cX4_encode 92 = .ok (.return_, 1) := by decide +kernel
theorem dX4_encodeClass_0 : decode cX4_encodeClass 0 = .ok (.iconst 0, 1) := by decide +kernel
theorem dX4_encodeClass_1 : decode cX4_encodeClass 1 = .ok (.istore_n 3, 1) := by decide +kernel
theorem dX4_encodeClass_2 : decode cX4_encodeClass 2 = .ok (.iload_n 3, 1) := by decide +kernel
theorem dX4_encodeClass_3 : decode cX4_encodeClass 3 = .ok (.aload_n 0, 1) := by decide +kernel
theorem dX4_encodeClass_4 : decode cX4_encodeClass 4 = .ok (.invokevirtual 14, 3) := by decide +kernel
theorem dX4_encodeClass_7 : decode cX4_encodeClass 7 = .ok (.if_icmp .ge 39, 3) := by decide +kernel
theorem dX4_encodeClass_10 : decode cX4_encodeClass 10 = .ok (.iconst 0, 1) := by decide +kernel
theorem dX4_encodeClass_11 : decode cX4_encodeClass 11 = .ok (.istore 4, 2) := by decide +kernel
theorem dX4_encodeClass_13 : decode cX4_encodeClass 13 = .ok (.iload 4, 2) := by decide +kernel
theorem dX4_encodeClass_15 : decode cX4_encodeClass 15 = .ok (.aload_n 0, 1) := by decide +kernel
theorem dX4_encodeClass_16 : decode cX4_encodeClass 16 = .ok (.invokevirtual 14, 3) := by decide +kernel
theorem dX4_encodeClass_19 : decode cX4_encodeClass 19 = .ok (.if_icmp .ge 21, 3) := by decide +kernel
theorem dX4_encodeClass_22 : decode cX4_encodeClass 22 = .ok (.aload_n 2, 1) := by decide +kernel
theorem dX4_encodeClass_23 : decode cX4_encodeClass 23 = .ok (.aload_n 0, 1) := by decide +kernel
theorem dX4_encodeClass_24 : decode cX4_encodeClass 24 = .ok (.iload_n 3, 1) := by decide +kernel
theorem dX4_encodeClass_25 : decode cX4_encodeClass 25 = .ok (.iload 4, 2) := by decide +kernel
theorem dX4_encodeClass_27 : decode cX4_encodeClass 27 = .ok (.iload_n 1, 1) := by decide +kernel
theorem dX4_encodeClass_28 : decode cX4_encodeClass 28 = .ok (.invokevirtual 40, 3) := by decide +kernel
theorem dX4_encodeClass_31 : decode cX4_encodeClass 31 = .ok (.invokevirtual 20, 3) := by decide +kernel
theorem dX4_encodeClass_34 : decode cX4_encodeClass 34 = .ok (.iinc 4 1, 3) := by decide +kernel
theorem dX4_encodeClass_37 : decode cX4_encodeClass 37 = .ok (.goto (-24), 3) := by decide +kernel
theorem dX4_encodeClass_40 : decode cX4_encodeClass 40 = .ok (.iinc 3 1, 3) := by decide +kernel
theorem dX4_encodeClass_43 : decode cX4_encodeClass 43 = .ok (.goto (-41), 3) := by decide +kernel
theorem dX4_encodeClass_46 : decode cX4_encodeClass 46 = .ok (.iconst 0, 1) := by decide +kernel
theorem dX4_encodeClass_47 : decode cX4_encodeClass 47 = .ok (.istore_n 3, 1) := by decide +kernel
theorem dX4_encodeClass_48 : decode cX4_encodeClass 48 = .ok (.iload_n 3, 1) := by decide +kernel
theorem dX4_encodeClass_49 : decode cX4_encodeClass 49 = .ok (.aload_n 0, 1) := by decide +kernel
theorem dX4_encodeClass_50 : decode cX4_encodeClass 50 = .ok (.invokevirtual 14, 3) := by decide +kernel
theorem dX4_encodeClass_53 : decode cX4_encodeClass 53 = .ok (.if_icmp .ge 39, 3) := by decide +kernel
theorem dX4_encodeClass_56 : decode cX4_encodeClass 56 = .ok (.iconst 0, 1) := by decide +kernel
theorem dX4_encodeClass_57 : decode cX4_encodeClass 57 = .ok (.istore 4, 2) := by decide +kernel
theorem dX4_encodeClass_59 : decode cX4_encodeClass 59 = .ok (.iload 4, 2) := by decide +kernel
theorem dX4_encodeClass_61 : decode cX4_encodeClass 61 = .ok (.aload_n 0, 1) := by decide +kernel
theorem dX4_encodeClass_62 : decode cX4_encodeClass 62 = .ok (.invokevirtual 14, 3) := by decide +kernel
theorem dX4_encodeClass_65 : decode cX4_encodeClass 65 = .ok (.if_icmp .ge 21, 3) := by decide +kernel
theorem dX4_encodeClass_68 : decode cX4_encodeClass 68 = .ok (.aload_n 2, 1) := by decide +kernel
theorem dX4_encodeClass_69 : decode cX4_encodeClass 69 = .ok (.aload_n 0, 1) := by decide +kernel
theorem dX4_encodeClass_70 : decode cX4_encodeClass 70 = .ok (.iload_n 3, 1) := by decide +kernel
theorem dX4_encodeClass_71 : decode cX4_encodeClass 71 = .ok (.iload 4, 2) := by decide +kernel
theorem dX4_encodeClass_73 : decode cX4_encodeClass 73 = .ok (.iload_n 1, 1) := by decide +kernel
theorem dX4_encodeClass_74 : decode cX4_encodeClass 74 = .ok (.invokevirtual 44, 3) := by decide +kernel
theorem dX4_encodeClass_77 : decode cX4_encodeClass 77 = .ok (.invokevirtual 20, 3) := by decide +kernel
theorem dX4_encodeClass_80 : decode cX4_encodeClass 80 = .ok (.iinc 4 1, 3) := by decide +kernel
theorem dX4_encodeClass_83 : decode cX4_encodeClass 83 = .ok (.goto (-24), 3) := by decide +kernel
theorem dX4_encodeClass_86 : decode cX4_encodeClass 86 = .ok (.iinc 3 1, 3) := by decide +kernel
theorem dX4_encodeClass_89 : decode cX4_encodeClass 89 = .ok (.goto (-41), 3) := by decide +kernel
theorem dX4_encodeClass_92 : decode cX4_encodeClass 92 = .ok (.iconst 0, 1) := by decide +kernel
theorem dX4_encodeClass_93 : decode cX4_encodeClass 93 = .ok (.istore_n 3, 1) := by decide +kernel
theorem dX4_encodeClass_94 : decode cX4_encodeClass 94 = .ok (.iload_n 3, 1) := by decide +kernel
theorem dX4_encodeClass_95 : decode cX4_encodeClass 95 = .ok (.iconst 5, 1) := by decide +kernel
theorem dX4_encodeClass_96 : decode cX4_encodeClass 96 = .ok (.if_icmp .ge 19, 3) := by decide +kernel
theorem dX4_encodeClass_99 : decode cX4_encodeClass 99 = .ok (.aload_n 2, 1) := by decide +kernel
theorem dX4_encodeClass_100 : decode cX4_encodeClass 100 = .ok (.aload_n 0, 1) := by decide +kernel
theorem dX4_encodeClass_101 : decode cX4_encodeClass 101 = .ok (.iload_n 1, 1) := by decide +kernel
theorem dX4_encodeClass_102 : decode cX4_encodeClass 102 = .ok (.iload_n 3, 1) := by decide +kernel
theorem dX4_encodeClass_103 : decode cX4_encodeClass 103 = .ok (.invokevirtual 47, 3) := by decide +kernel
theorem dX4_encodeClass_106 : decode cX4_encodeClass 106 = .ok (.invokevirtual 20, 3) := by decide +kernel
theorem dX4_encodeClass_109 : decode cX4_encodeClass 109 = .ok (.iinc 3 1, 3) := by decide +kernel
theorem dX4_encodeClass_112 : decode cX4_encodeClass 112 = .ok (.goto (-18), 3) := by decide +kernel
theorem dX4_encodeClass_115 : decode cX4_encodeClass 115 = .ok (.return_, 1) := by decide +kernel
theorem dX4_decode_0 : decode cX4_decode 0 = .ok (.aload_n 1, 1) := by decide +kernel
theorem dX4_decode_1 : decode cX4_decode 1 = .ok (.invokevirtual 51, 3) := by decide +kernel
theorem dX4_decode_4 : decode cX4_decode 4 = .ok (.aload_n 0, 1) := by decide +kernel
theorem dX4_decode_5 : decode cX4_decode 5 = .ok (.invokevirtual 52, 3) := by decide +kernel
theorem dX4_decode_8 : decode cX4_decode 8 = .ok (.aload_n 0, 1) := by decide +kernel
theorem dX4_decode_9 : decode cX4_decode 9 = .ok (.iconst 1, 1) := by decide +kernel
theorem dX4_decode_10 : decode cX4_decode 10 = .ok (.bipush 8, 2) := by decide +kernel
theorem dX4_decode_12 : decode cX4_decode 12 = .ok (.invokevirtual 55, 3) := by decide +kernel
theorem dX4_decode_15 : decode cX4_decode 15 = .ok (.istore_n 2, 1) := by decide +kernel
theorem dX4_decode_16 : decode cX4_decode 16 = .ok (.aload_n 0, 1) := by decide +kernel
theorem dX4_decode_17 : decode cX4_decode 17 = .ok (.iconst 1, 1) := by decide +kernel
theorem dX4_decode_18 : decode cX4_decode 18 = .ok (.iconst 3, 1) := by decide +kernel
theorem dX4_decode_19 : decode cX4_decode 19 = .ok (.invokevirtual 55, 3) := by decide +kernel
theorem dX4_decode_22 : decode cX4_decode 22 = .ok (.istore_n 3, 1) := by decide +kernel
theorem dX4_decode_23 : decode cX4_decode 23 = .ok (.iconst 0, 1) := by decide +kernel
theorem dX4_decode_24 : decode cX4_decode 24 = .ok (.istore 4, 2) := by decide +kernel
theorem dX4_decode_26 : decode cX4_decode 26 = .ok (.iload 4, 2) := by decide +kernel
theorem dX4_decode_28 : decode cX4_decode 28 = .ok (.iload_n 3, 1) := by decide +kernel
theorem dX4_decode_29 : decode cX4_decode 29 = .ok (.if_icmp .ge 20, 3) := by decide +kernel
theorem dX4_decode_32 : decode cX4_decode 32 = .ok (.aload_n 1, 1) := by decide +kernel
theorem dX4_decode_33 : decode cX4_decode 33 = .ok (.aload_n 0, 1) := by decide +kernel
theorem dX4_decode_34 : decode cX4_decode 34 = .ok (.iconst 1, 1) := by decide +kernel
theorem dX4_decode_35 : decode cX4_decode 35 = .ok (.bipush 6, 2) := by decide +kernel
theorem dX4_decode_37 : decode cX4_decode 37 = .ok (.invokevirtual 55, 3) := by decide +kernel
theorem dX4_decode_40 : decode cX4_decode 40 = .ok (.invokevirtual 58, 3) := by decide +kernel
theorem dX4_decode_43 : decode cX4_decode 43 = .ok (.iinc 4 1, 3) := by decide +kernel
theorem dX4_decode_46 : decode cX4_decode 46 = .ok (.goto (-20), 3) := by decide +kernel
theorem dX4_decode_49 : decode cX4_decode 49 = .ok (.iconst 0, 1) := by decide +kernel
theorem dX4_decode_50 : decode cX4_decode 50 = .ok (.istore 4, 2) := by decide +kernel
theorem dX4_decode_52 : decode cX4_decode 52 = .ok (.iload 4, 2) := by decide +kernel
theorem dX4_decode_54 : decode cX4_decode 54 = .ok (.iload_n 2, 1) := by decide +kernel
theorem dX4_decode_55 : decode cX4_decode 55 = .ok (.if_icmp .ge 26, 3) := by decide +kernel
theorem dX4_decode_58 : decode cX4_decode 58 = .ok (.aload_n 1, 1) := by decide +kernel
theorem dX4_decode_59 : decode cX4_decode 59 = .ok (.invokevirtual 61, 3) := by decide +kernel
theorem dX4_decode_62 : decode cX4_decode 62 = .ok (.aload_n 1, 1) := by decide +kernel
theorem dX4_decode_63 : decode cX4_decode 63 = .ok (.iload 4, 2) := by decide +kernel
theorem dX4_decode_65 : decode cX4_decode 65 = .ok (.aload_n 0, 1) := by decide +kernel
theorem dX4_decode_66 : decode cX4_decode 66 = .ok (.iconst 0, 1) := by decide +kernel
theorem dX4_decode_67 : decode cX4_decode 67 = .ok (.bipush 7, 2) := by decide +kernel
theorem dX4_decode_69 : decode cX4_decode 69 = .ok (.invokevirtual 55, 3) := by decide +kernel
theorem dX4_decode_72 : decode cX4_decode 72 = .ok (.invokevirtual 64, 3) := by decide +kernel
theorem dX4_decode_75 : decode cX4_decode 75 = .ok (.iinc 4 1, 3) := by decide +kernel
theorem dX4_decode_78 : decode cX4_decode 78 = .ok (.goto (-26), 3) := by decide +kernel
theorem dX4_decode_81 : decode cX4_decode 81 = .ok (.iconst 0, 1) := by decide +kernel
theorem dX4_decode_82 : decode cX4_decode 82 = .ok (.istore 4, 2) := by decide +kernel
theorem dX4_decode_84 : decode cX4_decode 84 = .ok (.iload 4, 2) := by decide +kernel
theorem dX4_decode_86 : decode cX4_decode 86 = .ok (.iload_n 3, 1) := by decide +kernel
theorem dX4_decode_87 : decode cX4_decode 87 = .ok (.if_icmp .ge 16, 3) := by decide +kernel
theorem dX4_decode_90 : decode cX4_decode 90 = .ok (.aload_n 0, 1) := by decide +kernel
theorem dX4_decode_91 : decode cX4_decode 91 = .ok (.iload 4, 2) := by decide +kernel
theorem dX4_decode_93 : decode cX4_decode 93 = .ok (.aload_n 1, 1) := by decide +kernel
theorem dX4_decode_94 : decode cX4_decode 94 = .ok (.invokestatic 68, 3) := by decide +kernel
theorem dX4_decode_97 : decode cX4_decode 97 = .ok (.iinc 4 1, 3) := by decide +kernel
theorem dX4_decode_100 : decode cX4_decode 100 = .ok (.goto (-16), 3) := by decide +kernel
theorem dX4_decode_103 : decode cX4_decode 103 = .ok (.aload_n 0, 1) := by decide +kernel
theorem dX4_decode_104 : decode cX4_decode 104 = .ok (.invokevirtual 72, 3) := by decide +kernel
theorem dX4_decode_107 : decode cX4_decode 107 = .ok (.ireturn, 1) := by decide +kernel
theorem dX4_decodeClass_0 : decode cX4_decodeClass 0 = .ok (.iconst 1, 1) := by decide +kernel
theorem dX4_decodeClass_1 : decode cX4_decodeClass 1 = .ok (.aload_n 2, 1) := by decide +kernel
theorem dX4_decodeClass_2 : decode cX4_decodeClass 2 = .ok (.iload_n 1, 1) := by decide +kernel
theorem dX4_decodeClass_3 : decode cX4_decodeClass 3 = .ok (.invokevirtual 27, 3) := by decide +kernel
theorem dX4_decodeClass_6 : decode cX4_decodeClass 6 = .ok (.ishl, 1) := by decide +kernel
theorem dX4_decodeClass_7 : decode cX4_decodeClass 7 = .ok (.iconst 1, 1) := by decide +kernel
theorem dX4_decodeClass_8 : decode cX4_decodeClass 8 = .ok (.isub, 1) := by decide +kernel
theorem dX4_decodeClass_9 : decode cX4_decodeClass 9 = .ok (.istore_n 3, 1) := by decide +kernel
theorem dX4_decodeClass_10 : decode cX4_decodeClass 10 = .ok (.iconst 0, 1) := by decide +kernel
theorem dX4_decodeClass_11 : decode cX4_decodeClass 11 = .ok (.istore 4, 2) := by decide +kernel
theorem dX4_decodeClass_13 : decode cX4_decodeClass 13 = .ok (.iload 4, 2) := by decide +kernel
theorem dX4_decodeClass_15 : decode cX4_decodeClass 15 = .ok (.aload_n 2, 1) := by decide +kernel
theorem dX4_decodeClass_16 : decode cX4_decodeClass 16 = .ok (.invokevirtual 14, 3) := by decide +kernel
theorem dX4_decodeClass_19 : decode cX4_decodeClass 19 = .ok (.if_icmp .ge 42, 3) := by decide +kernel
theorem dX4_decodeClass_22 : decode cX4_decodeClass 22 = .ok (.iconst 0, 1) := by decide +kernel
theorem dX4_decodeClass_23 : decode cX4_decodeClass 23 = .ok (.istore 5, 2) := by decide +kernel
theorem dX4_decodeClass_25 : decode cX4_decodeClass 25 = .ok (.iload 5, 2) := by decide +kernel
theorem dX4_decodeClass_27 : decode cX4_decodeClass 27 = .ok (.aload_n 2, 1) := by decide +kernel
theorem dX4_decodeClass_28 : decode cX4_decodeClass 28 = .ok (.invokevirtual 14, 3) := by decide +kernel
theorem dX4_decodeClass_31 : decode cX4_decodeClass 31 = .ok (.if_icmp .ge 24, 3) := by decide +kernel
theorem dX4_decodeClass_34 : decode cX4_decodeClass 34 = .ok (.aload_n 2, 1) := by decide +kernel
theorem dX4_decodeClass_35 : decode cX4_decodeClass 35 = .ok (.iload 4, 2) := by decide +kernel
theorem dX4_decodeClass_37 : decode cX4_decodeClass 37 = .ok (.iload 5, 2) := by decide +kernel
theorem dX4_decodeClass_39 : decode cX4_decodeClass 39 = .ok (.iload_n 1, 1) := by decide +kernel
theorem dX4_decodeClass_40 : decode cX4_decodeClass 40 = .ok (.aload_n 0, 1) := by decide +kernel
theorem dX4_decodeClass_41 : decode cX4_decodeClass 41 = .ok (.iconst 0, 1) := by decide +kernel
theorem dX4_decodeClass_42 : decode cX4_decodeClass 42 = .ok (.iload_n 3, 1) := by decide +kernel
theorem dX4_decodeClass_43 : decode cX4_decodeClass 43 = .ok (.invokevirtual 55, 3) := by decide +kernel
theorem dX4_decodeClass_46 : decode cX4_decodeClass 46 = .ok (.invokevirtual 76, 3) := by decide +kernel
theorem dX4_decodeClass_49 : decode cX4_decodeClass 49 = .ok (.iinc 5 1, 3) := by decide +kernel
theorem dX4_decodeClass_52 : decode cX4_decodeClass 52 = .ok (.goto (-27), 3) := by decide +kernel
theorem dX4_decodeClass_55 : decode cX4_decodeClass 55 = .ok (.iinc 4 1, 3) := by decide +kernel
theorem dX4_decodeClass_58 : decode cX4_decodeClass 58 = .ok (.goto (-45), 3) := by decide +kernel
theorem dX4_decodeClass_61 : decode cX4_decodeClass 61 = .ok (.iconst 0, 1) := by decide +kernel
theorem dX4_decodeClass_62 : decode cX4_decodeClass 62 = .ok (.istore 4, 2) := by decide +kernel
theorem dX4_decodeClass_64 : decode cX4_decodeClass 64 = .ok (.iload 4, 2) := by decide +kernel
theorem dX4_decodeClass_66 : decode cX4_decodeClass 66 = .ok (.aload_n 2, 1) := by decide +kernel
theorem dX4_decodeClass_67 : decode cX4_decodeClass 67 = .ok (.invokevirtual 14, 3) := by decide +kernel
theorem dX4_decodeClass_70 : decode cX4_decodeClass 70 = .ok (.if_icmp .ge 45, 3) := by decide +kernel
theorem dX4_decodeClass_73 : decode cX4_decodeClass 73 = .ok (.iconst 0, 1) := by decide +kernel
theorem dX4_decodeClass_74 : decode cX4_decodeClass 74 = .ok (.istore 5, 2) := by decide +kernel
theorem dX4_decodeClass_76 : decode cX4_decodeClass 76 = .ok (.iload 5, 2) := by decide +kernel
theorem dX4_decodeClass_78 : decode cX4_decodeClass 78 = .ok (.aload_n 2, 1) := by decide +kernel
theorem dX4_decodeClass_79 : decode cX4_decodeClass 79 = .ok (.invokevirtual 14, 3) := by decide +kernel
theorem dX4_decodeClass_82 : decode cX4_decodeClass 82 = .ok (.if_icmp .ge 27, 3) := by decide +kernel
theorem dX4_decodeClass_85 : decode cX4_decodeClass 85 = .ok (.aload_n 2, 1) := by decide +kernel
theorem dX4_decodeClass_86 : decode cX4_decodeClass 86 = .ok (.iload 4, 2) := by decide +kernel
theorem dX4_decodeClass_88 : decode cX4_decodeClass 88 = .ok (.iload 5, 2) := by decide +kernel
theorem dX4_decodeClass_90 : decode cX4_decodeClass 90 = .ok (.iload_n 1, 1) := by decide +kernel
theorem dX4_decodeClass_91 : decode cX4_decodeClass 91 = .ok (.aload_n 0, 1) := by decide +kernel
theorem dX4_decodeClass_92 : decode cX4_decodeClass 92 = .ok (.iconst 0, 1) := by decide +kernel
theorem dX4_decodeClass_93 : decode cX4_decodeClass 93 = .ok (.aload_n 2, 1) := by decide +kernel
theorem dX4_decodeClass_94 : decode cX4_decodeClass 94 = .ok (.invokevirtual 14, 3) := by decide +kernel
theorem dX4_decodeClass_97 : decode cX4_decodeClass 97 = .ok (.invokevirtual 55, 3) := by decide +kernel
theorem dX4_decodeClass_100 : decode cX4_decodeClass 100 = .ok (.invokevirtual 80, 3) := by decide +kernel
theorem dX4_decodeClass_103 : decode cX4_decodeClass 103 = .ok (.iinc 5 1, 3) := by decide +kernel
theorem dX4_decodeClass_106 : decode cX4_decodeClass 106 = .ok (.goto (-30), 3) := by decide +kernel
theorem dX4_decodeClass_109 : decode cX4_decodeClass 109 = .ok (.iinc 4 1, 3) := by decide +kernel
theorem dX4_decodeClass_112 : decode cX4_decodeClass 112 = .ok (.goto (-48), 3) := by decide +kernel
theorem dX4_decodeClass_115 : decode cX4_decodeClass 115 = .ok (.iconst 0, 1) := by decide +kernel
theorem dX4_decodeClass_116 : decode cX4_decodeClass 116 = .ok (.istore 4, 2) := by decide +kernel
theorem dX4_decodeClass_118 : decode cX4_decodeClass 118 = .ok (.iload 4, 2) := by decide +kernel
theorem dX4_decodeClass_120 : decode cX4_decodeClass 120 = .ok (.iconst 5, 1) := by decide +kernel
theorem dX4_decodeClass_121 : decode cX4_decodeClass 121 = .ok (.if_icmp .ge 22, 3) := by decide +kernel
theorem dX4_decodeClass_124 : decode cX4_decodeClass 124 = .ok (.aload_n 2, 1) := by decide +kernel
theorem dX4_decodeClass_125 : decode cX4_decodeClass 125 = .ok (.iload_n 1, 1) := by decide +kernel
theorem dX4_decodeClass_126 : decode cX4_decodeClass 126 = .ok (.iload 4, 2) := by decide +kernel
theorem dX4_decodeClass_128 : decode cX4_decodeClass 128 = .ok (.aload_n 0, 1) := by decide +kernel
theorem dX4_decodeClass_129 : decode cX4_decodeClass 129 = .ok (.iconst 0, 1) := by decide +kernel
theorem dX4_decodeClass_130 : decode cX4_decodeClass 130 = .ok (.iload_n 3, 1) := by decide +kernel
theorem dX4_decodeClass_131 : decode cX4_decodeClass 131 = .ok (.invokevirtual 55, 3) := by decide +kernel
theorem dX4_decodeClass_134 : decode cX4_decodeClass 134 = .ok (.invokevirtual 83, 3) := by decide +kernel
theorem dX4_decodeClass_137 : decode cX4_decodeClass 137 = .ok (.iinc 4 1, 3) := by decide +kernel
theorem dX4_decodeClass_140 : decode cX4_decodeClass 140 = .ok (.goto (-22), 3) := by decide +kernel
theorem dX4_decodeClass_143 : decode cX4_decodeClass 143 = .ok (.return_, 1) := by decide +kernel
theorem dX6_init_0 : decode cX6_init 0 = .ok (.aload_n 0, 1) := by decide +kernel
theorem dX6_init_1 : decode cX6_init 1 = .ok (.invokespecial 3, 3) := by decide +kernel
theorem dX6_init_4 : decode cX6_init 4 = .ok (.aload_n 0, 1) := by decide +kernel
theorem dX6_init_5 : decode cX6_init 5 = .ok (.iconst 0, 1) := by decide +kernel
theorem dX6_init_6 : decode cX6_init 6 = .ok (.putfield 9, 3) := by decide +kernel
theorem dX6_init_9 : decode cX6_init 9 = .ok (.aload_n 0, 1) := by decide +kernel
theorem dX6_init_10 : decode cX6_init 10 = .ok (.iconst 0, 1) := by decide +kernel
theorem dX6_init_11 : decode cX6_init 11 = .ok (.putfield 15, 3) := by decide +kernel
theorem dX6_init_14 : decode cX6_init 14 = .ok (.aload_n 0, 1) := by decide +kernel
theorem dX6_init_15 : decode cX6_init 15 = .ok (.iconst 0, 1) := by decide +kernel
theorem dX6_init_16 : decode cX6_init 16 = .ok (.putfield 18, 3) := by decide +kernel
theorem dX6_init_19 : decode cX6_init 19 = .ok (.aload_n 0, 1) := by decide +kernel
theorem dX6_init_20 : decode cX6_init 20 = .ok (.iload_n 1, 1) := by decide +kernel
theorem dX6_init_21 : decode cX6_init 21 = .ok (.newarray .int, 2) := by decide +kernel
theorem dX6_init_23 : decode cX6_init 23 = .ok (.putfield 21, 3) := by decide +kernel
theorem dX6_init_26 : decode cX6_init 26 = .ok (.aload_n 0, 1) := by decide +kernel
theorem dX6_init_27 : decode cX6_init 27 = .ok (.iload_n 1, 1) := by decide +kernel
theorem dX6_init_28 : decode cX6_init 28 = .ok (.newarray .int, 2) := by decide +kernel
theorem dX6_init_30 : decode cX6_init 30 = .ok (.putfield 25, 3) := by decide +kernel
theorem dX6_init_33 : decode cX6_init 33 = .ok (.return_, 1) := by decide +kernel
theorem dX6_size_0 : decode cX6_size 0 = .ok (.aload_n 0, 1) := by decide +kernel
theorem dX6_size_1 : decode cX6_size 1 = .ok (.getfield 9, 3) := by decide +kernel
theorem dX6_size_4 : decode cX6_size 4 = .ok (.ireturn, 1) := by decide +kernel
theorem dX6_hits_0 : decode cX6_hits 0 = .ok (.aload_n 0, 1) := by decide +kernel
theorem dX6_hits_1 : decode cX6_hits 1 = .ok (.getfield 15, 3) := by decide +kernel
theorem dX6_hits_4 : decode cX6_hits 4 = .ok (.ireturn, 1) := by decide +kernel
theorem dX6_misses_0 : decode cX6_misses 0 = .ok (.aload_n 0, 1) := by decide +kernel
theorem dX6_misses_1 : decode cX6_misses 1 = .ok (.getfield 18, 3) := by decide +kernel
theorem dX6_misses_4 : decode cX6_misses 4 = .ok (.ireturn, 1) := by decide +kernel
theorem dX6_forget_0 : decode cX6_forget 0 = .ok (.aload_n 0, 1) := by decide +kernel
theorem dX6_forget_1 : decode cX6_forget 1 = .ok (.iconst 0, 1) := by decide +kernel
theorem dX6_forget_2 : decode cX6_forget 2 = .ok (.putfield 9, 3) := by decide +kernel
theorem dX6_forget_5 : decode cX6_forget 5 = .ok (.return_, 1) := by decide +kernel
theorem dX6_recall_0 : decode cX6_recall 0 = .ok (.iconst 0, 1) := by decide +kernel
theorem dX6_recall_1 : decode cX6_recall 1 = .ok (.istore_n 2, 1) := by decide +kernel
theorem dX6_recall_2 : decode cX6_recall 2 = .ok (.iload_n 2, 1) := by decide +kernel
theorem dX6_recall_3 : decode cX6_recall 3 = .ok (.aload_n 0, 1) := by decide +kernel
theorem dX6_recall_4 : decode cX6_recall 4 = .ok (.getfield 9, 3) := by decide +kernel
theorem dX6_recall_7 : decode cX6_recall 7 = .ok (.if_icmp .ge 49, 3) := by decide +kernel
theorem dX6_recall_10 : decode cX6_recall 10 = .ok (.aload_n 0, 1) := by decide +kernel
theorem dX6_recall_11 : decode cX6_recall 11 = .ok (.getfield 21, 3) := by decide +kernel
theorem dX6_recall_14 : decode cX6_recall 14 = .ok (.iload_n 2, 1) := by decide +kernel
theorem dX6_recall_15 : decode cX6_recall 15 = .ok (.iaload, 1) := by decide +kernel
theorem dX6_recall_16 : decode cX6_recall 16 = .ok (.iload_n 1, 1) := by decide +kernel
theorem dX6_recall_17 : decode cX6_recall 17 = .ok (.if_icmp .ne 33, 3) := by decide +kernel
theorem dX6_recall_20 : decode cX6_recall 20 = .ok (.aload_n 0, 1) := by decide +kernel
theorem dX6_recall_21 : decode cX6_recall 21 = .ok (.getfield 25, 3) := by decide +kernel
theorem dX6_recall_24 : decode cX6_recall 24 = .ok (.iload_n 2, 1) := by decide +kernel
theorem dX6_recall_25 : decode cX6_recall 25 = .ok (.iaload, 1) := by decide +kernel
theorem dX6_recall_26 : decode cX6_recall 26 = .ok (.istore_n 3, 1) := by decide +kernel
theorem dX6_recall_27 : decode cX6_recall 27 = .ok (.aload_n 0, 1) := by decide +kernel
theorem dX6_recall_28 : decode cX6_recall 28 = .ok (.dup, 1) := by decide +kernel
theorem dX6_recall_29 : decode cX6_recall 29 = .ok (.getfield 15, 3) := by decide +kernel
theorem dX6_recall_32 : decode cX6_recall 32 = .ok (.iconst 1, 1) := by decide +kernel
theorem dX6_recall_33 : decode cX6_recall 33 = .ok (.iadd, 1) := by decide +kernel
theorem dX6_recall_34 : decode cX6_recall 34 = .ok (.putfield 15, 3) := by decide +kernel
theorem dX6_recall_37 : decode cX6_recall 37 = .ok (.aload_n 0, 1) := by decide +kernel
theorem dX6_recall_38 : decode cX6_recall 38 = .ok (.iload_n 2, 1) := by decide +kernel
theorem dX6_recall_39 : decode cX6_recall 39 = .ok (.invokevirtual 28, 3) := by decide +kernel
theorem dX6_recall_42 : decode cX6_recall 42 = .ok (.aload_n 0, 1) := by decide +kernel
theorem dX6_recall_43 : decode cX6_recall 43 = .ok (.iload_n 1, 1) := by decide +kernel
theorem dX6_recall_44 : decode cX6_recall 44 = .ok (.iload_n 3, 1) := by decide +kernel
theorem dX6_recall_45 : decode cX6_recall 45 = .ok (.invokevirtual 32, 3) := by decide +kernel
theorem dX6_recall_48 : decode cX6_recall 48 = .ok (.iload_n 3, 1) := by decide +kernel
theorem dX6_recall_49 : decode cX6_recall 49 = .ok (.ireturn, 1) := by decide +kernel
theorem dX6_recall_50 : decode cX6_recall 50 = .ok (.iinc 2 1, 3) := by decide +kernel
theorem dX6_recall_53 : decode cX6_recall 53 = .ok (.goto (-51), 3) := by decide +kernel
theorem dX6_recall_56 : decode cX6_recall 56 = .ok (.iconst (-1), 1) := by decide +kernel
theorem dX6_recall_57 : decode cX6_recall 57 = .ok (.ireturn, 1) := by decide +kernel
theorem dX6_keep_0 : decode cX6_keep 0 = .ok (.aload_n 0, 1) := by decide +kernel
theorem dX6_keep_1 : decode cX6_keep 1 = .ok (.dup, 1) := by decide +kernel
theorem dX6_keep_2 : decode cX6_keep 2 = .ok (.getfield 18, 3) := by decide +kernel
theorem dX6_keep_5 : decode cX6_keep 5 = .ok (.iconst 1, 1) := by decide +kernel
theorem dX6_keep_6 : decode cX6_keep 6 = .ok (.iadd, 1) := by decide +kernel
theorem dX6_keep_7 : decode cX6_keep 7 = .ok (.putfield 18, 3) := by decide +kernel
theorem dX6_keep_10 : decode cX6_keep 10 = .ok (.aload_n 0, 1) := by decide +kernel
theorem dX6_keep_11 : decode cX6_keep 11 = .ok (.getfield 9, 3) := by decide +kernel
theorem dX6_keep_14 : decode cX6_keep 14 = .ok (.aload_n 0, 1) := by decide +kernel
theorem dX6_keep_15 : decode cX6_keep 15 = .ok (.getfield 21, 3) := by decide +kernel
theorem dX6_keep_18 : decode cX6_keep 18 = .ok (.arraylength, 1) := by decide +kernel
theorem dX6_keep_19 : decode cX6_keep 19 = .ok (.if_icmp .ne 8, 3) := by decide +kernel
theorem dX6_keep_22 : decode cX6_keep 22 = .ok (.aload_n 0, 1) := by decide +kernel
theorem dX6_keep_23 : decode cX6_keep 23 = .ok (.iconst 0, 1) := by decide +kernel
theorem dX6_keep_24 : decode cX6_keep 24 = .ok (.invokevirtual 28, 3) := by decide +kernel
theorem dX6_keep_27 : decode cX6_keep 27 = .ok (.aload_n 0, 1) := by decide +kernel
theorem dX6_keep_28 : decode cX6_keep 28 = .ok (.iload_n 1, 1) := by decide +kernel
theorem dX6_keep_29 : decode cX6_keep 29 = .ok (.iload_n 2, 1) := by decide +kernel
theorem dX6_keep_30 : decode cX6_keep 30 = .ok (.invokevirtual 32, 3) := by decide +kernel
theorem dX6_keep_33 : decode cX6_keep 33 = .ok (.return_, 1) := by decide +kernel
theorem dX6_drop_0 : decode cX6_drop 0 = .ok (.iload_n 1, 1) := by decide +kernel
theorem dX6_drop_1 : decode cX6_drop 1 = .ok (.istore_n 2, 1) := by decide +kernel
theorem dX6_drop_2 : decode cX6_drop 2 = .ok (.iload_n 2, 1) := by decide +kernel
theorem dX6_drop_3 : decode cX6_drop 3 = .ok (.aload_n 0, 1) := by decide +kernel
theorem dX6_drop_4 : decode cX6_drop 4 = .ok (.getfield 9, 3) := by decide +kernel
theorem dX6_drop_7 : decode cX6_drop 7 = .ok (.iconst 1, 1) := by decide +kernel
theorem dX6_drop_8 : decode cX6_drop 8 = .ok (.isub, 1) := by decide +kernel
theorem dX6_drop_9 : decode cX6_drop 9 = .ok (.if_icmp .ge 37, 3) := by decide +kernel
theorem dX6_drop_12 : decode cX6_drop 12 = .ok (.aload_n 0, 1) := by decide +kernel
theorem dX6_drop_13 : decode cX6_drop 13 = .ok (.getfield 21, 3) := by decide +kernel
theorem dX6_drop_16 : decode cX6_drop 16 = .ok (.iload_n 2, 1) := by decide +kernel
theorem dX6_drop_17 : decode cX6_drop 17 = .ok (.aload_n 0, 1) := by decide +kernel
theorem dX6_drop_18 : decode cX6_drop 18 = .ok (.getfield 21, 3) := by decide +kernel
theorem dX6_drop_21 : decode cX6_drop 21 = .ok (.iload_n 2, 1) := by decide +kernel
theorem dX6_drop_22 : decode cX6_drop 22 = .ok (.iconst 1, 1) := by decide +kernel
theorem dX6_drop_23 : decode cX6_drop 23 = .ok (.iadd, 1) := by decide +kernel
theorem dX6_drop_24 : decode cX6_drop 24 = .ok (.iaload, 1) := by decide +kernel
theorem dX6_drop_25 : decode cX6_drop 25 = .ok (.iastore, 1) := by decide +kernel
theorem dX6_drop_26 : decode cX6_drop 26 = .ok (.aload_n 0, 1) := by decide +kernel
theorem dX6_drop_27 : decode cX6_drop 27 = .ok (.getfield 25, 3) := by decide +kernel
theorem dX6_drop_30 : decode cX6_drop 30 = .ok (.iload_n 2, 1) := by decide +kernel
theorem dX6_drop_31 : decode cX6_drop 31 = .ok (.aload_n 0, 1) := by decide +kernel
theorem dX6_drop_32 : decode cX6_drop 32 = .ok (.getfield 25, 3) := by decide +kernel
theorem dX6_drop_35 : decode cX6_drop 35 = .ok (.iload_n 2, 1) := by decide +kernel
theorem dX6_drop_36 : decode cX6_drop 36 = .ok (.iconst 1, 1) := by decide +kernel
theorem dX6_drop_37 : decode cX6_drop 37 = .ok (.iadd, 1) := by decide +kernel
theorem dX6_drop_38 : decode cX6_drop 38 = .ok (.iaload, 1) := by decide +kernel
theorem dX6_drop_39 : decode cX6_drop 39 = .ok (.iastore, 1) := by decide +kernel
theorem dX6_drop_40 : decode cX6_drop 40 = .ok (.iinc 2 1, 3) := by decide +kernel
theorem dX6_drop_43 : decode cX6_drop 43 = .ok (.goto (-41), 3) := by decide +kernel
theorem dX6_drop_46 : decode cX6_drop 46 = .ok (.aload_n 0, 1) := by decide +kernel
theorem dX6_drop_47 : decode cX6_drop 47 = .ok (.dup, 1) := by decide +kernel
theorem dX6_drop_48 : decode cX6_drop 48 = .ok (.getfield 9, 3) := by decide +kernel
theorem dX6_drop_51 : decode cX6_drop 51 = .ok (.iconst 1, 1) := by decide +kernel
theorem dX6_drop_52 : decode cX6_drop 52 = .ok (.isub, 1) := by decide +kernel
theorem dX6_drop_53 : decode cX6_drop 53 = .ok (.putfield 9, 3) := by decide +kernel
theorem dX6_drop_56 : decode cX6_drop 56 = .ok (.return_, 1) := by decide +kernel
theorem dX6_append_0 : decode cX6_append 0 = .ok (.aload_n 0, 1) := by decide +kernel
theorem dX6_append_1 : decode cX6_append 1 = .ok (.getfield 9, 3) := by decide +kernel
theorem dX6_append_4 : decode cX6_append 4 = .ok (.aload_n 0, 1) := by decide +kernel
theorem dX6_append_5 : decode cX6_append 5 = .ok (.getfield 21, 3) := by decide +kernel
theorem dX6_append_8 : decode cX6_append 8 = .ok (.arraylength, 1) := by decide +kernel
theorem dX6_append_9 : decode cX6_append 9 = .ok (.if_icmp .ge 33, 3) := by decide +kernel
theorem dX6_append_12 : decode cX6_append 12 = .ok (.aload_n 0, 1) := by decide +kernel
theorem dX6_append_13 : decode cX6_append 13 = .ok (.getfield 21, 3) := by decide +kernel
theorem dX6_append_16 : decode cX6_append 16 = .ok (.aload_n 0, 1) := by decide +kernel
theorem dX6_append_17 : decode cX6_append 17 = .ok (.getfield 9, 3) := by decide +kernel
theorem dX6_append_20 : decode cX6_append 20 = .ok (.iload_n 1, 1) := by decide +kernel
theorem dX6_append_21 : decode cX6_append 21 = .ok (.iastore, 1) := by decide +kernel
theorem dX6_append_22 : decode cX6_append 22 = .ok (.aload_n 0, 1) := by decide +kernel
theorem dX6_append_23 : decode cX6_append 23 = .ok (.getfield 25, 3) := by decide +kernel
theorem dX6_append_26 : decode cX6_append 26 = .ok (.aload_n 0, 1) := by decide +kernel
theorem dX6_append_27 : decode cX6_append 27 = .ok (.getfield 9, 3) := by decide +kernel
theorem dX6_append_30 : decode cX6_append 30 = .ok (.iload_n 2, 1) := by decide +kernel
theorem dX6_append_31 : decode cX6_append 31 = .ok (.iastore, 1) := by decide +kernel
theorem dX6_append_32 : decode cX6_append 32 = .ok (.aload_n 0, 1) := by decide +kernel
theorem dX6_append_33 : decode cX6_append 33 = .ok (.dup, 1) := by decide +kernel
theorem dX6_append_34 : decode cX6_append 34 = .ok (.getfield 9, 3) := by decide +kernel
theorem dX6_append_37 : decode cX6_append 37 = .ok (.iconst 1, 1) := by decide +kernel
theorem dX6_append_38 : decode cX6_append 38 = .ok (.iadd, 1) := by decide +kernel
theorem dX6_append_39 : decode cX6_append 39 = .ok (.putfield 9, 3) := by decide +kernel
theorem dX6_append_42 : decode cX6_append 42 = .ok (.return_, 1) := by decide +kernel
theorem dX7_init_0 : decode cX7_init 0 = .ok (.aload_n 0, 1) := by decide +kernel
theorem dX7_init_1 : decode cX7_init 1 = .ok (.invokespecial 3, 3) := by decide +kernel
theorem dX7_init_4 : decode cX7_init 4 = .ok (.aload_n 0, 1) := by decide +kernel
theorem dX7_init_5 : decode cX7_init 5 = .ok (.iconst 3, 1) := by decide +kernel
theorem dX7_init_6 : decode cX7_init 6 = .ok (.newarray .int, 2) := by decide +kernel
theorem dX7_init_8 : decode cX7_init 8 = .ok (.putfield 9, 3) := by decide +kernel
theorem dX7_init_11 : decode cX7_init 11 = .ok (.aload_n 0, 1) := by decide +kernel
theorem dX7_init_12 : decode cX7_init 12 = .ok (.bipush 8, 2) := by decide +kernel
theorem dX7_init_14 : decode cX7_init 14 = .ok (.newarray .int, 2) := by decide +kernel
theorem dX7_init_16 : decode cX7_init 16 = .ok (.putfield 15, 3) := by decide +kernel
theorem dX7_init_19 : decode cX7_init 19 = .ok (.aload_n 0, 1) := by decide +kernel
theorem dX7_init_20 : decode cX7_init 20 = .ok (.sipush 192, 3) := by decide +kernel
theorem dX7_init_23 : decode cX7_init 23 = .ok (.newarray .int, 2) := by decide +kernel
theorem dX7_init_25 : decode cX7_init 25 = .ok (.putfield 18, 3) := by decide +kernel
theorem dX7_init_28 : decode cX7_init 28 = .ok (.aload_n 0, 1) := by decide +kernel
theorem dX7_init_29 : decode cX7_init 29 = .ok (.sipush 192, 3) := by decide +kernel
theorem dX7_init_32 : decode cX7_init 32 = .ok (.newarray .int, 2) := by decide +kernel
theorem dX7_init_34 : decode cX7_init 34 = .ok (.putfield 21, 3) := by decide +kernel
theorem dX7_init_37 : decode cX7_init 37 = .ok (.aload_n 0, 1) := by decide +kernel
theorem dX7_init_38 : decode cX7_init 38 = .ok (.bipush 15, 2) := by decide +kernel
theorem dX7_init_40 : decode cX7_init 40 = .ok (.newarray .int, 2) := by decide +kernel
theorem dX7_init_42 : decode cX7_init 42 = .ok (.putfield 24, 3) := by decide +kernel
theorem dX7_init_45 : decode cX7_init 45 = .ok (.aload_n 0, 1) := by decide +kernel
theorem dX7_init_46 : decode cX7_init 46 = .ok (.iconst 0, 1) := by decide +kernel
theorem dX7_init_47 : decode cX7_init 47 = .ok (.putfield 27, 3) := by decide +kernel
theorem dX7_init_50 : decode cX7_init 50 = .ok (.aload_n 0, 1) := by decide +kernel
theorem dX7_init_51 : decode cX7_init 51 = .ok (.iconst 0, 1) := by decide +kernel
theorem dX7_init_52 : decode cX7_init 52 = .ok (.putfield 31, 3) := by decide +kernel
theorem dX7_init_55 : decode cX7_init 55 = .ok (.return_, 1) := by decide +kernel
theorem dX7_clear_0 : decode cX7_clear 0 = .ok (.aload_n 0, 1) := by decide +kernel
theorem dX7_clear_1 : decode cX7_clear 1 = .ok (.iconst 0, 1) := by decide +kernel
theorem dX7_clear_2 : decode cX7_clear 2 = .ok (.putfield 27, 3) := by decide +kernel
theorem dX7_clear_5 : decode cX7_clear 5 = .ok (.aload_n 0, 1) := by decide +kernel
theorem dX7_clear_6 : decode cX7_clear 6 = .ok (.iconst 0, 1) := by decide +kernel
theorem dX7_clear_7 : decode cX7_clear 7 = .ok (.putfield 31, 3) := by decide +kernel
theorem dX7_clear_10 : decode cX7_clear 10 = .ok (.aload_n 0, 1) := by decide +kernel
theorem dX7_clear_11 : decode cX7_clear 11 = .ok (.getfield 9, 3) := by decide +kernel
theorem dX7_clear_14 : decode cX7_clear 14 = .ok (.iconst 0, 1) := by decide +kernel
theorem dX7_clear_15 : decode cX7_clear 15 = .ok (.invokestatic 34, 3) := by decide +kernel
theorem dX7_clear_18 : decode cX7_clear 18 = .ok (.aload_n 0, 1) := by decide +kernel
theorem dX7_clear_19 : decode cX7_clear 19 = .ok (.getfield 15, 3) := by decide +kernel
theorem dX7_clear_22 : decode cX7_clear 22 = .ok (.iconst 0, 1) := by decide +kernel
theorem dX7_clear_23 : decode cX7_clear 23 = .ok (.invokestatic 34, 3) := by decide +kernel
theorem dX7_clear_26 : decode cX7_clear 26 = .ok (.aload_n 0, 1) := by decide +kernel
theorem dX7_clear_27 : decode cX7_clear 27 = .ok (.getfield 18, 3) := by decide +kernel
theorem dX7_clear_30 : decode cX7_clear 30 = .ok (.iconst 0, 1) := by decide +kernel
theorem dX7_clear_31 : decode cX7_clear 31 = .ok (.invokestatic 34, 3) := by decide +kernel
theorem dX7_clear_34 : decode cX7_clear 34 = .ok (.aload_n 0, 1) := by decide +kernel
theorem dX7_clear_35 : decode cX7_clear 35 = .ok (.getfield 21, 3) := by decide +kernel
theorem dX7_clear_38 : decode cX7_clear 38 = .ok (.iconst 0, 1) := by decide +kernel
theorem dX7_clear_39 : decode cX7_clear 39 = .ok (.invokestatic 34, 3) := by decide +kernel
theorem dX7_clear_42 : decode cX7_clear 42 = .ok (.aload_n 0, 1) := by decide +kernel
theorem dX7_clear_43 : decode cX7_clear 43 = .ok (.getfield 24, 3) := by decide +kernel
theorem dX7_clear_46 : decode cX7_clear 46 = .ok (.iconst 0, 1) := by decide +kernel
theorem dX7_clear_47 : decode cX7_clear 47 = .ok (.invokestatic 34, 3) := by decide +kernel
theorem dX7_clear_50 : decode cX7_clear 50 = .ok (.return_, 1) := by decide +kernel
theorem dX7_declareType_0 : decode cX7_declareType 0 = .ok (.aload_n 0, 1) := by decide +kernel
theorem dX7_declareType_1 : decode cX7_declareType 1 = .ok (.getfield 27, 3) := by decide +kernel
theorem dX7_declareType_4 : decode cX7_declareType 4 = .ok (.bipush 8, 2) := by decide +kernel
theorem dX7_declareType_6 : decode cX7_declareType 6 = .ok (.if_icmp .ge 13, 3) := by decide +kernel
theorem dX7_declareType_9 : decode cX7_declareType 9 = .ok (.aload_n 0, 1) := by decide +kernel
theorem dX7_declareType_10 : decode cX7_declareType 10 = .ok (.dup, 1) := by decide +kernel
theorem dX7_declareType_11 : decode cX7_declareType 11 = .ok (.getfield 27, 3) := by decide +kernel
theorem dX7_declareType_14 : decode cX7_declareType 14 = .ok (.iconst 1, 1) := by decide +kernel
theorem dX7_declareType_15 : decode cX7_declareType 15 = .ok (.iadd, 1) := by decide +kernel
theorem dX7_declareType_16 : decode cX7_declareType 16 = .ok (.putfield 27, 3) := by decide +kernel
theorem dX7_declareType_19 : decode cX7_declareType 19 = .ok (.return_, 1) := by decide +kernel
theorem dX7_declareClass_0 : decode cX7_declareClass 0 = .ok (.aload_n 0, 1) := by decide +kernel
theorem dX7_declareClass_1 : decode cX7_declareClass 1 = .ok (.getfield 31, 3) := by decide +kernel
theorem dX7_declareClass_4 : decode cX7_declareClass 4 = .ok (.iconst 3, 1) := by decide +kernel
theorem dX7_declareClass_5 : decode cX7_declareClass 5 = .ok (.if_icmp .ge 23, 3) := by decide +kernel
theorem dX7_declareClass_8 : decode cX7_declareClass 8 = .ok (.aload_n 0, 1) := by decide +kernel
theorem dX7_declareClass_9 : decode cX7_declareClass 9 = .ok (.getfield 9, 3) := by decide +kernel
theorem dX7_declareClass_12 : decode cX7_declareClass 12 = .ok (.aload_n 0, 1) := by decide +kernel
theorem dX7_declareClass_13 : decode cX7_declareClass 13 = .ok (.getfield 31, 3) := by decide +kernel
theorem dX7_declareClass_16 : decode cX7_declareClass 16 = .ok (.iload_n 1, 1) := by decide +kernel
theorem dX7_declareClass_17 : decode cX7_declareClass 17 = .ok (.iastore, 1) := by decide +kernel
theorem dX7_declareClass_18 : decode cX7_declareClass 18 = .ok (.aload_n 0, 1) := by decide +kernel
theorem dX7_declareClass_19 : decode cX7_declareClass 19 = .ok (.dup, 1) := by decide +kernel
theorem dX7_declareClass_20 : decode cX7_declareClass 20 = .ok (.getfield 31, 3) := by decide +kernel
theorem dX7_declareClass_23 : decode cX7_declareClass 23 = .ok (.iconst 1, 1) := by decide +kernel
theorem dX7_declareClass_24 : decode cX7_declareClass 24 = .ok (.iadd, 1) := by decide +kernel
theorem dX7_declareClass_25 : decode cX7_declareClass 25 = .ok (.putfield 31, 3) := by decide +kernel
theorem dX7_declareClass_28 : decode cX7_declareClass 28 = .ok (.return_, 1) := by decide +kernel
theorem dX7_types_0 : decode cX7_types 0 = .ok (.aload_n 0, 1) := by decide +kernel
theorem dX7_types_1 : decode cX7_types 1 = .ok (.getfield 27, 3) := by decide +kernel
theorem dX7_types_4 : decode cX7_types 4 = .ok (.ireturn, 1) := by decide +kernel
theorem dX7_classes_0 : decode cX7_classes 0 = .ok (.aload_n 0, 1) := by decide +kernel
theorem dX7_classes_1 : decode cX7_classes 1 = .ok (.getfield 31, 3) := by decide +kernel
theorem dX7_classes_4 : decode cX7_classes 4 = .ok (.ireturn, 1) := by decide +kernel
theorem dX7_hasType_0 : decode cX7_hasType 0 = .ok (.iload_n 1, 1) := by decide +kernel
theorem dX7_hasType_1 : decode cX7_hasType 1 = .ok (.ifCond .lt 15, 3) := by decide +kernel
theorem dX7_hasType_4 : decode cX7_hasType 4 = .ok (.iload_n 1, 1) := by decide +kernel
theorem dX7_hasType_5 : decode cX7_hasType 5 = .ok (.aload_n 0, 1) := by decide +kernel
theorem dX7_hasType_6 : decode cX7_hasType 6 = .ok (.getfield 27, 3) := by decide +kernel
theorem dX7_hasType_9 : decode cX7_hasType 9 = .ok (.if_icmp .ge 7, 3) := by decide +kernel
theorem dX7_hasType_12 : decode cX7_hasType 12 = .ok (.iconst 1, 1) := by decide +kernel
theorem dX7_hasType_13 : decode cX7_hasType 13 = .ok (.goto 4, 3) := by decide +kernel
theorem dX7_hasType_16 : decode cX7_hasType 16 = .ok (.iconst 0, 1) := by decide +kernel
theorem dX7_hasType_17 : decode cX7_hasType 17 = .ok (.ireturn, 1) := by decide +kernel
theorem dX7_has_0 : decode cX7_has 0 = .ok (.iload_n 1, 1) := by decide +kernel
theorem dX7_has_1 : decode cX7_has 1 = .ok (.ifCond .lt 39, 3) := by decide +kernel
theorem dX7_has_4 : decode cX7_has 4 = .ok (.iload_n 1, 1) := by decide +kernel
theorem dX7_has_5 : decode cX7_has 5 = .ok (.aload_n 0, 1) := by decide +kernel
theorem dX7_has_6 : decode cX7_has 6 = .ok (.getfield 27, 3) := by decide +kernel
theorem dX7_has_9 : decode cX7_has 9 = .ok (.if_icmp .ge 31, 3) := by decide +kernel
theorem dX7_has_12 : decode cX7_has 12 = .ok (.iload_n 2, 1) := by decide +kernel
theorem dX7_has_13 : decode cX7_has 13 = .ok (.ifCond .lt 27, 3) := by decide +kernel
theorem dX7_has_16 : decode cX7_has 16 = .ok (.iload_n 2, 1) := by decide +kernel
theorem dX7_has_17 : decode cX7_has 17 = .ok (.aload_n 0, 1) := by decide +kernel
theorem dX7_has_18 : decode cX7_has 18 = .ok (.getfield 27, 3) := by decide +kernel
theorem dX7_has_21 : decode cX7_has 21 = .ok (.if_icmp .ge 19, 3) := by decide +kernel
theorem dX7_has_24 : decode cX7_has 24 = .ok (.iload_n 3, 1) := by decide +kernel
theorem dX7_has_25 : decode cX7_has 25 = .ok (.ifCond .lt 15, 3) := by decide +kernel
theorem dX7_has_28 : decode cX7_has 28 = .ok (.iload_n 3, 1) := by decide +kernel
theorem dX7_has_29 : decode cX7_has 29 = .ok (.aload_n 0, 1) := by decide +kernel
theorem dX7_has_30 : decode cX7_has 30 = .ok (.getfield 31, 3) := by decide +kernel
theorem dX7_has_33 : decode cX7_has 33 = .ok (.if_icmp .ge 7, 3) := by decide +kernel
theorem dX7_has_36 : decode cX7_has 36 = .ok (.iconst 1, 1) := by decide +kernel
theorem dX7_has_37 : decode cX7_has 37 = .ok (.goto 4, 3) := by decide +kernel
theorem dX7_has_40 : decode cX7_has 40 = .ok (.iconst 0, 1) := by decide +kernel
theorem dX7_has_41 : decode cX7_has 41 = .ok (.ireturn, 1) := by decide +kernel
theorem dX7_permissionsOf_0 : decode cX7_permissionsOf 0 = .ok (.iload_n 1, 1) := by decide +kernel
theorem dX7_permissionsOf_1 : decode cX7_permissionsOf 1 = .ok (.ifCond .lt 20, 3) := by decide +kernel
theorem dX7_permissionsOf_4 : decode cX7_permissionsOf 4 = .ok (.iload_n 1, 1) := by decide +kernel
theorem dX7_permissionsOf_5 : decode cX7_permissionsOf 5 = .ok (.aload_n 0, 1) := by decide +kernel
theorem dX7_permissionsOf_6 : decode cX7_permissionsOf 6 = .ok (.getfield 31, 3) := by decide +kernel
theorem dX7_permissionsOf_9 : decode cX7_permissionsOf 9 = .ok (.if_icmp .ge 12, 3) := by decide +kernel
theorem dX7_permissionsOf_12 : decode cX7_permissionsOf 12 = .ok (.aload_n 0, 1) := by decide +kernel
theorem dX7_permissionsOf_13 : decode cX7_permissionsOf 13 = .ok (.getfield 9, 3) := by decide +kernel
theorem dX7_permissionsOf_16 : decode cX7_permissionsOf 16 = .ok (.iload_n 1, 1) := by decide +kernel
theorem dX7_permissionsOf_17 : decode cX7_permissionsOf 17 = .ok (.iaload, 1) := by decide +kernel
theorem dX7_permissionsOf_18 : decode cX7_permissionsOf 18 = .ok (.goto 4, 3) := by decide +kernel
theorem dX7_permissionsOf_21 : decode cX7_permissionsOf 21 = .ok (.iconst 0, 1) := by decide +kernel
theorem dX7_permissionsOf_22 : decode cX7_permissionsOf 22 = .ok (.ireturn, 1) := by decide +kernel
theorem dX7_rankOf_0 : decode cX7_rankOf 0 = .ok (.aload_n 0, 1) := by decide +kernel
theorem dX7_rankOf_1 : decode cX7_rankOf 1 = .ok (.iload_n 1, 1) := by decide +kernel
theorem dX7_rankOf_2 : decode cX7_rankOf 2 = .ok (.invokevirtual 40, 3) := by decide +kernel
theorem dX7_rankOf_5 : decode cX7_rankOf 5 = .ok (.ifCond .eq 12, 3) := by decide +kernel
theorem dX7_rankOf_8 : decode cX7_rankOf 8 = .ok (.aload_n 0, 1) := by decide +kernel
theorem dX7_rankOf_9 : decode cX7_rankOf 9 = .ok (.getfield 15, 3) := by decide +kernel
theorem dX7_rankOf_12 : decode cX7_rankOf 12 = .ok (.iload_n 1, 1) := by decide +kernel
theorem dX7_rankOf_13 : decode cX7_rankOf 13 = .ok (.iaload, 1) := by decide +kernel
theorem dX7_rankOf_14 : decode cX7_rankOf 14 = .ok (.goto 4, 3) := by decide +kernel
theorem dX7_rankOf_17 : decode cX7_rankOf 17 = .ok (.iconst 0, 1) := by decide +kernel
theorem dX7_rankOf_18 : decode cX7_rankOf 18 = .ok (.ireturn, 1) := by decide +kernel
theorem dX7_setRank_0 : decode cX7_setRank 0 = .ok (.aload_n 0, 1) := by decide +kernel
theorem dX7_setRank_1 : decode cX7_setRank 1 = .ok (.iload_n 1, 1) := by decide +kernel
theorem dX7_setRank_2 : decode cX7_setRank 2 = .ok (.invokevirtual 40, 3) := by decide +kernel
theorem dX7_setRank_5 : decode cX7_setRank 5 = .ok (.ifCond .eq 10, 3) := by decide +kernel
theorem dX7_setRank_8 : decode cX7_setRank 8 = .ok (.aload_n 0, 1) := by decide +kernel
theorem dX7_setRank_9 : decode cX7_setRank 9 = .ok (.getfield 15, 3) := by decide +kernel
theorem dX7_setRank_12 : decode cX7_setRank 12 = .ok (.iload_n 1, 1) := by decide +kernel
theorem dX7_setRank_13 : decode cX7_setRank 13 = .ok (.iload_n 2, 1) := by decide +kernel
theorem dX7_setRank_14 : decode cX7_setRank 14 = .ok (.iastore, 1) := by decide +kernel
theorem dX7_setRank_15 : decode cX7_setRank 15 = .ok (.return_, 1) := by decide +kernel
theorem dX7_allowedAt_0 : decode cX7_allowedAt 0 = .ok (.aload_n 0, 1) := by decide +kernel
theorem dX7_allowedAt_1 : decode cX7_allowedAt 1 = .ok (.iload_n 1, 1) := by decide +kernel
theorem dX7_allowedAt_2 : decode cX7_allowedAt 2 = .ok (.iload_n 2, 1) := by decide +kernel
theorem dX7_allowedAt_3 : decode cX7_allowedAt 3 = .ok (.iload_n 3, 1) := by decide +kernel
theorem dX7_allowedAt_4 : decode cX7_allowedAt 4 = .ok (.invokevirtual 44, 3) := by decide +kernel
theorem dX7_allowedAt_7 : decode cX7_allowedAt 7 = .ok (.ifCond .eq 17, 3) := by decide +kernel
theorem dX7_allowedAt_10 : decode cX7_allowedAt 10 = .ok (.aload_n 0, 1) := by decide +kernel
theorem dX7_allowedAt_11 : decode cX7_allowedAt 11 = .ok (.getfield 18, 3) := by decide +kernel
theorem dX7_allowedAt_14 : decode cX7_allowedAt 14 = .ok (.iload_n 1, 1) := by decide +kernel
theorem dX7_allowedAt_15 : decode cX7_allowedAt 15 = .ok (.iload_n 2, 1) := by decide +kernel
theorem dX7_allowedAt_16 : decode cX7_allowedAt 16 = .ok (.iload_n 3, 1) := by decide +kernel
theorem dX7_allowedAt_17 : decode cX7_allowedAt 17 = .ok (.invokestatic 48, 3) := by decide +kernel
theorem dX7_allowedAt_20 : decode cX7_allowedAt 20 = .ok (.iaload, 1) := by decide +kernel
theorem dX7_allowedAt_21 : decode cX7_allowedAt 21 = .ok (.goto 4, 3) := by decide +kernel
theorem dX7_allowedAt_24 : decode cX7_allowedAt 24 = .ok (.iconst 0, 1) := by decide +kernel
theorem dX7_allowedAt_25 : decode cX7_allowedAt 25 = .ok (.ireturn, 1) := by decide +kernel
theorem dX7_setAllowed_0 : decode cX7_setAllowed 0 = .ok (.aload_n 0, 1) := by decide +kernel
theorem dX7_setAllowed_1 : decode cX7_setAllowed 1 = .ok (.iload_n 1, 1) := by decide +kernel
theorem dX7_setAllowed_2 : decode cX7_setAllowed 2 = .ok (.iload_n 2, 1) := by decide +kernel
theorem dX7_setAllowed_3 : decode cX7_setAllowed 3 = .ok (.iload_n 3, 1) := by decide +kernel
theorem dX7_setAllowed_4 : decode cX7_setAllowed 4 = .ok (.invokevirtual 44, 3) := by decide +kernel
theorem dX7_setAllowed_7 : decode cX7_setAllowed 7 = .ok (.ifCond .eq 16, 3) := by decide +kernel
theorem dX7_setAllowed_10 : decode cX7_setAllowed 10 = .ok (.aload_n 0, 1) := by decide +kernel
theorem dX7_setAllowed_11 : decode cX7_setAllowed 11 = .ok (.getfield 18, 3) := by decide +kernel
theorem dX7_setAllowed_14 : decode cX7_setAllowed 14 = .ok (.iload_n 1, 1) := by decide +kernel
theorem dX7_setAllowed_15 : decode cX7_setAllowed 15 = .ok (.iload_n 2, 1) := by decide +kernel
theorem dX7_setAllowed_16 : decode cX7_setAllowed 16 = .ok (.iload_n 3, 1) := by decide +kernel
theorem dX7_setAllowed_17 : decode cX7_setAllowed 17 = .ok (.invokestatic 48, 3) := by decide +kernel
theorem dX7_setAllowed_20 : decode cX7_setAllowed 20 = .ok (.iload 4, 2) := by decide +kernel
theorem dX7_setAllowed_22 : decode cX7_setAllowed 22 = .ok (.iastore, 1) := by decide +kernel
theorem dX7_setAllowed_23 : decode cX7_setAllowed 23 = .ok (.return_, 1) := by decide +kernel
theorem dX7_addAllowed_0 : decode cX7_addAllowed 0 = .ok (.iconst 0, 1) := by decide +kernel
theorem dX7_addAllowed_1 : decode cX7_addAllowed 1 = .ok (.istore 5, 2) := by decide +kernel
theorem dX7_addAllowed_3 : decode cX7_addAllowed 3 = .ok (.iload 5, 2) := by decide +kernel
theorem dX7_addAllowed_5 : decode cX7_addAllowed 5 = .ok (.aload_n 0, 1) := by decide +kernel
theorem dX7_addAllowed_6 : decode cX7_addAllowed 6 = .ok (.getfield 27, 3) := by decide +kernel
theorem dX7_addAllowed_9 : decode cX7_addAllowed 9 = .ok (.if_icmp .ge 46, 3) := by decide +kernel
theorem dX7_addAllowed_12 : decode cX7_addAllowed 12 = .ok (.iload_n 2, 1) := by decide +kernel
theorem dX7_addAllowed_13 : decode cX7_addAllowed 13 = .ok (.iload 5, 2) := by decide +kernel
theorem dX7_addAllowed_15 : decode cX7_addAllowed 15 = .ok (.invokestatic 52, 3) := by decide +kernel
theorem dX7_addAllowed_18 : decode cX7_addAllowed 18 = .ok (.ifCond .eq 31, 3) := by decide +kernel
theorem dX7_addAllowed_21 : decode cX7_addAllowed 21 = .ok (.aload_n 0, 1) := by decide +kernel
theorem dX7_addAllowed_22 : decode cX7_addAllowed 22 = .ok (.iload_n 1, 1) := by decide +kernel
theorem dX7_addAllowed_23 : decode cX7_addAllowed 23 = .ok (.iload 5, 2) := by decide +kernel
theorem dX7_addAllowed_25 : decode cX7_addAllowed 25 = .ok (.iload_n 3, 1) := by decide +kernel
theorem dX7_addAllowed_26 : decode cX7_addAllowed 26 = .ok (.invokevirtual 44, 3) := by decide +kernel
theorem dX7_addAllowed_29 : decode cX7_addAllowed 29 = .ok (.ifCond .eq 20, 3) := by decide +kernel
theorem dX7_addAllowed_32 : decode cX7_addAllowed 32 = .ok (.aload_n 0, 1) := by decide +kernel
theorem dX7_addAllowed_33 : decode cX7_addAllowed 33 = .ok (.getfield 18, 3) := by decide +kernel
theorem dX7_addAllowed_36 : decode cX7_addAllowed 36 = .ok (.iload_n 1, 1) := by decide +kernel
theorem dX7_addAllowed_37 : decode cX7_addAllowed 37 = .ok (.iload 5, 2) := by decide +kernel
theorem dX7_addAllowed_39 : decode cX7_addAllowed 39 = .ok (.iload_n 3, 1) := by decide +kernel
theorem dX7_addAllowed_40 : decode cX7_addAllowed 40 = .ok (.invokestatic 48, 3) := by decide +kernel
theorem dX7_addAllowed_43 : decode cX7_addAllowed 43 = .ok (.dup2, 1) := by decide +kernel
theorem dX7_addAllowed_44 : decode cX7_addAllowed 44 = .ok (.iaload, 1) := by decide +kernel
theorem dX7_addAllowed_45 : decode cX7_addAllowed 45 = .ok (.iload 4, 2) := by decide +kernel
theorem dX7_addAllowed_47 : decode cX7_addAllowed 47 = .ok (.ior, 1) := by decide +kernel
theorem dX7_addAllowed_48 : decode cX7_addAllowed 48 = .ok (.iastore, 1) := by decide +kernel
theorem dX7_addAllowed_49 : decode cX7_addAllowed 49 = .ok (.iinc 5 1, 3) := by decide +kernel
theorem dX7_addAllowed_52 : decode cX7_addAllowed 52 = .ok (.goto (-49), 3) := by decide +kernel
theorem dX7_addAllowed_55 : decode cX7_addAllowed 55 = .ok (.return_, 1) := by decide +kernel
theorem dX7_allowsSome_0 : decode cX7_allowsSome 0 = .ok (.iconst 0, 1) := by decide +kernel
theorem dX7_allowsSome_1 : decode cX7_allowsSome 1 = .ok (.istore 5, 2) := by decide +kernel
theorem dX7_allowsSome_3 : decode cX7_allowsSome 3 = .ok (.iload 5, 2) := by decide +kernel
theorem dX7_allowsSome_5 : decode cX7_allowsSome 5 = .ok (.aload_n 0, 1) := by decide +kernel
theorem dX7_allowsSome_6 : decode cX7_allowsSome 6 = .ok (.getfield 27, 3) := by decide +kernel
theorem dX7_allowsSome_9 : decode cX7_allowsSome 9 = .ok (.if_icmp .ge 34, 3) := by decide +kernel
theorem dX7_allowsSome_12 : decode cX7_allowsSome 12 = .ok (.iload_n 2, 1) := by decide +kernel
theorem dX7_allowsSome_13 : decode cX7_allowsSome 13 = .ok (.iload 5, 2) := by decide +kernel
theorem dX7_allowsSome_15 : decode cX7_allowsSome 15 = .ok (.invokestatic 52, 3) := by decide +kernel
theorem dX7_allowsSome_18 : decode cX7_allowsSome 18 = .ok (.ifCond .eq 19, 3) := by decide +kernel
theorem dX7_allowsSome_21 : decode cX7_allowsSome 21 = .ok (.aload_n 0, 1) := by decide +kernel
theorem dX7_allowsSome_22 : decode cX7_allowsSome 22 = .ok (.iload_n 1, 1) := by decide +kernel
theorem dX7_allowsSome_23 : decode cX7_allowsSome 23 = .ok (.iload 5, 2) := by decide +kernel
theorem dX7_allowsSome_25 : decode cX7_allowsSome 25 = .ok (.iload_n 3, 1) := by decide +kernel
theorem dX7_allowsSome_26 : decode cX7_allowsSome 26 = .ok (.invokevirtual 56, 3) := by decide +kernel
theorem dX7_allowsSome_29 : decode cX7_allowsSome 29 = .ok (.iload 4, 2) := by decide +kernel
theorem dX7_allowsSome_31 : decode cX7_allowsSome 31 = .ok (.iand, 1) := by decide +kernel
theorem dX7_allowsSome_32 : decode cX7_allowsSome 32 = .ok (.ifCond .eq 5, 3) := by decide +kernel
theorem dX7_allowsSome_35 : decode cX7_allowsSome 35 = .ok (.iconst 1, 1) := by decide +kernel
theorem dX7_allowsSome_36 : decode cX7_allowsSome 36 = .ok (.ireturn, 1) := by decide +kernel
theorem dX7_allowsSome_37 : decode cX7_allowsSome 37 = .ok (.iinc 5 1, 3) := by decide +kernel
theorem dX7_allowsSome_40 : decode cX7_allowsSome 40 = .ok (.goto (-37), 3) := by decide +kernel
theorem dX7_allowsSome_43 : decode cX7_allowsSome 43 = .ok (.iconst 0, 1) := by decide +kernel
theorem dX7_allowsSome_44 : decode cX7_allowsSome 44 = .ok (.ireturn, 1) := by decide +kernel
theorem dX7_productAt_0 : decode cX7_productAt 0 = .ok (.aload_n 0, 1) := by decide +kernel
theorem dX7_productAt_1 : decode cX7_productAt 1 = .ok (.iload_n 1, 1) := by decide +kernel
theorem dX7_productAt_2 : decode cX7_productAt 2 = .ok (.iload_n 2, 1) := by decide +kernel
theorem dX7_productAt_3 : decode cX7_productAt 3 = .ok (.iload_n 3, 1) := by decide +kernel
theorem dX7_productAt_4 : decode cX7_productAt 4 = .ok (.invokevirtual 44, 3) := by decide +kernel
theorem dX7_productAt_7 : decode cX7_productAt 7 = .ok (.ifCond .eq 17, 3) := by decide +kernel
theorem dX7_productAt_10 : decode cX7_productAt 10 = .ok (.aload_n 0, 1) := by decide +kernel
theorem dX7_productAt_11 : decode cX7_productAt 11 = .ok (.getfield 21, 3) := by decide +kernel
theorem dX7_productAt_14 : decode cX7_productAt 14 = .ok (.iload_n 1, 1) := by decide +kernel
theorem dX7_productAt_15 : decode cX7_productAt 15 = .ok (.iload_n 2, 1) := by decide +kernel
theorem dX7_productAt_16 : decode cX7_productAt 16 = .ok (.iload_n 3, 1) := by decide +kernel
theorem dX7_productAt_17 : decode cX7_productAt 17 = .ok (.invokestatic 48, 3) := by decide +kernel
theorem dX7_productAt_20 : decode cX7_productAt 20 = .ok (.iaload, 1) := by decide +kernel
theorem dX7_productAt_21 : decode cX7_productAt 21 = .ok (.goto 4, 3) := by decide +kernel
theorem dX7_productAt_24 : decode cX7_productAt 24 = .ok (.iconst 0, 1) := by decide +kernel
theorem dX7_productAt_25 : decode cX7_productAt 25 = .ok (.ireturn, 1) := by decide +kernel
theorem dX7_setProduct_0 : decode cX7_setProduct 0 = .ok (.aload_n 0, 1) := by decide +kernel
theorem dX7_setProduct_1 : decode cX7_setProduct 1 = .ok (.iload_n 1, 1) := by decide +kernel
theorem dX7_setProduct_2 : decode cX7_setProduct 2 = .ok (.iload_n 2, 1) := by decide +kernel
theorem dX7_setProduct_3 : decode cX7_setProduct 3 = .ok (.iload_n 3, 1) := by decide +kernel
theorem dX7_setProduct_4 : decode cX7_setProduct 4 = .ok (.invokevirtual 44, 3) := by decide +kernel
theorem dX7_setProduct_7 : decode cX7_setProduct 7 = .ok (.ifCond .eq 16, 3) := by decide +kernel
theorem dX7_setProduct_10 : decode cX7_setProduct 10 = .ok (.aload_n 0, 1) := by decide +kernel
theorem dX7_setProduct_11 : decode cX7_setProduct 11 = .ok (.getfield 21, 3) := by decide +kernel
theorem dX7_setProduct_14 : decode cX7_setProduct 14 = .ok (.iload_n 1, 1) := by decide +kernel
theorem dX7_setProduct_15 : decode cX7_setProduct 15 = .ok (.iload_n 2, 1) := by decide +kernel
theorem dX7_setProduct_16 : decode cX7_setProduct 16 = .ok (.iload_n 3, 1) := by decide +kernel
theorem dX7_setProduct_17 : decode cX7_setProduct 17 = .ok (.invokestatic 48, 3) := by decide +kernel
theorem dX7_setProduct_20 : decode cX7_setProduct 20 = .ok (.iload 4, 2) := by decide +kernel
theorem dX7_setProduct_22 : decode cX7_setProduct 22 = .ok (.iastore, 1) := by decide +kernel
theorem dX7_setProduct_23 : decode cX7_setProduct 23 = .ok (.return_, 1) := by decide +kernel
theorem dX7_maskAt_0 : decode cX7_maskAt 0 = .ok (.aload_n 0, 1) := by decide +kernel
theorem dX7_maskAt_1 : decode cX7_maskAt 1 = .ok (.iload_n 1, 1) := by decide +kernel
theorem dX7_maskAt_2 : decode cX7_maskAt 2 = .ok (.iload_n 2, 1) := by decide +kernel
theorem dX7_maskAt_3 : decode cX7_maskAt 3 = .ok (.invokevirtual 59, 3) := by decide +kernel
theorem dX7_maskAt_6 : decode cX7_maskAt 6 = .ok (.ifCond .eq 16, 3) := by decide +kernel
theorem dX7_maskAt_9 : decode cX7_maskAt 9 = .ok (.aload_n 0, 1) := by decide +kernel
theorem dX7_maskAt_10 : decode cX7_maskAt 10 = .ok (.getfield 24, 3) := by decide +kernel
theorem dX7_maskAt_13 : decode cX7_maskAt 13 = .ok (.iload_n 1, 1) := by decide +kernel
theorem dX7_maskAt_14 : decode cX7_maskAt 14 = .ok (.iconst 5, 1) := by decide +kernel
theorem dX7_maskAt_15 : decode cX7_maskAt 15 = .ok (.imul, 1) := by decide +kernel
theorem dX7_maskAt_16 : decode cX7_maskAt 16 = .ok (.iload_n 2, 1) := by decide +kernel
theorem dX7_maskAt_17 : decode cX7_maskAt 17 = .ok (.iadd, 1) := by decide +kernel
theorem dX7_maskAt_18 : decode cX7_maskAt 18 = .ok (.iaload, 1) := by decide +kernel
theorem dX7_maskAt_19 : decode cX7_maskAt 19 = .ok (.goto 4, 3) := by decide +kernel
theorem dX7_maskAt_22 : decode cX7_maskAt 22 = .ok (.iconst 0, 1) := by decide +kernel
theorem dX7_maskAt_23 : decode cX7_maskAt 23 = .ok (.ireturn, 1) := by decide +kernel
theorem dX7_addToMask_0 : decode cX7_addToMask 0 = .ok (.aload_n 0, 1) := by decide +kernel
theorem dX7_addToMask_1 : decode cX7_addToMask 1 = .ok (.iload_n 1, 1) := by decide +kernel
theorem dX7_addToMask_2 : decode cX7_addToMask 2 = .ok (.iload_n 2, 1) := by decide +kernel
theorem dX7_addToMask_3 : decode cX7_addToMask 3 = .ok (.invokevirtual 59, 3) := by decide +kernel
theorem dX7_addToMask_6 : decode cX7_addToMask 6 = .ok (.ifCond .eq 17, 3) := by decide +kernel
theorem dX7_addToMask_9 : decode cX7_addToMask 9 = .ok (.aload_n 0, 1) := by decide +kernel
theorem dX7_addToMask_10 : decode cX7_addToMask 10 = .ok (.getfield 24, 3) := by decide +kernel
theorem dX7_addToMask_13 : decode cX7_addToMask 13 = .ok (.iload_n 1, 1) := by decide +kernel
theorem dX7_addToMask_14 : decode cX7_addToMask 14 = .ok (.iconst 5, 1) := by decide +kernel
theorem dX7_addToMask_15 : decode cX7_addToMask 15 = .ok (.imul, 1) := by decide +kernel
theorem dX7_addToMask_16 : decode cX7_addToMask 16 = .ok (.iload_n 2, 1) := by decide +kernel
theorem dX7_addToMask_17 : decode cX7_addToMask 17 = .ok (.iadd, 1) := by decide +kernel
