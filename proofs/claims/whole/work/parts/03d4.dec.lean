theorem dX12_flows_43 : decode cX12_flows 43 = .ok (.iload_n 2, 1) := by decide +kernel
theorem dX12_flows_44 : decode cX12_flows 44 = .ok (.iload 4, 2) := by decide +kernel
theorem dX12_flows_46 : decode cX12_flows 46 = .ok (.invokevirtual 206, 3) := by decide +kernel
theorem dX12_flows_49 : decode cX12_flows 49 = .ok (.aload_n 0, 1) := by decide +kernel
theorem dX12_flows_50 : decode cX12_flows 50 = .ok (.getfield 45, 3) := by decide +kernel
theorem dX12_flows_53 : decode cX12_flows 53 = .ok (.iconst 5, 1) := by decide +kernel
theorem dX12_flows_54 : decode cX12_flows 54 = .ok (.iload 4, 2) := by decide +kernel
theorem dX12_flows_56 : decode cX12_flows 56 = .ok (.imul, 1) := by decide +kernel
theorem dX12_flows_57 : decode cX12_flows 57 = .ok (.iconst 4, 1) := by decide +kernel
theorem dX12_flows_58 : decode cX12_flows 58 = .ok (.iadd, 1) := by decide +kernel
theorem dX12_flows_59 : decode cX12_flows 59 = .ok (.iaload, 1) := by decide +kernel
theorem dX12_flows_60 : decode cX12_flows 60 = .ok (.iand, 1) := by decide +kernel
theorem dX12_flows_61 : decode cX12_flows 61 = .ok (.ifCond .eq 7, 3) := by decide +kernel
theorem dX12_flows_64 : decode cX12_flows 64 = .ok (.iconst 1, 1) := by decide +kernel
theorem dX12_flows_65 : decode cX12_flows 65 = .ok (.goto 4, 3) := by decide +kernel
theorem dX12_flows_68 : decode cX12_flows 68 = .ok (.iconst 0, 1) := by decide +kernel
theorem dX12_flows_69 : decode cX12_flows 69 = .ok (.istore_n 3, 1) := by decide +kernel
theorem dX12_flows_70 : decode cX12_flows 70 = .ok (.iinc 4 1, 3) := by decide +kernel
theorem dX12_flows_73 : decode cX12_flows 73 = .ok (.goto (-68), 3) := by decide +kernel
theorem dX12_flows_76 : decode cX12_flows 76 = .ok (.iload_n 3, 1) := by decide +kernel
theorem dX12_flows_77 : decode cX12_flows 77 = .ok (.ireturn, 1) := by decide +kernel
theorem dX12_flow_0 : decode cX12_flow 0 = .ok (.aload_n 0, 1) := by decide +kernel
theorem dX12_flow_1 : decode cX12_flow 1 = .ok (.iconst 0, 1) := by decide +kernel
theorem dX12_flow_2 : decode cX12_flow 2 = .ok (.putfield 76, 3) := by decide +kernel
theorem dX12_flow_5 : decode cX12_flow 5 = .ok (.aload_n 0, 1) := by decide +kernel
theorem dX12_flow_6 : decode cX12_flow 6 = .ok (.iload_n 1, 1) := by decide +kernel
theorem dX12_flow_7 : decode cX12_flow 7 = .ok (.iload_n 2, 1) := by decide +kernel
theorem dX12_flow_8 : decode cX12_flow 8 = .ok (.iconst 0, 1) := by decide +kernel
theorem dX12_flow_9 : decode cX12_flow 9 = .ok (.invokevirtual 203, 3) := by decide +kernel
theorem dX12_flow_12 : decode cX12_flow 12 = .ok (.ifCond .ne 5, 3) := by decide +kernel
theorem dX12_flow_15 : decode cX12_flow 15 = .ok (.iconst (-1), 1) := by decide +kernel
theorem dX12_flow_16 : decode cX12_flow 16 = .ok (.ireturn, 1) := by decide +kernel
theorem dX12_flow_17 : decode cX12_flow 17 = .ok (.iconst 0, 1) := by decide +kernel
theorem dX12_flow_18 : decode cX12_flow 18 = .ok (.istore_n 3, 1) := by decide +kernel
theorem dX12_flow_19 : decode cX12_flow 19 = .ok (.iload_n 3, 1) := by decide +kernel
theorem dX12_flow_20 : decode cX12_flow 20 = .ok (.aload_n 0, 1) := by decide +kernel
theorem dX12_flow_21 : decode cX12_flow 21 = .ok (.getfield 172, 3) := by decide +kernel
theorem dX12_flow_24 : decode cX12_flow 24 = .ok (.if_icmp .ge 25, 3) := by decide +kernel
theorem dX12_flow_27 : decode cX12_flow 27 = .ok (.aload_n 0, 1) := by decide +kernel
theorem dX12_flow_28 : decode cX12_flow 28 = .ok (.getfield 66, 3) := by decide +kernel
theorem dX12_flow_31 : decode cX12_flow 31 = .ok (.iload_n 3, 1) := by decide +kernel
theorem dX12_flow_32 : decode cX12_flow 32 = .ok (.iload_n 3, 1) := by decide +kernel
theorem dX12_flow_33 : decode cX12_flow 33 = .ok (.iload_n 1, 1) := by decide +kernel
theorem dX12_flow_34 : decode cX12_flow 34 = .ok (.if_icmp .ne 7, 3) := by decide +kernel
theorem dX12_flow_37 : decode cX12_flow 37 = .ok (.iconst 1, 1) := by decide +kernel
theorem dX12_flow_38 : decode cX12_flow 38 = .ok (.goto 4, 3) := by decide +kernel
theorem dX12_flow_41 : decode cX12_flow 41 = .ok (.iconst 0, 1) := by decide +kernel
theorem dX12_flow_42 : decode cX12_flow 42 = .ok (.bastore, 1) := by decide +kernel
theorem dX12_flow_43 : decode cX12_flow 43 = .ok (.iinc 3 1, 3) := by decide +kernel
theorem dX12_flow_46 : decode cX12_flow 46 = .ok (.goto (-27), 3) := by decide +kernel
theorem dX12_flow_49 : decode cX12_flow 49 = .ok (.iconst 0, 1) := by decide +kernel
theorem dX12_flow_50 : decode cX12_flow 50 = .ok (.istore_n 3, 1) := by decide +kernel
theorem dX12_flow_51 : decode cX12_flow 51 = .ok (.iload_n 3, 1) := by decide +kernel
theorem dX12_flow_52 : decode cX12_flow 52 = .ok (.bipush 8, 2) := by decide +kernel
theorem dX12_flow_54 : decode cX12_flow 54 = .ok (.if_icmp .ge 145, 3) := by decide +kernel
theorem dX12_flow_57 : decode cX12_flow 57 = .ok (.aload_n 0, 1) := by decide +kernel
theorem dX12_flow_58 : decode cX12_flow 58 = .ok (.getfield 66, 3) := by decide +kernel
theorem dX12_flow_61 : decode cX12_flow 61 = .ok (.iload_n 2, 1) := by decide +kernel
theorem dX12_flow_62 : decode cX12_flow 62 = .ok (.baload, 1) := by decide +kernel
theorem dX12_flow_63 : decode cX12_flow 63 = .ok (.ifCond .eq 5, 3) := by decide +kernel
theorem dX12_flow_66 : decode cX12_flow 66 = .ok (.iload_n 3, 1) := by decide +kernel
theorem dX12_flow_67 : decode cX12_flow 67 = .ok (.ireturn, 1) := by decide +kernel
theorem dX12_flow_68 : decode cX12_flow 68 = .ok (.iconst 0, 1) := by decide +kernel
theorem dX12_flow_69 : decode cX12_flow 69 = .ok (.istore 4, 2) := by decide +kernel
theorem dX12_flow_71 : decode cX12_flow 71 = .ok (.iload 4, 2) := by decide +kernel
theorem dX12_flow_73 : decode cX12_flow 73 = .ok (.aload_n 0, 1) := by decide +kernel
theorem dX12_flow_74 : decode cX12_flow 74 = .ok (.getfield 172, 3) := by decide +kernel
theorem dX12_flow_77 : decode cX12_flow 77 = .ok (.if_icmp .ge 84, 3) := by decide +kernel
theorem dX12_flow_80 : decode cX12_flow 80 = .ok (.aload_n 0, 1) := by decide +kernel
theorem dX12_flow_81 : decode cX12_flow 81 = .ok (.getfield 70, 3) := by decide +kernel
theorem dX12_flow_84 : decode cX12_flow 84 = .ok (.iload 4, 2) := by decide +kernel
theorem dX12_flow_86 : decode cX12_flow 86 = .ok (.aload_n 0, 1) := by decide +kernel
theorem dX12_flow_87 : decode cX12_flow 87 = .ok (.getfield 66, 3) := by decide +kernel
theorem dX12_flow_90 : decode cX12_flow 90 = .ok (.iload 4, 2) := by decide +kernel
theorem dX12_flow_92 : decode cX12_flow 92 = .ok (.baload, 1) := by decide +kernel
theorem dX12_flow_93 : decode cX12_flow 93 = .ok (.bastore, 1) := by decide +kernel
theorem dX12_flow_94 : decode cX12_flow 94 = .ok (.iconst 0, 1) := by decide +kernel
theorem dX12_flow_95 : decode cX12_flow 95 = .ok (.istore 5, 2) := by decide +kernel
theorem dX12_flow_97 : decode cX12_flow 97 = .ok (.iload 5, 2) := by decide +kernel
theorem dX12_flow_99 : decode cX12_flow 99 = .ok (.aload_n 0, 1) := by decide +kernel
theorem dX12_flow_100 : decode cX12_flow 100 = .ok (.getfield 172, 3) := by decide +kernel
theorem dX12_flow_103 : decode cX12_flow 103 = .ok (.if_icmp .ge 52, 3) := by decide +kernel
theorem dX12_flow_106 : decode cX12_flow 106 = .ok (.aload_n 0, 1) := by decide +kernel
theorem dX12_flow_107 : decode cX12_flow 107 = .ok (.getfield 70, 3) := by decide +kernel
theorem dX12_flow_110 : decode cX12_flow 110 = .ok (.iload 4, 2) := by decide +kernel
theorem dX12_flow_112 : decode cX12_flow 112 = .ok (.aload_n 0, 1) := by decide +kernel
theorem dX12_flow_113 : decode cX12_flow 113 = .ok (.getfield 70, 3) := by decide +kernel
theorem dX12_flow_116 : decode cX12_flow 116 = .ok (.iload 4, 2) := by decide +kernel
theorem dX12_flow_118 : decode cX12_flow 118 = .ok (.baload, 1) := by decide +kernel
theorem dX12_flow_119 : decode cX12_flow 119 = .ok (.ifCond .ne 24, 3) := by decide +kernel
theorem dX12_flow_122 : decode cX12_flow 122 = .ok (.aload_n 0, 1) := by decide +kernel
theorem dX12_flow_123 : decode cX12_flow 123 = .ok (.getfield 66, 3) := by decide +kernel
theorem dX12_flow_126 : decode cX12_flow 126 = .ok (.iload 5, 2) := by decide +kernel
theorem dX12_flow_128 : decode cX12_flow 128 = .ok (.baload, 1) := by decide +kernel
theorem dX12_flow_129 : decode cX12_flow 129 = .ok (.ifCond .eq 18, 3) := by decide +kernel
theorem dX12_flow_132 : decode cX12_flow 132 = .ok (.aload_n 0, 1) := by decide +kernel
theorem dX12_flow_133 : decode cX12_flow 133 = .ok (.iload 5, 2) := by decide +kernel
theorem dX12_flow_135 : decode cX12_flow 135 = .ok (.iload 4, 2) := by decide +kernel
theorem dX12_flow_137 : decode cX12_flow 137 = .ok (.invokevirtual 215, 3) := by decide +kernel
theorem dX12_flow_140 : decode cX12_flow 140 = .ok (.ifCond .eq 7, 3) := by decide +kernel
theorem dX12_flow_143 : decode cX12_flow 143 = .ok (.iconst 1, 1) := by decide +kernel
theorem dX12_flow_144 : decode cX12_flow 144 = .ok (.goto 4, 3) := by decide +kernel
theorem dX12_flow_147 : decode cX12_flow 147 = .ok (.iconst 0, 1) := by decide +kernel
theorem dX12_flow_148 : decode cX12_flow 148 = .ok (.bastore, 1) := by decide +kernel
theorem dX12_flow_149 : decode cX12_flow 149 = .ok (.iinc 5 1, 3) := by decide +kernel
theorem dX12_flow_152 : decode cX12_flow 152 = .ok (.goto (-55), 3) := by decide +kernel
theorem dX12_flow_155 : decode cX12_flow 155 = .ok (.iinc 4 1, 3) := by decide +kernel
theorem dX12_flow_158 : decode cX12_flow 158 = .ok (.goto (-87), 3) := by decide +kernel
theorem dX12_flow_161 : decode cX12_flow 161 = .ok (.iconst 0, 1) := by decide +kernel
theorem dX12_flow_162 : decode cX12_flow 162 = .ok (.istore 4, 2) := by decide +kernel
theorem dX12_flow_164 : decode cX12_flow 164 = .ok (.iload 4, 2) := by decide +kernel
theorem dX12_flow_166 : decode cX12_flow 166 = .ok (.aload_n 0, 1) := by decide +kernel
theorem dX12_flow_167 : decode cX12_flow 167 = .ok (.getfield 172, 3) := by decide +kernel
theorem dX12_flow_170 : decode cX12_flow 170 = .ok (.if_icmp .ge 23, 3) := by decide +kernel
theorem dX12_flow_173 : decode cX12_flow 173 = .ok (.aload_n 0, 1) := by decide +kernel
theorem dX12_flow_174 : decode cX12_flow 174 = .ok (.getfield 66, 3) := by decide +kernel
theorem dX12_flow_177 : decode cX12_flow 177 = .ok (.iload 4, 2) := by decide +kernel
theorem dX12_flow_179 : decode cX12_flow 179 = .ok (.aload_n 0, 1) := by decide +kernel
theorem dX12_flow_180 : decode cX12_flow 180 = .ok (.getfield 70, 3) := by decide +kernel
theorem dX12_flow_183 : decode cX12_flow 183 = .ok (.iload 4, 2) := by decide +kernel
theorem dX12_flow_185 : decode cX12_flow 185 = .ok (.baload, 1) := by decide +kernel
theorem dX12_flow_186 : decode cX12_flow 186 = .ok (.bastore, 1) := by decide +kernel
theorem dX12_flow_187 : decode cX12_flow 187 = .ok (.iinc 4 1, 3) := by decide +kernel
theorem dX12_flow_190 : decode cX12_flow 190 = .ok (.goto (-26), 3) := by decide +kernel
theorem dX12_flow_193 : decode cX12_flow 193 = .ok (.iinc 3 1, 3) := by decide +kernel
theorem dX12_flow_196 : decode cX12_flow 196 = .ok (.goto (-145), 3) := by decide +kernel
theorem dX12_flow_199 : decode cX12_flow 199 = .ok (.iconst (-1), 1) := by decide +kernel
theorem dX12_flow_200 : decode cX12_flow 200 = .ok (.ireturn, 1) := by decide +kernel
theorem dX12_count_0 : decode cX12_count 0 = .ok (.aload_n 0, 1) := by decide +kernel
theorem dX12_count_1 : decode cX12_count 1 = .ok (.iconst 0, 1) := by decide +kernel
theorem dX12_count_2 : decode cX12_count 2 = .ok (.putfield 76, 3) := by decide +kernel
theorem dX12_count_5 : decode cX12_count 5 = .ok (.iload_n 1, 1) := by decide +kernel
theorem dX12_count_6 : decode cX12_count 6 = .ok (.tableswitch 68 0 5 #[38, 43, 48, 53, 58, 63], 38) := by decide +kernel
theorem dX12_count_44 : decode cX12_count 44 = .ok (.aload_n 0, 1) := by decide +kernel
theorem dX12_count_45 : decode cX12_count 45 = .ok (.getfield 172, 3) := by decide +kernel
theorem dX12_count_48 : decode cX12_count 48 = .ok (.ireturn, 1) := by decide +kernel
theorem dX12_count_49 : decode cX12_count 49 = .ok (.aload_n 0, 1) := by decide +kernel
theorem dX12_count_50 : decode cX12_count 50 = .ok (.getfield 175, 3) := by decide +kernel
theorem dX12_count_53 : decode cX12_count 53 = .ok (.ireturn, 1) := by decide +kernel
theorem dX12_count_54 : decode cX12_count 54 = .ok (.aload_n 0, 1) := by decide +kernel
theorem dX12_count_55 : decode cX12_count 55 = .ok (.getfield 209, 3) := by decide +kernel
theorem dX12_count_58 : decode cX12_count 58 = .ok (.ireturn, 1) := by decide +kernel
theorem dX12_count_59 : decode cX12_count 59 = .ok (.aload_n 0, 1) := by decide +kernel
theorem dX12_count_60 : decode cX12_count 60 = .ok (.getfield 212, 3) := by decide +kernel
theorem dX12_count_63 : decode cX12_count 63 = .ok (.ireturn, 1) := by decide +kernel
theorem dX12_count_64 : decode cX12_count 64 = .ok (.aload_n 0, 1) := by decide +kernel
theorem dX12_count_65 : decode cX12_count 65 = .ok (.getfield 200, 3) := by decide +kernel
theorem dX12_count_68 : decode cX12_count 68 = .ok (.ireturn, 1) := by decide +kernel
theorem dX12_count_69 : decode cX12_count 69 = .ok (.aload_n 0, 1) := by decide +kernel
theorem dX12_count_70 : decode cX12_count 70 = .ok (.getfield 107, 3) := by decide +kernel
theorem dX12_count_73 : decode cX12_count 73 = .ok (.ireturn, 1) := by decide +kernel
theorem dX12_count_74 : decode cX12_count 74 = .ok (.iconst 0, 1) := by decide +kernel
theorem dX12_count_75 : decode cX12_count 75 = .ok (.ireturn, 1) := by decide +kernel
theorem dX12_say_0 : decode cX12_say 0 = .ok (.aload_n 0, 1) := by decide +kernel
theorem dX12_say_1 : decode cX12_say 1 = .ok (.getfield 60, 3) := by decide +kernel
theorem dX12_say_4 : decode cX12_say 4 = .ok (.aload_n 0, 1) := by decide +kernel
theorem dX12_say_5 : decode cX12_say 5 = .ok (.getfield 218, 3) := by decide +kernel
theorem dX12_say_8 : decode cX12_say 8 = .ok (.iload_n 1, 1) := by decide +kernel
theorem dX12_say_9 : decode cX12_say 9 = .ok (.iastore, 1) := by decide +kernel
theorem dX12_say_10 : decode cX12_say 10 = .ok (.aload_n 0, 1) := by decide +kernel
theorem dX12_say_11 : decode cX12_say 11 = .ok (.dup, 1) := by decide +kernel
theorem dX12_say_12 : decode cX12_say 12 = .ok (.getfield 218, 3) := by decide +kernel
theorem dX12_say_15 : decode cX12_say 15 = .ok (.iconst 1, 1) := by decide +kernel
theorem dX12_say_16 : decode cX12_say 16 = .ok (.iadd, 1) := by decide +kernel
theorem dX12_say_17 : decode cX12_say 17 = .ok (.putfield 218, 3) := by decide +kernel
theorem dX12_say_20 : decode cX12_say 20 = .ok (.return_, 1) := by decide +kernel
theorem dX12_image_0 : decode cX12_image 0 = .ok (.aload_n 0, 1) := by decide +kernel
theorem dX12_image_1 : decode cX12_image 1 = .ok (.iconst 0, 1) := by decide +kernel
theorem dX12_image_2 : decode cX12_image 2 = .ok (.putfield 76, 3) := by decide +kernel
theorem dX12_image_5 : decode cX12_image 5 = .ok (.aload_n 0, 1) := by decide +kernel
theorem dX12_image_6 : decode cX12_image 6 = .ok (.getfield 172, 3) := by decide +kernel
theorem dX12_image_9 : decode cX12_image 9 = .ok (.ifCond .ne 5, 3) := by decide +kernel
theorem dX12_image_12 : decode cX12_image 12 = .ok (.iconst 0, 1) := by decide +kernel
theorem dX12_image_13 : decode cX12_image 13 = .ok (.ireturn, 1) := by decide +kernel
theorem dX12_image_14 : decode cX12_image 14 = .ok (.aload_n 0, 1) := by decide +kernel
theorem dX12_image_15 : decode cX12_image 15 = .ok (.iconst 0, 1) := by decide +kernel
theorem dX12_image_16 : decode cX12_image 16 = .ok (.putfield 218, 3) := by decide +kernel
theorem dX12_image_19 : decode cX12_image 19 = .ok (.aload_n 0, 1) := by decide +kernel
theorem dX12_image_20 : decode cX12_image 20 = .ok (.aload_n 0, 1) := by decide +kernel
theorem dX12_image_21 : decode cX12_image 21 = .ok (.getfield 172, 3) := by decide +kernel
theorem dX12_image_24 : decode cX12_image 24 = .ok (.invokevirtual 221, 3) := by decide +kernel
theorem dX12_image_27 : decode cX12_image 27 = .ok (.aload_n 0, 1) := by decide +kernel
theorem dX12_image_28 : decode cX12_image 28 = .ok (.aload_n 0, 1) := by decide +kernel
theorem dX12_image_29 : decode cX12_image 29 = .ok (.getfield 175, 3) := by decide +kernel
theorem dX12_image_32 : decode cX12_image 32 = .ok (.invokevirtual 221, 3) := by decide +kernel
theorem dX12_image_35 : decode cX12_image 35 = .ok (.iconst 0, 1) := by decide +kernel
theorem dX12_image_36 : decode cX12_image 36 = .ok (.istore_n 1, 1) := by decide +kernel
theorem dX12_image_37 : decode cX12_image 37 = .ok (.iload_n 1, 1) := by decide +kernel
theorem dX12_image_38 : decode cX12_image 38 = .ok (.aload_n 0, 1) := by decide +kernel
theorem dX12_image_39 : decode cX12_image 39 = .ok (.getfield 175, 3) := by decide +kernel
theorem dX12_image_42 : decode cX12_image 42 = .ok (.if_icmp .ge 19, 3) := by decide +kernel
theorem dX12_image_45 : decode cX12_image 45 = .ok (.aload_n 0, 1) := by decide +kernel
theorem dX12_image_46 : decode cX12_image 46 = .ok (.aload_n 0, 1) := by decide +kernel
theorem dX12_image_47 : decode cX12_image 47 = .ok (.getfield 33, 3) := by decide +kernel
theorem dX12_image_50 : decode cX12_image 50 = .ok (.iload_n 1, 1) := by decide +kernel
theorem dX12_image_51 : decode cX12_image 51 = .ok (.iaload, 1) := by decide +kernel
theorem dX12_image_52 : decode cX12_image 52 = .ok (.invokevirtual 221, 3) := by decide +kernel
theorem dX12_image_55 : decode cX12_image 55 = .ok (.iinc 1 1, 3) := by decide +kernel
theorem dX12_image_58 : decode cX12_image 58 = .ok (.goto (-21), 3) := by decide +kernel
theorem dX12_image_61 : decode cX12_image 61 = .ok (.iconst 0, 1) := by decide +kernel
theorem dX12_image_62 : decode cX12_image 62 = .ok (.istore_n 1, 1) := by decide +kernel
theorem dX12_image_63 : decode cX12_image 63 = .ok (.iload_n 1, 1) := by decide +kernel
theorem dX12_image_64 : decode cX12_image 64 = .ok (.aload_n 0, 1) := by decide +kernel
theorem dX12_image_65 : decode cX12_image 65 = .ok (.getfield 172, 3) := by decide +kernel
theorem dX12_image_68 : decode cX12_image 68 = .ok (.if_icmp .ge 19, 3) := by decide +kernel
theorem dX12_image_71 : decode cX12_image 71 = .ok (.aload_n 0, 1) := by decide +kernel
theorem dX12_image_72 : decode cX12_image 72 = .ok (.aload_n 0, 1) := by decide +kernel
theorem dX12_image_73 : decode cX12_image 73 = .ok (.getfield 36, 3) := by decide +kernel
theorem dX12_image_76 : decode cX12_image 76 = .ok (.iload_n 1, 1) := by decide +kernel
theorem dX12_image_77 : decode cX12_image 77 = .ok (.iaload, 1) := by decide +kernel
theorem dX12_image_78 : decode cX12_image 78 = .ok (.invokevirtual 221, 3) := by decide +kernel
theorem dX12_image_81 : decode cX12_image 81 = .ok (.iinc 1 1, 3) := by decide +kernel
theorem dX12_image_84 : decode cX12_image 84 = .ok (.goto (-21), 3) := by decide +kernel
theorem dX12_image_87 : decode cX12_image 87 = .ok (.iconst 0, 1) := by decide +kernel
theorem dX12_image_88 : decode cX12_image 88 = .ok (.istore_n 1, 1) := by decide +kernel
theorem dX12_image_89 : decode cX12_image 89 = .ok (.iload_n 1, 1) := by decide +kernel
theorem dX12_image_90 : decode cX12_image 90 = .ok (.aload_n 0, 1) := by decide +kernel
theorem dX12_image_91 : decode cX12_image 91 = .ok (.getfield 175, 3) := by decide +kernel
theorem dX12_image_94 : decode cX12_image 94 = .ok (.if_icmp .ge 140, 3) := by decide +kernel
theorem dX12_image_97 : decode cX12_image 97 = .ok (.iconst 0, 1) := by decide +kernel
theorem dX12_image_98 : decode cX12_image 98 = .ok (.istore_n 2, 1) := by decide +kernel
theorem dX12_image_99 : decode cX12_image 99 = .ok (.iload_n 2, 1) := by decide +kernel
theorem dX12_image_100 : decode cX12_image 100 = .ok (.aload_n 0, 1) := by decide +kernel
theorem dX12_image_101 : decode cX12_image 101 = .ok (.getfield 172, 3) := by decide +kernel
theorem dX12_image_104 : decode cX12_image 104 = .ok (.aload_n 0, 1) := by decide +kernel
theorem dX12_image_105 : decode cX12_image 105 = .ok (.getfield 172, 3) := by decide +kernel
theorem dX12_image_108 : decode cX12_image 108 = .ok (.imul, 1) := by decide +kernel
theorem dX12_image_109 : decode cX12_image 109 = .ok (.if_icmp .ge 39, 3) := by decide +kernel
theorem dX12_image_112 : decode cX12_image 112 = .ok (.aload_n 0, 1) := by decide +kernel
theorem dX12_image_113 : decode cX12_image 113 = .ok (.aload_n 0, 1) := by decide +kernel
theorem dX12_image_114 : decode cX12_image 114 = .ok (.getfield 39, 3) := by decide +kernel
theorem dX12_image_117 : decode cX12_image 117 = .ok (.bipush 64, 2) := by decide +kernel
theorem dX12_image_119 : decode cX12_image 119 = .ok (.iload_n 1, 1) := by decide +kernel
theorem dX12_image_120 : decode cX12_image 120 = .ok (.imul, 1) := by decide +kernel
theorem dX12_image_121 : decode cX12_image 121 = .ok (.bipush 8, 2) := by decide +kernel
theorem dX12_image_123 : decode cX12_image 123 = .ok (.iload_n 2, 1) := by decide +kernel
theorem dX12_image_124 : decode cX12_image 124 = .ok (.aload_n 0, 1) := by decide +kernel
theorem dX12_image_125 : decode cX12_image 125 = .ok (.getfield 172, 3) := by decide +kernel
theorem dX12_image_128 : decode cX12_image 128 = .ok (.idiv, 1) := by decide +kernel
theorem dX12_image_129 : decode cX12_image 129 = .ok (.imul, 1) := by decide +kernel
theorem dX12_image_130 : decode cX12_image 130 = .ok (.iadd, 1) := by decide +kernel
theorem dX12_image_131 : decode cX12_image 131 = .ok (.iload_n 2, 1) := by decide +kernel
theorem dX12_image_132 : decode cX12_image 132 = .ok (.aload_n 0, 1) := by decide +kernel
theorem dX12_image_133 : decode cX12_image 133 = .ok (.getfield 172, 3) := by decide +kernel
theorem dX12_image_136 : decode cX12_image 136 = .ok (.irem, 1) := by decide +kernel
theorem dX12_image_137 : decode cX12_image 137 = .ok (.iadd, 1) := by decide +kernel
theorem dX12_image_138 : decode cX12_image 138 = .ok (.iaload, 1) := by decide +kernel
theorem dX12_image_139 : decode cX12_image 139 = .ok (.invokevirtual 221, 3) := by decide +kernel
theorem dX12_image_142 : decode cX12_image 142 = .ok (.iinc 2 1, 3) := by decide +kernel
theorem dX12_image_145 : decode cX12_image 145 = .ok (.goto (-46), 3) := by decide +kernel
theorem dX12_image_148 : decode cX12_image 148 = .ok (.iconst 0, 1) := by decide +kernel
theorem dX12_image_149 : decode cX12_image 149 = .ok (.istore_n 2, 1) := by decide +kernel
theorem dX12_image_150 : decode cX12_image 150 = .ok (.iload_n 2, 1) := by decide +kernel
theorem dX12_image_151 : decode cX12_image 151 = .ok (.aload_n 0, 1) := by decide +kernel
theorem dX12_image_152 : decode cX12_image 152 = .ok (.getfield 172, 3) := by decide +kernel
theorem dX12_image_155 : decode cX12_image 155 = .ok (.aload_n 0, 1) := by decide +kernel
theorem dX12_image_156 : decode cX12_image 156 = .ok (.getfield 172, 3) := by decide +kernel
theorem dX12_image_159 : decode cX12_image 159 = .ok (.imul, 1) := by decide +kernel
theorem dX12_image_160 : decode cX12_image 160 = .ok (.if_icmp .ge 41, 3) := by decide +kernel
theorem dX12_image_163 : decode cX12_image 163 = .ok (.aload_n 0, 1) := by decide +kernel
theorem dX12_image_164 : decode cX12_image 164 = .ok (.aload_n 0, 1) := by decide +kernel
theorem dX12_image_165 : decode cX12_image 165 = .ok (.getfield 42, 3) := by decide +kernel
theorem dX12_image_168 : decode cX12_image 168 = .ok (.bipush 64, 2) := by decide +kernel
theorem dX12_image_170 : decode cX12_image 170 = .ok (.iload_n 1, 1) := by decide +kernel
theorem dX12_image_171 : decode cX12_image 171 = .ok (.imul, 1) := by decide +kernel
theorem dX12_image_172 : decode cX12_image 172 = .ok (.bipush 8, 2) := by decide +kernel
theorem dX12_image_174 : decode cX12_image 174 = .ok (.iload_n 2, 1) := by decide +kernel
theorem dX12_image_175 : decode cX12_image 175 = .ok (.aload_n 0, 1) := by decide +kernel
theorem dX12_image_176 : decode cX12_image 176 = .ok (.getfield 172, 3) := by decide +kernel
theorem dX12_image_179 : decode cX12_image 179 = .ok (.idiv, 1) := by decide +kernel
theorem dX12_image_180 : decode cX12_image 180 = .ok (.imul, 1) := by decide +kernel
theorem dX12_image_181 : decode cX12_image 181 = .ok (.iadd, 1) := by decide +kernel
theorem dX12_image_182 : decode cX12_image 182 = .ok (.iload_n 2, 1) := by decide +kernel
theorem dX12_image_183 : decode cX12_image 183 = .ok (.aload_n 0, 1) := by decide +kernel
theorem dX12_image_184 : decode cX12_image 184 = .ok (.getfield 172, 3) := by decide +kernel
theorem dX12_image_187 : decode cX12_image 187 = .ok (.irem, 1) := by decide +kernel
theorem dX12_image_188 : decode cX12_image 188 = .ok (.iadd, 1) := by decide +kernel
theorem dX12_image_189 : decode cX12_image 189 = .ok (.iaload, 1) := by decide +kernel
theorem dX12_image_190 : decode cX12_image 190 = .ok (.iconst 1, 1) := by decide +kernel
theorem dX12_image_191 : decode cX12_image 191 = .ok (.iadd, 1) := by decide +kernel
theorem dX12_image_192 : decode cX12_image 192 = .ok (.invokevirtual 221, 3) := by decide +kernel
theorem dX12_image_195 : decode cX12_image 195 = .ok (.iinc 2 1, 3) := by decide +kernel
theorem dX12_image_198 : decode cX12_image 198 = .ok (.goto (-48), 3) := by decide +kernel
theorem dX12_image_201 : decode cX12_image 201 = .ok (.iconst 0, 1) := by decide +kernel
theorem dX12_image_202 : decode cX12_image 202 = .ok (.istore_n 2, 1) := by decide +kernel
theorem dX12_image_203 : decode cX12_image 203 = .ok (.iload_n 2, 1) := by decide +kernel
theorem dX12_image_204 : decode cX12_image 204 = .ok (.iconst 5, 1) := by decide +kernel
theorem dX12_image_205 : decode cX12_image 205 = .ok (.if_icmp .ge 23, 3) := by decide +kernel
theorem dX12_image_208 : decode cX12_image 208 = .ok (.aload_n 0, 1) := by decide +kernel
theorem dX12_image_209 : decode cX12_image 209 = .ok (.aload_n 0, 1) := by decide +kernel
theorem dX12_image_210 : decode cX12_image 210 = .ok (.getfield 45, 3) := by decide +kernel
theorem dX12_image_213 : decode cX12_image 213 = .ok (.iconst 5, 1) := by decide +kernel
theorem dX12_image_214 : decode cX12_image 214 = .ok (.iload_n 1, 1) := by decide +kernel
theorem dX12_image_215 : decode cX12_image 215 = .ok (.imul, 1) := by decide +kernel
theorem dX12_image_216 : decode cX12_image 216 = .ok (.iload_n 2, 1) := by decide +kernel
theorem dX12_image_217 : decode cX12_image 217 = .ok (.iadd, 1) := by decide +kernel
theorem dX12_image_218 : decode cX12_image 218 = .ok (.iaload, 1) := by decide +kernel
theorem dX12_image_219 : decode cX12_image 219 = .ok (.invokevirtual 221, 3) := by decide +kernel
theorem dX12_image_222 : decode cX12_image 222 = .ok (.iinc 2 1, 3) := by decide +kernel
theorem dX12_image_225 : decode cX12_image 225 = .ok (.goto (-22), 3) := by decide +kernel
theorem dX12_image_228 : decode cX12_image 228 = .ok (.iinc 1 1, 3) := by decide +kernel
theorem dX12_image_231 : decode cX12_image 231 = .ok (.goto (-142), 3) := by decide +kernel
theorem dX12_image_234 : decode cX12_image 234 = .ok (.aload_n 0, 1) := by decide +kernel
theorem dX12_image_235 : decode cX12_image 235 = .ok (.getfield 218, 3) := by decide +kernel
theorem dX12_image_238 : decode cX12_image 238 = .ok (.ireturn, 1) := by decide +kernel
theorem dX12_imageAt_0 : decode cX12_imageAt 0 = .ok (.aload_n 0, 1) := by decide +kernel
theorem dX12_imageAt_1 : decode cX12_imageAt 1 = .ok (.iconst 0, 1) := by decide +kernel
theorem dX12_imageAt_2 : decode cX12_imageAt 2 = .ok (.putfield 76, 3) := by decide +kernel
theorem dX12_imageAt_5 : decode cX12_imageAt 5 = .ok (.iload_n 1, 1) := by decide +kernel
theorem dX12_imageAt_6 : decode cX12_imageAt 6 = .ok (.ifCond .lt 20, 3) := by decide +kernel
theorem dX12_imageAt_9 : decode cX12_imageAt 9 = .ok (.iload_n 1, 1) := by decide +kernel
theorem dX12_imageAt_10 : decode cX12_imageAt 10 = .ok (.aload_n 0, 1) := by decide +kernel
theorem dX12_imageAt_11 : decode cX12_imageAt 11 = .ok (.getfield 218, 3) := by decide +kernel
theorem dX12_imageAt_14 : decode cX12_imageAt 14 = .ok (.if_icmp .ge 12, 3) := by decide +kernel
theorem dX12_imageAt_17 : decode cX12_imageAt 17 = .ok (.aload_n 0, 1) := by decide +kernel
theorem dX12_imageAt_18 : decode cX12_imageAt 18 = .ok (.getfield 60, 3) := by decide +kernel
theorem dX12_imageAt_21 : decode cX12_imageAt 21 = .ok (.iload_n 1, 1) := by decide +kernel
theorem dX12_imageAt_22 : decode cX12_imageAt 22 = .ok (.iaload, 1) := by decide +kernel
theorem dX12_imageAt_23 : decode cX12_imageAt 23 = .ok (.goto 4, 3) := by decide +kernel
theorem dX12_imageAt_26 : decode cX12_imageAt 26 = .ok (.iconst (-1), 1) := by decide +kernel
theorem dX12_imageAt_27 : decode cX12_imageAt 27 = .ok (.ireturn, 1) := by decide +kernel
theorem dX12_feed_0 : decode cX12_feed 0 = .ok (.aload_n 0, 1) := by decide +kernel
theorem dX12_feed_1 : decode cX12_feed 1 = .ok (.iconst 0, 1) := by decide +kernel
theorem dX12_feed_2 : decode cX12_feed 2 = .ok (.putfield 76, 3) := by decide +kernel
theorem dX12_feed_5 : decode cX12_feed 5 = .ok (.iload_n 3, 1) := by decide +kernel
theorem dX12_feed_6 : decode cX12_feed 6 = .ok (.iconst 1, 1) := by decide +kernel
theorem dX12_feed_7 : decode cX12_feed 7 = .ok (.if_icmp .lt 21, 3) := by decide +kernel
theorem dX12_feed_10 : decode cX12_feed 10 = .ok (.iload_n 3, 1) := by decide +kernel
theorem dX12_feed_11 : decode cX12_feed 11 = .ok (.bipush 8, 2) := by decide +kernel
theorem dX12_feed_13 : decode cX12_feed 13 = .ok (.if_icmp .gt 15, 3) := by decide +kernel
theorem dX12_feed_16 : decode cX12_feed 16 = .ok (.aload_n 0, 1) := by decide +kernel
theorem dX12_feed_17 : decode cX12_feed 17 = .ok (.getfield 224, 3) := by decide +kernel
theorem dX12_feed_20 : decode cX12_feed 20 = .ok (.iload_n 3, 1) := by decide +kernel
theorem dX12_feed_21 : decode cX12_feed 21 = .ok (.iadd, 1) := by decide +kernel
theorem dX12_feed_22 : decode cX12_feed 22 = .ok (.sipush 420, 3) := by decide +kernel
theorem dX12_feed_25 : decode cX12_feed 25 = .ok (.if_icmp .le 5, 3) := by decide +kernel
theorem dX12_feed_28 : decode cX12_feed 28 = .ok (.iconst (-1), 1) := by decide +kernel
theorem dX12_feed_29 : decode cX12_feed 29 = .ok (.ireturn, 1) := by decide +kernel
theorem dX12_feed_30 : decode cX12_feed 30 = .ok (.iconst 0, 1) := by decide +kernel
theorem dX12_feed_31 : decode cX12_feed 31 = .ok (.istore 4, 2) := by decide +kernel
theorem dX12_feed_33 : decode cX12_feed 33 = .ok (.iload 4, 2) := by decide +kernel
theorem dX12_feed_35 : decode cX12_feed 35 = .ok (.iload_n 3, 1) := by decide +kernel
theorem dX12_feed_36 : decode cX12_feed 36 = .ok (.if_icmp .ge 43, 3) := by decide +kernel
theorem dX12_feed_39 : decode cX12_feed 39 = .ok (.aload_n 0, 1) := by decide +kernel
theorem dX12_feed_40 : decode cX12_feed 40 = .ok (.getfield 63, 3) := by decide +kernel
theorem dX12_feed_43 : decode cX12_feed 43 = .ok (.aload_n 0, 1) := by decide +kernel
theorem dX12_feed_44 : decode cX12_feed 44 = .ok (.getfield 224, 3) := by decide +kernel
theorem dX12_feed_47 : decode cX12_feed 47 = .ok (.lload_n 1, 1) := by decide +kernel
theorem dX12_feed_48 : decode cX12_feed 48 = .ok (.bipush 56, 2) := by decide +kernel
theorem dX12_feed_50 : decode cX12_feed 50 = .ok (.bipush 8, 2) := by decide +kernel
theorem dX12_feed_52 : decode cX12_feed 52 = .ok (.iload 4, 2) := by decide +kernel
theorem dX12_feed_54 : decode cX12_feed 54 = .ok (.imul, 1) := by decide +kernel
theorem dX12_feed_55 : decode cX12_feed 55 = .ok (.isub, 1) := by decide +kernel
theorem dX12_feed_56 : decode cX12_feed 56 = .ok (.lushr, 1) := by decide +kernel
theorem dX12_feed_57 : decode cX12_feed 57 = .ok (.ldc2_w 79, 3) := by decide +kernel
theorem dX12_feed_60 : decode cX12_feed 60 = .ok (.land, 1) := by decide +kernel
theorem dX12_feed_61 : decode cX12_feed 61 = .ok (.l2i, 1) := by decide +kernel
theorem dX12_feed_62 : decode cX12_feed 62 = .ok (.iastore, 1) := by decide +kernel
theorem dX12_feed_63 : decode cX12_feed 63 = .ok (.aload_n 0, 1) := by decide +kernel
theorem dX12_feed_64 : decode cX12_feed 64 = .ok (.dup, 1) := by decide +kernel
theorem dX12_feed_65 : decode cX12_feed 65 = .ok (.getfield 224, 3) := by decide +kernel
theorem dX12_feed_68 : decode cX12_feed 68 = .ok (.iconst 1, 1) := by decide +kernel
theorem dX12_feed_69 : decode cX12_feed 69 = .ok (.iadd, 1) := by decide +kernel
theorem dX12_feed_70 : decode cX12_feed 70 = .ok (.putfield 224, 3) := by decide +kernel
theorem dX12_feed_73 : decode cX12_feed 73 = .ok (.iinc 4 1, 3) := by decide +kernel
theorem dX12_feed_76 : decode cX12_feed 76 = .ok (.goto (-43), 3) := by decide +kernel
theorem dX12_feed_79 : decode cX12_feed 79 = .ok (.aload_n 0, 1) := by decide +kernel
theorem dX12_feed_80 : decode cX12_feed 80 = .ok (.getfield 224, 3) := by decide +kernel
theorem dX12_feed_83 : decode cX12_feed 83 = .ok (.ireturn, 1) := by decide +kernel
theorem dX12_in_0 : decode cX12_in 0 = .ok (.iload_n 0, 1) := by decide +kernel
theorem dX12_in_1 : decode cX12_in 1 = .ok (.iload_n 1, 1) := by decide +kernel
theorem dX12_in_2 : decode cX12_in 2 = .ok (.if_icmp .lt 12, 3) := by decide +kernel
theorem dX12_in_5 : decode cX12_in 5 = .ok (.iload_n 0, 1) := by decide +kernel
theorem dX12_in_6 : decode cX12_in 6 = .ok (.iload_n 2, 1) := by decide +kernel
theorem dX12_in_7 : decode cX12_in 7 = .ok (.if_icmp .gt 7, 3) := by decide +kernel
theorem dX12_in_10 : decode cX12_in 10 = .ok (.iconst 1, 1) := by decide +kernel
theorem dX12_in_11 : decode cX12_in 11 = .ok (.goto 4, 3) := by decide +kernel
theorem dX12_in_14 : decode cX12_in 14 = .ok (.iconst 0, 1) := by decide +kernel
theorem dX12_in_15 : decode cX12_in 15 = .ok (.ireturn, 1) := by decide +kernel
theorem dX12_wellFormed_0 : decode cX12_wellFormed 0 = .ok (.aload_n 0, 1) := by decide +kernel
theorem dX12_wellFormed_1 : decode cX12_wellFormed 1 = .ok (.getfield 224, 3) := by decide +kernel
theorem dX12_wellFormed_4 : decode cX12_wellFormed 4 = .ok (.iconst 2, 1) := by decide +kernel
theorem dX12_wellFormed_5 : decode cX12_wellFormed 5 = .ok (.if_icmp .lt 32, 3) := by decide +kernel
theorem dX12_wellFormed_8 : decode cX12_wellFormed 8 = .ok (.aload_n 0, 1) := by decide +kernel
theorem dX12_wellFormed_9 : decode cX12_wellFormed 9 = .ok (.getfield 63, 3) := by decide +kernel
theorem dX12_wellFormed_12 : decode cX12_wellFormed 12 = .ok (.iconst 0, 1) := by decide +kernel
theorem dX12_wellFormed_13 : decode cX12_wellFormed 13 = .ok (.iaload, 1) := by decide +kernel
theorem dX12_wellFormed_14 : decode cX12_wellFormed 14 = .ok (.iconst 1, 1) := by decide +kernel
theorem dX12_wellFormed_15 : decode cX12_wellFormed 15 = .ok (.bipush 8, 2) := by decide +kernel
theorem dX12_wellFormed_17 : decode cX12_wellFormed 17 = .ok (.invokestatic 227, 3) := by decide +kernel
theorem dX12_wellFormed_20 : decode cX12_wellFormed 20 = .ok (.ifCond .eq 17, 3) := by decide +kernel
theorem dX12_wellFormed_23 : decode cX12_wellFormed 23 = .ok (.aload_n 0, 1) := by decide +kernel
theorem dX12_wellFormed_24 : decode cX12_wellFormed 24 = .ok (.getfield 63, 3) := by decide +kernel
theorem dX12_wellFormed_27 : decode cX12_wellFormed 27 = .ok (.iconst 1, 1) := by decide +kernel
theorem dX12_wellFormed_28 : decode cX12_wellFormed 28 = .ok (.iaload, 1) := by decide +kernel
theorem dX12_wellFormed_29 : decode cX12_wellFormed 29 = .ok (.iconst 1, 1) := by decide +kernel
theorem dX12_wellFormed_30 : decode cX12_wellFormed 30 = .ok (.iconst 3, 1) := by decide +kernel
theorem dX12_wellFormed_31 : decode cX12_wellFormed 31 = .ok (.invokestatic 227, 3) := by decide +kernel
theorem dX12_wellFormed_34 : decode cX12_wellFormed 34 = .ok (.ifCond .ne 5, 3) := by decide +kernel
theorem dX12_wellFormed_37 : decode cX12_wellFormed 37 = .ok (.iconst 0, 1) := by decide +kernel
theorem dX12_wellFormed_38 : decode cX12_wellFormed 38 = .ok (.ireturn, 1) := by decide +kernel
theorem dX12_wellFormed_39 : decode cX12_wellFormed 39 = .ok (.aload_n 0, 1) := by decide +kernel
theorem dX12_wellFormed_40 : decode cX12_wellFormed 40 = .ok (.getfield 63, 3) := by decide +kernel
theorem dX12_wellFormed_43 : decode cX12_wellFormed 43 = .ok (.iconst 0, 1) := by decide +kernel
theorem dX12_wellFormed_44 : decode cX12_wellFormed 44 = .ok (.iaload, 1) := by decide +kernel
theorem dX12_wellFormed_45 : decode cX12_wellFormed 45 = .ok (.istore_n 1, 1) := by decide +kernel
theorem dX12_wellFormed_46 : decode cX12_wellFormed 46 = .ok (.aload_n 0, 1) := by decide +kernel
theorem dX12_wellFormed_47 : decode cX12_wellFormed 47 = .ok (.getfield 63, 3) := by decide +kernel
theorem dX12_wellFormed_50 : decode cX12_wellFormed 50 = .ok (.iconst 1, 1) := by decide +kernel
theorem dX12_wellFormed_51 : decode cX12_wellFormed 51 = .ok (.iaload, 1) := by decide +kernel
theorem dX12_wellFormed_52 : decode cX12_wellFormed 52 = .ok (.istore_n 2, 1) := by decide +kernel
theorem dX12_wellFormed_53 : decode cX12_wellFormed 53 = .ok (.iconst 2, 1) := by decide +kernel
theorem dX12_wellFormed_54 : decode cX12_wellFormed 54 = .ok (.iload_n 1, 1) := by decide +kernel
theorem dX12_wellFormed_55 : decode cX12_wellFormed 55 = .ok (.imul, 1) := by decide +kernel
theorem dX12_wellFormed_56 : decode cX12_wellFormed 56 = .ok (.iload_n 1, 1) := by decide +kernel
theorem dX12_wellFormed_57 : decode cX12_wellFormed 57 = .ok (.imul, 1) := by decide +kernel
theorem dX12_wellFormed_58 : decode cX12_wellFormed 58 = .ok (.iconst 5, 1) := by decide +kernel
theorem dX12_wellFormed_59 : decode cX12_wellFormed 59 = .ok (.iadd, 1) := by decide +kernel
theorem dX12_wellFormed_60 : decode cX12_wellFormed 60 = .ok (.istore_n 3, 1) := by decide +kernel
theorem dX12_wellFormed_61 : decode cX12_wellFormed 61 = .ok (.aload_n 0, 1) := by decide +kernel
theorem dX12_wellFormed_62 : decode cX12_wellFormed 62 = .ok (.getfield 224, 3) := by decide +kernel
theorem dX12_wellFormed_65 : decode cX12_wellFormed 65 = .ok (.iconst 2, 1) := by decide +kernel
theorem dX12_wellFormed_66 : decode cX12_wellFormed 66 = .ok (.iload_n 2, 1) := by decide +kernel
theorem dX12_wellFormed_67 : decode cX12_wellFormed 67 = .ok (.iadd, 1) := by decide +kernel
theorem dX12_wellFormed_68 : decode cX12_wellFormed 68 = .ok (.iload_n 1, 1) := by decide +kernel
theorem dX12_wellFormed_69 : decode cX12_wellFormed 69 = .ok (.iadd, 1) := by decide +kernel
theorem dX12_wellFormed_70 : decode cX12_wellFormed 70 = .ok (.iload_n 2, 1) := by decide +kernel
theorem dX12_wellFormed_71 : decode cX12_wellFormed 71 = .ok (.iload_n 3, 1) := by decide +kernel
theorem dX12_wellFormed_72 : decode cX12_wellFormed 72 = .ok (.imul, 1) := by decide +kernel
theorem dX12_wellFormed_73 : decode cX12_wellFormed 73 = .ok (.iadd, 1) := by decide +kernel
theorem dX12_wellFormed_74 : decode cX12_wellFormed 74 = .ok (.if_icmp .eq 5, 3) := by decide +kernel
theorem dX12_wellFormed_77 : decode cX12_wellFormed 77 = .ok (.iconst 0, 1) := by decide +kernel
theorem dX12_wellFormed_78 : decode cX12_wellFormed 78 = .ok (.ireturn, 1) := by decide +kernel
theorem dX12_wellFormed_79 : decode cX12_wellFormed 79 = .ok (.iconst 1, 1) := by decide +kernel
theorem dX12_wellFormed_80 : decode cX12_wellFormed 80 = .ok (.istore 4, 2) := by decide +kernel
theorem dX12_wellFormed_82 : decode cX12_wellFormed 82 = .ok (.iconst 0, 1) := by decide +kernel
theorem dX12_wellFormed_83 : decode cX12_wellFormed 83 = .ok (.istore 5, 2) := by decide +kernel
theorem dX12_wellFormed_85 : decode cX12_wellFormed 85 = .ok (.iload 5, 2) := by decide +kernel
theorem dX12_wellFormed_87 : decode cX12_wellFormed 87 = .ok (.iload_n 2, 1) := by decide +kernel
theorem dX12_wellFormed_88 : decode cX12_wellFormed 88 = .ok (.if_icmp .ge 39, 3) := by decide +kernel
theorem dX12_wellFormed_91 : decode cX12_wellFormed 91 = .ok (.iload 4, 2) := by decide +kernel
theorem dX12_wellFormed_93 : decode cX12_wellFormed 93 = .ok (.ifCond .eq 25, 3) := by decide +kernel
theorem dX12_wellFormed_96 : decode cX12_wellFormed 96 = .ok (.aload_n 0, 1) := by decide +kernel
theorem dX12_wellFormed_97 : decode cX12_wellFormed 97 = .ok (.getfield 63, 3) := by decide +kernel
theorem dX12_wellFormed_100 : decode cX12_wellFormed 100 = .ok (.iconst 2, 1) := by decide +kernel
theorem dX12_wellFormed_101 : decode cX12_wellFormed 101 = .ok (.iload 5, 2) := by decide +kernel
theorem dX12_wellFormed_103 : decode cX12_wellFormed 103 = .ok (.iadd, 1) := by decide +kernel
theorem dX12_wellFormed_104 : decode cX12_wellFormed 104 = .ok (.iaload, 1) := by decide +kernel
theorem dX12_wellFormed_105 : decode cX12_wellFormed 105 = .ok (.iconst 1, 1) := by decide +kernel
theorem dX12_wellFormed_106 : decode cX12_wellFormed 106 = .ok (.bipush 6, 2) := by decide +kernel
theorem dX12_wellFormed_108 : decode cX12_wellFormed 108 = .ok (.invokestatic 227, 3) := by decide +kernel
theorem dX12_wellFormed_111 : decode cX12_wellFormed 111 = .ok (.ifCond .eq 7, 3) := by decide +kernel
theorem dX12_wellFormed_114 : decode cX12_wellFormed 114 = .ok (.iconst 1, 1) := by decide +kernel
theorem dX12_wellFormed_115 : decode cX12_wellFormed 115 = .ok (.goto 4, 3) := by decide +kernel
theorem dX12_wellFormed_118 : decode cX12_wellFormed 118 = .ok (.iconst 0, 1) := by decide +kernel
theorem dX12_wellFormed_119 : decode cX12_wellFormed 119 = .ok (.istore 4, 2) := by decide +kernel
theorem dX12_wellFormed_121 : decode cX12_wellFormed 121 = .ok (.iinc 5 1, 3) := by decide +kernel
theorem dX12_wellFormed_124 : decode cX12_wellFormed 124 = .ok (.goto (-39), 3) := by decide +kernel
theorem dX12_wellFormed_127 : decode cX12_wellFormed 127 = .ok (.iconst 0, 1) := by decide +kernel
theorem dX12_wellFormed_128 : decode cX12_wellFormed 128 = .ok (.istore 5, 2) := by decide +kernel
theorem dX12_wellFormed_130 : decode cX12_wellFormed 130 = .ok (.iload 5, 2) := by decide +kernel
theorem dX12_wellFormed_132 : decode cX12_wellFormed 132 = .ok (.iload_n 1, 1) := by decide +kernel
theorem dX12_wellFormed_133 : decode cX12_wellFormed 133 = .ok (.if_icmp .ge 41, 3) := by decide +kernel
theorem dX12_wellFormed_136 : decode cX12_wellFormed 136 = .ok (.iload 4, 2) := by decide +kernel
theorem dX12_wellFormed_138 : decode cX12_wellFormed 138 = .ok (.ifCond .eq 27, 3) := by decide +kernel
theorem dX12_wellFormed_141 : decode cX12_wellFormed 141 = .ok (.aload_n 0, 1) := by decide +kernel
theorem dX12_wellFormed_142 : decode cX12_wellFormed 142 = .ok (.getfield 63, 3) := by decide +kernel
theorem dX12_wellFormed_145 : decode cX12_wellFormed 145 = .ok (.iconst 2, 1) := by decide +kernel
theorem dX12_wellFormed_146 : decode cX12_wellFormed 146 = .ok (.iload_n 2, 1) := by decide +kernel
theorem dX12_wellFormed_147 : decode cX12_wellFormed 147 = .ok (.iadd, 1) := by decide +kernel
theorem dX12_wellFormed_148 : decode cX12_wellFormed 148 = .ok (.iload 5, 2) := by decide +kernel
theorem dX12_wellFormed_150 : decode cX12_wellFormed 150 = .ok (.iadd, 1) := by decide +kernel
theorem dX12_wellFormed_151 : decode cX12_wellFormed 151 = .ok (.iaload, 1) := by decide +kernel
theorem dX12_wellFormed_152 : decode cX12_wellFormed 152 = .ok (.iconst 0, 1) := by decide +kernel
theorem dX12_wellFormed_153 : decode cX12_wellFormed 153 = .ok (.bipush 7, 2) := by decide +kernel
theorem dX12_wellFormed_155 : decode cX12_wellFormed 155 = .ok (.invokestatic 227, 3) := by decide +kernel
theorem dX12_wellFormed_158 : decode cX12_wellFormed 158 = .ok (.ifCond .eq 7, 3) := by decide +kernel
theorem dX12_wellFormed_161 : decode cX12_wellFormed 161 = .ok (.iconst 1, 1) := by decide +kernel
theorem dX12_wellFormed_162 : decode cX12_wellFormed 162 = .ok (.goto 4, 3) := by decide +kernel
theorem dX12_wellFormed_165 : decode cX12_wellFormed 165 = .ok (.iconst 0, 1) := by decide +kernel
theorem dX12_wellFormed_166 : decode cX12_wellFormed 166 = .ok (.istore 4, 2) := by decide +kernel
theorem dX12_wellFormed_168 : decode cX12_wellFormed 168 = .ok (.iinc 5 1, 3) := by decide +kernel
theorem dX12_wellFormed_171 : decode cX12_wellFormed 171 = .ok (.goto (-41), 3) := by decide +kernel
theorem dX12_wellFormed_174 : decode cX12_wellFormed 174 = .ok (.iconst 0, 1) := by decide +kernel
theorem dX12_wellFormed_175 : decode cX12_wellFormed 175 = .ok (.istore 5, 2) := by decide +kernel
theorem dX12_wellFormed_177 : decode cX12_wellFormed 177 = .ok (.iload 5, 2) := by decide +kernel
theorem dX12_wellFormed_179 : decode cX12_wellFormed 179 = .ok (.iload_n 2, 1) := by decide +kernel
theorem dX12_wellFormed_180 : decode cX12_wellFormed 180 = .ok (.if_icmp .ge 123, 3) := by decide +kernel
theorem dX12_wellFormed_183 : decode cX12_wellFormed 183 = .ok (.iload 4, 2) := by decide +kernel
theorem dX12_wellFormed_185 : decode cX12_wellFormed 185 = .ok (.ifCond .eq 118, 3) := by decide +kernel
theorem dX12_wellFormed_188 : decode cX12_wellFormed 188 = .ok (.iconst 2, 1) := by decide +kernel
theorem dX12_wellFormed_189 : decode cX12_wellFormed 189 = .ok (.iload_n 2, 1) := by decide +kernel
theorem dX12_wellFormed_190 : decode cX12_wellFormed 190 = .ok (.iadd, 1) := by decide +kernel
theorem dX12_wellFormed_191 : decode cX12_wellFormed 191 = .ok (.iload_n 1, 1) := by decide +kernel
theorem dX12_wellFormed_192 : decode cX12_wellFormed 192 = .ok (.iadd, 1) := by decide +kernel
theorem dX12_wellFormed_193 : decode cX12_wellFormed 193 = .ok (.iload 5, 2) := by decide +kernel
theorem dX12_wellFormed_195 : decode cX12_wellFormed 195 = .ok (.iload_n 3, 1) := by decide +kernel
theorem dX12_wellFormed_196 : decode cX12_wellFormed 196 = .ok (.imul, 1) := by decide +kernel
theorem dX12_wellFormed_197 : decode cX12_wellFormed 197 = .ok (.iadd, 1) := by decide +kernel
theorem dX12_wellFormed_198 : decode cX12_wellFormed 198 = .ok (.istore 6, 2) := by decide +kernel
theorem dX12_wellFormed_200 : decode cX12_wellFormed 200 = .ok (.iconst 0, 1) := by decide +kernel
theorem dX12_wellFormed_201 : decode cX12_wellFormed 201 = .ok (.istore 7, 2) := by decide +kernel
theorem dX12_wellFormed_203 : decode cX12_wellFormed 203 = .ok (.iload 7, 2) := by decide +kernel
theorem dX12_wellFormed_205 : decode cX12_wellFormed 205 = .ok (.iload_n 3, 1) := by decide +kernel
theorem dX12_wellFormed_206 : decode cX12_wellFormed 206 = .ok (.if_icmp .ge 91, 3) := by decide +kernel
theorem dX12_wellFormed_209 : decode cX12_wellFormed 209 = .ok (.iload 7, 2) := by decide +kernel
theorem dX12_wellFormed_211 : decode cX12_wellFormed 211 = .ok (.iload_n 1, 1) := by decide +kernel
theorem dX12_wellFormed_212 : decode cX12_wellFormed 212 = .ok (.iload_n 1, 1) := by decide +kernel
theorem dX12_wellFormed_213 : decode cX12_wellFormed 213 = .ok (.imul, 1) := by decide +kernel
theorem dX12_wellFormed_214 : decode cX12_wellFormed 214 = .ok (.if_icmp .lt 17, 3) := by decide +kernel
theorem dX12_wellFormed_217 : decode cX12_wellFormed 217 = .ok (.iload 7, 2) := by decide +kernel
theorem dX12_wellFormed_219 : decode cX12_wellFormed 219 = .ok (.iconst 2, 1) := by decide +kernel
theorem dX12_wellFormed_220 : decode cX12_wellFormed 220 = .ok (.iload_n 1, 1) := by decide +kernel
theorem dX12_wellFormed_221 : decode cX12_wellFormed 221 = .ok (.imul, 1) := by decide +kernel
theorem dX12_wellFormed_222 : decode cX12_wellFormed 222 = .ok (.iload_n 1, 1) := by decide +kernel
theorem dX12_wellFormed_223 : decode cX12_wellFormed 223 = .ok (.imul, 1) := by decide +kernel
theorem dX12_wellFormed_224 : decode cX12_wellFormed 224 = .ok (.if_icmp .ge 7, 3) := by decide +kernel
theorem dX12_wellFormed_227 : decode cX12_wellFormed 227 = .ok (.iconst 1, 1) := by decide +kernel
theorem dX12_wellFormed_228 : decode cX12_wellFormed 228 = .ok (.goto 4, 3) := by decide +kernel
theorem dX12_wellFormed_231 : decode cX12_wellFormed 231 = .ok (.iconst 0, 1) := by decide +kernel
theorem dX12_wellFormed_232 : decode cX12_wellFormed 232 = .ok (.istore 8, 2) := by decide +kernel
theorem dX12_wellFormed_234 : decode cX12_wellFormed 234 = .ok (.iload 4, 2) := by decide +kernel
theorem dX12_wellFormed_236 : decode cX12_wellFormed 236 = .ok (.ifCond .eq 52, 3) := by decide +kernel
theorem dX12_wellFormed_239 : decode cX12_wellFormed 239 = .ok (.iload 8, 2) := by decide +kernel
theorem dX12_wellFormed_241 : decode cX12_wellFormed 241 = .ok (.ifCond .eq 20, 3) := by decide +kernel
theorem dX12_wellFormed_244 : decode cX12_wellFormed 244 = .ok (.aload_n 0, 1) := by decide +kernel
theorem dX12_wellFormed_245 : decode cX12_wellFormed 245 = .ok (.getfield 63, 3) := by decide +kernel
theorem dX12_wellFormed_248 : decode cX12_wellFormed 248 = .ok (.iload 6, 2) := by decide +kernel
theorem dX12_wellFormed_250 : decode cX12_wellFormed 250 = .ok (.iload 7, 2) := by decide +kernel
theorem dX12_wellFormed_252 : decode cX12_wellFormed 252 = .ok (.iadd, 1) := by decide +kernel
theorem dX12_wellFormed_253 : decode cX12_wellFormed 253 = .ok (.iaload, 1) := by decide +kernel
theorem dX12_wellFormed_254 : decode cX12_wellFormed 254 = .ok (.iload_n 1, 1) := by decide +kernel
theorem dX12_wellFormed_255 : decode cX12_wellFormed 255 = .ok (.if_icmp .gt 33, 3) := by decide +kernel
theorem dX12_wellFormed_258 : decode cX12_wellFormed 258 = .ok (.goto 26, 3) := by decide +kernel
theorem dX12_wellFormed_261 : decode cX12_wellFormed 261 = .ok (.aload_n 0, 1) := by decide +kernel
theorem dX12_wellFormed_262 : decode cX12_wellFormed 262 = .ok (.getfield 63, 3) := by decide +kernel
theorem dX12_wellFormed_265 : decode cX12_wellFormed 265 = .ok (.iload 6, 2) := by decide +kernel
theorem dX12_wellFormed_267 : decode cX12_wellFormed 267 = .ok (.iload 7, 2) := by decide +kernel
theorem dX12_wellFormed_269 : decode cX12_wellFormed 269 = .ok (.iadd, 1) := by decide +kernel
theorem dX12_wellFormed_270 : decode cX12_wellFormed 270 = .ok (.iaload, 1) := by decide +kernel
theorem dX12_wellFormed_271 : decode cX12_wellFormed 271 = .ok (.aload_n 0, 1) := by decide +kernel
theorem dX12_wellFormed_272 : decode cX12_wellFormed 272 = .ok (.getfield 63, 3) := by decide +kernel
theorem dX12_wellFormed_275 : decode cX12_wellFormed 275 = .ok (.iconst 2, 1) := by decide +kernel
theorem dX12_wellFormed_276 : decode cX12_wellFormed 276 = .ok (.iload 5, 2) := by decide +kernel
theorem dX12_wellFormed_278 : decode cX12_wellFormed 278 = .ok (.iadd, 1) := by decide +kernel
theorem dX12_wellFormed_279 : decode cX12_wellFormed 279 = .ok (.iaload, 1) := by decide +kernel
theorem dX12_wellFormed_280 : decode cX12_wellFormed 280 = .ok (.ishr, 1) := by decide +kernel
theorem dX12_wellFormed_281 : decode cX12_wellFormed 281 = .ok (.ifCond .ne 7, 3) := by decide +kernel
theorem dX12_wellFormed_284 : decode cX12_wellFormed 284 = .ok (.iconst 1, 1) := by decide +kernel
theorem dX12_wellFormed_285 : decode cX12_wellFormed 285 = .ok (.goto 4, 3) := by decide +kernel
theorem dX12_wellFormed_288 : decode cX12_wellFormed 288 = .ok (.iconst 0, 1) := by decide +kernel
theorem dX12_wellFormed_289 : decode cX12_wellFormed 289 = .ok (.istore 4, 2) := by decide +kernel
theorem dX12_wellFormed_291 : decode cX12_wellFormed 291 = .ok (.iinc 7 1, 3) := by decide +kernel
theorem dX12_wellFormed_294 : decode cX12_wellFormed 294 = .ok (.goto (-91), 3) := by decide +kernel
theorem dX12_wellFormed_297 : decode cX12_wellFormed 297 = .ok (.iinc 5 1, 3) := by decide +kernel
theorem dX12_wellFormed_300 : decode cX12_wellFormed 300 = .ok (.goto (-123), 3) := by decide +kernel
theorem dX12_wellFormed_303 : decode cX12_wellFormed 303 = .ok (.iload 4, 2) := by decide +kernel
theorem dX12_wellFormed_305 : decode cX12_wellFormed 305 = .ok (.ireturn, 1) := by decide +kernel
theorem dX12_read_0 : decode cX12_read 0 = .ok (.aload_n 0, 1) := by decide +kernel
theorem dX12_read_1 : decode cX12_read 1 = .ok (.invokevirtual 230, 3) := by decide +kernel
theorem dX12_read_4 : decode cX12_read 4 = .ok (.istore_n 1, 1) := by decide +kernel
theorem dX12_read_5 : decode cX12_read 5 = .ok (.aload_n 0, 1) := by decide +kernel
theorem dX12_read_6 : decode cX12_read 6 = .ok (.iload_n 1, 1) := by decide +kernel
theorem dX12_read_7 : decode cX12_read 7 = .ok (.ifCond .eq 7, 3) := by decide +kernel
theorem dX12_read_10 : decode cX12_read 10 = .ok (.iconst 0, 1) := by decide +kernel
theorem dX12_read_11 : decode cX12_read 11 = .ok (.goto 4, 3) := by decide +kernel
theorem dX12_read_14 : decode cX12_read 14 = .ok (.iconst 1, 1) := by decide +kernel
theorem dX12_read_15 : decode cX12_read 15 = .ok (.putfield 76, 3) := by decide +kernel
theorem dX12_read_18 : decode cX12_read 18 = .ok (.iload_n 1, 1) := by decide +kernel
theorem dX12_read_19 : decode cX12_read 19 = .ok (.ifCond .eq 260, 3) := by decide +kernel
theorem dX12_read_22 : decode cX12_read 22 = .ok (.aload_n 0, 1) := by decide +kernel
theorem dX12_read_23 : decode cX12_read 23 = .ok (.aload_n 0, 1) := by decide +kernel
theorem dX12_read_24 : decode cX12_read 24 = .ok (.getfield 63, 3) := by decide +kernel
theorem dX12_read_27 : decode cX12_read 27 = .ok (.iconst 0, 1) := by decide +kernel
theorem dX12_read_28 : decode cX12_read 28 = .ok (.iaload, 1) := by decide +kernel
theorem dX12_read_29 : decode cX12_read 29 = .ok (.putfield 172, 3) := by decide +kernel
theorem dX12_read_32 : decode cX12_read 32 = .ok (.aload_n 0, 1) := by decide +kernel
theorem dX12_read_33 : decode cX12_read 33 = .ok (.aload_n 0, 1) := by decide +kernel
theorem dX12_read_34 : decode cX12_read 34 = .ok (.getfield 63, 3) := by decide +kernel
theorem dX12_read_37 : decode cX12_read 37 = .ok (.iconst 1, 1) := by decide +kernel
theorem dX12_read_38 : decode cX12_read 38 = .ok (.iaload, 1) := by decide +kernel
theorem dX12_read_39 : decode cX12_read 39 = .ok (.putfield 175, 3) := by decide +kernel
theorem dX12_read_42 : decode cX12_read 42 = .ok (.aload_n 0, 1) := by decide +kernel
theorem dX12_read_43 : decode cX12_read 43 = .ok (.iconst 0, 1) := by decide +kernel
theorem dX12_read_44 : decode cX12_read 44 = .ok (.putfield 200, 3) := by decide +kernel
theorem dX12_read_47 : decode cX12_read 47 = .ok (.iconst 0, 1) := by decide +kernel
theorem dX12_read_48 : decode cX12_read 48 = .ok (.istore_n 2, 1) := by decide +kernel
theorem dX12_read_49 : decode cX12_read 49 = .ok (.iload_n 2, 1) := by decide +kernel
theorem dX12_read_50 : decode cX12_read 50 = .ok (.aload_n 0, 1) := by decide +kernel
theorem dX12_read_51 : decode cX12_read 51 = .ok (.getfield 175, 3) := by decide +kernel
theorem dX12_read_54 : decode cX12_read 54 = .ok (.if_icmp .ge 190, 3) := by decide +kernel
theorem dX12_read_57 : decode cX12_read 57 = .ok (.aload_n 0, 1) := by decide +kernel
theorem dX12_read_58 : decode cX12_read 58 = .ok (.getfield 33, 3) := by decide +kernel
theorem dX12_read_61 : decode cX12_read 61 = .ok (.iload_n 2, 1) := by decide +kernel
theorem dX12_read_62 : decode cX12_read 62 = .ok (.aload_n 0, 1) := by decide +kernel
theorem dX12_read_63 : decode cX12_read 63 = .ok (.getfield 63, 3) := by decide +kernel
theorem dX12_read_66 : decode cX12_read 66 = .ok (.iconst 2, 1) := by decide +kernel
theorem dX12_read_67 : decode cX12_read 67 = .ok (.iload_n 2, 1) := by decide +kernel
theorem dX12_read_68 : decode cX12_read 68 = .ok (.iadd, 1) := by decide +kernel
theorem dX12_read_69 : decode cX12_read 69 = .ok (.iaload, 1) := by decide +kernel
theorem dX12_read_70 : decode cX12_read 70 = .ok (.iastore, 1) := by decide +kernel
theorem dX12_read_71 : decode cX12_read 71 = .ok (.iconst 2, 1) := by decide +kernel
theorem dX12_read_72 : decode cX12_read 72 = .ok (.aload_n 0, 1) := by decide +kernel
theorem dX12_read_73 : decode cX12_read 73 = .ok (.getfield 175, 3) := by decide +kernel
theorem dX12_read_76 : decode cX12_read 76 = .ok (.iadd, 1) := by decide +kernel
theorem dX12_read_77 : decode cX12_read 77 = .ok (.aload_n 0, 1) := by decide +kernel
theorem dX12_read_78 : decode cX12_read 78 = .ok (.getfield 172, 3) := by decide +kernel
theorem dX12_read_81 : decode cX12_read 81 = .ok (.iadd, 1) := by decide +kernel
theorem dX12_read_82 : decode cX12_read 82 = .ok (.iload_n 2, 1) := by decide +kernel
theorem dX12_read_83 : decode cX12_read 83 = .ok (.iconst 2, 1) := by decide +kernel
theorem dX12_read_84 : decode cX12_read 84 = .ok (.aload_n 0, 1) := by decide +kernel
theorem dX12_read_85 : decode cX12_read 85 = .ok (.getfield 172, 3) := by decide +kernel
theorem dX12_read_88 : decode cX12_read 88 = .ok (.imul, 1) := by decide +kernel
theorem dX12_read_89 : decode cX12_read 89 = .ok (.aload_n 0, 1) := by decide +kernel
theorem dX12_read_90 : decode cX12_read 90 = .ok (.getfield 172, 3) := by decide +kernel
theorem dX12_read_93 : decode cX12_read 93 = .ok (.imul, 1) := by decide +kernel
theorem dX12_read_94 : decode cX12_read 94 = .ok (.iconst 5, 1) := by decide +kernel
theorem dX12_read_95 : decode cX12_read 95 = .ok (.iadd, 1) := by decide +kernel
theorem dX12_read_96 : decode cX12_read 96 = .ok (.imul, 1) := by decide +kernel
theorem dX12_read_97 : decode cX12_read 97 = .ok (.iadd, 1) := by decide +kernel
theorem dX12_read_98 : decode cX12_read 98 = .ok (.istore_n 3, 1) := by decide +kernel
theorem dX12_read_99 : decode cX12_read 99 = .ok (.iconst 0, 1) := by decide +kernel
theorem dX12_read_100 : decode cX12_read 100 = .ok (.istore 4, 2) := by decide +kernel
theorem dX12_read_102 : decode cX12_read 102 = .ok (.iload 4, 2) := by decide +kernel
theorem dX12_read_104 : decode cX12_read 104 = .ok (.aload_n 0, 1) := by decide +kernel
theorem dX12_read_105 : decode cX12_read 105 = .ok (.getfield 172, 3) := by decide +kernel
theorem dX12_read_108 : decode cX12_read 108 = .ok (.aload_n 0, 1) := by decide +kernel
theorem dX12_read_109 : decode cX12_read 109 = .ok (.getfield 172, 3) := by decide +kernel
theorem dX12_read_112 : decode cX12_read 112 = .ok (.imul, 1) := by decide +kernel
theorem dX12_read_113 : decode cX12_read 113 = .ok (.if_icmp .ge 78, 3) := by decide +kernel
theorem dX12_read_116 : decode cX12_read 116 = .ok (.bipush 64, 2) := by decide +kernel
theorem dX12_read_118 : decode cX12_read 118 = .ok (.iload_n 2, 1) := by decide +kernel
theorem dX12_read_119 : decode cX12_read 119 = .ok (.imul, 1) := by decide +kernel
theorem dX12_read_120 : decode cX12_read 120 = .ok (.bipush 8, 2) := by decide +kernel
theorem dX12_read_122 : decode cX12_read 122 = .ok (.iload 4, 2) := by decide +kernel
theorem dX12_read_124 : decode cX12_read 124 = .ok (.aload_n 0, 1) := by decide +kernel
theorem dX12_read_125 : decode cX12_read 125 = .ok (.getfield 172, 3) := by decide +kernel
theorem dX12_read_128 : decode cX12_read 128 = .ok (.idiv, 1) := by decide +kernel
theorem dX12_read_129 : decode cX12_read 129 = .ok (.imul, 1) := by decide +kernel
theorem dX12_read_130 : decode cX12_read 130 = .ok (.iadd, 1) := by decide +kernel
theorem dX12_read_131 : decode cX12_read 131 = .ok (.iload 4, 2) := by decide +kernel
theorem dX12_read_133 : decode cX12_read 133 = .ok (.aload_n 0, 1) := by decide +kernel
theorem dX12_read_134 : decode cX12_read 134 = .ok (.getfield 172, 3) := by decide +kernel
theorem dX12_read_137 : decode cX12_read 137 = .ok (.irem, 1) := by decide +kernel
theorem dX12_read_138 : decode cX12_read 138 = .ok (.iadd, 1) := by decide +kernel
theorem dX12_read_139 : decode cX12_read 139 = .ok (.istore 5, 2) := by decide +kernel
theorem dX12_read_141 : decode cX12_read 141 = .ok (.aload_n 0, 1) := by decide +kernel
theorem dX12_read_142 : decode cX12_read 142 = .ok (.getfield 39, 3) := by decide +kernel
theorem dX12_read_145 : decode cX12_read 145 = .ok (.iload 5, 2) := by decide +kernel
theorem dX12_read_147 : decode cX12_read 147 = .ok (.aload_n 0, 1) := by decide +kernel
theorem dX12_read_148 : decode cX12_read 148 = .ok (.getfield 63, 3) := by decide +kernel
theorem dX12_read_151 : decode cX12_read 151 = .ok (.iload_n 3, 1) := by decide +kernel
theorem dX12_read_152 : decode cX12_read 152 = .ok (.iload 4, 2) := by decide +kernel
theorem dX12_read_154 : decode cX12_read 154 = .ok (.iadd, 1) := by decide +kernel
theorem dX12_read_155 : decode cX12_read 155 = .ok (.iaload, 1) := by decide +kernel
theorem dX12_read_156 : decode cX12_read 156 = .ok (.iastore, 1) := by decide +kernel
theorem dX12_read_157 : decode cX12_read 157 = .ok (.aload_n 0, 1) := by decide +kernel
theorem dX12_read_158 : decode cX12_read 158 = .ok (.getfield 42, 3) := by decide +kernel
theorem dX12_read_161 : decode cX12_read 161 = .ok (.iload 5, 2) := by decide +kernel
theorem dX12_read_163 : decode cX12_read 163 = .ok (.aload_n 0, 1) := by decide +kernel
theorem dX12_read_164 : decode cX12_read 164 = .ok (.getfield 63, 3) := by decide +kernel
theorem dX12_read_167 : decode cX12_read 167 = .ok (.iload_n 3, 1) := by decide +kernel
theorem dX12_read_168 : decode cX12_read 168 = .ok (.aload_n 0, 1) := by decide +kernel
theorem dX12_read_169 : decode cX12_read 169 = .ok (.getfield 172, 3) := by decide +kernel
theorem dX12_read_172 : decode cX12_read 172 = .ok (.aload_n 0, 1) := by decide +kernel
theorem dX12_read_173 : decode cX12_read 173 = .ok (.getfield 172, 3) := by decide +kernel
theorem dX12_read_176 : decode cX12_read 176 = .ok (.imul, 1) := by decide +kernel
theorem dX12_read_177 : decode cX12_read 177 = .ok (.iadd, 1) := by decide +kernel
theorem dX12_read_178 : decode cX12_read 178 = .ok (.iload 4, 2) := by decide +kernel
theorem dX12_read_180 : decode cX12_read 180 = .ok (.iadd, 1) := by decide +kernel
theorem dX12_read_181 : decode cX12_read 181 = .ok (.iaload, 1) := by decide +kernel
theorem dX12_read_182 : decode cX12_read 182 = .ok (.iconst 1, 1) := by decide +kernel
theorem dX12_read_183 : decode cX12_read 183 = .ok (.isub, 1) := by decide +kernel
theorem dX12_read_184 : decode cX12_read 184 = .ok (.iastore, 1) := by decide +kernel
theorem dX12_read_185 : decode cX12_read 185 = .ok (.iinc 4 1, 3) := by decide +kernel
theorem dX12_read_188 : decode cX12_read 188 = .ok (.goto (-86), 3) := by decide +kernel
theorem dX12_read_191 : decode cX12_read 191 = .ok (.iconst 0, 1) := by decide +kernel
theorem dX12_read_192 : decode cX12_read 192 = .ok (.istore 4, 2) := by decide +kernel
theorem dX12_read_194 : decode cX12_read 194 = .ok (.iload 4, 2) := by decide +kernel
theorem dX12_read_196 : decode cX12_read 196 = .ok (.iconst 5, 1) := by decide +kernel
theorem dX12_read_197 : decode cX12_read 197 = .ok (.if_icmp .ge 41, 3) := by decide +kernel
theorem dX12_read_200 : decode cX12_read 200 = .ok (.aload_n 0, 1) := by decide +kernel
theorem dX12_read_201 : decode cX12_read 201 = .ok (.getfield 45, 3) := by decide +kernel
theorem dX12_read_204 : decode cX12_read 204 = .ok (.iconst 5, 1) := by decide +kernel
theorem dX12_read_205 : decode cX12_read 205 = .ok (.iload_n 2, 1) := by decide +kernel
theorem dX12_read_206 : decode cX12_read 206 = .ok (.imul, 1) := by decide +kernel
theorem dX12_read_207 : decode cX12_read 207 = .ok (.iload 4, 2) := by decide +kernel
theorem dX12_read_209 : decode cX12_read 209 = .ok (.iadd, 1) := by decide +kernel
theorem dX12_read_210 : decode cX12_read 210 = .ok (.aload_n 0, 1) := by decide +kernel
theorem dX12_read_211 : decode cX12_read 211 = .ok (.getfield 63, 3) := by decide +kernel
theorem dX12_read_214 : decode cX12_read 214 = .ok (.iload_n 3, 1) := by decide +kernel
theorem dX12_read_215 : decode cX12_read 215 = .ok (.iconst 2, 1) := by decide +kernel
theorem dX12_read_216 : decode cX12_read 216 = .ok (.aload_n 0, 1) := by decide +kernel
theorem dX12_read_217 : decode cX12_read 217 = .ok (.getfield 172, 3) := by decide +kernel
theorem dX12_read_220 : decode cX12_read 220 = .ok (.imul, 1) := by decide +kernel
theorem dX12_read_221 : decode cX12_read 221 = .ok (.aload_n 0, 1) := by decide +kernel
theorem dX12_read_222 : decode cX12_read 222 = .ok (.getfield 172, 3) := by decide +kernel
theorem dX12_read_225 : decode cX12_read 225 = .ok (.imul, 1) := by decide +kernel
theorem dX12_read_226 : decode cX12_read 226 = .ok (.iadd, 1) := by decide +kernel
theorem dX12_read_227 : decode cX12_read 227 = .ok (.iload 4, 2) := by decide +kernel
theorem dX12_read_229 : decode cX12_read 229 = .ok (.iadd, 1) := by decide +kernel
theorem dX12_read_230 : decode cX12_read 230 = .ok (.iaload, 1) := by decide +kernel
theorem dX12_read_231 : decode cX12_read 231 = .ok (.iastore, 1) := by decide +kernel
theorem dX12_read_232 : decode cX12_read 232 = .ok (.iinc 4 1, 3) := by decide +kernel
theorem dX12_read_235 : decode cX12_read 235 = .ok (.goto (-41), 3) := by decide +kernel
theorem dX12_read_238 : decode cX12_read 238 = .ok (.iinc 2 1, 3) := by decide +kernel
theorem dX12_read_241 : decode cX12_read 241 = .ok (.goto (-192), 3) := by decide +kernel
theorem dX12_read_244 : decode cX12_read 244 = .ok (.iconst 0, 1) := by decide +kernel
theorem dX12_read_245 : decode cX12_read 245 = .ok (.istore_n 2, 1) := by decide +kernel
theorem dX12_read_246 : decode cX12_read 246 = .ok (.iload_n 2, 1) := by decide +kernel
theorem dX12_read_247 : decode cX12_read 247 = .ok (.aload_n 0, 1) := by decide +kernel
theorem dX12_read_248 : decode cX12_read 248 = .ok (.getfield 172, 3) := by decide +kernel
theorem dX12_read_251 : decode cX12_read 251 = .ok (.if_icmp .ge 28, 3) := by decide +kernel
theorem dX12_read_254 : decode cX12_read 254 = .ok (.aload_n 0, 1) := by decide +kernel
theorem dX12_read_255 : decode cX12_read 255 = .ok (.getfield 36, 3) := by decide +kernel
theorem dX12_read_258 : decode cX12_read 258 = .ok (.iload_n 2, 1) := by decide +kernel
theorem dX12_read_259 : decode cX12_read 259 = .ok (.aload_n 0, 1) := by decide +kernel
theorem dX12_read_260 : decode cX12_read 260 = .ok (.getfield 63, 3) := by decide +kernel
theorem dX12_read_263 : decode cX12_read 263 = .ok (.iconst 2, 1) := by decide +kernel
theorem dX12_read_264 : decode cX12_read 264 = .ok (.aload_n 0, 1) := by decide +kernel
theorem dX12_read_265 : decode cX12_read 265 = .ok (.getfield 175, 3) := by decide +kernel
theorem dX12_read_268 : decode cX12_read 268 = .ok (.iadd, 1) := by decide +kernel
theorem dX12_read_269 : decode cX12_read 269 = .ok (.iload_n 2, 1) := by decide +kernel
theorem dX12_read_270 : decode cX12_read 270 = .ok (.iadd, 1) := by decide +kernel
theorem dX12_read_271 : decode cX12_read 271 = .ok (.iaload, 1) := by decide +kernel
theorem dX12_read_272 : decode cX12_read 272 = .ok (.iastore, 1) := by decide +kernel
theorem dX12_read_273 : decode cX12_read 273 = .ok (.iinc 2 1, 3) := by decide +kernel
theorem dX12_read_276 : decode cX12_read 276 = .ok (.goto (-30), 3) := by decide +kernel
theorem dX12_read_279 : decode cX12_read 279 = .ok (.aload_n 0, 1) := by decide +kernel
theorem dX12_read_280 : decode cX12_read 280 = .ok (.iconst 0, 1) := by decide +kernel
theorem dX12_read_281 : decode cX12_read 281 = .ok (.putfield 224, 3) := by decide +kernel
theorem dX12_read_284 : decode cX12_read 284 = .ok (.iload_n 1, 1) := by decide +kernel
theorem dX12_read_285 : decode cX12_read 285 = .ok (.ifCond .eq 10, 3) := by decide +kernel
theorem dX12_read_288 : decode cX12_read 288 = .ok (.aload_n 0, 1) := by decide +kernel
theorem dX12_read_289 : decode cX12_read 289 = .ok (.getfield 172, 3) := by decide +kernel
theorem dX12_read_292 : decode cX12_read 292 = .ok (.goto 4, 3) := by decide +kernel
theorem dX12_read_295 : decode cX12_read 295 = .ok (.iconst 0, 1) := by decide +kernel
theorem dX12_read_296 : decode cX12_read 296 = .ok (.ireturn, 1) := by decide +kernel
theorem dJx29ce0_ordinal_8abf5_0 : decode cJx29ce0_ordinal_8abf5 0 = .ok (.aload_n 0, 1) := by decide +kernel
theorem dJx29ce0_ordinal_8abf5_1 : decode cJx29ce0_ordinal_8abf5 1 = .ok (.getfield 7, 3) := by decide +kernel
theorem dJx29ce0_ordinal_8abf5_4 : decode cJx29ce0_ordinal_8abf5 4 = .ok (.ireturn, 1) := by decide +kernel
theorem dJ9_max_7cf53_0 : decode cJ9_max_7cf53 0 = .ok (.iload_n 0, 1) := by decide +kernel
theorem dJ9_max_7cf53_1 : decode cJ9_max_7cf53 1 = .ok (.iload_n 1, 1) := by decide +kernel
theorem dJ9_max_7cf53_2 : decode cJ9_max_7cf53 2 = .ok (.if_icmp .lt 7, 3) := by decide +kernel
theorem dJ9_max_7cf53_5 : decode cJ9_max_7cf53 5 = .ok (.iload_n 0, 1) := by decide +kernel
theorem dJ9_max_7cf53_6 : decode cJ9_max_7cf53 6 = .ok (.goto 4, 3) := by decide +kernel
theorem dJ9_max_7cf53_9 : decode cJ9_max_7cf53 9 = .ok (.iload_n 1, 1) := by decide +kernel
theorem dJ9_max_7cf53_10 : decode cJ9_max_7cf53 10 = .ok (.ireturn, 1) := by decide +kernel
theorem dJ9_min_7cf53_0 : decode cJ9_min_7cf53 0 = .ok (.iload_n 0, 1) := by decide +kernel
theorem dJ9_min_7cf53_1 : decode cJ9_min_7cf53 1 = .ok (.iload_n 1, 1) := by decide +kernel
theorem dJ9_min_7cf53_2 : decode cJ9_min_7cf53 2 = .ok (.if_icmp .gt 7, 3) := by decide +kernel
theorem dJ9_min_7cf53_5 : decode cJ9_min_7cf53 5 = .ok (.iload_n 0, 1) := by decide +kernel
theorem dJ9_min_7cf53_6 : decode cJ9_min_7cf53 6 = .ok (.goto 4, 3) := by decide +kernel
theorem dJ9_min_7cf53_9 : decode cJ9_min_7cf53 9 = .ok (.iload_n 1, 1) := by decide +kernel
theorem dJ9_min_7cf53_10 : decode cJ9_min_7cf53 10 = .ok (.ireturn, 1) := by decide +kernel
theorem dJ0_length_8abf5_0 : decode cJ0_length_8abf5 0 = .ok (.aload_n 0, 1) := by decide +kernel
theorem dJ0_length_8abf5_1 : decode cJ0_length_8abf5 1 = .ok (.getfield 9, 3) := by decide +kernel
theorem dJ0_length_8abf5_4 : decode cJ0_length_8abf5 4 = .ok (.arraylength, 1) := by decide +kernel
theorem dJ0_length_8abf5_5 : decode cJ0_length_8abf5 5 = .ok (.aload_n 0, 1) := by decide +kernel
theorem dJ0_length_8abf5_6 : decode cJ0_length_8abf5 6 = .ok (.invokevirtual 335, 3) := by decide +kernel
theorem dJ0_length_8abf5_9 : decode cJ0_length_8abf5 9 = .ok (.ishr, 1) := by decide +kernel
theorem dJ0_length_8abf5_10 : decode cJ0_length_8abf5 10 = .ok (.ireturn, 1) := by decide +kernel
theorem dJ0_isEmpty_aae02_0 : decode cJ0_isEmpty_aae02 0 = .ok (.aload_n 0, 1) := by decide +kernel
theorem dJ0_isEmpty_aae02_1 : decode cJ0_isEmpty_aae02 1 = .ok (.getfield 9, 3) := by decide +kernel
theorem dJ0_isEmpty_aae02_4 : decode cJ0_isEmpty_aae02 4 = .ok (.arraylength, 1) := by decide +kernel
theorem dJ0_isEmpty_aae02_5 : decode cJ0_isEmpty_aae02 5 = .ok (.ifCond .ne 7, 3) := by decide +kernel
theorem dJ0_isEmpty_aae02_8 : decode cJ0_isEmpty_aae02 8 = .ok (.iconst 1, 1) := by decide +kernel
theorem dJ0_isEmpty_aae02_9 : decode cJ0_isEmpty_aae02 9 = .ok (.goto 4, 3) := by decide +kernel
theorem dJ0_isEmpty_aae02_12 : decode cJ0_isEmpty_aae02 12 = .ok (.iconst 0, 1) := by decide +kernel
theorem dJ0_isEmpty_aae02_13 : decode cJ0_isEmpty_aae02 13 = .ok (.ireturn, 1) := by decide +kernel
theorem dJ0_charAt_5068e_0 : decode cJ0_charAt_5068e 0 = .ok (.aload_n 0, 1) := by decide +kernel
theorem dJ0_charAt_5068e_1 : decode cJ0_charAt_5068e 1 = .ok (.invokevirtual 492, 3) := by decide +kernel
theorem dJ0_charAt_5068e_4 : decode cJ0_charAt_5068e 4 = .ok (.ifCond .eq 12, 3) := by decide +kernel
theorem dJ0_charAt_5068e_7 : decode cJ0_charAt_5068e 7 = .ok (.aload_n 0, 1) := by decide +kernel
theorem dJ0_charAt_5068e_8 : decode cJ0_charAt_5068e 8 = .ok (.getfield 9, 3) := by decide +kernel
theorem dJ0_charAt_5068e_11 : decode cJ0_charAt_5068e 11 = .ok (.iload_n 1, 1) := by decide +kernel
theorem dJ0_charAt_5068e_12 : decode cJ0_charAt_5068e 12 = .ok (.invokestatic 495, 3) := by decide +kernel
theorem dJ0_charAt_5068e_15 : decode cJ0_charAt_5068e 15 = .ok (.ireturn, 1) := by decide +kernel
theorem dJ0_charAt_5068e_16 : decode cJ0_charAt_5068e 16 = .ok (.aload_n 0, 1) := by decide +kernel
theorem dJ0_charAt_5068e_17 : decode cJ0_charAt_5068e 17 = .ok (.getfield 9, 3) := by decide +kernel
theorem dJ0_charAt_5068e_20 : decode cJ0_charAt_5068e 20 = .ok (.iload_n 1, 1) := by decide +kernel
theorem dJ0_charAt_5068e_21 : decode cJ0_charAt_5068e 21 = .ok (.invokestatic 498, 3) := by decide +kernel
theorem dJ0_charAt_5068e_24 : decode cJ0_charAt_5068e 24 = .ok (.ireturn, 1) := by decide +kernel
theorem dJ0_indexOf_0f7a4_0 : decode cJ0_indexOf_0f7a4 0 = .ok (.aload_n 0, 1) := by decide +kernel
theorem dJ0_indexOf_0f7a4_1 : decode cJ0_indexOf_0f7a4 1 = .ok (.iload_n 1, 1) := by decide +kernel
theorem dJ0_indexOf_0f7a4_2 : decode cJ0_indexOf_0f7a4 2 = .ok (.iconst 0, 1) := by decide +kernel
theorem dJ0_indexOf_0f7a4_3 : decode cJ0_indexOf_0f7a4 3 = .ok (.invokevirtual 633, 3) := by decide +kernel
theorem dJ0_indexOf_0f7a4_6 : decode cJ0_indexOf_0f7a4 6 = .ok (.ireturn, 1) := by decide +kernel
theorem dJ0_indexOf_7cf53_0 : decode cJ0_indexOf_7cf53 0 = .ok (.aload_n 0, 1) := by decide +kernel
theorem dJ0_indexOf_7cf53_1 : decode cJ0_indexOf_7cf53 1 = .ok (.invokevirtual 492, 3) := by decide +kernel
theorem dJ0_indexOf_7cf53_4 : decode cJ0_indexOf_7cf53 4 = .ok (.ifCond .eq 19, 3) := by decide +kernel
theorem dJ0_indexOf_7cf53_7 : decode cJ0_indexOf_7cf53 7 = .ok (.aload_n 0, 1) := by decide +kernel
theorem dJ0_indexOf_7cf53_8 : decode cJ0_indexOf_7cf53 8 = .ok (.getfield 9, 3) := by decide +kernel
theorem dJ0_indexOf_7cf53_11 : decode cJ0_indexOf_7cf53 11 = .ok (.iload_n 1, 1) := by decide +kernel
theorem dJ0_indexOf_7cf53_12 : decode cJ0_indexOf_7cf53 12 = .ok (.iload_n 2, 1) := by decide +kernel
theorem dJ0_indexOf_7cf53_13 : decode cJ0_indexOf_7cf53 13 = .ok (.aload_n 0, 1) := by decide +kernel
theorem dJ0_indexOf_7cf53_14 : decode cJ0_indexOf_7cf53 14 = .ok (.invokevirtual 505, 3) := by decide +kernel
theorem dJ0_indexOf_7cf53_17 : decode cJ0_indexOf_7cf53 17 = .ok (.invokestatic 637, 3) := by decide +kernel
theorem dJ0_indexOf_7cf53_20 : decode cJ0_indexOf_7cf53 20 = .ok (.goto 16, 3) := by decide +kernel
theorem dJ0_indexOf_7cf53_23 : decode cJ0_indexOf_7cf53 23 = .ok (.aload_n 0, 1) := by decide +kernel
theorem dJ0_indexOf_7cf53_24 : decode cJ0_indexOf_7cf53 24 = .ok (.getfield 9, 3) := by decide +kernel
theorem dJ0_indexOf_7cf53_27 : decode cJ0_indexOf_7cf53 27 = .ok (.iload_n 1, 1) := by decide +kernel
theorem dJ0_indexOf_7cf53_28 : decode cJ0_indexOf_7cf53 28 = .ok (.iload_n 2, 1) := by decide +kernel
theorem dJ0_indexOf_7cf53_29 : decode cJ0_indexOf_7cf53 29 = .ok (.aload_n 0, 1) := by decide +kernel
theorem dJ0_indexOf_7cf53_30 : decode cJ0_indexOf_7cf53 30 = .ok (.invokevirtual 505, 3) := by decide +kernel
theorem dJ0_indexOf_7cf53_33 : decode cJ0_indexOf_7cf53 33 = .ok (.invokestatic 640, 3) := by decide +kernel
theorem dJ0_indexOf_7cf53_36 : decode cJ0_indexOf_7cf53 36 = .ok (.ireturn, 1) := by decide +kernel
theorem dJ0_coder_7d493_0 : decode cJ0_coder_7d493 0 = .ok (.getstatic 38, 3) := by decide +kernel
theorem dJ0_coder_7d493_3 : decode cJ0_coder_7d493 3 = .ok (.ifCond .eq 10, 3) := by decide +kernel
theorem dJ0_coder_7d493_6 : decode cJ0_coder_7d493 6 = .ok (.aload_n 0, 1) := by decide +kernel
theorem dJ0_coder_7d493_7 : decode cJ0_coder_7d493 7 = .ok (.getfield 15, 3) := by decide +kernel
theorem dJ0_coder_7d493_10 : decode cJ0_coder_7d493 10 = .ok (.goto 4, 3) := by decide +kernel
theorem dJ0_coder_7d493_13 : decode cJ0_coder_7d493 13 = .ok (.iconst 1, 1) := by decide +kernel
theorem dJ0_coder_7d493_14 : decode cJ0_coder_7d493 14 = .ok (.ireturn, 1) := by decide +kernel
theorem dJ0_isLatin1_aae02_0 : decode cJ0_isLatin1_aae02 0 = .ok (.getstatic 38, 3) := by decide +kernel
theorem dJ0_isLatin1_aae02_3 : decode cJ0_isLatin1_aae02 3 = .ok (.ifCond .eq 14, 3) := by decide +kernel
theorem dJ0_isLatin1_aae02_6 : decode cJ0_isLatin1_aae02 6 = .ok (.aload_n 0, 1) := by decide +kernel
theorem dJ0_isLatin1_aae02_7 : decode cJ0_isLatin1_aae02 7 = .ok (.getfield 15, 3) := by decide +kernel
theorem dJ0_isLatin1_aae02_10 : decode cJ0_isLatin1_aae02 10 = .ok (.ifCond .ne 7, 3) := by decide +kernel
theorem dJ0_isLatin1_aae02_13 : decode cJ0_isLatin1_aae02 13 = .ok (.iconst 1, 1) := by decide +kernel
theorem dJ0_isLatin1_aae02_14 : decode cJ0_isLatin1_aae02 14 = .ok (.goto 4, 3) := by decide +kernel
theorem dJ0_isLatin1_aae02_17 : decode cJ0_isLatin1_aae02 17 = .ok (.iconst 0, 1) := by decide +kernel
theorem dJ0_isLatin1_aae02_18 : decode cJ0_isLatin1_aae02 18 = .ok (.ireturn, 1) := by decide +kernel
theorem dJ0_checkIndex_df160_0 : decode cJ0_checkIndex_df160 0 = .ok (.iload_n 0, 1) := by decide +kernel
theorem dJ0_checkIndex_df160_1 : decode cJ0_checkIndex_df160 1 = .ok (.iload_n 1, 1) := by decide +kernel
theorem dJ0_checkIndex_df160_2 : decode cJ0_checkIndex_df160 2 = .ok (.getstatic 1053, 3) := by decide +kernel
theorem dJ0_checkIndex_df160_5 : decode cJ0_checkIndex_df160 5 = .ok (.invokestatic 1059, 3) := by decide +kernel
theorem dJ0_checkIndex_df160_8 : decode cJ0_checkIndex_df160 8 = .ok (.pop, 1) := by decide +kernel
theorem dJ0_checkIndex_df160_9 : decode cJ0_checkIndex_df160 9 = .ok (.return_, 1) := by decide +kernel
theorem dJ0_checkBoundsBeginEnd_23922_0 : decode cJ0_checkBoundsBeginEnd_23922 0 = .ok (.iload_n 0, 1) := by decide +kernel
theorem dJ0_checkBoundsBeginEnd_23922_1 : decode cJ0_checkBoundsBeginEnd_23922 1 = .ok (.iload_n 1, 1) := by decide +kernel
theorem dJ0_checkBoundsBeginEnd_23922_2 : decode cJ0_checkBoundsBeginEnd_23922 2 = .ok (.iload_n 2, 1) := by decide +kernel
theorem dJ0_checkBoundsBeginEnd_23922_3 : decode cJ0_checkBoundsBeginEnd_23922 3 = .ok (.getstatic 1053, 3) := by decide +kernel
theorem dJ0_checkBoundsBeginEnd_23922_6 : decode cJ0_checkBoundsBeginEnd_23922 6 = .ok (.invokestatic 1062, 3) := by decide +kernel
theorem dJ0_checkBoundsBeginEnd_23922_9 : decode cJ0_checkBoundsBeginEnd_23922 9 = .ok (.pop, 1) := by decide +kernel
theorem dJ0_checkBoundsBeginEnd_23922_10 : decode cJ0_checkBoundsBeginEnd_23922 10 = .ok (.return_, 1) := by decide +kernel
theorem dJ1_charAt_3b067_0 : decode cJ1_charAt_3b067 0 = .ok (.iload_n 1, 1) := by decide +kernel
theorem dJ1_charAt_3b067_1 : decode cJ1_charAt_3b067 1 = .ok (.aload_n 0, 1) := by decide +kernel
theorem dJ1_charAt_3b067_2 : decode cJ1_charAt_3b067 2 = .ok (.arraylength, 1) := by decide +kernel
theorem dJ1_charAt_3b067_3 : decode cJ1_charAt_3b067 3 = .ok (.invokestatic 9, 3) := by decide +kernel
theorem dJ1_charAt_3b067_6 : decode cJ1_charAt_3b067 6 = .ok (.aload_n 0, 1) := by decide +kernel
theorem dJ1_charAt_3b067_7 : decode cJ1_charAt_3b067 7 = .ok (.iload_n 1, 1) := by decide +kernel
theorem dJ1_charAt_3b067_8 : decode cJ1_charAt_3b067 8 = .ok (.baload, 1) := by decide +kernel
theorem dJ1_charAt_3b067_9 : decode cJ1_charAt_3b067 9 = .ok (.sipush 255, 3) := by decide +kernel
theorem dJ1_charAt_3b067_12 : decode cJ1_charAt_3b067 12 = .ok (.iand, 1) := by decide +kernel
theorem dJ1_charAt_3b067_13 : decode cJ1_charAt_3b067 13 = .ok (.i2c, 1) := by decide +kernel
theorem dJ1_charAt_3b067_14 : decode cJ1_charAt_3b067 14 = .ok (.ireturn, 1) := by decide +kernel
theorem dJ1_canEncode_9a6ad_0 : decode cJ1_canEncode_9a6ad 0 = .ok (.iload_n 0, 1) := by decide +kernel
theorem dJ1_canEncode_9a6ad_1 : decode cJ1_canEncode_9a6ad 1 = .ok (.ifCond .lt 14, 3) := by decide +kernel
theorem dJ1_canEncode_9a6ad_4 : decode cJ1_canEncode_9a6ad 4 = .ok (.iload_n 0, 1) := by decide +kernel
theorem dJ1_canEncode_9a6ad_5 : decode cJ1_canEncode_9a6ad 5 = .ok (.sipush 255, 3) := by decide +kernel
theorem dJ1_canEncode_9a6ad_8 : decode cJ1_canEncode_9a6ad 8 = .ok (.if_icmp .gt 7, 3) := by decide +kernel
theorem dJ1_canEncode_9a6ad_11 : decode cJ1_canEncode_9a6ad 11 = .ok (.iconst 1, 1) := by decide +kernel
theorem dJ1_canEncode_9a6ad_12 : decode cJ1_canEncode_9a6ad 12 = .ok (.goto 4, 3) := by decide +kernel
theorem dJ1_canEncode_9a6ad_15 : decode cJ1_canEncode_9a6ad 15 = .ok (.iconst 0, 1) := by decide +kernel
theorem dJ1_canEncode_9a6ad_16 : decode cJ1_canEncode_9a6ad 16 = .ok (.ireturn, 1) := by decide +kernel
theorem dJ1_indexOf_4cfef_0 : decode cJ1_indexOf_4cfef 0 = .ok (.iload_n 1, 1) := by decide +kernel
theorem dJ1_indexOf_4cfef_1 : decode cJ1_indexOf_4cfef 1 = .ok (.invokestatic 88, 3) := by decide +kernel
theorem dJ1_indexOf_4cfef_4 : decode cJ1_indexOf_4cfef 4 = .ok (.ifCond .ne 5, 3) := by decide +kernel
theorem dJ1_indexOf_4cfef_7 : decode cJ1_indexOf_4cfef 7 = .ok (.iconst (-1), 1) := by decide +kernel
theorem dJ1_indexOf_4cfef_8 : decode cJ1_indexOf_4cfef 8 = .ok (.ireturn, 1) := by decide +kernel
theorem dJ1_indexOf_4cfef_9 : decode cJ1_indexOf_4cfef 9 = .ok (.iload_n 2, 1) := by decide +kernel
theorem dJ1_indexOf_4cfef_10 : decode cJ1_indexOf_4cfef 10 = .ok (.iconst 0, 1) := by decide +kernel
theorem dJ1_indexOf_4cfef_11 : decode cJ1_indexOf_4cfef 11 = .ok (.invokestatic 92, 3) := by decide +kernel
theorem dJ1_indexOf_4cfef_14 : decode cJ1_indexOf_4cfef 14 = .ok (.istore_n 2, 1) := by decide +kernel
theorem dJ1_indexOf_4cfef_15 : decode cJ1_indexOf_4cfef 15 = .ok (.iload_n 3, 1) := by decide +kernel
theorem dJ1_indexOf_4cfef_16 : decode cJ1_indexOf_4cfef 16 = .ok (.aload_n 0, 1) := by decide +kernel
theorem dJ1_indexOf_4cfef_17 : decode cJ1_indexOf_4cfef 17 = .ok (.arraylength, 1) := by decide +kernel
theorem dJ1_indexOf_4cfef_18 : decode cJ1_indexOf_4cfef 18 = .ok (.invokestatic 38, 3) := by decide +kernel
theorem dJ1_indexOf_4cfef_21 : decode cJ1_indexOf_4cfef 21 = .ok (.istore_n 3, 1) := by decide +kernel
theorem dJ1_indexOf_4cfef_22 : decode cJ1_indexOf_4cfef 22 = .ok (.iload_n 2, 1) := by decide +kernel
theorem dJ1_indexOf_4cfef_23 : decode cJ1_indexOf_4cfef 23 = .ok (.iload_n 3, 1) := by decide +kernel
theorem dJ1_indexOf_4cfef_24 : decode cJ1_indexOf_4cfef 24 = .ok (.if_icmp .lt 5, 3) := by decide +kernel
theorem dJ1_indexOf_4cfef_27 : decode cJ1_indexOf_4cfef 27 = .ok (.iconst (-1), 1) := by decide +kernel
theorem dJ1_indexOf_4cfef_28 : decode cJ1_indexOf_4cfef 28 = .ok (.ireturn, 1) := by decide +kernel
theorem dJ1_indexOf_4cfef_29 : decode cJ1_indexOf_4cfef 29 = .ok (.aload_n 0, 1) := by decide +kernel
theorem dJ1_indexOf_4cfef_30 : decode cJ1_indexOf_4cfef 30 = .ok (.iload_n 1, 1) := by decide +kernel
theorem dJ1_indexOf_4cfef_31 : decode cJ1_indexOf_4cfef 31 = .ok (.iload_n 2, 1) := by decide +kernel
theorem dJ1_indexOf_4cfef_32 : decode cJ1_indexOf_4cfef 32 = .ok (.iload_n 3, 1) := by decide +kernel
theorem dJ1_indexOf_4cfef_33 : decode cJ1_indexOf_4cfef 33 = .ok (.invokestatic 95, 3) := by decide +kernel
theorem dJ1_indexOf_4cfef_36 : decode cJ1_indexOf_4cfef 36 = .ok (.ireturn, 1) := by decide +kernel
theorem dJ1_indexOfChar_4cfef_0 : decode cJ1_indexOfChar_4cfef 0 = .ok (.iload_n 1, 1) := by decide +kernel
theorem dJ1_indexOfChar_4cfef_1 : decode cJ1_indexOfChar_4cfef 1 = .ok (.i2b, 1) := by decide +kernel
theorem dJ1_indexOfChar_4cfef_2 : decode cJ1_indexOfChar_4cfef 2 = .ok (.istore 4, 2) := by decide +kernel
theorem dJ1_indexOfChar_4cfef_4 : decode cJ1_indexOfChar_4cfef 4 = .ok (.iload_n 2, 1) := by decide +kernel
theorem dJ1_indexOfChar_4cfef_5 : decode cJ1_indexOfChar_4cfef 5 = .ok (.istore 5, 2) := by decide +kernel
theorem dJ1_indexOfChar_4cfef_7 : decode cJ1_indexOfChar_4cfef 7 = .ok (.iload 5, 2) := by decide +kernel
theorem dJ1_indexOfChar_4cfef_9 : decode cJ1_indexOfChar_4cfef 9 = .ok (.iload_n 3, 1) := by decide +kernel
theorem dJ1_indexOfChar_4cfef_10 : decode cJ1_indexOfChar_4cfef 10 = .ok (.if_icmp .ge 21, 3) := by decide +kernel
theorem dJ1_indexOfChar_4cfef_13 : decode cJ1_indexOfChar_4cfef 13 = .ok (.aload_n 0, 1) := by decide +kernel
theorem dJ1_indexOfChar_4cfef_14 : decode cJ1_indexOfChar_4cfef 14 = .ok (.iload 5, 2) := by decide +kernel
theorem dJ1_indexOfChar_4cfef_16 : decode cJ1_indexOfChar_4cfef 16 = .ok (.baload, 1) := by decide +kernel
theorem dJ1_indexOfChar_4cfef_17 : decode cJ1_indexOfChar_4cfef 17 = .ok (.iload 4, 2) := by decide +kernel
theorem dJ1_indexOfChar_4cfef_19 : decode cJ1_indexOfChar_4cfef 19 = .ok (.if_icmp .ne 6, 3) := by decide +kernel
theorem dJ1_indexOfChar_4cfef_22 : decode cJ1_indexOfChar_4cfef 22 = .ok (.iload 5, 2) := by decide +kernel
theorem dJ1_indexOfChar_4cfef_24 : decode cJ1_indexOfChar_4cfef 24 = .ok (.ireturn, 1) := by decide +kernel
theorem dJ1_indexOfChar_4cfef_25 : decode cJ1_indexOfChar_4cfef 25 = .ok (.iinc 5 1, 3) := by decide +kernel
theorem dJ1_indexOfChar_4cfef_28 : decode cJ1_indexOfChar_4cfef 28 = .ok (.goto (-21), 3) := by decide +kernel
theorem dJ1_indexOfChar_4cfef_31 : decode cJ1_indexOfChar_4cfef 31 = .ok (.iconst (-1), 1) := by decide +kernel
theorem dJ1_indexOfChar_4cfef_32 : decode cJ1_indexOfChar_4cfef 32 = .ok (.ireturn, 1) := by decide +kernel
theorem dJ7_fill_53178_0 : decode cJ7_fill_53178 0 = .ok (.iconst 0, 1) := by decide +kernel
theorem dJ7_fill_53178_1 : decode cJ7_fill_53178 1 = .ok (.istore_n 2, 1) := by decide +kernel
theorem dJ7_fill_53178_2 : decode cJ7_fill_53178 2 = .ok (.aload_n 0, 1) := by decide +kernel
theorem dJ7_fill_53178_3 : decode cJ7_fill_53178 3 = .ok (.arraylength, 1) := by decide +kernel
theorem dJ7_fill_53178_4 : decode cJ7_fill_53178 4 = .ok (.istore_n 3, 1) := by decide +kernel
theorem dJ7_fill_53178_5 : decode cJ7_fill_53178 5 = .ok (.iload_n 2, 1) := by decide +kernel
theorem dJ7_fill_53178_6 : decode cJ7_fill_53178 6 = .ok (.iload_n 3, 1) := by decide +kernel
theorem dJ7_fill_53178_7 : decode cJ7_fill_53178 7 = .ok (.if_icmp .ge 13, 3) := by decide +kernel
theorem dJ7_fill_53178_10 : decode cJ7_fill_53178 10 = .ok (.aload_n 0, 1) := by decide +kernel
theorem dJ7_fill_53178_11 : decode cJ7_fill_53178 11 = .ok (.iload_n 2, 1) := by decide +kernel
theorem dJ7_fill_53178_12 : decode cJ7_fill_53178 12 = .ok (.iload_n 1, 1) := by decide +kernel
theorem dJ7_fill_53178_13 : decode cJ7_fill_53178 13 = .ok (.iastore, 1) := by decide +kernel
theorem dJ7_fill_53178_14 : decode cJ7_fill_53178 14 = .ok (.iinc 2 1, 3) := by decide +kernel
theorem dJ7_fill_53178_17 : decode cJ7_fill_53178 17 = .ok (.goto (-12), 3) := by decide +kernel
theorem dJ7_fill_53178_20 : decode cJ7_fill_53178 20 = .ok (.return_, 1) := by decide +kernel
theorem dJ3_checkIndex_8e157_0 : decode cJ3_checkIndex_8e157 0 = .ok (.iload_n 0, 1) := by decide +kernel
theorem dJ3_checkIndex_8e157_1 : decode cJ3_checkIndex_8e157 1 = .ok (.ifCond .lt 8, 3) := by decide +kernel
theorem dJ3_checkIndex_8e157_4 : decode cJ3_checkIndex_8e157 4 = .ok (.iload_n 0, 1) := by decide +kernel
theorem dJ3_checkIndex_8e157_5 : decode cJ3_checkIndex_8e157 5 = .ok (.iload_n 1, 1) := by decide +kernel
theorem dJ3_checkIndex_8e157_6 : decode cJ3_checkIndex_8e157 6 = .ok (.if_icmp .lt 10, 3) := by decide +kernel
theorem dJ3_checkIndex_8e157_9 : decode cJ3_checkIndex_8e157 9 = .ok (.aload_n 2, 1) := by decide +kernel
theorem dJ3_checkIndex_8e157_10 : decode cJ3_checkIndex_8e157 10 = .ok (.iload_n 0, 1) := by decide +kernel
theorem dJ3_checkIndex_8e157_11 : decode cJ3_checkIndex_8e157 11 = .ok (.iload_n 1, 1) := by decide +kernel
theorem dJ3_checkIndex_8e157_12 : decode cJ3_checkIndex_8e157 12 = .ok (.invokestatic 95, 3) := by decide +kernel
theorem dJ3_checkIndex_8e157_15 : decode cJ3_checkIndex_8e157 15 = .ok (.athrow, 1) := by decide +kernel
theorem dJ3_checkIndex_8e157_16 : decode cJ3_checkIndex_8e157 16 = .ok (.iload_n 0, 1) := by decide +kernel
theorem dJ3_checkIndex_8e157_17 : decode cJ3_checkIndex_8e157 17 = .ok (.ireturn, 1) := by decide +kernel
theorem dJ3_checkFromToIndex_8c36e_0 : decode cJ3_checkFromToIndex_8c36e 0 = .ok (.iload_n 0, 1) := by decide +kernel
theorem dJ3_checkFromToIndex_8c36e_1 : decode cJ3_checkFromToIndex_8c36e 1 = .ok (.ifCond .lt 13, 3) := by decide +kernel
theorem dJ3_checkFromToIndex_8c36e_4 : decode cJ3_checkFromToIndex_8c36e 4 = .ok (.iload_n 0, 1) := by decide +kernel
theorem dJ3_checkFromToIndex_8c36e_5 : decode cJ3_checkFromToIndex_8c36e 5 = .ok (.iload_n 1, 1) := by decide +kernel
theorem dJ3_checkFromToIndex_8c36e_6 : decode cJ3_checkFromToIndex_8c36e 6 = .ok (.if_icmp .gt 8, 3) := by decide +kernel
theorem dJ3_checkFromToIndex_8c36e_9 : decode cJ3_checkFromToIndex_8c36e 9 = .ok (.iload_n 1, 1) := by decide +kernel
theorem dJ3_checkFromToIndex_8c36e_10 : decode cJ3_checkFromToIndex_8c36e 10 = .ok (.iload_n 2, 1) := by decide +kernel
theorem dJ3_checkFromToIndex_8c36e_11 : decode cJ3_checkFromToIndex_8c36e 11 = .ok (.if_icmp .le 11, 3) := by decide +kernel
theorem dJ3_checkFromToIndex_8c36e_14 : decode cJ3_checkFromToIndex_8c36e 14 = .ok (.aload_n 3, 1) := by decide +kernel
theorem dJ3_checkFromToIndex_8c36e_15 : decode cJ3_checkFromToIndex_8c36e 15 = .ok (.iload_n 0, 1) := by decide +kernel
theorem dJ3_checkFromToIndex_8c36e_16 : decode cJ3_checkFromToIndex_8c36e 16 = .ok (.iload_n 1, 1) := by decide +kernel
theorem dJ3_checkFromToIndex_8c36e_17 : decode cJ3_checkFromToIndex_8c36e 17 = .ok (.iload_n 2, 1) := by decide +kernel
theorem dJ3_checkFromToIndex_8c36e_18 : decode cJ3_checkFromToIndex_8c36e 18 = .ok (.invokestatic 99, 3) := by decide +kernel
theorem dJ3_checkFromToIndex_8c36e_21 : decode cJ3_checkFromToIndex_8c36e 21 = .ok (.athrow, 1) := by decide +kernel
theorem dJ3_checkFromToIndex_8c36e_22 : decode cJ3_checkFromToIndex_8c36e 22 = .ok (.iload_n 0, 1) := by decide +kernel
theorem dJ3_checkFromToIndex_8c36e_23 : decode cJ3_checkFromToIndex_8c36e 23 = .ok (.ireturn, 1) := by decide +kernel
theorem dL_cell_0 : decode cL_cell 0 = .ok (.iload_n 1, 1) := by decide +kernel
theorem dL_cell_1 : decode cL_cell 1 = .ok (.aload_n 0, 1) := by decide +kernel
theorem dL_cell_2 : decode cL_cell 2 = .ok (.arraylength, 1) := by decide +kernel
theorem dL_cell_3 : decode cL_cell 3 = .ok (.if_icmp .ge 9, 3) := by decide +kernel
theorem dL_cell_6 : decode cL_cell 6 = .ok (.aload_n 0, 1) := by decide +kernel
theorem dL_cell_7 : decode cL_cell 7 = .ok (.iload_n 1, 1) := by decide +kernel
theorem dL_cell_8 : decode cL_cell 8 = .ok (.iaload, 1) := by decide +kernel
theorem dL_cell_9 : decode cL_cell 9 = .ok (.goto 4, 3) := by decide +kernel
theorem dL_cell_12 : decode cL_cell 12 = .ok (.iconst 0, 1) := by decide +kernel
theorem dL_cell_13 : decode cL_cell 13 = .ok (.ireturn, 1) := by decide +kernel
theorem dL_add_0 : decode cL_add 0 = .ok (.aload_n 1, 1) := by decide +kernel
theorem dL_add_1 : decode cL_add 1 = .ok (.iconst 0, 1) := by decide +kernel
theorem dL_add_2 : decode cL_add 2 = .ok (.aload_n 0, 1) := by decide +kernel
theorem dL_add_3 : decode cL_add 3 = .ok (.invokevirtual 7, 3) := by decide +kernel
theorem dL_add_6 : decode cL_add 6 = .ok (.i2l, 1) := by decide +kernel
theorem dL_add_7 : decode cL_add 7 = .ok (.lastore, 1) := by decide +kernel
theorem dL_add_8 : decode cL_add 8 = .ok (.goto 9, 3) := by decide +kernel
theorem dL_add_11 : decode cL_add 11 = .ok (.astore_n 2, 1) := by decide +kernel
theorem dL_add_12 : decode cL_add 12 = .ok (.iconst 1, 1) := by decide +kernel
theorem dL_add_13 : decode cL_add 13 = .ok (.ireturn, 1) := by decide +kernel
theorem dL_add_14 : decode cL_add 14 = .ok (.astore_n 2, 1) := by decide +kernel
theorem dL_add_15 : decode cL_add 15 = .ok (.iconst 2, 1) := by decide +kernel
theorem dL_add_16 : decode cL_add 16 = .ok (.ireturn, 1) := by decide +kernel
theorem dL_add_17 : decode cL_add 17 = .ok (.iconst 0, 1) := by decide +kernel
theorem dL_add_18 : decode cL_add 18 = .ok (.ireturn, 1) := by decide +kernel
theorem dL_accept_0 : decode cL_accept 0 = .ok (.aload_n 1, 1) := by decide +kernel
theorem dL_accept_1 : decode cL_accept 1 = .ok (.iconst 0, 1) := by decide +kernel
theorem dL_accept_2 : decode cL_accept 2 = .ok (.aload_n 0, 1) := by decide +kernel
theorem dL_accept_3 : decode cL_accept 3 = .ok (.invokevirtual 17, 3) := by decide +kernel
theorem dL_accept_6 : decode cL_accept 6 = .ok (.i2l, 1) := by decide +kernel
theorem dL_accept_7 : decode cL_accept 7 = .ok (.lastore, 1) := by decide +kernel
theorem dL_accept_8 : decode cL_accept 8 = .ok (.goto 9, 3) := by decide +kernel
theorem dL_accept_11 : decode cL_accept 11 = .ok (.astore_n 2, 1) := by decide +kernel
theorem dL_accept_12 : decode cL_accept 12 = .ok (.iconst 1, 1) := by decide +kernel
theorem dL_accept_13 : decode cL_accept 13 = .ok (.ireturn, 1) := by decide +kernel
theorem dL_accept_14 : decode cL_accept 14 = .ok (.astore_n 2, 1) := by decide +kernel
theorem dL_accept_15 : decode cL_accept 15 = .ok (.iconst 2, 1) := by decide +kernel
theorem dL_accept_16 : decode cL_accept 16 = .ok (.ireturn, 1) := by decide +kernel
theorem dL_accept_17 : decode cL_accept 17 = .ok (.iconst 0, 1) := by decide +kernel
theorem dL_accept_18 : decode cL_accept 18 = .ok (.ireturn, 1) := by decide +kernel
theorem dL_may_0 : decode cL_may 0 = .ok (.aload 4, 2) := by decide +kernel
theorem dL_may_2 : decode cL_may 2 = .ok (.iconst 0, 1) := by decide +kernel
theorem dL_may_3 : decode cL_may 3 = .ok (.aload_n 0, 1) := by decide +kernel
theorem dL_may_4 : decode cL_may 4 = .ok (.iload_n 1, 1) := by decide +kernel
theorem dL_may_5 : decode cL_may 5 = .ok (.iload_n 2, 1) := by decide +kernel
theorem dL_may_6 : decode cL_may 6 = .ok (.iload_n 3, 1) := by decide +kernel
theorem dL_may_7 : decode cL_may 7 = .ok (.invokevirtual 20, 3) := by decide +kernel
theorem dL_may_10 : decode cL_may 10 = .ok (.i2l, 1) := by decide +kernel
theorem dL_may_11 : decode cL_may 11 = .ok (.lastore, 1) := by decide +kernel
theorem dL_may_12 : decode cL_may 12 = .ok (.goto 7, 3) := by decide +kernel
theorem dL_may_15 : decode cL_may 15 = .ok (.astore 5, 2) := by decide +kernel
theorem dL_may_17 : decode cL_may 17 = .ok (.iconst 1, 1) := by decide +kernel
theorem dL_may_18 : decode cL_may 18 = .ok (.ireturn, 1) := by decide +kernel
theorem dL_may_19 : decode cL_may 19 = .ok (.iconst 0, 1) := by decide +kernel
theorem dL_may_20 : decode cL_may 20 = .ok (.ireturn, 1) := by decide +kernel
theorem dL_read_0 : decode cL_read 0 = .ok (.aload_n 1, 1) := by decide +kernel
theorem dL_read_1 : decode cL_read 1 = .ok (.iconst 0, 1) := by decide +kernel
theorem dL_read_2 : decode cL_read 2 = .ok (.aload_n 0, 1) := by decide +kernel
theorem dL_read_3 : decode cL_read 3 = .ok (.invokevirtual 26, 3) := by decide +kernel
theorem dL_read_6 : decode cL_read 6 = .ok (.i2l, 1) := by decide +kernel
theorem dL_read_7 : decode cL_read 7 = .ok (.lastore, 1) := by decide +kernel
theorem dL_read_8 : decode cL_read 8 = .ok (.goto 6, 3) := by decide +kernel
theorem dL_read_11 : decode cL_read 11 = .ok (.astore_n 2, 1) := by decide +kernel
theorem dL_read_12 : decode cL_read 12 = .ok (.iconst 1, 1) := by decide +kernel
theorem dL_read_13 : decode cL_read 13 = .ok (.ireturn, 1) := by decide +kernel
theorem dL_read_14 : decode cL_read 14 = .ok (.iconst 0, 1) := by decide +kernel
theorem dL_read_15 : decode cL_read 15 = .ok (.ireturn, 1) := by decide +kernel
theorem dL_law_0 : decode cL_law 0 = .ok (.new 8, 3) := by decide +kernel
theorem dL_law_3 : decode cL_law 3 = .ok (.dup, 1) := by decide +kernel
theorem dL_law_4 : decode cL_law 4 = .ok (.aload_n 0, 1) := by decide +kernel
theorem dL_law_5 : decode cL_law 5 = .ok (.iconst 0, 1) := by decide +kernel
theorem dL_law_6 : decode cL_law 6 = .ok (.invokestatic 29, 3) := by decide +kernel
theorem dL_law_9 : decode cL_law 9 = .ok (.invokespecial 35, 3) := by decide +kernel
theorem dL_law_12 : decode cL_law 12 = .ok (.astore_n 1, 1) := by decide +kernel
theorem dL_law_13 : decode cL_law 13 = .ok (.new 38, 3) := by decide +kernel
theorem dL_law_16 : decode cL_law 16 = .ok (.dup, 1) := by decide +kernel
theorem dL_law_17 : decode cL_law 17 = .ok (.aload_n 0, 1) := by decide +kernel
theorem dL_law_18 : decode cL_law 18 = .ok (.iconst 0, 1) := by decide +kernel
theorem dL_law_19 : decode cL_law 19 = .ok (.invokestatic 29, 3) := by decide +kernel
theorem dL_law_22 : decode cL_law 22 = .ok (.invokespecial 40, 3) := by decide +kernel
theorem dL_law_25 : decode cL_law 25 = .ok (.astore_n 2, 1) := by decide +kernel
theorem dL_law_26 : decode cL_law 26 = .ok (.iconst 1, 1) := by decide +kernel
theorem dL_law_27 : decode cL_law 27 = .ok (.newarray .long, 2) := by decide +kernel
theorem dL_law_29 : decode cL_law 29 = .ok (.astore_n 3, 1) := by decide +kernel
theorem dL_law_30 : decode cL_law 30 = .ok (.iconst 1, 1) := by decide +kernel
theorem dL_law_31 : decode cL_law 31 = .ok (.istore 4, 2) := by decide +kernel
theorem dL_law_33 : decode cL_law 33 = .ok (.iload 4, 2) := by decide +kernel
theorem dL_law_35 : decode cL_law 35 = .ok (.aload_n 0, 1) := by decide +kernel
theorem dL_law_36 : decode cL_law 36 = .ok (.arraylength, 1) := by decide +kernel
theorem dL_law_37 : decode cL_law 37 = .ok (.iconst 4, 1) := by decide +kernel
theorem dL_law_38 : decode cL_law 38 = .ok (.isub, 1) := by decide +kernel
theorem dL_law_39 : decode cL_law 39 = .ok (.if_icmp .gt 625, 3) := by decide +kernel
theorem dL_law_42 : decode cL_law 42 = .ok (.aload_n 0, 1) := by decide +kernel
theorem dL_law_43 : decode cL_law 43 = .ok (.iload 4, 2) := by decide +kernel
theorem dL_law_45 : decode cL_law 45 = .ok (.iaload, 1) := by decide +kernel
theorem dL_law_46 : decode cL_law 46 = .ok (.bipush 15, 2) := by decide +kernel
theorem dL_law_48 : decode cL_law 48 = .ok (.iand, 1) := by decide +kernel
theorem dL_law_49 : decode cL_law 49 = .ok (.tableswitch 609 0 13 #[71, 128, 172, 185, 210, 254, 267, 347, 396, 433, 458, 471, 496, 565], 71) := by decide +kernel
theorem dL_law_120 : decode cL_law 120 = .ok (.aload_n 1, 1) := by decide +kernel
theorem dL_law_121 : decode cL_law 121 = .ok (.aload_n 0, 1) := by decide +kernel
theorem dL_law_122 : decode cL_law 122 = .ok (.iload 4, 2) := by decide +kernel
theorem dL_law_124 : decode cL_law 124 = .ok (.iconst 1, 1) := by decide +kernel
theorem dL_law_125 : decode cL_law 125 = .ok (.iadd, 1) := by decide +kernel
theorem dL_law_126 : decode cL_law 126 = .ok (.iaload, 1) := by decide +kernel
theorem dL_law_127 : decode cL_law 127 = .ok (.i2l, 1) := by decide +kernel
theorem dL_law_128 : decode cL_law 128 = .ok (.bipush 32, 2) := by decide +kernel
theorem dL_law_130 : decode cL_law 130 = .ok (.lshl, 1) := by decide +kernel
theorem dL_law_131 : decode cL_law 131 = .ok (.aload_n 0, 1) := by decide +kernel
theorem dL_law_132 : decode cL_law 132 = .ok (.iload 4, 2) := by decide +kernel
theorem dL_law_134 : decode cL_law 134 = .ok (.iconst 2, 1) := by decide +kernel
theorem dL_law_135 : decode cL_law 135 = .ok (.iadd, 1) := by decide +kernel
theorem dL_law_136 : decode cL_law 136 = .ok (.iaload, 1) := by decide +kernel
theorem dL_law_137 : decode cL_law 137 = .ok (.i2l, 1) := by decide +kernel
theorem dL_law_138 : decode cL_law 138 = .ok (.ldc2_w 41, 3) := by decide +kernel
theorem dL_law_141 : decode cL_law 141 = .ok (.land, 1) := by decide +kernel
theorem dL_law_142 : decode cL_law 142 = .ok (.lor, 1) := by decide +kernel
theorem dL_law_143 : decode cL_law 143 = .ok (.invokevirtual 43, 3) := by decide +kernel
theorem dL_law_146 : decode cL_law 146 = .ok (.aload_n 2, 1) := by decide +kernel
theorem dL_law_147 : decode cL_law 147 = .ok (.aload_n 0, 1) := by decide +kernel
theorem dL_law_148 : decode cL_law 148 = .ok (.iload 4, 2) := by decide +kernel
theorem dL_law_150 : decode cL_law 150 = .ok (.iconst 1, 1) := by decide +kernel
theorem dL_law_151 : decode cL_law 151 = .ok (.iadd, 1) := by decide +kernel
theorem dL_law_152 : decode cL_law 152 = .ok (.iaload, 1) := by decide +kernel
theorem dL_law_153 : decode cL_law 153 = .ok (.i2l, 1) := by decide +kernel
theorem dL_law_154 : decode cL_law 154 = .ok (.bipush 32, 2) := by decide +kernel
theorem dL_law_156 : decode cL_law 156 = .ok (.lshl, 1) := by decide +kernel
theorem dL_law_157 : decode cL_law 157 = .ok (.aload_n 0, 1) := by decide +kernel
theorem dL_law_158 : decode cL_law 158 = .ok (.iload 4, 2) := by decide +kernel
theorem dL_law_160 : decode cL_law 160 = .ok (.iconst 2, 1) := by decide +kernel
theorem dL_law_161 : decode cL_law 161 = .ok (.iadd, 1) := by decide +kernel
theorem dL_law_162 : decode cL_law 162 = .ok (.iaload, 1) := by decide +kernel
theorem dL_law_163 : decode cL_law 163 = .ok (.i2l, 1) := by decide +kernel
theorem dL_law_164 : decode cL_law 164 = .ok (.ldc2_w 41, 3) := by decide +kernel
theorem dL_law_167 : decode cL_law 167 = .ok (.land, 1) := by decide +kernel
theorem dL_law_168 : decode cL_law 168 = .ok (.lor, 1) := by decide +kernel
theorem dL_law_169 : decode cL_law 169 = .ok (.invokevirtual 47, 3) := by decide +kernel
theorem dL_law_172 : decode cL_law 172 = .ok (.if_icmp .eq 486, 3) := by decide +kernel
theorem dL_law_175 : decode cL_law 175 = .ok (.iconst 0, 1) := by decide +kernel
theorem dL_law_176 : decode cL_law 176 = .ok (.ireturn, 1) := by decide +kernel
theorem dL_law_177 : decode cL_law 177 = .ok (.aload_n 1, 1) := by decide +kernel
theorem dL_law_178 : decode cL_law 178 = .ok (.aload_n 3, 1) := by decide +kernel
theorem dL_law_179 : decode cL_law 179 = .ok (.invokestatic 48, 3) := by decide +kernel
theorem dL_law_182 : decode cL_law 182 = .ok (.istore 5, 2) := by decide +kernel
theorem dL_law_184 : decode cL_law 184 = .ok (.aload_n 2, 1) := by decide +kernel
theorem dL_law_185 : decode cL_law 185 = .ok (.invokevirtual 51, 3) := by decide +kernel
theorem dL_law_188 : decode cL_law 188 = .ok (.istore 6, 2) := by decide +kernel
theorem dL_law_190 : decode cL_law 190 = .ok (.aload_n 2, 1) := by decide +kernel
theorem dL_law_191 : decode cL_law 191 = .ok (.invokevirtual 52, 3) := by decide +kernel
theorem dL_law_194 : decode cL_law 194 = .ok (.iload 5, 2) := by decide +kernel
theorem dL_law_196 : decode cL_law 196 = .ok (.if_icmp .eq 5, 3) := by decide +kernel
theorem dL_law_199 : decode cL_law 199 = .ok (.iconst 0, 1) := by decide +kernel
theorem dL_law_200 : decode cL_law 200 = .ok (.ireturn, 1) := by decide +kernel
theorem dL_law_201 : decode cL_law 201 = .ok (.iload 5, 2) := by decide +kernel
theorem dL_law_203 : decode cL_law 203 = .ok (.ifCond .ne 15, 3) := by decide +kernel
theorem dL_law_206 : decode cL_law 206 = .ok (.aload_n 3, 1) := by decide +kernel
theorem dL_law_207 : decode cL_law 207 = .ok (.iconst 0, 1) := by decide +kernel
theorem dL_law_208 : decode cL_law 208 = .ok (.laload, 1) := by decide +kernel
theorem dL_law_209 : decode cL_law 209 = .ok (.iload 6, 2) := by decide +kernel
theorem dL_law_211 : decode cL_law 211 = .ok (.i2l, 1) := by decide +kernel
theorem dL_law_212 : decode cL_law 212 = .ok (.lcmp, 1) := by decide +kernel
theorem dL_law_213 : decode cL_law 213 = .ok (.ifCond .eq 5, 3) := by decide +kernel
theorem dL_law_216 : decode cL_law 216 = .ok (.iconst 0, 1) := by decide +kernel
theorem dL_law_217 : decode cL_law 217 = .ok (.ireturn, 1) := by decide +kernel
theorem dL_law_218 : decode cL_law 218 = .ok (.goto 440, 3) := by decide +kernel
theorem dL_law_221 : decode cL_law 221 = .ok (.aload_n 1, 1) := by decide +kernel
theorem dL_law_222 : decode cL_law 222 = .ok (.invokevirtual 55, 3) := by decide +kernel
theorem dL_law_225 : decode cL_law 225 = .ok (.aload_n 2, 1) := by decide +kernel
theorem dL_law_226 : decode cL_law 226 = .ok (.invokevirtual 58, 3) := by decide +kernel
theorem dL_law_229 : decode cL_law 229 = .ok (.if_icmp .eq 429, 3) := by decide +kernel
theorem dL_law_232 : decode cL_law 232 = .ok (.iconst 0, 1) := by decide +kernel
theorem dL_law_233 : decode cL_law 233 = .ok (.ireturn, 1) := by decide +kernel
theorem dL_law_234 : decode cL_law 234 = .ok (.aload_n 1, 1) := by decide +kernel
theorem dL_law_235 : decode cL_law 235 = .ok (.aload_n 0, 1) := by decide +kernel
theorem dL_law_236 : decode cL_law 236 = .ok (.iload 4, 2) := by decide +kernel
theorem dL_law_238 : decode cL_law 238 = .ok (.iconst 1, 1) := by decide +kernel
theorem dL_law_239 : decode cL_law 239 = .ok (.iadd, 1) := by decide +kernel
theorem dL_law_240 : decode cL_law 240 = .ok (.iaload, 1) := by decide +kernel
theorem dL_law_241 : decode cL_law 241 = .ok (.invokevirtual 59, 3) := by decide +kernel
theorem dL_law_244 : decode cL_law 244 = .ok (.aload_n 2, 1) := by decide +kernel
theorem dL_law_245 : decode cL_law 245 = .ok (.aload_n 0, 1) := by decide +kernel
theorem dL_law_246 : decode cL_law 246 = .ok (.iload 4, 2) := by decide +kernel
theorem dL_law_248 : decode cL_law 248 = .ok (.iconst 1, 1) := by decide +kernel
theorem dL_law_249 : decode cL_law 249 = .ok (.iadd, 1) := by decide +kernel
theorem dL_law_250 : decode cL_law 250 = .ok (.iaload, 1) := by decide +kernel
theorem dL_law_251 : decode cL_law 251 = .ok (.invokevirtual 63, 3) := by decide +kernel
theorem dL_law_254 : decode cL_law 254 = .ok (.if_icmp .eq 404, 3) := by decide +kernel
theorem dL_law_257 : decode cL_law 257 = .ok (.iconst 0, 1) := by decide +kernel
theorem dL_law_258 : decode cL_law 258 = .ok (.ireturn, 1) := by decide +kernel
theorem dL_law_259 : decode cL_law 259 = .ok (.aload_n 1, 1) := by decide +kernel
theorem dL_law_260 : decode cL_law 260 = .ok (.aload_n 3, 1) := by decide +kernel
theorem dL_law_261 : decode cL_law 261 = .ok (.invokestatic 64, 3) := by decide +kernel
theorem dL_law_264 : decode cL_law 264 = .ok (.istore 5, 2) := by decide +kernel
theorem dL_law_266 : decode cL_law 266 = .ok (.aload_n 2, 1) := by decide +kernel
theorem dL_law_267 : decode cL_law 267 = .ok (.invokevirtual 66, 3) := by decide +kernel
theorem dL_law_270 : decode cL_law 270 = .ok (.istore 6, 2) := by decide +kernel
theorem dL_law_272 : decode cL_law 272 = .ok (.aload_n 2, 1) := by decide +kernel
theorem dL_law_273 : decode cL_law 273 = .ok (.invokevirtual 52, 3) := by decide +kernel
theorem dL_law_276 : decode cL_law 276 = .ok (.iload 5, 2) := by decide +kernel
theorem dL_law_278 : decode cL_law 278 = .ok (.if_icmp .eq 5, 3) := by decide +kernel
theorem dL_law_281 : decode cL_law 281 = .ok (.iconst 0, 1) := by decide +kernel
theorem dL_law_282 : decode cL_law 282 = .ok (.ireturn, 1) := by decide +kernel
theorem dL_law_283 : decode cL_law 283 = .ok (.iload 5, 2) := by decide +kernel
theorem dL_law_285 : decode cL_law 285 = .ok (.ifCond .ne 15, 3) := by decide +kernel
theorem dL_law_288 : decode cL_law 288 = .ok (.aload_n 3, 1) := by decide +kernel
theorem dL_law_289 : decode cL_law 289 = .ok (.iconst 0, 1) := by decide +kernel
theorem dL_law_290 : decode cL_law 290 = .ok (.laload, 1) := by decide +kernel
theorem dL_law_291 : decode cL_law 291 = .ok (.iload 6, 2) := by decide +kernel
theorem dL_law_293 : decode cL_law 293 = .ok (.i2l, 1) := by decide +kernel
theorem dL_law_294 : decode cL_law 294 = .ok (.lcmp, 1) := by decide +kernel
theorem dL_law_295 : decode cL_law 295 = .ok (.ifCond .eq 5, 3) := by decide +kernel
theorem dL_law_298 : decode cL_law 298 = .ok (.iconst 0, 1) := by decide +kernel
theorem dL_law_299 : decode cL_law 299 = .ok (.ireturn, 1) := by decide +kernel
theorem dL_law_300 : decode cL_law 300 = .ok (.goto 358, 3) := by decide +kernel
theorem dL_law_303 : decode cL_law 303 = .ok (.aload_n 1, 1) := by decide +kernel
theorem dL_law_304 : decode cL_law 304 = .ok (.invokevirtual 67, 3) := by decide +kernel
theorem dL_law_307 : decode cL_law 307 = .ok (.aload_n 2, 1) := by decide +kernel
theorem dL_law_308 : decode cL_law 308 = .ok (.invokevirtual 70, 3) := by decide +kernel
theorem dL_law_311 : decode cL_law 311 = .ok (.if_icmp .eq 347, 3) := by decide +kernel
theorem dL_law_314 : decode cL_law 314 = .ok (.iconst 0, 1) := by decide +kernel
theorem dL_law_315 : decode cL_law 315 = .ok (.ireturn, 1) := by decide +kernel
theorem dL_law_316 : decode cL_law 316 = .ok (.aload_n 1, 1) := by decide +kernel
theorem dL_law_317 : decode cL_law 317 = .ok (.aload_n 0, 1) := by decide +kernel
theorem dL_law_318 : decode cL_law 318 = .ok (.iload 4, 2) := by decide +kernel
theorem dL_law_320 : decode cL_law 320 = .ok (.iconst 1, 1) := by decide +kernel
theorem dL_law_321 : decode cL_law 321 = .ok (.iadd, 1) := by decide +kernel
theorem dL_law_322 : decode cL_law 322 = .ok (.iaload, 1) := by decide +kernel
theorem dL_law_323 : decode cL_law 323 = .ok (.aload_n 0, 1) := by decide +kernel
theorem dL_law_324 : decode cL_law 324 = .ok (.iload 4, 2) := by decide +kernel
theorem dL_law_326 : decode cL_law 326 = .ok (.iconst 2, 1) := by decide +kernel
theorem dL_law_327 : decode cL_law 327 = .ok (.iadd, 1) := by decide +kernel
theorem dL_law_328 : decode cL_law 328 = .ok (.iaload, 1) := by decide +kernel
theorem dL_law_329 : decode cL_law 329 = .ok (.aload_n 0, 1) := by decide +kernel
theorem dL_law_330 : decode cL_law 330 = .ok (.iload 4, 2) := by decide +kernel
theorem dL_law_332 : decode cL_law 332 = .ok (.iconst 3, 1) := by decide +kernel
theorem dL_law_333 : decode cL_law 333 = .ok (.iadd, 1) := by decide +kernel
theorem dL_law_334 : decode cL_law 334 = .ok (.iaload, 1) := by decide +kernel
theorem dL_law_335 : decode cL_law 335 = .ok (.aload_n 3, 1) := by decide +kernel
theorem dL_law_336 : decode cL_law 336 = .ok (.invokestatic 71, 3) := by decide +kernel
theorem dL_law_339 : decode cL_law 339 = .ok (.istore 5, 2) := by decide +kernel
theorem dL_law_341 : decode cL_law 341 = .ok (.aload_n 2, 1) := by decide +kernel
theorem dL_law_342 : decode cL_law 342 = .ok (.aload_n 0, 1) := by decide +kernel
theorem dL_law_343 : decode cL_law 343 = .ok (.iload 4, 2) := by decide +kernel
theorem dL_law_345 : decode cL_law 345 = .ok (.iconst 1, 1) := by decide +kernel
theorem dL_law_346 : decode cL_law 346 = .ok (.iadd, 1) := by decide +kernel
theorem dL_law_347 : decode cL_law 347 = .ok (.iaload, 1) := by decide +kernel
theorem dL_law_348 : decode cL_law 348 = .ok (.aload_n 0, 1) := by decide +kernel
theorem dL_law_349 : decode cL_law 349 = .ok (.iload 4, 2) := by decide +kernel
theorem dL_law_351 : decode cL_law 351 = .ok (.iconst 2, 1) := by decide +kernel
theorem dL_law_352 : decode cL_law 352 = .ok (.iadd, 1) := by decide +kernel
theorem dL_law_353 : decode cL_law 353 = .ok (.iaload, 1) := by decide +kernel
theorem dL_law_354 : decode cL_law 354 = .ok (.aload_n 0, 1) := by decide +kernel
theorem dL_law_355 : decode cL_law 355 = .ok (.iload 4, 2) := by decide +kernel
theorem dL_law_357 : decode cL_law 357 = .ok (.iconst 3, 1) := by decide +kernel
theorem dL_law_358 : decode cL_law 358 = .ok (.iadd, 1) := by decide +kernel
theorem dL_law_359 : decode cL_law 359 = .ok (.iaload, 1) := by decide +kernel
theorem dL_law_360 : decode cL_law 360 = .ok (.invokevirtual 74, 3) := by decide +kernel
theorem dL_law_363 : decode cL_law 363 = .ok (.istore 6, 2) := by decide +kernel
theorem dL_law_365 : decode cL_law 365 = .ok (.aload_n 2, 1) := by decide +kernel
theorem dL_law_366 : decode cL_law 366 = .ok (.invokevirtual 52, 3) := by decide +kernel
theorem dL_law_369 : decode cL_law 369 = .ok (.iload 5, 2) := by decide +kernel
theorem dL_law_371 : decode cL_law 371 = .ok (.if_icmp .eq 5, 3) := by decide +kernel
theorem dL_law_374 : decode cL_law 374 = .ok (.iconst 0, 1) := by decide +kernel
theorem dL_law_375 : decode cL_law 375 = .ok (.ireturn, 1) := by decide +kernel
theorem dL_law_376 : decode cL_law 376 = .ok (.iload 5, 2) := by decide +kernel
theorem dL_law_378 : decode cL_law 378 = .ok (.ifCond .ne 15, 3) := by decide +kernel
theorem dL_law_381 : decode cL_law 381 = .ok (.aload_n 3, 1) := by decide +kernel
theorem dL_law_382 : decode cL_law 382 = .ok (.iconst 0, 1) := by decide +kernel
theorem dL_law_383 : decode cL_law 383 = .ok (.laload, 1) := by decide +kernel
theorem dL_law_384 : decode cL_law 384 = .ok (.iload 6, 2) := by decide +kernel
theorem dL_law_386 : decode cL_law 386 = .ok (.i2l, 1) := by decide +kernel
theorem dL_law_387 : decode cL_law 387 = .ok (.lcmp, 1) := by decide +kernel
theorem dL_law_388 : decode cL_law 388 = .ok (.ifCond .eq 5, 3) := by decide +kernel
theorem dL_law_391 : decode cL_law 391 = .ok (.iconst 0, 1) := by decide +kernel
theorem dL_law_392 : decode cL_law 392 = .ok (.ireturn, 1) := by decide +kernel
theorem dL_law_393 : decode cL_law 393 = .ok (.goto 265, 3) := by decide +kernel
theorem dL_law_396 : decode cL_law 396 = .ok (.aload_n 1, 1) := by decide +kernel
theorem dL_law_397 : decode cL_law 397 = .ok (.aload_n 0, 1) := by decide +kernel
theorem dL_law_398 : decode cL_law 398 = .ok (.iload 4, 2) := by decide +kernel
theorem dL_law_400 : decode cL_law 400 = .ok (.iconst 1, 1) := by decide +kernel
theorem dL_law_401 : decode cL_law 401 = .ok (.iadd, 1) := by decide +kernel
theorem dL_law_402 : decode cL_law 402 = .ok (.iaload, 1) := by decide +kernel
theorem dL_law_403 : decode cL_law 403 = .ok (.aload_n 0, 1) := by decide +kernel
theorem dL_law_404 : decode cL_law 404 = .ok (.iload 4, 2) := by decide +kernel
theorem dL_law_406 : decode cL_law 406 = .ok (.iconst 2, 1) := by decide +kernel
theorem dL_law_407 : decode cL_law 407 = .ok (.iadd, 1) := by decide +kernel
theorem dL_law_408 : decode cL_law 408 = .ok (.iaload, 1) := by decide +kernel
theorem dL_law_409 : decode cL_law 409 = .ok (.aload_n 0, 1) := by decide +kernel
theorem dL_law_410 : decode cL_law 410 = .ok (.iload 4, 2) := by decide +kernel
theorem dL_law_412 : decode cL_law 412 = .ok (.iconst 3, 1) := by decide +kernel
theorem dL_law_413 : decode cL_law 413 = .ok (.iadd, 1) := by decide +kernel
theorem dL_law_414 : decode cL_law 414 = .ok (.iaload, 1) := by decide +kernel
theorem dL_law_415 : decode cL_law 415 = .ok (.invokevirtual 75, 3) := by decide +kernel
theorem dL_law_418 : decode cL_law 418 = .ok (.aload_n 2, 1) := by decide +kernel
theorem dL_law_419 : decode cL_law 419 = .ok (.aload_n 0, 1) := by decide +kernel
theorem dL_law_420 : decode cL_law 420 = .ok (.iload 4, 2) := by decide +kernel
theorem dL_law_422 : decode cL_law 422 = .ok (.iconst 1, 1) := by decide +kernel
theorem dL_law_423 : decode cL_law 423 = .ok (.iadd, 1) := by decide +kernel
theorem dL_law_424 : decode cL_law 424 = .ok (.iaload, 1) := by decide +kernel
theorem dL_law_425 : decode cL_law 425 = .ok (.aload_n 0, 1) := by decide +kernel
theorem dL_law_426 : decode cL_law 426 = .ok (.iload 4, 2) := by decide +kernel
theorem dL_law_428 : decode cL_law 428 = .ok (.iconst 2, 1) := by decide +kernel
theorem dL_law_429 : decode cL_law 429 = .ok (.iadd, 1) := by decide +kernel
theorem dL_law_430 : decode cL_law 430 = .ok (.iaload, 1) := by decide +kernel
theorem dL_law_431 : decode cL_law 431 = .ok (.aload_n 0, 1) := by decide +kernel
theorem dL_law_432 : decode cL_law 432 = .ok (.iload 4, 2) := by decide +kernel
theorem dL_law_434 : decode cL_law 434 = .ok (.iconst 3, 1) := by decide +kernel
theorem dL_law_435 : decode cL_law 435 = .ok (.iadd, 1) := by decide +kernel
theorem dL_law_436 : decode cL_law 436 = .ok (.iaload, 1) := by decide +kernel
theorem dL_law_437 : decode cL_law 437 = .ok (.invokevirtual 78, 3) := by decide +kernel
theorem dL_law_440 : decode cL_law 440 = .ok (.if_icmp .eq 218, 3) := by decide +kernel
theorem dL_law_443 : decode cL_law 443 = .ok (.iconst 0, 1) := by decide +kernel
theorem dL_law_444 : decode cL_law 444 = .ok (.ireturn, 1) := by decide +kernel
theorem dL_law_445 : decode cL_law 445 = .ok (.aload_n 1, 1) := by decide +kernel
theorem dL_law_446 : decode cL_law 446 = .ok (.aload_n 0, 1) := by decide +kernel
theorem dL_law_447 : decode cL_law 447 = .ok (.iload 4, 2) := by decide +kernel
theorem dL_law_449 : decode cL_law 449 = .ok (.iconst 1, 1) := by decide +kernel
theorem dL_law_450 : decode cL_law 450 = .ok (.iadd, 1) := by decide +kernel
theorem dL_law_451 : decode cL_law 451 = .ok (.iaload, 1) := by decide +kernel
theorem dL_law_452 : decode cL_law 452 = .ok (.aload_n 0, 1) := by decide +kernel
theorem dL_law_453 : decode cL_law 453 = .ok (.iload 4, 2) := by decide +kernel
theorem dL_law_455 : decode cL_law 455 = .ok (.iconst 2, 1) := by decide +kernel
theorem dL_law_456 : decode cL_law 456 = .ok (.iadd, 1) := by decide +kernel
theorem dL_law_457 : decode cL_law 457 = .ok (.iaload, 1) := by decide +kernel
theorem dL_law_458 : decode cL_law 458 = .ok (.invokevirtual 79, 3) := by decide +kernel
theorem dL_law_461 : decode cL_law 461 = .ok (.aload_n 2, 1) := by decide +kernel
theorem dL_law_462 : decode cL_law 462 = .ok (.aload_n 0, 1) := by decide +kernel
theorem dL_law_463 : decode cL_law 463 = .ok (.iload 4, 2) := by decide +kernel
theorem dL_law_465 : decode cL_law 465 = .ok (.iconst 1, 1) := by decide +kernel
theorem dL_law_466 : decode cL_law 466 = .ok (.iadd, 1) := by decide +kernel
theorem dL_law_467 : decode cL_law 467 = .ok (.iaload, 1) := by decide +kernel
theorem dL_law_468 : decode cL_law 468 = .ok (.aload_n 0, 1) := by decide +kernel
theorem dL_law_469 : decode cL_law 469 = .ok (.iload 4, 2) := by decide +kernel
theorem dL_law_471 : decode cL_law 471 = .ok (.iconst 2, 1) := by decide +kernel
theorem dL_law_472 : decode cL_law 472 = .ok (.iadd, 1) := by decide +kernel
theorem dL_law_473 : decode cL_law 473 = .ok (.iaload, 1) := by decide +kernel
theorem dL_law_474 : decode cL_law 474 = .ok (.invokevirtual 83, 3) := by decide +kernel
theorem dL_law_477 : decode cL_law 477 = .ok (.if_icmp .eq 181, 3) := by decide +kernel
theorem dL_law_480 : decode cL_law 480 = .ok (.iconst 0, 1) := by decide +kernel
theorem dL_law_481 : decode cL_law 481 = .ok (.ireturn, 1) := by decide +kernel
theorem dL_law_482 : decode cL_law 482 = .ok (.aload_n 1, 1) := by decide +kernel
theorem dL_law_483 : decode cL_law 483 = .ok (.aload_n 0, 1) := by decide +kernel
theorem dL_law_484 : decode cL_law 484 = .ok (.iload 4, 2) := by decide +kernel
theorem dL_law_486 : decode cL_law 486 = .ok (.iconst 1, 1) := by decide +kernel
theorem dL_law_487 : decode cL_law 487 = .ok (.iadd, 1) := by decide +kernel
theorem dL_law_488 : decode cL_law 488 = .ok (.iaload, 1) := by decide +kernel
theorem dL_law_489 : decode cL_law 489 = .ok (.invokevirtual 84, 3) := by decide +kernel
theorem dL_law_492 : decode cL_law 492 = .ok (.aload_n 2, 1) := by decide +kernel
theorem dL_law_493 : decode cL_law 493 = .ok (.aload_n 0, 1) := by decide +kernel
theorem dL_law_494 : decode cL_law 494 = .ok (.iload 4, 2) := by decide +kernel
theorem dL_law_496 : decode cL_law 496 = .ok (.iconst 1, 1) := by decide +kernel
theorem dL_law_497 : decode cL_law 497 = .ok (.iadd, 1) := by decide +kernel
theorem dL_law_498 : decode cL_law 498 = .ok (.iaload, 1) := by decide +kernel
theorem dL_law_499 : decode cL_law 499 = .ok (.invokevirtual 88, 3) := by decide +kernel
theorem dL_law_502 : decode cL_law 502 = .ok (.if_icmp .eq 156, 3) := by decide +kernel
theorem dL_law_505 : decode cL_law 505 = .ok (.iconst 0, 1) := by decide +kernel
theorem dL_law_506 : decode cL_law 506 = .ok (.ireturn, 1) := by decide +kernel
theorem dL_law_507 : decode cL_law 507 = .ok (.aload_n 1, 1) := by decide +kernel
theorem dL_law_508 : decode cL_law 508 = .ok (.invokevirtual 89, 3) := by decide +kernel
theorem dL_law_511 : decode cL_law 511 = .ok (.aload_n 2, 1) := by decide +kernel
theorem dL_law_512 : decode cL_law 512 = .ok (.invokevirtual 92, 3) := by decide +kernel
theorem dL_law_515 : decode cL_law 515 = .ok (.if_icmp .eq 143, 3) := by decide +kernel
theorem dL_law_518 : decode cL_law 518 = .ok (.iconst 0, 1) := by decide +kernel
theorem dL_law_519 : decode cL_law 519 = .ok (.ireturn, 1) := by decide +kernel
theorem dL_law_520 : decode cL_law 520 = .ok (.aload_n 1, 1) := by decide +kernel
theorem dL_law_521 : decode cL_law 521 = .ok (.aload_n 0, 1) := by decide +kernel
theorem dL_law_522 : decode cL_law 522 = .ok (.iload 4, 2) := by decide +kernel
theorem dL_law_524 : decode cL_law 524 = .ok (.iconst 1, 1) := by decide +kernel
theorem dL_law_525 : decode cL_law 525 = .ok (.iadd, 1) := by decide +kernel
theorem dL_law_526 : decode cL_law 526 = .ok (.iaload, 1) := by decide +kernel
theorem dL_law_527 : decode cL_law 527 = .ok (.invokevirtual 93, 3) := by decide +kernel
theorem dL_law_530 : decode cL_law 530 = .ok (.aload_n 2, 1) := by decide +kernel
theorem dL_law_531 : decode cL_law 531 = .ok (.aload_n 0, 1) := by decide +kernel
theorem dL_law_532 : decode cL_law 532 = .ok (.iload 4, 2) := by decide +kernel
theorem dL_law_534 : decode cL_law 534 = .ok (.iconst 1, 1) := by decide +kernel
theorem dL_law_535 : decode cL_law 535 = .ok (.iadd, 1) := by decide +kernel
theorem dL_law_536 : decode cL_law 536 = .ok (.iaload, 1) := by decide +kernel
theorem dL_law_537 : decode cL_law 537 = .ok (.invokevirtual 96, 3) := by decide +kernel
theorem dL_law_540 : decode cL_law 540 = .ok (.if_icmp .eq 118, 3) := by decide +kernel
theorem dL_law_543 : decode cL_law 543 = .ok (.iconst 0, 1) := by decide +kernel
theorem dL_law_544 : decode cL_law 544 = .ok (.ireturn, 1) := by decide +kernel
theorem dL_law_545 : decode cL_law 545 = .ok (.aload_n 1, 1) := by decide +kernel
theorem dL_law_546 : decode cL_law 546 = .ok (.aload_n 0, 1) := by decide +kernel
theorem dL_law_547 : decode cL_law 547 = .ok (.iload 4, 2) := by decide +kernel
theorem dL_law_549 : decode cL_law 549 = .ok (.iconst 1, 1) := by decide +kernel
theorem dL_law_550 : decode cL_law 550 = .ok (.iadd, 1) := by decide +kernel
theorem dL_law_551 : decode cL_law 551 = .ok (.iaload, 1) := by decide +kernel
theorem dL_law_552 : decode cL_law 552 = .ok (.i2l, 1) := by decide +kernel
theorem dL_law_553 : decode cL_law 553 = .ok (.bipush 32, 2) := by decide +kernel
theorem dL_law_555 : decode cL_law 555 = .ok (.lshl, 1) := by decide +kernel
theorem dL_law_556 : decode cL_law 556 = .ok (.aload_n 0, 1) := by decide +kernel
theorem dL_law_557 : decode cL_law 557 = .ok (.iload 4, 2) := by decide +kernel
theorem dL_law_559 : decode cL_law 559 = .ok (.iconst 2, 1) := by decide +kernel
theorem dL_law_560 : decode cL_law 560 = .ok (.iadd, 1) := by decide +kernel
theorem dL_law_561 : decode cL_law 561 = .ok (.iaload, 1) := by decide +kernel
theorem dL_law_562 : decode cL_law 562 = .ok (.i2l, 1) := by decide +kernel
theorem dL_law_563 : decode cL_law 563 = .ok (.ldc2_w 41, 3) := by decide +kernel
theorem dL_law_566 : decode cL_law 566 = .ok (.land, 1) := by decide +kernel
theorem dL_law_567 : decode cL_law 567 = .ok (.lor, 1) := by decide +kernel
theorem dL_law_568 : decode cL_law 568 = .ok (.aload_n 0, 1) := by decide +kernel
theorem dL_law_569 : decode cL_law 569 = .ok (.iload 4, 2) := by decide +kernel
theorem dL_law_571 : decode cL_law 571 = .ok (.iconst 3, 1) := by decide +kernel
theorem dL_law_572 : decode cL_law 572 = .ok (.iadd, 1) := by decide +kernel
theorem dL_law_573 : decode cL_law 573 = .ok (.iaload, 1) := by decide +kernel
theorem dL_law_574 : decode cL_law 574 = .ok (.invokevirtual 97, 3) := by decide +kernel
theorem dL_law_577 : decode cL_law 577 = .ok (.aload_n 2, 1) := by decide +kernel
theorem dL_law_578 : decode cL_law 578 = .ok (.aload_n 0, 1) := by decide +kernel
theorem dL_law_579 : decode cL_law 579 = .ok (.iload 4, 2) := by decide +kernel
theorem dL_law_581 : decode cL_law 581 = .ok (.iconst 1, 1) := by decide +kernel
theorem dL_law_582 : decode cL_law 582 = .ok (.iadd, 1) := by decide +kernel
theorem dL_law_583 : decode cL_law 583 = .ok (.iaload, 1) := by decide +kernel
theorem dL_law_584 : decode cL_law 584 = .ok (.i2l, 1) := by decide +kernel
theorem dL_law_585 : decode cL_law 585 = .ok (.bipush 32, 2) := by decide +kernel
theorem dL_law_587 : decode cL_law 587 = .ok (.lshl, 1) := by decide +kernel
theorem dL_law_588 : decode cL_law 588 = .ok (.aload_n 0, 1) := by decide +kernel
theorem dL_law_589 : decode cL_law 589 = .ok (.iload 4, 2) := by decide +kernel
theorem dL_law_591 : decode cL_law 591 = .ok (.iconst 2, 1) := by decide +kernel
theorem dL_law_592 : decode cL_law 592 = .ok (.iadd, 1) := by decide +kernel
theorem dL_law_593 : decode cL_law 593 = .ok (.iaload, 1) := by decide +kernel
theorem dL_law_594 : decode cL_law 594 = .ok (.i2l, 1) := by decide +kernel
theorem dL_law_595 : decode cL_law 595 = .ok (.ldc2_w 41, 3) := by decide +kernel
theorem dL_law_598 : decode cL_law 598 = .ok (.land, 1) := by decide +kernel
theorem dL_law_599 : decode cL_law 599 = .ok (.lor, 1) := by decide +kernel
theorem dL_law_600 : decode cL_law 600 = .ok (.aload_n 0, 1) := by decide +kernel
theorem dL_law_601 : decode cL_law 601 = .ok (.iload 4, 2) := by decide +kernel
theorem dL_law_603 : decode cL_law 603 = .ok (.iconst 3, 1) := by decide +kernel
theorem dL_law_604 : decode cL_law 604 = .ok (.iadd, 1) := by decide +kernel
theorem dL_law_605 : decode cL_law 605 = .ok (.iaload, 1) := by decide +kernel
theorem dL_law_606 : decode cL_law 606 = .ok (.invokevirtual 101, 3) := by decide +kernel
theorem dL_law_609 : decode cL_law 609 = .ok (.if_icmp .eq 49, 3) := by decide +kernel
theorem dL_law_612 : decode cL_law 612 = .ok (.iconst 0, 1) := by decide +kernel
theorem dL_law_613 : decode cL_law 613 = .ok (.ireturn, 1) := by decide +kernel
theorem dL_law_614 : decode cL_law 614 = .ok (.aload_n 1, 1) := by decide +kernel
theorem dL_law_615 : decode cL_law 615 = .ok (.aload_n 3, 1) := by decide +kernel
theorem dL_law_616 : decode cL_law 616 = .ok (.invokestatic 102, 3) := by decide +kernel
theorem dL_law_619 : decode cL_law 619 = .ok (.istore 5, 2) := by decide +kernel
theorem dL_law_621 : decode cL_law 621 = .ok (.aload_n 2, 1) := by decide +kernel
theorem dL_law_622 : decode cL_law 622 = .ok (.invokevirtual 104, 3) := by decide +kernel
theorem dL_law_625 : decode cL_law 625 = .ok (.istore 6, 2) := by decide +kernel
theorem dL_law_627 : decode cL_law 627 = .ok (.aload_n 2, 1) := by decide +kernel
theorem dL_law_628 : decode cL_law 628 = .ok (.invokevirtual 52, 3) := by decide +kernel
theorem dL_law_631 : decode cL_law 631 = .ok (.iload 5, 2) := by decide +kernel
theorem dL_law_633 : decode cL_law 633 = .ok (.if_icmp .eq 5, 3) := by decide +kernel
theorem dL_law_636 : decode cL_law 636 = .ok (.iconst 0, 1) := by decide +kernel
theorem dL_law_637 : decode cL_law 637 = .ok (.ireturn, 1) := by decide +kernel
theorem dL_law_638 : decode cL_law 638 = .ok (.iload 5, 2) := by decide +kernel
theorem dL_law_640 : decode cL_law 640 = .ok (.ifCond .ne 15, 3) := by decide +kernel
theorem dL_law_643 : decode cL_law 643 = .ok (.aload_n 3, 1) := by decide +kernel
theorem dL_law_644 : decode cL_law 644 = .ok (.iconst 0, 1) := by decide +kernel
theorem dL_law_645 : decode cL_law 645 = .ok (.laload, 1) := by decide +kernel
theorem dL_law_646 : decode cL_law 646 = .ok (.iload 6, 2) := by decide +kernel
theorem dL_law_648 : decode cL_law 648 = .ok (.i2l, 1) := by decide +kernel
theorem dL_law_649 : decode cL_law 649 = .ok (.lcmp, 1) := by decide +kernel
theorem dL_law_650 : decode cL_law 650 = .ok (.ifCond .eq 5, 3) := by decide +kernel
theorem dL_law_653 : decode cL_law 653 = .ok (.iconst 0, 1) := by decide +kernel
theorem dL_law_654 : decode cL_law 654 = .ok (.ireturn, 1) := by decide +kernel
theorem dL_law_655 : decode cL_law 655 = .ok (.goto 3, 3) := by decide +kernel
theorem dL_law_658 : decode cL_law 658 = .ok (.iinc 4 4, 3) := by decide +kernel
theorem dL_law_661 : decode cL_law 661 = .ok (.goto (-628), 3) := by decide +kernel
theorem dL_law_664 : decode cL_law 664 = .ok (.iconst 1, 1) := by decide +kernel
theorem dL_law_665 : decode cL_law 665 = .ok (.ireturn, 1) := by decide +kernel
