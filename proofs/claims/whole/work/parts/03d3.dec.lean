theorem dX12_readStatement_116 : decode cX12_readStatement 116 = .ok (.iload_n 1, 1) := by decide +kernel
theorem dX12_readStatement_117 : decode cX12_readStatement 117 = .ok (.iconst 4, 1) := by decide +kernel
theorem dX12_readStatement_118 : decode cX12_readStatement 118 = .ok (.iconst 4, 1) := by decide +kernel
theorem dX12_readStatement_119 : decode cX12_readStatement 119 = .ok (.invokevirtual 113, 3) := by decide +kernel
theorem dX12_readStatement_122 : decode cX12_readStatement 122 = .ok (.istore_n 3, 1) := by decide +kernel
theorem dX12_readStatement_123 : decode cX12_readStatement 123 = .ok (.goto 44, 3) := by decide +kernel
theorem dX12_readStatement_126 : decode cX12_readStatement 126 = .ok (.aload_n 0, 1) := by decide +kernel
theorem dX12_readStatement_127 : decode cX12_readStatement 127 = .ok (.iload_n 1, 1) := by decide +kernel
theorem dX12_readStatement_128 : decode cX12_readStatement 128 = .ok (.iconst 1, 1) := by decide +kernel
theorem dX12_readStatement_129 : decode cX12_readStatement 129 = .ok (.iconst 1, 1) := by decide +kernel
theorem dX12_readStatement_130 : decode cX12_readStatement 130 = .ok (.invokevirtual 113, 3) := by decide +kernel
theorem dX12_readStatement_133 : decode cX12_readStatement 133 = .ok (.ifCond .eq 32, 3) := by decide +kernel
theorem dX12_readStatement_136 : decode cX12_readStatement 136 = .ok (.aload_n 0, 1) := by decide +kernel
theorem dX12_readStatement_137 : decode cX12_readStatement 137 = .ok (.iload_n 1, 1) := by decide +kernel
theorem dX12_readStatement_138 : decode cX12_readStatement 138 = .ok (.iload_n 2, 1) := by decide +kernel
theorem dX12_readStatement_139 : decode cX12_readStatement 139 = .ok (.invokevirtual 117, 3) := by decide +kernel
theorem dX12_readStatement_142 : decode cX12_readStatement 142 = .ok (.ifCond .eq 23, 3) := by decide +kernel
theorem dX12_readStatement_145 : decode cX12_readStatement 145 = .ok (.iload_n 2, 1) := by decide +kernel
theorem dX12_readStatement_146 : decode cX12_readStatement 146 = .ok (.iconst 5, 1) := by decide +kernel
theorem dX12_readStatement_147 : decode cX12_readStatement 147 = .ok (.if_icmp .eq 14, 3) := by decide +kernel
theorem dX12_readStatement_150 : decode cX12_readStatement 150 = .ok (.aload_n 0, 1) := by decide +kernel
theorem dX12_readStatement_151 : decode cX12_readStatement 151 = .ok (.iload_n 1, 1) := by decide +kernel
theorem dX12_readStatement_152 : decode cX12_readStatement 152 = .ok (.iconst 1, 1) := by decide +kernel
theorem dX12_readStatement_153 : decode cX12_readStatement 153 = .ok (.bipush 6, 2) := by decide +kernel
theorem dX12_readStatement_155 : decode cX12_readStatement 155 = .ok (.invokevirtual 113, 3) := by decide +kernel
theorem dX12_readStatement_158 : decode cX12_readStatement 158 = .ok (.ifCond .eq 7, 3) := by decide +kernel
theorem dX12_readStatement_161 : decode cX12_readStatement 161 = .ok (.iconst 1, 1) := by decide +kernel
theorem dX12_readStatement_162 : decode cX12_readStatement 162 = .ok (.goto 4, 3) := by decide +kernel
theorem dX12_readStatement_165 : decode cX12_readStatement 165 = .ok (.iconst 0, 1) := by decide +kernel
theorem dX12_readStatement_166 : decode cX12_readStatement 166 = .ok (.istore_n 3, 1) := by decide +kernel
theorem dX12_readStatement_167 : decode cX12_readStatement 167 = .ok (.iload_n 3, 1) := by decide +kernel
theorem dX12_readStatement_168 : decode cX12_readStatement 168 = .ok (.ifCond .eq 18, 3) := by decide +kernel
theorem dX12_readStatement_171 : decode cX12_readStatement 171 = .ok (.aload_n 0, 1) := by decide +kernel
theorem dX12_readStatement_172 : decode cX12_readStatement 172 = .ok (.getfield 84, 3) := by decide +kernel
theorem dX12_readStatement_175 : decode cX12_readStatement 175 = .ok (.aload_n 0, 1) := by decide +kernel
theorem dX12_readStatement_176 : decode cX12_readStatement 176 = .ok (.getfield 81, 3) := by decide +kernel
theorem dX12_readStatement_179 : decode cX12_readStatement 179 = .ok (.if_icmp .ne 7, 3) := by decide +kernel
theorem dX12_readStatement_182 : decode cX12_readStatement 182 = .ok (.iconst 1, 1) := by decide +kernel
theorem dX12_readStatement_183 : decode cX12_readStatement 183 = .ok (.goto 4, 3) := by decide +kernel
theorem dX12_readStatement_186 : decode cX12_readStatement 186 = .ok (.iconst 0, 1) := by decide +kernel
theorem dX12_readStatement_187 : decode cX12_readStatement 187 = .ok (.ireturn, 1) := by decide +kernel
theorem dX12_readExtra_0 : decode cX12_readExtra 0 = .ok (.aload_n 0, 1) := by decide +kernel
theorem dX12_readExtra_1 : decode cX12_readExtra 1 = .ok (.invokevirtual 87, 3) := by decide +kernel
theorem dX12_readExtra_4 : decode cX12_readExtra 4 = .ok (.bipush 32, 2) := by decide +kernel
theorem dX12_readExtra_6 : decode cX12_readExtra 6 = .ok (.if_icmp .eq 5, 3) := by decide +kernel
theorem dX12_readExtra_9 : decode cX12_readExtra 9 = .ok (.iconst 0, 1) := by decide +kernel
theorem dX12_readExtra_10 : decode cX12_readExtra 10 = .ok (.ireturn, 1) := by decide +kernel
theorem dX12_readExtra_11 : decode cX12_readExtra 11 = .ok (.aload_n 0, 1) := by decide +kernel
theorem dX12_readExtra_12 : decode cX12_readExtra 12 = .ok (.dup, 1) := by decide +kernel
theorem dX12_readExtra_13 : decode cX12_readExtra 13 = .ok (.getfield 84, 3) := by decide +kernel
theorem dX12_readExtra_16 : decode cX12_readExtra 16 = .ok (.iconst 1, 1) := by decide +kernel
theorem dX12_readExtra_17 : decode cX12_readExtra 17 = .ok (.iadd, 1) := by decide +kernel
theorem dX12_readExtra_18 : decode cX12_readExtra 18 = .ok (.putfield 84, 3) := by decide +kernel
theorem dX12_readExtra_21 : decode cX12_readExtra 21 = .ok (.aload_n 0, 1) := by decide +kernel
theorem dX12_readExtra_22 : decode cX12_readExtra 22 = .ok (.invokevirtual 87, 3) := by decide +kernel
theorem dX12_readExtra_25 : decode cX12_readExtra 25 = .ok (.istore_n 3, 1) := by decide +kernel
theorem dX12_readExtra_26 : decode cX12_readExtra 26 = .ok (.iload_n 2, 1) := by decide +kernel
theorem dX12_readExtra_27 : decode cX12_readExtra 27 = .ok (.iconst 5, 1) := by decide +kernel
theorem dX12_readExtra_28 : decode cX12_readExtra 28 = .ok (.if_icmp .ne 23, 3) := by decide +kernel
theorem dX12_readExtra_31 : decode cX12_readExtra 31 = .ok (.iload_n 3, 1) := by decide +kernel
theorem dX12_readExtra_32 : decode cX12_readExtra 32 = .ok (.bipush 48, 2) := by decide +kernel
theorem dX12_readExtra_34 : decode cX12_readExtra 34 = .ok (.if_icmp .lt 13, 3) := by decide +kernel
theorem dX12_readExtra_37 : decode cX12_readExtra 37 = .ok (.iload_n 3, 1) := by decide +kernel
theorem dX12_readExtra_38 : decode cX12_readExtra 38 = .ok (.bipush 55, 2) := by decide +kernel
theorem dX12_readExtra_40 : decode cX12_readExtra 40 = .ok (.if_icmp .gt 7, 3) := by decide +kernel
theorem dX12_readExtra_43 : decode cX12_readExtra 43 = .ok (.iconst 1, 1) := by decide +kernel
theorem dX12_readExtra_44 : decode cX12_readExtra 44 = .ok (.goto 30, 3) := by decide +kernel
theorem dX12_readExtra_47 : decode cX12_readExtra 47 = .ok (.iconst 0, 1) := by decide +kernel
theorem dX12_readExtra_48 : decode cX12_readExtra 48 = .ok (.goto 26, 3) := by decide +kernel
theorem dX12_readExtra_51 : decode cX12_readExtra 51 = .ok (.iload_n 3, 1) := by decide +kernel
theorem dX12_readExtra_52 : decode cX12_readExtra 52 = .ok (.bipush 62, 2) := by decide +kernel
theorem dX12_readExtra_54 : decode cX12_readExtra 54 = .ok (.if_icmp .eq 15, 3) := by decide +kernel
theorem dX12_readExtra_57 : decode cX12_readExtra 57 = .ok (.iload_n 3, 1) := by decide +kernel
theorem dX12_readExtra_58 : decode cX12_readExtra 58 = .ok (.bipush 61, 2) := by decide +kernel
theorem dX12_readExtra_60 : decode cX12_readExtra 60 = .ok (.if_icmp .eq 9, 3) := by decide +kernel
theorem dX12_readExtra_63 : decode cX12_readExtra 63 = .ok (.iload_n 3, 1) := by decide +kernel
theorem dX12_readExtra_64 : decode cX12_readExtra 64 = .ok (.bipush 60, 2) := by decide +kernel
theorem dX12_readExtra_66 : decode cX12_readExtra 66 = .ok (.if_icmp .ne 7, 3) := by decide +kernel
theorem dX12_readExtra_69 : decode cX12_readExtra 69 = .ok (.iconst 1, 1) := by decide +kernel
theorem dX12_readExtra_70 : decode cX12_readExtra 70 = .ok (.goto 4, 3) := by decide +kernel
theorem dX12_readExtra_73 : decode cX12_readExtra 73 = .ok (.iconst 0, 1) := by decide +kernel
theorem dX12_readExtra_74 : decode cX12_readExtra 74 = .ok (.istore 4, 2) := by decide +kernel
theorem dX12_readExtra_76 : decode cX12_readExtra 76 = .ok (.aload_n 0, 1) := by decide +kernel
theorem dX12_readExtra_77 : decode cX12_readExtra 77 = .ok (.getfield 27, 3) := by decide +kernel
theorem dX12_readExtra_80 : decode cX12_readExtra 80 = .ok (.iload_n 1, 1) := by decide +kernel
theorem dX12_readExtra_81 : decode cX12_readExtra 81 = .ok (.iload_n 2, 1) := by decide +kernel
theorem dX12_readExtra_82 : decode cX12_readExtra 82 = .ok (.iconst 5, 1) := by decide +kernel
theorem dX12_readExtra_83 : decode cX12_readExtra 83 = .ok (.if_icmp .ne 10, 3) := by decide +kernel
theorem dX12_readExtra_86 : decode cX12_readExtra 86 = .ok (.iload_n 3, 1) := by decide +kernel
theorem dX12_readExtra_87 : decode cX12_readExtra 87 = .ok (.bipush 48, 2) := by decide +kernel
theorem dX12_readExtra_89 : decode cX12_readExtra 89 = .ok (.isub, 1) := by decide +kernel
theorem dX12_readExtra_90 : decode cX12_readExtra 90 = .ok (.goto 24, 3) := by decide +kernel
theorem dX12_readExtra_93 : decode cX12_readExtra 93 = .ok (.iload_n 3, 1) := by decide +kernel
theorem dX12_readExtra_94 : decode cX12_readExtra 94 = .ok (.bipush 62, 2) := by decide +kernel
theorem dX12_readExtra_96 : decode cX12_readExtra 96 = .ok (.if_icmp .ne 7, 3) := by decide +kernel
theorem dX12_readExtra_99 : decode cX12_readExtra 99 = .ok (.iconst 0, 1) := by decide +kernel
theorem dX12_readExtra_100 : decode cX12_readExtra 100 = .ok (.goto 14, 3) := by decide +kernel
theorem dX12_readExtra_103 : decode cX12_readExtra 103 = .ok (.iload_n 3, 1) := by decide +kernel
theorem dX12_readExtra_104 : decode cX12_readExtra 104 = .ok (.bipush 61, 2) := by decide +kernel
theorem dX12_readExtra_106 : decode cX12_readExtra 106 = .ok (.if_icmp .ne 7, 3) := by decide +kernel
theorem dX12_readExtra_109 : decode cX12_readExtra 109 = .ok (.iconst 1, 1) := by decide +kernel
theorem dX12_readExtra_110 : decode cX12_readExtra 110 = .ok (.goto 4, 3) := by decide +kernel
theorem dX12_readExtra_113 : decode cX12_readExtra 113 = .ok (.iconst 2, 1) := by decide +kernel
theorem dX12_readExtra_114 : decode cX12_readExtra 114 = .ok (.iastore, 1) := by decide +kernel
theorem dX12_readExtra_115 : decode cX12_readExtra 115 = .ok (.aload_n 0, 1) := by decide +kernel
theorem dX12_readExtra_116 : decode cX12_readExtra 116 = .ok (.iload 4, 2) := by decide +kernel
theorem dX12_readExtra_118 : decode cX12_readExtra 118 = .ok (.ifCond .eq 12, 3) := by decide +kernel
theorem dX12_readExtra_121 : decode cX12_readExtra 121 = .ok (.aload_n 0, 1) := by decide +kernel
theorem dX12_readExtra_122 : decode cX12_readExtra 122 = .ok (.getfield 84, 3) := by decide +kernel
theorem dX12_readExtra_125 : decode cX12_readExtra 125 = .ok (.iconst 1, 1) := by decide +kernel
theorem dX12_readExtra_126 : decode cX12_readExtra 126 = .ok (.iadd, 1) := by decide +kernel
theorem dX12_readExtra_127 : decode cX12_readExtra 127 = .ok (.goto 7, 3) := by decide +kernel
theorem dX12_readExtra_130 : decode cX12_readExtra 130 = .ok (.aload_n 0, 1) := by decide +kernel
theorem dX12_readExtra_131 : decode cX12_readExtra 131 = .ok (.getfield 84, 3) := by decide +kernel
theorem dX12_readExtra_134 : decode cX12_readExtra 134 = .ok (.putfield 84, 3) := by decide +kernel
theorem dX12_readExtra_137 : decode cX12_readExtra 137 = .ok (.iload 4, 2) := by decide +kernel
theorem dX12_readExtra_139 : decode cX12_readExtra 139 = .ok (.ireturn, 1) := by decide +kernel
theorem dX12_add_0 : decode cX12_add 0 = .ok (.aload_n 0, 1) := by decide +kernel
theorem dX12_add_1 : decode cX12_add 1 = .ok (.invokevirtual 121, 3) := by decide +kernel
theorem dX12_add_4 : decode cX12_add 4 = .ok (.istore_n 1, 1) := by decide +kernel
theorem dX12_add_5 : decode cX12_add 5 = .ok (.aload_n 0, 1) := by decide +kernel
theorem dX12_add_6 : decode cX12_add 6 = .ok (.iload_n 1, 1) := by decide +kernel
theorem dX12_add_7 : decode cX12_add 7 = .ok (.ifCond .eq 7, 3) := by decide +kernel
theorem dX12_add_10 : decode cX12_add 10 = .ok (.iconst (-1), 1) := by decide +kernel
theorem dX12_add_11 : decode cX12_add 11 = .ok (.goto 7, 3) := by decide +kernel
theorem dX12_add_14 : decode cX12_add 14 = .ok (.aload_n 0, 1) := by decide +kernel
theorem dX12_add_15 : decode cX12_add 15 = .ok (.getfield 84, 3) := by decide +kernel
theorem dX12_add_18 : decode cX12_add 18 = .ok (.putfield 13, 3) := by decide +kernel
theorem dX12_add_21 : decode cX12_add 21 = .ok (.aload_n 0, 1) := by decide +kernel
theorem dX12_add_22 : decode cX12_add 22 = .ok (.iload_n 1, 1) := by decide +kernel
theorem dX12_add_23 : decode cX12_add 23 = .ok (.ifCond .ne 7, 3) := by decide +kernel
theorem dX12_add_26 : decode cX12_add 26 = .ok (.iconst 1, 1) := by decide +kernel
theorem dX12_add_27 : decode cX12_add 27 = .ok (.goto 17, 3) := by decide +kernel
theorem dX12_add_30 : decode cX12_add 30 = .ok (.aload_n 0, 1) := by decide +kernel
theorem dX12_add_31 : decode cX12_add 31 = .ok (.getfield 107, 3) := by decide +kernel
theorem dX12_add_34 : decode cX12_add 34 = .ok (.bipush 40, 2) := by decide +kernel
theorem dX12_add_36 : decode cX12_add 36 = .ok (.if_icmp .ne 7, 3) := by decide +kernel
theorem dX12_add_39 : decode cX12_add 39 = .ok (.iconst 2, 1) := by decide +kernel
theorem dX12_add_40 : decode cX12_add 40 = .ok (.goto 4, 3) := by decide +kernel
theorem dX12_add_43 : decode cX12_add 43 = .ok (.iconst 0, 1) := by decide +kernel
theorem dX12_add_44 : decode cX12_add 44 = .ok (.putfield 76, 3) := by decide +kernel
theorem dX12_add_47 : decode cX12_add 47 = .ok (.aload_n 0, 1) := by decide +kernel
theorem dX12_add_48 : decode cX12_add 48 = .ok (.iconst 0, 1) := by decide +kernel
theorem dX12_add_49 : decode cX12_add 49 = .ok (.putfield 81, 3) := by decide +kernel
theorem dX12_add_52 : decode cX12_add 52 = .ok (.aload_n 0, 1) := by decide +kernel
theorem dX12_add_53 : decode cX12_add 53 = .ok (.getfield 76, 3) := by decide +kernel
theorem dX12_add_56 : decode cX12_add 56 = .ok (.ifCond .le 5, 3) := by decide +kernel
theorem dX12_add_59 : decode cX12_add 59 = .ok (.iconst 0, 1) := by decide +kernel
theorem dX12_add_60 : decode cX12_add 60 = .ok (.ireturn, 1) := by decide +kernel
theorem dX12_add_61 : decode cX12_add 61 = .ok (.aload_n 0, 1) := by decide +kernel
theorem dX12_add_62 : decode cX12_add 62 = .ok (.dup, 1) := by decide +kernel
theorem dX12_add_63 : decode cX12_add 63 = .ok (.getfield 107, 3) := by decide +kernel
theorem dX12_add_66 : decode cX12_add 66 = .ok (.iconst 1, 1) := by decide +kernel
theorem dX12_add_67 : decode cX12_add 67 = .ok (.iadd, 1) := by decide +kernel
theorem dX12_add_68 : decode cX12_add 68 = .ok (.putfield 107, 3) := by decide +kernel
theorem dX12_add_71 : decode cX12_add 71 = .ok (.aload_n 0, 1) := by decide +kernel
theorem dX12_add_72 : decode cX12_add 72 = .ok (.getfield 107, 3) := by decide +kernel
theorem dX12_add_75 : decode cX12_add 75 = .ok (.iconst 1, 1) := by decide +kernel
theorem dX12_add_76 : decode cX12_add 76 = .ok (.isub, 1) := by decide +kernel
theorem dX12_add_77 : decode cX12_add 77 = .ok (.ireturn, 1) := by decide +kernel
theorem dX12_position_0 : decode cX12_position 0 = .ok (.aload_n 0, 1) := by decide +kernel
theorem dX12_position_1 : decode cX12_position 1 = .ok (.iconst 0, 1) := by decide +kernel
theorem dX12_position_2 : decode cX12_position 2 = .ok (.putfield 76, 3) := by decide +kernel
theorem dX12_position_5 : decode cX12_position 5 = .ok (.aload_n 0, 1) := by decide +kernel
theorem dX12_position_6 : decode cX12_position 6 = .ok (.getfield 13, 3) := by decide +kernel
theorem dX12_position_9 : decode cX12_position 9 = .ok (.ireturn, 1) := by decide +kernel
theorem dX12_cut_0 : decode cX12_cut 0 = .ok (.aload_n 0, 1) := by decide +kernel
theorem dX12_cut_1 : decode cX12_cut 1 = .ok (.iconst 0, 1) := by decide +kernel
theorem dX12_cut_2 : decode cX12_cut 2 = .ok (.putfield 76, 3) := by decide +kernel
theorem dX12_cut_5 : decode cX12_cut 5 = .ok (.iload_n 1, 1) := by decide +kernel
theorem dX12_cut_6 : decode cX12_cut 6 = .ok (.ifCond .lt 11, 3) := by decide +kernel
theorem dX12_cut_9 : decode cX12_cut 9 = .ok (.iload_n 1, 1) := by decide +kernel
theorem dX12_cut_10 : decode cX12_cut 10 = .ok (.aload_n 0, 1) := by decide +kernel
theorem dX12_cut_11 : decode cX12_cut 11 = .ok (.getfield 107, 3) := by decide +kernel
theorem dX12_cut_14 : decode cX12_cut 14 = .ok (.if_icmp .le 5, 3) := by decide +kernel
theorem dX12_cut_17 : decode cX12_cut 17 = .ok (.iconst 0, 1) := by decide +kernel
theorem dX12_cut_18 : decode cX12_cut 18 = .ok (.ireturn, 1) := by decide +kernel
theorem dX12_cut_19 : decode cX12_cut 19 = .ok (.aload_n 0, 1) := by decide +kernel
theorem dX12_cut_20 : decode cX12_cut 20 = .ok (.iload_n 1, 1) := by decide +kernel
theorem dX12_cut_21 : decode cX12_cut 21 = .ok (.putfield 107, 3) := by decide +kernel
theorem dX12_cut_24 : decode cX12_cut 24 = .ok (.iconst 1, 1) := by decide +kernel
theorem dX12_cut_25 : decode cX12_cut 25 = .ok (.ireturn, 1) := by decide +kernel
theorem dX12_nameAt_0 : decode cX12_nameAt 0 = .ok (.aload_n 0, 1) := by decide +kernel
theorem dX12_nameAt_1 : decode cX12_nameAt 1 = .ok (.getfield 24, 3) := by decide +kernel
theorem dX12_nameAt_4 : decode cX12_nameAt 4 = .ok (.bipush 10, 2) := by decide +kernel
theorem dX12_nameAt_6 : decode cX12_nameAt 6 = .ok (.iload_n 1, 1) := by decide +kernel
theorem dX12_nameAt_7 : decode cX12_nameAt 7 = .ok (.imul, 1) := by decide +kernel
theorem dX12_nameAt_8 : decode cX12_nameAt 8 = .ok (.iload_n 2, 1) := by decide +kernel
theorem dX12_nameAt_9 : decode cX12_nameAt 9 = .ok (.iadd, 1) := by decide +kernel
theorem dX12_nameAt_10 : decode cX12_nameAt 10 = .ok (.iaload, 1) := by decide +kernel
theorem dX12_nameAt_11 : decode cX12_nameAt 11 = .ok (.ireturn, 1) := by decide +kernel
theorem dX12_before_0 : decode cX12_before 0 = .ok (.iconst 0, 1) := by decide +kernel
theorem dX12_before_1 : decode cX12_before 1 = .ok (.istore 4, 2) := by decide +kernel
theorem dX12_before_3 : decode cX12_before 3 = .ok (.iconst 0, 1) := by decide +kernel
theorem dX12_before_4 : decode cX12_before 4 = .ok (.istore 5, 2) := by decide +kernel
theorem dX12_before_6 : decode cX12_before 6 = .ok (.iload 5, 2) := by decide +kernel
theorem dX12_before_8 : decode cX12_before 8 = .ok (.iload_n 3, 1) := by decide +kernel
theorem dX12_before_9 : decode cX12_before 9 = .ok (.if_icmp .ge 46, 3) := by decide +kernel
theorem dX12_before_12 : decode cX12_before 12 = .ok (.aload_n 0, 1) := by decide +kernel
theorem dX12_before_13 : decode cX12_before 13 = .ok (.getfield 17, 3) := by decide +kernel
theorem dX12_before_16 : decode cX12_before 16 = .ok (.iload 5, 2) := by decide +kernel
theorem dX12_before_18 : decode cX12_before 18 = .ok (.iaload, 1) := by decide +kernel
theorem dX12_before_19 : decode cX12_before 19 = .ok (.iload_n 1, 1) := by decide +kernel
theorem dX12_before_20 : decode cX12_before 20 = .ok (.if_icmp .ne 25, 3) := by decide +kernel
theorem dX12_before_23 : decode cX12_before 23 = .ok (.iload_n 2, 1) := by decide +kernel
theorem dX12_before_24 : decode cX12_before 24 = .ok (.ifCond .eq 14, 3) := by decide +kernel
theorem dX12_before_27 : decode cX12_before 27 = .ok (.aload_n 0, 1) := by decide +kernel
theorem dX12_before_28 : decode cX12_before 28 = .ok (.iload 5, 2) := by decide +kernel
theorem dX12_before_30 : decode cX12_before 30 = .ok (.iconst 0, 1) := by decide +kernel
theorem dX12_before_31 : decode cX12_before 31 = .ok (.invokevirtual 124, 3) := by decide +kernel
theorem dX12_before_34 : decode cX12_before 34 = .ok (.iload_n 2, 1) := by decide +kernel
theorem dX12_before_35 : decode cX12_before 35 = .ok (.if_icmp .ne 10, 3) := by decide +kernel
theorem dX12_before_38 : decode cX12_before 38 = .ok (.iload 4, 2) := by decide +kernel
theorem dX12_before_40 : decode cX12_before 40 = .ok (.iconst 1, 1) := by decide +kernel
theorem dX12_before_41 : decode cX12_before 41 = .ok (.iadd, 1) := by decide +kernel
theorem dX12_before_42 : decode cX12_before 42 = .ok (.goto 5, 3) := by decide +kernel
theorem dX12_before_45 : decode cX12_before 45 = .ok (.iload 4, 2) := by decide +kernel
theorem dX12_before_47 : decode cX12_before 47 = .ok (.istore 4, 2) := by decide +kernel
theorem dX12_before_49 : decode cX12_before 49 = .ok (.iinc 5 1, 3) := by decide +kernel
theorem dX12_before_52 : decode cX12_before 52 = .ok (.goto (-46), 3) := by decide +kernel
theorem dX12_before_55 : decode cX12_before 55 = .ok (.iload 4, 2) := by decide +kernel
theorem dX12_before_57 : decode cX12_before 57 = .ok (.ireturn, 1) := by decide +kernel
theorem dX12_isType_0 : decode cX12_isType 0 = .ok (.aload_n 0, 1) := by decide +kernel
theorem dX12_isType_1 : decode cX12_isType 1 = .ok (.iconst 1, 1) := by decide +kernel
theorem dX12_isType_2 : decode cX12_isType 2 = .ok (.iload_n 1, 1) := by decide +kernel
theorem dX12_isType_3 : decode cX12_isType 3 = .ok (.aload_n 0, 1) := by decide +kernel
theorem dX12_isType_4 : decode cX12_isType 4 = .ok (.getfield 107, 3) := by decide +kernel
theorem dX12_isType_7 : decode cX12_isType 7 = .ok (.invokevirtual 128, 3) := by decide +kernel
theorem dX12_isType_10 : decode cX12_isType 10 = .ok (.ifCond .le 7, 3) := by decide +kernel
theorem dX12_isType_13 : decode cX12_isType 13 = .ok (.iconst 1, 1) := by decide +kernel
theorem dX12_isType_14 : decode cX12_isType 14 = .ok (.goto 4, 3) := by decide +kernel
theorem dX12_isType_17 : decode cX12_isType 17 = .ok (.iconst 0, 1) := by decide +kernel
theorem dX12_isType_18 : decode cX12_isType 18 = .ok (.ireturn, 1) := by decide +kernel
theorem dX12_isClass_0 : decode cX12_isClass 0 = .ok (.aload_n 0, 1) := by decide +kernel
theorem dX12_isClass_1 : decode cX12_isClass 1 = .ok (.iconst 0, 1) := by decide +kernel
theorem dX12_isClass_2 : decode cX12_isClass 2 = .ok (.iload_n 1, 1) := by decide +kernel
theorem dX12_isClass_3 : decode cX12_isClass 3 = .ok (.aload_n 0, 1) := by decide +kernel
theorem dX12_isClass_4 : decode cX12_isClass 4 = .ok (.getfield 107, 3) := by decide +kernel
theorem dX12_isClass_7 : decode cX12_isClass 7 = .ok (.invokevirtual 128, 3) := by decide +kernel
theorem dX12_isClass_10 : decode cX12_isClass 10 = .ok (.ifCond .le 7, 3) := by decide +kernel
theorem dX12_isClass_13 : decode cX12_isClass 13 = .ok (.iconst 1, 1) := by decide +kernel
theorem dX12_isClass_14 : decode cX12_isClass 14 = .ok (.goto 4, 3) := by decide +kernel
theorem dX12_isClass_17 : decode cX12_isClass 17 = .ok (.iconst 0, 1) := by decide +kernel
theorem dX12_isClass_18 : decode cX12_isClass 18 = .ok (.ireturn, 1) := by decide +kernel
theorem dX12_isAttribute_0 : decode cX12_isAttribute 0 = .ok (.iconst 0, 1) := by decide +kernel
theorem dX12_isAttribute_1 : decode cX12_isAttribute 1 = .ok (.istore_n 2, 1) := by decide +kernel
theorem dX12_isAttribute_2 : decode cX12_isAttribute 2 = .ok (.iconst 0, 1) := by decide +kernel
theorem dX12_isAttribute_3 : decode cX12_isAttribute 3 = .ok (.istore_n 3, 1) := by decide +kernel
theorem dX12_isAttribute_4 : decode cX12_isAttribute 4 = .ok (.iload_n 3, 1) := by decide +kernel
theorem dX12_isAttribute_5 : decode cX12_isAttribute 5 = .ok (.aload_n 0, 1) := by decide +kernel
theorem dX12_isAttribute_6 : decode cX12_isAttribute 6 = .ok (.getfield 107, 3) := by decide +kernel
theorem dX12_isAttribute_9 : decode cX12_isAttribute 9 = .ok (.if_icmp .ge 60, 3) := by decide +kernel
theorem dX12_isAttribute_12 : decode cX12_isAttribute 12 = .ok (.iconst 1, 1) := by decide +kernel
theorem dX12_isAttribute_13 : decode cX12_isAttribute 13 = .ok (.istore 4, 2) := by decide +kernel
theorem dX12_isAttribute_15 : decode cX12_isAttribute 15 = .ok (.iload 4, 2) := by decide +kernel
theorem dX12_isAttribute_17 : decode cX12_isAttribute 17 = .ok (.aload_n 0, 1) := by decide +kernel
theorem dX12_isAttribute_18 : decode cX12_isAttribute 18 = .ok (.getfield 21, 3) := by decide +kernel
theorem dX12_isAttribute_21 : decode cX12_isAttribute 21 = .ok (.iload_n 3, 1) := by decide +kernel
theorem dX12_isAttribute_22 : decode cX12_isAttribute 22 = .ok (.iaload, 1) := by decide +kernel
theorem dX12_isAttribute_23 : decode cX12_isAttribute 23 = .ok (.if_icmp .ge 40, 3) := by decide +kernel
theorem dX12_isAttribute_26 : decode cX12_isAttribute 26 = .ok (.iload_n 2, 1) := by decide +kernel
theorem dX12_isAttribute_27 : decode cX12_isAttribute 27 = .ok (.ifCond .ne 24, 3) := by decide +kernel
theorem dX12_isAttribute_30 : decode cX12_isAttribute 30 = .ok (.aload_n 0, 1) := by decide +kernel
theorem dX12_isAttribute_31 : decode cX12_isAttribute 31 = .ok (.getfield 17, 3) := by decide +kernel
theorem dX12_isAttribute_34 : decode cX12_isAttribute 34 = .ok (.iload_n 3, 1) := by decide +kernel
theorem dX12_isAttribute_35 : decode cX12_isAttribute 35 = .ok (.iaload, 1) := by decide +kernel
theorem dX12_isAttribute_36 : decode cX12_isAttribute 36 = .ok (.iconst 1, 1) := by decide +kernel
theorem dX12_isAttribute_37 : decode cX12_isAttribute 37 = .ok (.if_icmp .ne 18, 3) := by decide +kernel
theorem dX12_isAttribute_40 : decode cX12_isAttribute 40 = .ok (.aload_n 0, 1) := by decide +kernel
theorem dX12_isAttribute_41 : decode cX12_isAttribute 41 = .ok (.iload_n 3, 1) := by decide +kernel
theorem dX12_isAttribute_42 : decode cX12_isAttribute 42 = .ok (.iload 4, 2) := by decide +kernel
theorem dX12_isAttribute_44 : decode cX12_isAttribute 44 = .ok (.invokevirtual 124, 3) := by decide +kernel
theorem dX12_isAttribute_47 : decode cX12_isAttribute 47 = .ok (.iload_n 1, 1) := by decide +kernel
theorem dX12_isAttribute_48 : decode cX12_isAttribute 48 = .ok (.if_icmp .ne 7, 3) := by decide +kernel
theorem dX12_isAttribute_51 : decode cX12_isAttribute 51 = .ok (.iconst 1, 1) := by decide +kernel
theorem dX12_isAttribute_52 : decode cX12_isAttribute 52 = .ok (.goto 4, 3) := by decide +kernel
theorem dX12_isAttribute_55 : decode cX12_isAttribute 55 = .ok (.iconst 0, 1) := by decide +kernel
theorem dX12_isAttribute_56 : decode cX12_isAttribute 56 = .ok (.istore_n 2, 1) := by decide +kernel
theorem dX12_isAttribute_57 : decode cX12_isAttribute 57 = .ok (.iinc 4 1, 3) := by decide +kernel
theorem dX12_isAttribute_60 : decode cX12_isAttribute 60 = .ok (.goto (-45), 3) := by decide +kernel
theorem dX12_isAttribute_63 : decode cX12_isAttribute 63 = .ok (.iinc 3 1, 3) := by decide +kernel
theorem dX12_isAttribute_66 : decode cX12_isAttribute 66 = .ok (.goto (-62), 3) := by decide +kernel
theorem dX12_isAttribute_69 : decode cX12_isAttribute 69 = .ok (.iload_n 2, 1) := by decide +kernel
theorem dX12_isAttribute_70 : decode cX12_isAttribute 70 = .ok (.ireturn, 1) := by decide +kernel
theorem dX12_isPermission_0 : decode cX12_isPermission 0 = .ok (.iconst 0, 1) := by decide +kernel
theorem dX12_isPermission_1 : decode cX12_isPermission 1 = .ok (.istore_n 3, 1) := by decide +kernel
theorem dX12_isPermission_2 : decode cX12_isPermission 2 = .ok (.iconst 0, 1) := by decide +kernel
theorem dX12_isPermission_3 : decode cX12_isPermission 3 = .ok (.istore 4, 2) := by decide +kernel
theorem dX12_isPermission_5 : decode cX12_isPermission 5 = .ok (.iload 4, 2) := by decide +kernel
theorem dX12_isPermission_7 : decode cX12_isPermission 7 = .ok (.aload_n 0, 1) := by decide +kernel
theorem dX12_isPermission_8 : decode cX12_isPermission 8 = .ok (.getfield 107, 3) := by decide +kernel
theorem dX12_isPermission_11 : decode cX12_isPermission 11 = .ok (.if_icmp .ge 73, 3) := by decide +kernel
theorem dX12_isPermission_14 : decode cX12_isPermission 14 = .ok (.iconst 1, 1) := by decide +kernel
theorem dX12_isPermission_15 : decode cX12_isPermission 15 = .ok (.istore 5, 2) := by decide +kernel
theorem dX12_isPermission_17 : decode cX12_isPermission 17 = .ok (.iload 5, 2) := by decide +kernel
theorem dX12_isPermission_19 : decode cX12_isPermission 19 = .ok (.aload_n 0, 1) := by decide +kernel
theorem dX12_isPermission_20 : decode cX12_isPermission 20 = .ok (.getfield 21, 3) := by decide +kernel
theorem dX12_isPermission_23 : decode cX12_isPermission 23 = .ok (.iload 4, 2) := by decide +kernel
theorem dX12_isPermission_25 : decode cX12_isPermission 25 = .ok (.iaload, 1) := by decide +kernel
theorem dX12_isPermission_26 : decode cX12_isPermission 26 = .ok (.if_icmp .ge 52, 3) := by decide +kernel
theorem dX12_isPermission_29 : decode cX12_isPermission 29 = .ok (.iload_n 3, 1) := by decide +kernel
theorem dX12_isPermission_30 : decode cX12_isPermission 30 = .ok (.ifCond .ne 36, 3) := by decide +kernel
theorem dX12_isPermission_33 : decode cX12_isPermission 33 = .ok (.aload_n 0, 1) := by decide +kernel
theorem dX12_isPermission_34 : decode cX12_isPermission 34 = .ok (.getfield 17, 3) := by decide +kernel
theorem dX12_isPermission_37 : decode cX12_isPermission 37 = .ok (.iload 4, 2) := by decide +kernel
theorem dX12_isPermission_39 : decode cX12_isPermission 39 = .ok (.iaload, 1) := by decide +kernel
theorem dX12_isPermission_40 : decode cX12_isPermission 40 = .ok (.ifCond .ne 30, 3) := by decide +kernel
theorem dX12_isPermission_43 : decode cX12_isPermission 43 = .ok (.aload_n 0, 1) := by decide +kernel
theorem dX12_isPermission_44 : decode cX12_isPermission 44 = .ok (.iload 4, 2) := by decide +kernel
theorem dX12_isPermission_46 : decode cX12_isPermission 46 = .ok (.iconst 0, 1) := by decide +kernel
theorem dX12_isPermission_47 : decode cX12_isPermission 47 = .ok (.invokevirtual 124, 3) := by decide +kernel
theorem dX12_isPermission_50 : decode cX12_isPermission 50 = .ok (.iload_n 1, 1) := by decide +kernel
theorem dX12_isPermission_51 : decode cX12_isPermission 51 = .ok (.if_icmp .ne 19, 3) := by decide +kernel
theorem dX12_isPermission_54 : decode cX12_isPermission 54 = .ok (.aload_n 0, 1) := by decide +kernel
theorem dX12_isPermission_55 : decode cX12_isPermission 55 = .ok (.iload 4, 2) := by decide +kernel
theorem dX12_isPermission_57 : decode cX12_isPermission 57 = .ok (.iload 5, 2) := by decide +kernel
theorem dX12_isPermission_59 : decode cX12_isPermission 59 = .ok (.invokevirtual 124, 3) := by decide +kernel
theorem dX12_isPermission_62 : decode cX12_isPermission 62 = .ok (.iload_n 2, 1) := by decide +kernel
theorem dX12_isPermission_63 : decode cX12_isPermission 63 = .ok (.if_icmp .ne 7, 3) := by decide +kernel
theorem dX12_isPermission_66 : decode cX12_isPermission 66 = .ok (.iconst 1, 1) := by decide +kernel
theorem dX12_isPermission_67 : decode cX12_isPermission 67 = .ok (.goto 4, 3) := by decide +kernel
theorem dX12_isPermission_70 : decode cX12_isPermission 70 = .ok (.iconst 0, 1) := by decide +kernel
theorem dX12_isPermission_71 : decode cX12_isPermission 71 = .ok (.istore_n 3, 1) := by decide +kernel
theorem dX12_isPermission_72 : decode cX12_isPermission 72 = .ok (.iinc 5 1, 3) := by decide +kernel
theorem dX12_isPermission_75 : decode cX12_isPermission 75 = .ok (.goto (-58), 3) := by decide +kernel
theorem dX12_isPermission_78 : decode cX12_isPermission 78 = .ok (.iinc 4 1, 3) := by decide +kernel
theorem dX12_isPermission_81 : decode cX12_isPermission 81 = .ok (.goto (-76), 3) := by decide +kernel
theorem dX12_isPermission_84 : decode cX12_isPermission 84 = .ok (.iload_n 3, 1) := by decide +kernel
theorem dX12_isPermission_85 : decode cX12_isPermission 85 = .ok (.ireturn, 1) := by decide +kernel
theorem dX12_isSelf_0 : decode cX12_isSelf 0 = .ok (.iload_n 0, 1) := by decide +kernel
theorem dX12_isSelf_1 : decode cX12_isSelf 1 = .ok (.bipush 115, 2) := by decide +kernel
theorem dX12_isSelf_3 : decode cX12_isSelf 3 = .ok (.bipush 101, 2) := by decide +kernel
theorem dX12_isSelf_5 : decode cX12_isSelf 5 = .ok (.bipush 108, 2) := by decide +kernel
theorem dX12_isSelf_7 : decode cX12_isSelf 7 = .ok (.bipush 102, 2) := by decide +kernel
theorem dX12_isSelf_9 : decode cX12_isSelf 9 = .ok (.iconst 0, 1) := by decide +kernel
theorem dX12_isSelf_10 : decode cX12_isSelf 10 = .ok (.invokestatic 91, 3) := by decide +kernel
theorem dX12_isSelf_13 : decode cX12_isSelf 13 = .ok (.if_icmp .ne 7, 3) := by decide +kernel
theorem dX12_isSelf_16 : decode cX12_isSelf 16 = .ok (.iconst 1, 1) := by decide +kernel
theorem dX12_isSelf_17 : decode cX12_isSelf 17 = .ok (.goto 4, 3) := by decide +kernel
theorem dX12_isSelf_20 : decode cX12_isSelf 20 = .ok (.iconst 0, 1) := by decide +kernel
theorem dX12_isSelf_21 : decode cX12_isSelf 21 = .ok (.ireturn, 1) := by decide +kernel
theorem dX12_allDifferent_0 : decode cX12_allDifferent 0 = .ok (.iconst 1, 1) := by decide +kernel
theorem dX12_allDifferent_1 : decode cX12_allDifferent 1 = .ok (.istore_n 2, 1) := by decide +kernel
theorem dX12_allDifferent_2 : decode cX12_allDifferent 2 = .ok (.iconst 1, 1) := by decide +kernel
theorem dX12_allDifferent_3 : decode cX12_allDifferent 3 = .ok (.istore_n 3, 1) := by decide +kernel
theorem dX12_allDifferent_4 : decode cX12_allDifferent 4 = .ok (.iload_n 3, 1) := by decide +kernel
theorem dX12_allDifferent_5 : decode cX12_allDifferent 5 = .ok (.aload_n 0, 1) := by decide +kernel
theorem dX12_allDifferent_6 : decode cX12_allDifferent 6 = .ok (.getfield 21, 3) := by decide +kernel
theorem dX12_allDifferent_9 : decode cX12_allDifferent 9 = .ok (.iload_n 1, 1) := by decide +kernel
theorem dX12_allDifferent_10 : decode cX12_allDifferent 10 = .ok (.iaload, 1) := by decide +kernel
theorem dX12_allDifferent_11 : decode cX12_allDifferent 11 = .ok (.if_icmp .ge 57, 3) := by decide +kernel
theorem dX12_allDifferent_14 : decode cX12_allDifferent 14 = .ok (.iload_n 3, 1) := by decide +kernel
theorem dX12_allDifferent_15 : decode cX12_allDifferent 15 = .ok (.iconst 1, 1) := by decide +kernel
theorem dX12_allDifferent_16 : decode cX12_allDifferent 16 = .ok (.iadd, 1) := by decide +kernel
theorem dX12_allDifferent_17 : decode cX12_allDifferent 17 = .ok (.istore 4, 2) := by decide +kernel
theorem dX12_allDifferent_19 : decode cX12_allDifferent 19 = .ok (.iload 4, 2) := by decide +kernel
theorem dX12_allDifferent_21 : decode cX12_allDifferent 21 = .ok (.aload_n 0, 1) := by decide +kernel
theorem dX12_allDifferent_22 : decode cX12_allDifferent 22 = .ok (.getfield 21, 3) := by decide +kernel
theorem dX12_allDifferent_25 : decode cX12_allDifferent 25 = .ok (.iload_n 1, 1) := by decide +kernel
theorem dX12_allDifferent_26 : decode cX12_allDifferent 26 = .ok (.iaload, 1) := by decide +kernel
theorem dX12_allDifferent_27 : decode cX12_allDifferent 27 = .ok (.if_icmp .ge 35, 3) := by decide +kernel
theorem dX12_allDifferent_30 : decode cX12_allDifferent 30 = .ok (.iload_n 2, 1) := by decide +kernel
theorem dX12_allDifferent_31 : decode cX12_allDifferent 31 = .ok (.ifCond .eq 23, 3) := by decide +kernel
theorem dX12_allDifferent_34 : decode cX12_allDifferent 34 = .ok (.aload_n 0, 1) := by decide +kernel
theorem dX12_allDifferent_35 : decode cX12_allDifferent 35 = .ok (.iload_n 1, 1) := by decide +kernel
theorem dX12_allDifferent_36 : decode cX12_allDifferent 36 = .ok (.iload_n 3, 1) := by decide +kernel
theorem dX12_allDifferent_37 : decode cX12_allDifferent 37 = .ok (.invokevirtual 124, 3) := by decide +kernel
theorem dX12_allDifferent_40 : decode cX12_allDifferent 40 = .ok (.aload_n 0, 1) := by decide +kernel
theorem dX12_allDifferent_41 : decode cX12_allDifferent 41 = .ok (.iload_n 1, 1) := by decide +kernel
theorem dX12_allDifferent_42 : decode cX12_allDifferent 42 = .ok (.iload 4, 2) := by decide +kernel
theorem dX12_allDifferent_44 : decode cX12_allDifferent 44 = .ok (.invokevirtual 124, 3) := by decide +kernel
theorem dX12_allDifferent_47 : decode cX12_allDifferent 47 = .ok (.if_icmp .eq 7, 3) := by decide +kernel
theorem dX12_allDifferent_50 : decode cX12_allDifferent 50 = .ok (.iconst 1, 1) := by decide +kernel
theorem dX12_allDifferent_51 : decode cX12_allDifferent 51 = .ok (.goto 4, 3) := by decide +kernel
theorem dX12_allDifferent_54 : decode cX12_allDifferent 54 = .ok (.iconst 0, 1) := by decide +kernel
theorem dX12_allDifferent_55 : decode cX12_allDifferent 55 = .ok (.istore_n 2, 1) := by decide +kernel
theorem dX12_allDifferent_56 : decode cX12_allDifferent 56 = .ok (.iinc 4 1, 3) := by decide +kernel
theorem dX12_allDifferent_59 : decode cX12_allDifferent 59 = .ok (.goto (-40), 3) := by decide +kernel
theorem dX12_allDifferent_62 : decode cX12_allDifferent 62 = .ok (.iinc 3 1, 3) := by decide +kernel
theorem dX12_allDifferent_65 : decode cX12_allDifferent 65 = .ok (.goto (-61), 3) := by decide +kernel
theorem dX12_allDifferent_68 : decode cX12_allDifferent 68 = .ok (.iload_n 2, 1) := by decide +kernel
theorem dX12_allDifferent_69 : decode cX12_allDifferent 69 = .ok (.ireturn, 1) := by decide +kernel
theorem dX12_arePermissions_0 : decode cX12_arePermissions 0 = .ok (.aload_n 0, 1) := by decide +kernel
theorem dX12_arePermissions_1 : decode cX12_arePermissions 1 = .ok (.iload_n 3, 1) := by decide +kernel
theorem dX12_arePermissions_2 : decode cX12_arePermissions 2 = .ok (.invokevirtual 132, 3) := by decide +kernel
theorem dX12_arePermissions_5 : decode cX12_arePermissions 5 = .ok (.istore 4, 2) := by decide +kernel
theorem dX12_arePermissions_7 : decode cX12_arePermissions 7 = .ok (.iload_n 2, 1) := by decide +kernel
theorem dX12_arePermissions_8 : decode cX12_arePermissions 8 = .ok (.istore 5, 2) := by decide +kernel
theorem dX12_arePermissions_10 : decode cX12_arePermissions 10 = .ok (.iload 5, 2) := by decide +kernel
theorem dX12_arePermissions_12 : decode cX12_arePermissions 12 = .ok (.aload_n 0, 1) := by decide +kernel
theorem dX12_arePermissions_13 : decode cX12_arePermissions 13 = .ok (.getfield 21, 3) := by decide +kernel
theorem dX12_arePermissions_16 : decode cX12_arePermissions 16 = .ok (.iload_n 1, 1) := by decide +kernel
theorem dX12_arePermissions_17 : decode cX12_arePermissions 17 = .ok (.iaload, 1) := by decide +kernel
theorem dX12_arePermissions_18 : decode cX12_arePermissions 18 = .ok (.if_icmp .ge 36, 3) := by decide +kernel
theorem dX12_arePermissions_21 : decode cX12_arePermissions 21 = .ok (.iload 4, 2) := by decide +kernel
theorem dX12_arePermissions_23 : decode cX12_arePermissions 23 = .ok (.ifCond .eq 22, 3) := by decide +kernel
theorem dX12_arePermissions_26 : decode cX12_arePermissions 26 = .ok (.aload_n 0, 1) := by decide +kernel
theorem dX12_arePermissions_27 : decode cX12_arePermissions 27 = .ok (.iload_n 3, 1) := by decide +kernel
theorem dX12_arePermissions_28 : decode cX12_arePermissions 28 = .ok (.aload_n 0, 1) := by decide +kernel
theorem dX12_arePermissions_29 : decode cX12_arePermissions 29 = .ok (.iload_n 1, 1) := by decide +kernel
theorem dX12_arePermissions_30 : decode cX12_arePermissions 30 = .ok (.iload 5, 2) := by decide +kernel
theorem dX12_arePermissions_32 : decode cX12_arePermissions 32 = .ok (.invokevirtual 124, 3) := by decide +kernel
theorem dX12_arePermissions_35 : decode cX12_arePermissions 35 = .ok (.invokevirtual 136, 3) := by decide +kernel
theorem dX12_arePermissions_38 : decode cX12_arePermissions 38 = .ok (.ifCond .eq 7, 3) := by decide +kernel
theorem dX12_arePermissions_41 : decode cX12_arePermissions 41 = .ok (.iconst 1, 1) := by decide +kernel
theorem dX12_arePermissions_42 : decode cX12_arePermissions 42 = .ok (.goto 4, 3) := by decide +kernel
theorem dX12_arePermissions_45 : decode cX12_arePermissions 45 = .ok (.iconst 0, 1) := by decide +kernel
theorem dX12_arePermissions_46 : decode cX12_arePermissions 46 = .ok (.istore 4, 2) := by decide +kernel
theorem dX12_arePermissions_48 : decode cX12_arePermissions 48 = .ok (.iinc 5 1, 3) := by decide +kernel
theorem dX12_arePermissions_51 : decode cX12_arePermissions 51 = .ok (.goto (-41), 3) := by decide +kernel
theorem dX12_arePermissions_54 : decode cX12_arePermissions 54 = .ok (.iload 4, 2) := by decide +kernel
theorem dX12_arePermissions_56 : decode cX12_arePermissions 56 = .ok (.ireturn, 1) := by decide +kernel
theorem dX12_twice_0 : decode cX12_twice 0 = .ok (.iconst 0, 1) := by decide +kernel
theorem dX12_twice_1 : decode cX12_twice 1 = .ok (.istore_n 2, 1) := by decide +kernel
theorem dX12_twice_2 : decode cX12_twice 2 = .ok (.iload_n 2, 1) := by decide +kernel
theorem dX12_twice_3 : decode cX12_twice 3 = .ok (.iload_n 1, 1) := by decide +kernel
theorem dX12_twice_4 : decode cX12_twice 4 = .ok (.if_icmp .ge 66, 3) := by decide +kernel
theorem dX12_twice_7 : decode cX12_twice 7 = .ok (.aload_n 0, 1) := by decide +kernel
theorem dX12_twice_8 : decode cX12_twice 8 = .ok (.getfield 17, 3) := by decide +kernel
theorem dX12_twice_11 : decode cX12_twice 11 = .ok (.iload_n 2, 1) := by decide +kernel
theorem dX12_twice_12 : decode cX12_twice 12 = .ok (.iaload, 1) := by decide +kernel
theorem dX12_twice_13 : decode cX12_twice 13 = .ok (.iconst 4, 1) := by decide +kernel
theorem dX12_twice_14 : decode cX12_twice 14 = .ok (.if_icmp .ne 50, 3) := by decide +kernel
theorem dX12_twice_17 : decode cX12_twice 17 = .ok (.aload_n 0, 1) := by decide +kernel
theorem dX12_twice_18 : decode cX12_twice 18 = .ok (.iload_n 2, 1) := by decide +kernel
theorem dX12_twice_19 : decode cX12_twice 19 = .ok (.iconst 0, 1) := by decide +kernel
theorem dX12_twice_20 : decode cX12_twice 20 = .ok (.invokevirtual 124, 3) := by decide +kernel
theorem dX12_twice_23 : decode cX12_twice 23 = .ok (.aload_n 0, 1) := by decide +kernel
theorem dX12_twice_24 : decode cX12_twice 24 = .ok (.iload_n 1, 1) := by decide +kernel
theorem dX12_twice_25 : decode cX12_twice 25 = .ok (.iconst 0, 1) := by decide +kernel
theorem dX12_twice_26 : decode cX12_twice 26 = .ok (.invokevirtual 124, 3) := by decide +kernel
theorem dX12_twice_29 : decode cX12_twice 29 = .ok (.if_icmp .ne 35, 3) := by decide +kernel
theorem dX12_twice_32 : decode cX12_twice 32 = .ok (.aload_n 0, 1) := by decide +kernel
theorem dX12_twice_33 : decode cX12_twice 33 = .ok (.iload_n 2, 1) := by decide +kernel
theorem dX12_twice_34 : decode cX12_twice 34 = .ok (.iconst 1, 1) := by decide +kernel
theorem dX12_twice_35 : decode cX12_twice 35 = .ok (.invokevirtual 124, 3) := by decide +kernel
theorem dX12_twice_38 : decode cX12_twice 38 = .ok (.aload_n 0, 1) := by decide +kernel
theorem dX12_twice_39 : decode cX12_twice 39 = .ok (.iload_n 1, 1) := by decide +kernel
theorem dX12_twice_40 : decode cX12_twice 40 = .ok (.iconst 1, 1) := by decide +kernel
theorem dX12_twice_41 : decode cX12_twice 41 = .ok (.invokevirtual 124, 3) := by decide +kernel
theorem dX12_twice_44 : decode cX12_twice 44 = .ok (.if_icmp .ne 20, 3) := by decide +kernel
theorem dX12_twice_47 : decode cX12_twice 47 = .ok (.aload_n 0, 1) := by decide +kernel
theorem dX12_twice_48 : decode cX12_twice 48 = .ok (.iload_n 2, 1) := by decide +kernel
theorem dX12_twice_49 : decode cX12_twice 49 = .ok (.iconst 2, 1) := by decide +kernel
theorem dX12_twice_50 : decode cX12_twice 50 = .ok (.invokevirtual 124, 3) := by decide +kernel
theorem dX12_twice_53 : decode cX12_twice 53 = .ok (.aload_n 0, 1) := by decide +kernel
theorem dX12_twice_54 : decode cX12_twice 54 = .ok (.iload_n 1, 1) := by decide +kernel
theorem dX12_twice_55 : decode cX12_twice 55 = .ok (.iconst 2, 1) := by decide +kernel
theorem dX12_twice_56 : decode cX12_twice 56 = .ok (.invokevirtual 124, 3) := by decide +kernel
theorem dX12_twice_59 : decode cX12_twice 59 = .ok (.if_icmp .ne 5, 3) := by decide +kernel
theorem dX12_twice_62 : decode cX12_twice 62 = .ok (.iconst 1, 1) := by decide +kernel
theorem dX12_twice_63 : decode cX12_twice 63 = .ok (.ireturn, 1) := by decide +kernel
theorem dX12_twice_64 : decode cX12_twice 64 = .ok (.iinc 2 1, 3) := by decide +kernel
theorem dX12_twice_67 : decode cX12_twice 67 = .ok (.goto (-65), 3) := by decide +kernel
theorem dX12_twice_70 : decode cX12_twice 70 = .ok (.iconst 0, 1) := by decide +kernel
theorem dX12_twice_71 : decode cX12_twice 71 = .ok (.ireturn, 1) := by decide +kernel
theorem dX12_isWrong_0 : decode cX12_isWrong 0 = .ok (.aload_n 0, 1) := by decide +kernel
theorem dX12_isWrong_1 : decode cX12_isWrong 1 = .ok (.iload_n 1, 1) := by decide +kernel
theorem dX12_isWrong_2 : decode cX12_isWrong 2 = .ok (.iconst 0, 1) := by decide +kernel
theorem dX12_isWrong_3 : decode cX12_isWrong 3 = .ok (.invokevirtual 124, 3) := by decide +kernel
theorem dX12_isWrong_6 : decode cX12_isWrong 6 = .ok (.istore_n 2, 1) := by decide +kernel
theorem dX12_isWrong_7 : decode cX12_isWrong 7 = .ok (.aload_n 0, 1) := by decide +kernel
theorem dX12_isWrong_8 : decode cX12_isWrong 8 = .ok (.iload_n 1, 1) := by decide +kernel
theorem dX12_isWrong_9 : decode cX12_isWrong 9 = .ok (.iconst 1, 1) := by decide +kernel
theorem dX12_isWrong_10 : decode cX12_isWrong 10 = .ok (.invokevirtual 124, 3) := by decide +kernel
theorem dX12_isWrong_13 : decode cX12_isWrong 13 = .ok (.istore_n 3, 1) := by decide +kernel
theorem dX12_isWrong_14 : decode cX12_isWrong 14 = .ok (.aload_n 0, 1) := by decide +kernel
theorem dX12_isWrong_15 : decode cX12_isWrong 15 = .ok (.iload_n 1, 1) := by decide +kernel
theorem dX12_isWrong_16 : decode cX12_isWrong 16 = .ok (.iconst 2, 1) := by decide +kernel
theorem dX12_isWrong_17 : decode cX12_isWrong 17 = .ok (.invokevirtual 124, 3) := by decide +kernel
theorem dX12_isWrong_20 : decode cX12_isWrong 20 = .ok (.istore 4, 2) := by decide +kernel
theorem dX12_isWrong_22 : decode cX12_isWrong 22 = .ok (.aload_n 0, 1) := by decide +kernel
theorem dX12_isWrong_23 : decode cX12_isWrong 23 = .ok (.getfield 17, 3) := by decide +kernel
theorem dX12_isWrong_26 : decode cX12_isWrong 26 = .ok (.iload_n 1, 1) := by decide +kernel
theorem dX12_isWrong_27 : decode cX12_isWrong 27 = .ok (.iaload, 1) := by decide +kernel
theorem dX12_isWrong_28 : decode cX12_isWrong 28 = .ok (.tableswitch 251 0 5 #[40, 75, 195, 195, 119, 171], 40) := by decide +kernel
theorem dX12_isWrong_68 : decode cX12_isWrong 68 = .ok (.aload_n 0, 1) := by decide +kernel
theorem dX12_isWrong_69 : decode cX12_isWrong 69 = .ok (.iconst 0, 1) := by decide +kernel
theorem dX12_isWrong_70 : decode cX12_isWrong 70 = .ok (.iload_n 2, 1) := by decide +kernel
theorem dX12_isWrong_71 : decode cX12_isWrong 71 = .ok (.iload_n 1, 1) := by decide +kernel
theorem dX12_isWrong_72 : decode cX12_isWrong 72 = .ok (.invokevirtual 128, 3) := by decide +kernel
theorem dX12_isWrong_75 : decode cX12_isWrong 75 = .ok (.ifCond .gt 22, 3) := by decide +kernel
theorem dX12_isWrong_78 : decode cX12_isWrong 78 = .ok (.aload_n 0, 1) := by decide +kernel
theorem dX12_isWrong_79 : decode cX12_isWrong 79 = .ok (.iload_n 1, 1) := by decide +kernel
theorem dX12_isWrong_80 : decode cX12_isWrong 80 = .ok (.invokevirtual 139, 3) := by decide +kernel
theorem dX12_isWrong_83 : decode cX12_isWrong 83 = .ok (.ifCond .eq 14, 3) := by decide +kernel
theorem dX12_isWrong_86 : decode cX12_isWrong 86 = .ok (.aload_n 0, 1) := by decide +kernel
theorem dX12_isWrong_87 : decode cX12_isWrong 87 = .ok (.iconst 0, 1) := by decide +kernel
theorem dX12_isWrong_88 : decode cX12_isWrong 88 = .ok (.iconst 0, 1) := by decide +kernel
theorem dX12_isWrong_89 : decode cX12_isWrong 89 = .ok (.iload_n 1, 1) := by decide +kernel
theorem dX12_isWrong_90 : decode cX12_isWrong 90 = .ok (.invokevirtual 128, 3) := by decide +kernel
theorem dX12_isWrong_93 : decode cX12_isWrong 93 = .ok (.iconst 3, 1) := by decide +kernel
theorem dX12_isWrong_94 : decode cX12_isWrong 94 = .ok (.if_icmp .lt 7, 3) := by decide +kernel
theorem dX12_isWrong_97 : decode cX12_isWrong 97 = .ok (.iconst 1, 1) := by decide +kernel
theorem dX12_isWrong_98 : decode cX12_isWrong 98 = .ok (.goto 4, 3) := by decide +kernel
theorem dX12_isWrong_101 : decode cX12_isWrong 101 = .ok (.iconst 0, 1) := by decide +kernel
theorem dX12_isWrong_102 : decode cX12_isWrong 102 = .ok (.ireturn, 1) := by decide +kernel
theorem dX12_isWrong_103 : decode cX12_isWrong 103 = .ok (.aload_n 0, 1) := by decide +kernel
theorem dX12_isWrong_104 : decode cX12_isWrong 104 = .ok (.iconst 1, 1) := by decide +kernel
theorem dX12_isWrong_105 : decode cX12_isWrong 105 = .ok (.iload_n 2, 1) := by decide +kernel
theorem dX12_isWrong_106 : decode cX12_isWrong 106 = .ok (.iload_n 1, 1) := by decide +kernel
theorem dX12_isWrong_107 : decode cX12_isWrong 107 = .ok (.invokevirtual 128, 3) := by decide +kernel
theorem dX12_isWrong_110 : decode cX12_isWrong 110 = .ok (.ifCond .gt 31, 3) := by decide +kernel
theorem dX12_isWrong_113 : decode cX12_isWrong 113 = .ok (.aload_n 0, 1) := by decide +kernel
theorem dX12_isWrong_114 : decode cX12_isWrong 114 = .ok (.iload_n 2, 1) := by decide +kernel
theorem dX12_isWrong_115 : decode cX12_isWrong 115 = .ok (.invokevirtual 142, 3) := by decide +kernel
theorem dX12_isWrong_118 : decode cX12_isWrong 118 = .ok (.ifCond .ne 23, 3) := by decide +kernel
theorem dX12_isWrong_121 : decode cX12_isWrong 121 = .ok (.aload_n 0, 1) := by decide +kernel
theorem dX12_isWrong_122 : decode cX12_isWrong 122 = .ok (.iload_n 1, 1) := by decide +kernel
theorem dX12_isWrong_123 : decode cX12_isWrong 123 = .ok (.invokevirtual 139, 3) := by decide +kernel
theorem dX12_isWrong_126 : decode cX12_isWrong 126 = .ok (.ifCond .eq 15, 3) := by decide +kernel
theorem dX12_isWrong_129 : decode cX12_isWrong 129 = .ok (.aload_n 0, 1) := by decide +kernel
theorem dX12_isWrong_130 : decode cX12_isWrong 130 = .ok (.iconst 1, 1) := by decide +kernel
theorem dX12_isWrong_131 : decode cX12_isWrong 131 = .ok (.iconst 0, 1) := by decide +kernel
theorem dX12_isWrong_132 : decode cX12_isWrong 132 = .ok (.iload_n 1, 1) := by decide +kernel
theorem dX12_isWrong_133 : decode cX12_isWrong 133 = .ok (.invokevirtual 128, 3) := by decide +kernel
theorem dX12_isWrong_136 : decode cX12_isWrong 136 = .ok (.bipush 8, 2) := by decide +kernel
theorem dX12_isWrong_138 : decode cX12_isWrong 138 = .ok (.if_icmp .lt 7, 3) := by decide +kernel
theorem dX12_isWrong_141 : decode cX12_isWrong 141 = .ok (.iconst 1, 1) := by decide +kernel
theorem dX12_isWrong_142 : decode cX12_isWrong 142 = .ok (.goto 4, 3) := by decide +kernel
theorem dX12_isWrong_145 : decode cX12_isWrong 145 = .ok (.iconst 0, 1) := by decide +kernel
theorem dX12_isWrong_146 : decode cX12_isWrong 146 = .ok (.ireturn, 1) := by decide +kernel
theorem dX12_isWrong_147 : decode cX12_isWrong 147 = .ok (.aload_n 0, 1) := by decide +kernel
theorem dX12_isWrong_148 : decode cX12_isWrong 148 = .ok (.iload_n 1, 1) := by decide +kernel
theorem dX12_isWrong_149 : decode cX12_isWrong 149 = .ok (.invokevirtual 145, 3) := by decide +kernel
theorem dX12_isWrong_152 : decode cX12_isWrong 152 = .ok (.ifCond .ne 41, 3) := by decide +kernel
theorem dX12_isWrong_155 : decode cX12_isWrong 155 = .ok (.aload_n 0, 1) := by decide +kernel
theorem dX12_isWrong_156 : decode cX12_isWrong 156 = .ok (.iload_n 2, 1) := by decide +kernel
theorem dX12_isWrong_157 : decode cX12_isWrong 157 = .ok (.invokevirtual 148, 3) := by decide +kernel
theorem dX12_isWrong_160 : decode cX12_isWrong 160 = .ok (.ifCond .eq 33, 3) := by decide +kernel
theorem dX12_isWrong_163 : decode cX12_isWrong 163 = .ok (.aload_n 0, 1) := by decide +kernel
theorem dX12_isWrong_164 : decode cX12_isWrong 164 = .ok (.iload_n 3, 1) := by decide +kernel
theorem dX12_isWrong_165 : decode cX12_isWrong 165 = .ok (.invokevirtual 148, 3) := by decide +kernel
theorem dX12_isWrong_168 : decode cX12_isWrong 168 = .ok (.ifCond .eq 25, 3) := by decide +kernel
theorem dX12_isWrong_171 : decode cX12_isWrong 171 = .ok (.aload_n 0, 1) := by decide +kernel
theorem dX12_isWrong_172 : decode cX12_isWrong 172 = .ok (.iload 4, 2) := by decide +kernel
theorem dX12_isWrong_174 : decode cX12_isWrong 174 = .ok (.invokevirtual 132, 3) := by decide +kernel
theorem dX12_isWrong_177 : decode cX12_isWrong 177 = .ok (.ifCond .eq 16, 3) := by decide +kernel
theorem dX12_isWrong_180 : decode cX12_isWrong 180 = .ok (.aload_n 0, 1) := by decide +kernel
theorem dX12_isWrong_181 : decode cX12_isWrong 181 = .ok (.aload_n 0, 1) := by decide +kernel
theorem dX12_isWrong_182 : decode cX12_isWrong 182 = .ok (.iload_n 1, 1) := by decide +kernel
theorem dX12_isWrong_183 : decode cX12_isWrong 183 = .ok (.iconst 3, 1) := by decide +kernel
theorem dX12_isWrong_184 : decode cX12_isWrong 184 = .ok (.invokevirtual 124, 3) := by decide +kernel
theorem dX12_isWrong_187 : decode cX12_isWrong 187 = .ok (.invokevirtual 148, 3) := by decide +kernel
theorem dX12_isWrong_190 : decode cX12_isWrong 190 = .ok (.ifCond .ne 7, 3) := by decide +kernel
theorem dX12_isWrong_193 : decode cX12_isWrong 193 = .ok (.iconst 1, 1) := by decide +kernel
theorem dX12_isWrong_194 : decode cX12_isWrong 194 = .ok (.goto 4, 3) := by decide +kernel
theorem dX12_isWrong_197 : decode cX12_isWrong 197 = .ok (.iconst 0, 1) := by decide +kernel
theorem dX12_isWrong_198 : decode cX12_isWrong 198 = .ok (.ireturn, 1) := by decide +kernel
theorem dX12_isWrong_199 : decode cX12_isWrong 199 = .ok (.aload_n 0, 1) := by decide +kernel
theorem dX12_isWrong_200 : decode cX12_isWrong 200 = .ok (.iconst 5, 1) := by decide +kernel
theorem dX12_isWrong_201 : decode cX12_isWrong 201 = .ok (.iload_n 2, 1) := by decide +kernel
theorem dX12_isWrong_202 : decode cX12_isWrong 202 = .ok (.iload_n 1, 1) := by decide +kernel
theorem dX12_isWrong_203 : decode cX12_isWrong 203 = .ok (.invokevirtual 128, 3) := by decide +kernel
theorem dX12_isWrong_206 : decode cX12_isWrong 206 = .ok (.ifCond .gt 11, 3) := by decide +kernel
theorem dX12_isWrong_209 : decode cX12_isWrong 209 = .ok (.aload_n 0, 1) := by decide +kernel
theorem dX12_isWrong_210 : decode cX12_isWrong 210 = .ok (.iload_n 2, 1) := by decide +kernel
theorem dX12_isWrong_211 : decode cX12_isWrong 211 = .ok (.invokevirtual 148, 3) := by decide +kernel
theorem dX12_isWrong_214 : decode cX12_isWrong 214 = .ok (.ifCond .ne 7, 3) := by decide +kernel
theorem dX12_isWrong_217 : decode cX12_isWrong 217 = .ok (.iconst 1, 1) := by decide +kernel
theorem dX12_isWrong_218 : decode cX12_isWrong 218 = .ok (.goto 4, 3) := by decide +kernel
theorem dX12_isWrong_221 : decode cX12_isWrong 221 = .ok (.iconst 0, 1) := by decide +kernel
theorem dX12_isWrong_222 : decode cX12_isWrong 222 = .ok (.ireturn, 1) := by decide +kernel
theorem dX12_isWrong_223 : decode cX12_isWrong 223 = .ok (.aload_n 0, 1) := by decide +kernel
theorem dX12_isWrong_224 : decode cX12_isWrong 224 = .ok (.iload_n 2, 1) := by decide +kernel
theorem dX12_isWrong_225 : decode cX12_isWrong 225 = .ok (.invokevirtual 148, 3) := by decide +kernel
theorem dX12_isWrong_228 : decode cX12_isWrong 228 = .ok (.ifCond .ne 11, 3) := by decide +kernel
theorem dX12_isWrong_231 : decode cX12_isWrong 231 = .ok (.aload_n 0, 1) := by decide +kernel
theorem dX12_isWrong_232 : decode cX12_isWrong 232 = .ok (.iload_n 2, 1) := by decide +kernel
theorem dX12_isWrong_233 : decode cX12_isWrong 233 = .ok (.invokevirtual 142, 3) := by decide +kernel
theorem dX12_isWrong_236 : decode cX12_isWrong 236 = .ok (.ifCond .eq 37, 3) := by decide +kernel
theorem dX12_isWrong_239 : decode cX12_isWrong 239 = .ok (.iload_n 3, 1) := by decide +kernel
theorem dX12_isWrong_240 : decode cX12_isWrong 240 = .ok (.invokestatic 151, 3) := by decide +kernel
theorem dX12_isWrong_243 : decode cX12_isWrong 243 = .ok (.ifCond .ne 19, 3) := by decide +kernel
theorem dX12_isWrong_246 : decode cX12_isWrong 246 = .ok (.aload_n 0, 1) := by decide +kernel
theorem dX12_isWrong_247 : decode cX12_isWrong 247 = .ok (.iload_n 3, 1) := by decide +kernel
theorem dX12_isWrong_248 : decode cX12_isWrong 248 = .ok (.invokevirtual 148, 3) := by decide +kernel
theorem dX12_isWrong_251 : decode cX12_isWrong 251 = .ok (.ifCond .ne 11, 3) := by decide +kernel
theorem dX12_isWrong_254 : decode cX12_isWrong 254 = .ok (.aload_n 0, 1) := by decide +kernel
theorem dX12_isWrong_255 : decode cX12_isWrong 255 = .ok (.iload_n 3, 1) := by decide +kernel
theorem dX12_isWrong_256 : decode cX12_isWrong 256 = .ok (.invokevirtual 142, 3) := by decide +kernel
theorem dX12_isWrong_259 : decode cX12_isWrong 259 = .ok (.ifCond .eq 14, 3) := by decide +kernel
theorem dX12_isWrong_262 : decode cX12_isWrong 262 = .ok (.aload_n 0, 1) := by decide +kernel
theorem dX12_isWrong_263 : decode cX12_isWrong 263 = .ok (.iload_n 1, 1) := by decide +kernel
theorem dX12_isWrong_264 : decode cX12_isWrong 264 = .ok (.iconst 3, 1) := by decide +kernel
theorem dX12_isWrong_265 : decode cX12_isWrong 265 = .ok (.iload 4, 2) := by decide +kernel
theorem dX12_isWrong_267 : decode cX12_isWrong 267 = .ok (.invokevirtual 154, 3) := by decide +kernel
theorem dX12_isWrong_270 : decode cX12_isWrong 270 = .ok (.ifCond .ne 7, 3) := by decide +kernel
theorem dX12_isWrong_273 : decode cX12_isWrong 273 = .ok (.iconst 1, 1) := by decide +kernel
theorem dX12_isWrong_274 : decode cX12_isWrong 274 = .ok (.goto 4, 3) := by decide +kernel
theorem dX12_isWrong_277 : decode cX12_isWrong 277 = .ok (.iconst 0, 1) := by decide +kernel
theorem dX12_isWrong_278 : decode cX12_isWrong 278 = .ok (.ireturn, 1) := by decide +kernel
theorem dX12_isWrong_279 : decode cX12_isWrong 279 = .ok (.aload_n 0, 1) := by decide +kernel
theorem dX12_isWrong_280 : decode cX12_isWrong 280 = .ok (.iload_n 1, 1) := by decide +kernel
theorem dX12_isWrong_281 : decode cX12_isWrong 281 = .ok (.iconst 1, 1) := by decide +kernel
theorem dX12_isWrong_282 : decode cX12_isWrong 282 = .ok (.iload_n 2, 1) := by decide +kernel
theorem dX12_isWrong_283 : decode cX12_isWrong 283 = .ok (.invokevirtual 154, 3) := by decide +kernel
theorem dX12_isWrong_286 : decode cX12_isWrong 286 = .ok (.ifCond .ne 7, 3) := by decide +kernel
theorem dX12_isWrong_289 : decode cX12_isWrong 289 = .ok (.iconst 1, 1) := by decide +kernel
theorem dX12_isWrong_290 : decode cX12_isWrong 290 = .ok (.goto 4, 3) := by decide +kernel
theorem dX12_isWrong_293 : decode cX12_isWrong 293 = .ok (.iconst 0, 1) := by decide +kernel
theorem dX12_isWrong_294 : decode cX12_isWrong 294 = .ok (.ireturn, 1) := by decide +kernel
theorem dX12_firstWrong_0 : decode cX12_firstWrong 0 = .ok (.iconst 0, 1) := by decide +kernel
theorem dX12_firstWrong_1 : decode cX12_firstWrong 1 = .ok (.istore_n 1, 1) := by decide +kernel
theorem dX12_firstWrong_2 : decode cX12_firstWrong 2 = .ok (.iload_n 1, 1) := by decide +kernel
theorem dX12_firstWrong_3 : decode cX12_firstWrong 3 = .ok (.aload_n 0, 1) := by decide +kernel
theorem dX12_firstWrong_4 : decode cX12_firstWrong 4 = .ok (.getfield 107, 3) := by decide +kernel
theorem dX12_firstWrong_7 : decode cX12_firstWrong 7 = .ok (.if_icmp .ge 17, 3) := by decide +kernel
theorem dX12_firstWrong_10 : decode cX12_firstWrong 10 = .ok (.aload_n 0, 1) := by decide +kernel
theorem dX12_firstWrong_11 : decode cX12_firstWrong 11 = .ok (.iload_n 1, 1) := by decide +kernel
theorem dX12_firstWrong_12 : decode cX12_firstWrong 12 = .ok (.invokevirtual 157, 3) := by decide +kernel
theorem dX12_firstWrong_15 : decode cX12_firstWrong 15 = .ok (.ifCond .ne 9, 3) := by decide +kernel
theorem dX12_firstWrong_18 : decode cX12_firstWrong 18 = .ok (.iinc 1 1, 3) := by decide +kernel
theorem dX12_firstWrong_21 : decode cX12_firstWrong 21 = .ok (.goto (-19), 3) := by decide +kernel
theorem dX12_firstWrong_24 : decode cX12_firstWrong 24 = .ok (.aload_n 0, 1) := by decide +kernel
theorem dX12_firstWrong_25 : decode cX12_firstWrong 25 = .ok (.iconst 1, 1) := by decide +kernel
theorem dX12_firstWrong_26 : decode cX12_firstWrong 26 = .ok (.iconst 0, 1) := by decide +kernel
theorem dX12_firstWrong_27 : decode cX12_firstWrong 27 = .ok (.aload_n 0, 1) := by decide +kernel
theorem dX12_firstWrong_28 : decode cX12_firstWrong 28 = .ok (.getfield 107, 3) := by decide +kernel
theorem dX12_firstWrong_31 : decode cX12_firstWrong 31 = .ok (.invokevirtual 128, 3) := by decide +kernel
theorem dX12_firstWrong_34 : decode cX12_firstWrong 34 = .ok (.ifCond .le 20, 3) := by decide +kernel
theorem dX12_firstWrong_37 : decode cX12_firstWrong 37 = .ok (.aload_n 0, 1) := by decide +kernel
theorem dX12_firstWrong_38 : decode cX12_firstWrong 38 = .ok (.iconst 0, 1) := by decide +kernel
theorem dX12_firstWrong_39 : decode cX12_firstWrong 39 = .ok (.iconst 0, 1) := by decide +kernel
theorem dX12_firstWrong_40 : decode cX12_firstWrong 40 = .ok (.aload_n 0, 1) := by decide +kernel
theorem dX12_firstWrong_41 : decode cX12_firstWrong 41 = .ok (.getfield 107, 3) := by decide +kernel
theorem dX12_firstWrong_44 : decode cX12_firstWrong 44 = .ok (.invokevirtual 128, 3) := by decide +kernel
theorem dX12_firstWrong_47 : decode cX12_firstWrong 47 = .ok (.ifCond .le 7, 3) := by decide +kernel
theorem dX12_firstWrong_50 : decode cX12_firstWrong 50 = .ok (.iconst 1, 1) := by decide +kernel
theorem dX12_firstWrong_51 : decode cX12_firstWrong 51 = .ok (.goto 4, 3) := by decide +kernel
theorem dX12_firstWrong_54 : decode cX12_firstWrong 54 = .ok (.iconst 0, 1) := by decide +kernel
theorem dX12_firstWrong_55 : decode cX12_firstWrong 55 = .ok (.istore_n 2, 1) := by decide +kernel
theorem dX12_firstWrong_56 : decode cX12_firstWrong 56 = .ok (.iload_n 1, 1) := by decide +kernel
theorem dX12_firstWrong_57 : decode cX12_firstWrong 57 = .ok (.aload_n 0, 1) := by decide +kernel
theorem dX12_firstWrong_58 : decode cX12_firstWrong 58 = .ok (.getfield 107, 3) := by decide +kernel
theorem dX12_firstWrong_61 : decode cX12_firstWrong 61 = .ok (.if_icmp .lt 7, 3) := by decide +kernel
theorem dX12_firstWrong_64 : decode cX12_firstWrong 64 = .ok (.iload_n 2, 1) := by decide +kernel
theorem dX12_firstWrong_65 : decode cX12_firstWrong 65 = .ok (.ifCond .ne 7, 3) := by decide +kernel
theorem dX12_firstWrong_68 : decode cX12_firstWrong 68 = .ok (.iload_n 1, 1) := by decide +kernel
theorem dX12_firstWrong_69 : decode cX12_firstWrong 69 = .ok (.goto 4, 3) := by decide +kernel
theorem dX12_firstWrong_72 : decode cX12_firstWrong 72 = .ok (.iconst (-1), 1) := by decide +kernel
theorem dX12_firstWrong_73 : decode cX12_firstWrong 73 = .ok (.ireturn, 1) := by decide +kernel
theorem dX12_typeStatement_0 : decode cX12_typeStatement 0 = .ok (.iload_n 1, 1) := by decide +kernel
theorem dX12_typeStatement_1 : decode cX12_typeStatement 1 = .ok (.istore_n 2, 1) := by decide +kernel
theorem dX12_typeStatement_2 : decode cX12_typeStatement 2 = .ok (.iconst 0, 1) := by decide +kernel
theorem dX12_typeStatement_3 : decode cX12_typeStatement 3 = .ok (.istore_n 3, 1) := by decide +kernel
theorem dX12_typeStatement_4 : decode cX12_typeStatement 4 = .ok (.iload_n 3, 1) := by decide +kernel
theorem dX12_typeStatement_5 : decode cX12_typeStatement 5 = .ok (.bipush 39, 2) := by decide +kernel
theorem dX12_typeStatement_7 : decode cX12_typeStatement 7 = .ok (.if_icmp .ge 41, 3) := by decide +kernel
theorem dX12_typeStatement_10 : decode cX12_typeStatement 10 = .ok (.aload_n 0, 1) := by decide +kernel
theorem dX12_typeStatement_11 : decode cX12_typeStatement 11 = .ok (.getfield 17, 3) := by decide +kernel
theorem dX12_typeStatement_14 : decode cX12_typeStatement 14 = .ok (.iload_n 3, 1) := by decide +kernel
theorem dX12_typeStatement_15 : decode cX12_typeStatement 15 = .ok (.iaload, 1) := by decide +kernel
theorem dX12_typeStatement_16 : decode cX12_typeStatement 16 = .ok (.iconst 1, 1) := by decide +kernel
theorem dX12_typeStatement_17 : decode cX12_typeStatement 17 = .ok (.if_icmp .ne 7, 3) := by decide +kernel
theorem dX12_typeStatement_20 : decode cX12_typeStatement 20 = .ok (.iload_n 2, 1) := by decide +kernel
theorem dX12_typeStatement_21 : decode cX12_typeStatement 21 = .ok (.ifCond .le 27, 3) := by decide +kernel
theorem dX12_typeStatement_24 : decode cX12_typeStatement 24 = .ok (.aload_n 0, 1) := by decide +kernel
theorem dX12_typeStatement_25 : decode cX12_typeStatement 25 = .ok (.getfield 17, 3) := by decide +kernel
theorem dX12_typeStatement_28 : decode cX12_typeStatement 28 = .ok (.iload_n 3, 1) := by decide +kernel
theorem dX12_typeStatement_29 : decode cX12_typeStatement 29 = .ok (.iaload, 1) := by decide +kernel
theorem dX12_typeStatement_30 : decode cX12_typeStatement 30 = .ok (.iconst 1, 1) := by decide +kernel
theorem dX12_typeStatement_31 : decode cX12_typeStatement 31 = .ok (.if_icmp .ne 9, 3) := by decide +kernel
theorem dX12_typeStatement_34 : decode cX12_typeStatement 34 = .ok (.iload_n 2, 1) := by decide +kernel
theorem dX12_typeStatement_35 : decode cX12_typeStatement 35 = .ok (.iconst 1, 1) := by decide +kernel
theorem dX12_typeStatement_36 : decode cX12_typeStatement 36 = .ok (.isub, 1) := by decide +kernel
theorem dX12_typeStatement_37 : decode cX12_typeStatement 37 = .ok (.goto 4, 3) := by decide +kernel
theorem dX12_typeStatement_40 : decode cX12_typeStatement 40 = .ok (.iload_n 2, 1) := by decide +kernel
theorem dX12_typeStatement_41 : decode cX12_typeStatement 41 = .ok (.istore_n 2, 1) := by decide +kernel
theorem dX12_typeStatement_42 : decode cX12_typeStatement 42 = .ok (.iinc 3 1, 3) := by decide +kernel
theorem dX12_typeStatement_45 : decode cX12_typeStatement 45 = .ok (.goto (-41), 3) := by decide +kernel
theorem dX12_typeStatement_48 : decode cX12_typeStatement 48 = .ok (.iload_n 3, 1) := by decide +kernel
theorem dX12_typeStatement_49 : decode cX12_typeStatement 49 = .ok (.ireturn, 1) := by decide +kernel
theorem dX12_standsFor_0 : decode cX12_standsFor 0 = .ok (.iconst 0, 1) := by decide +kernel
theorem dX12_standsFor_1 : decode cX12_standsFor 1 = .ok (.istore_n 3, 1) := by decide +kernel
theorem dX12_standsFor_2 : decode cX12_standsFor 2 = .ok (.iconst 0, 1) := by decide +kernel
theorem dX12_standsFor_3 : decode cX12_standsFor 3 = .ok (.istore 4, 2) := by decide +kernel
theorem dX12_standsFor_5 : decode cX12_standsFor 5 = .ok (.iload 4, 2) := by decide +kernel
theorem dX12_standsFor_7 : decode cX12_standsFor 7 = .ok (.aload_n 0, 1) := by decide +kernel
theorem dX12_standsFor_8 : decode cX12_standsFor 8 = .ok (.getfield 21, 3) := by decide +kernel
theorem dX12_standsFor_11 : decode cX12_standsFor 11 = .ok (.iload_n 2, 1) := by decide +kernel
theorem dX12_standsFor_12 : decode cX12_standsFor 12 = .ok (.iaload, 1) := by decide +kernel
theorem dX12_standsFor_13 : decode cX12_standsFor 13 = .ok (.if_icmp .ge 30, 3) := by decide +kernel
theorem dX12_standsFor_16 : decode cX12_standsFor 16 = .ok (.iload_n 3, 1) := by decide +kernel
theorem dX12_standsFor_17 : decode cX12_standsFor 17 = .ok (.ifCond .ne 14, 3) := by decide +kernel
theorem dX12_standsFor_20 : decode cX12_standsFor 20 = .ok (.aload_n 0, 1) := by decide +kernel
theorem dX12_standsFor_21 : decode cX12_standsFor 21 = .ok (.iload_n 2, 1) := by decide +kernel
theorem dX12_standsFor_22 : decode cX12_standsFor 22 = .ok (.iload 4, 2) := by decide +kernel
theorem dX12_standsFor_24 : decode cX12_standsFor 24 = .ok (.invokevirtual 124, 3) := by decide +kernel
theorem dX12_standsFor_27 : decode cX12_standsFor 27 = .ok (.iload_n 1, 1) := by decide +kernel
theorem dX12_standsFor_28 : decode cX12_standsFor 28 = .ok (.if_icmp .ne 7, 3) := by decide +kernel
theorem dX12_standsFor_31 : decode cX12_standsFor 31 = .ok (.iconst 1, 1) := by decide +kernel
theorem dX12_standsFor_32 : decode cX12_standsFor 32 = .ok (.goto 4, 3) := by decide +kernel
theorem dX12_standsFor_35 : decode cX12_standsFor 35 = .ok (.iconst 0, 1) := by decide +kernel
theorem dX12_standsFor_36 : decode cX12_standsFor 36 = .ok (.istore_n 3, 1) := by decide +kernel
theorem dX12_standsFor_37 : decode cX12_standsFor 37 = .ok (.iinc 4 1, 3) := by decide +kernel
theorem dX12_standsFor_40 : decode cX12_standsFor 40 = .ok (.goto (-35), 3) := by decide +kernel
theorem dX12_standsFor_43 : decode cX12_standsFor 43 = .ok (.iload_n 3, 1) := by decide +kernel
theorem dX12_standsFor_44 : decode cX12_standsFor 44 = .ok (.ireturn, 1) := by decide +kernel
theorem dX12_isAbout_0 : decode cX12_isAbout 0 = .ok (.aload_n 0, 1) := by decide +kernel
theorem dX12_isAbout_1 : decode cX12_isAbout 1 = .ok (.iload_n 1, 1) := by decide +kernel
theorem dX12_isAbout_2 : decode cX12_isAbout 2 = .ok (.iconst 1, 1) := by decide +kernel
theorem dX12_isAbout_3 : decode cX12_isAbout 3 = .ok (.invokevirtual 124, 3) := by decide +kernel
theorem dX12_isAbout_6 : decode cX12_isAbout 6 = .ok (.istore 4, 2) := by decide +kernel
theorem dX12_isAbout_8 : decode cX12_isAbout 8 = .ok (.aload_n 0, 1) := by decide +kernel
theorem dX12_isAbout_9 : decode cX12_isAbout 9 = .ok (.aload_n 0, 1) := by decide +kernel
theorem dX12_isAbout_10 : decode cX12_isAbout 10 = .ok (.iload_n 1, 1) := by decide +kernel
theorem dX12_isAbout_11 : decode cX12_isAbout 11 = .ok (.iconst 0, 1) := by decide +kernel
theorem dX12_isAbout_12 : decode cX12_isAbout 12 = .ok (.invokevirtual 124, 3) := by decide +kernel
theorem dX12_isAbout_15 : decode cX12_isAbout 15 = .ok (.aload_n 0, 1) := by decide +kernel
theorem dX12_isAbout_16 : decode cX12_isAbout 16 = .ok (.iload_n 2, 1) := by decide +kernel
theorem dX12_isAbout_17 : decode cX12_isAbout 17 = .ok (.invokevirtual 160, 3) := by decide +kernel
theorem dX12_isAbout_20 : decode cX12_isAbout 20 = .ok (.invokevirtual 163, 3) := by decide +kernel
theorem dX12_isAbout_23 : decode cX12_isAbout 23 = .ok (.ifCond .eq 37, 3) := by decide +kernel
theorem dX12_isAbout_26 : decode cX12_isAbout 26 = .ok (.iload 4, 2) := by decide +kernel
theorem dX12_isAbout_28 : decode cX12_isAbout 28 = .ok (.invokestatic 151, 3) := by decide +kernel
theorem dX12_isAbout_31 : decode cX12_isAbout 31 = .ok (.ifCond .eq 11, 3) := by decide +kernel
theorem dX12_isAbout_34 : decode cX12_isAbout 34 = .ok (.iload_n 2, 1) := by decide +kernel
theorem dX12_isAbout_35 : decode cX12_isAbout 35 = .ok (.iload_n 3, 1) := by decide +kernel
theorem dX12_isAbout_36 : decode cX12_isAbout 36 = .ok (.if_icmp .ne 24, 3) := by decide +kernel
theorem dX12_isAbout_39 : decode cX12_isAbout 39 = .ok (.goto 17, 3) := by decide +kernel
theorem dX12_isAbout_42 : decode cX12_isAbout 42 = .ok (.aload_n 0, 1) := by decide +kernel
theorem dX12_isAbout_43 : decode cX12_isAbout 43 = .ok (.iload 4, 2) := by decide +kernel
theorem dX12_isAbout_45 : decode cX12_isAbout 45 = .ok (.aload_n 0, 1) := by decide +kernel
theorem dX12_isAbout_46 : decode cX12_isAbout 46 = .ok (.iload_n 3, 1) := by decide +kernel
theorem dX12_isAbout_47 : decode cX12_isAbout 47 = .ok (.invokevirtual 160, 3) := by decide +kernel
theorem dX12_isAbout_50 : decode cX12_isAbout 50 = .ok (.invokevirtual 163, 3) := by decide +kernel
theorem dX12_isAbout_53 : decode cX12_isAbout 53 = .ok (.ifCond .eq 7, 3) := by decide +kernel
theorem dX12_isAbout_56 : decode cX12_isAbout 56 = .ok (.iconst 1, 1) := by decide +kernel
theorem dX12_isAbout_57 : decode cX12_isAbout 57 = .ok (.goto 4, 3) := by decide +kernel
theorem dX12_isAbout_60 : decode cX12_isAbout 60 = .ok (.iconst 0, 1) := by decide +kernel
theorem dX12_isAbout_61 : decode cX12_isAbout 61 = .ok (.ireturn, 1) := by decide +kernel
theorem dX12_firstAgainst_0 : decode cX12_firstAgainst 0 = .ok (.aload_n 0, 1) := by decide +kernel
theorem dX12_firstAgainst_1 : decode cX12_firstAgainst 1 = .ok (.iconst 1, 1) := by decide +kernel
theorem dX12_firstAgainst_2 : decode cX12_firstAgainst 2 = .ok (.iconst 0, 1) := by decide +kernel
theorem dX12_firstAgainst_3 : decode cX12_firstAgainst 3 = .ok (.aload_n 0, 1) := by decide +kernel
theorem dX12_firstAgainst_4 : decode cX12_firstAgainst 4 = .ok (.getfield 107, 3) := by decide +kernel
theorem dX12_firstAgainst_7 : decode cX12_firstAgainst 7 = .ok (.invokevirtual 128, 3) := by decide +kernel
theorem dX12_firstAgainst_10 : decode cX12_firstAgainst 10 = .ok (.istore_n 1, 1) := by decide +kernel
theorem dX12_firstAgainst_11 : decode cX12_firstAgainst 11 = .ok (.iconst 0, 1) := by decide +kernel
theorem dX12_firstAgainst_12 : decode cX12_firstAgainst 12 = .ok (.istore_n 2, 1) := by decide +kernel
theorem dX12_firstAgainst_13 : decode cX12_firstAgainst 13 = .ok (.iload_n 2, 1) := by decide +kernel
theorem dX12_firstAgainst_14 : decode cX12_firstAgainst 14 = .ok (.aload_n 0, 1) := by decide +kernel
theorem dX12_firstAgainst_15 : decode cX12_firstAgainst 15 = .ok (.getfield 107, 3) := by decide +kernel
theorem dX12_firstAgainst_18 : decode cX12_firstAgainst 18 = .ok (.if_icmp .ge 132, 3) := by decide +kernel
theorem dX12_firstAgainst_21 : decode cX12_firstAgainst 21 = .ok (.iconst 0, 1) := by decide +kernel
theorem dX12_firstAgainst_22 : decode cX12_firstAgainst 22 = .ok (.istore_n 3, 1) := by decide +kernel
theorem dX12_firstAgainst_23 : decode cX12_firstAgainst 23 = .ok (.iload_n 3, 1) := by decide +kernel
theorem dX12_firstAgainst_24 : decode cX12_firstAgainst 24 = .ok (.aload_n 0, 1) := by decide +kernel
theorem dX12_firstAgainst_25 : decode cX12_firstAgainst 25 = .ok (.getfield 107, 3) := by decide +kernel
theorem dX12_firstAgainst_28 : decode cX12_firstAgainst 28 = .ok (.if_icmp .ge 116, 3) := by decide +kernel
theorem dX12_firstAgainst_31 : decode cX12_firstAgainst 31 = .ok (.aload_n 0, 1) := by decide +kernel
theorem dX12_firstAgainst_32 : decode cX12_firstAgainst 32 = .ok (.getfield 17, 3) := by decide +kernel
theorem dX12_firstAgainst_35 : decode cX12_firstAgainst 35 = .ok (.iload_n 2, 1) := by decide +kernel
theorem dX12_firstAgainst_36 : decode cX12_firstAgainst 36 = .ok (.iaload, 1) := by decide +kernel
theorem dX12_firstAgainst_37 : decode cX12_firstAgainst 37 = .ok (.iconst 3, 1) := by decide +kernel
theorem dX12_firstAgainst_38 : decode cX12_firstAgainst 38 = .ok (.if_icmp .ne 106, 3) := by decide +kernel
theorem dX12_firstAgainst_41 : decode cX12_firstAgainst 41 = .ok (.aload_n 0, 1) := by decide +kernel
theorem dX12_firstAgainst_42 : decode cX12_firstAgainst 42 = .ok (.getfield 17, 3) := by decide +kernel
theorem dX12_firstAgainst_45 : decode cX12_firstAgainst 45 = .ok (.iload_n 3, 1) := by decide +kernel
theorem dX12_firstAgainst_46 : decode cX12_firstAgainst 46 = .ok (.iaload, 1) := by decide +kernel
theorem dX12_firstAgainst_47 : decode cX12_firstAgainst 47 = .ok (.iconst 2, 1) := by decide +kernel
theorem dX12_firstAgainst_48 : decode cX12_firstAgainst 48 = .ok (.if_icmp .ne 31, 3) := by decide +kernel
theorem dX12_firstAgainst_51 : decode cX12_firstAgainst 51 = .ok (.aload_n 0, 1) := by decide +kernel
theorem dX12_firstAgainst_52 : decode cX12_firstAgainst 52 = .ok (.iload_n 3, 1) := by decide +kernel
theorem dX12_firstAgainst_53 : decode cX12_firstAgainst 53 = .ok (.iconst 2, 1) := by decide +kernel
theorem dX12_firstAgainst_54 : decode cX12_firstAgainst 54 = .ok (.invokevirtual 124, 3) := by decide +kernel
theorem dX12_firstAgainst_57 : decode cX12_firstAgainst 57 = .ok (.aload_n 0, 1) := by decide +kernel
theorem dX12_firstAgainst_58 : decode cX12_firstAgainst 58 = .ok (.iload_n 2, 1) := by decide +kernel
theorem dX12_firstAgainst_59 : decode cX12_firstAgainst 59 = .ok (.iconst 2, 1) := by decide +kernel
theorem dX12_firstAgainst_60 : decode cX12_firstAgainst 60 = .ok (.invokevirtual 124, 3) := by decide +kernel
theorem dX12_firstAgainst_63 : decode cX12_firstAgainst 63 = .ok (.if_icmp .ne 16, 3) := by decide +kernel
theorem dX12_firstAgainst_66 : decode cX12_firstAgainst 66 = .ok (.aload_n 0, 1) := by decide +kernel
theorem dX12_firstAgainst_67 : decode cX12_firstAgainst 67 = .ok (.iload_n 3, 1) := by decide +kernel
theorem dX12_firstAgainst_68 : decode cX12_firstAgainst 68 = .ok (.iload_n 2, 1) := by decide +kernel
theorem dX12_firstAgainst_69 : decode cX12_firstAgainst 69 = .ok (.invokevirtual 166, 3) := by decide +kernel
theorem dX12_firstAgainst_72 : decode cX12_firstAgainst 72 = .ok (.ifCond .eq 7, 3) := by decide +kernel
theorem dX12_firstAgainst_75 : decode cX12_firstAgainst 75 = .ok (.iconst 1, 1) := by decide +kernel
theorem dX12_firstAgainst_76 : decode cX12_firstAgainst 76 = .ok (.goto 4, 3) := by decide +kernel
theorem dX12_firstAgainst_79 : decode cX12_firstAgainst 79 = .ok (.iconst 0, 1) := by decide +kernel
theorem dX12_firstAgainst_80 : decode cX12_firstAgainst 80 = .ok (.istore 4, 2) := by decide +kernel
theorem dX12_firstAgainst_82 : decode cX12_firstAgainst 82 = .ok (.iconst 0, 1) := by decide +kernel
theorem dX12_firstAgainst_83 : decode cX12_firstAgainst 83 = .ok (.istore 5, 2) := by decide +kernel
theorem dX12_firstAgainst_85 : decode cX12_firstAgainst 85 = .ok (.iload 5, 2) := by decide +kernel
theorem dX12_firstAgainst_87 : decode cX12_firstAgainst 87 = .ok (.iload_n 1, 1) := by decide +kernel
theorem dX12_firstAgainst_88 : decode cX12_firstAgainst 88 = .ok (.iload_n 1, 1) := by decide +kernel
theorem dX12_firstAgainst_89 : decode cX12_firstAgainst 89 = .ok (.imul, 1) := by decide +kernel
theorem dX12_firstAgainst_90 : decode cX12_firstAgainst 90 = .ok (.if_icmp .ge 48, 3) := by decide +kernel
theorem dX12_firstAgainst_93 : decode cX12_firstAgainst 93 = .ok (.iload 4, 2) := by decide +kernel
theorem dX12_firstAgainst_95 : decode cX12_firstAgainst 95 = .ok (.ifCond .eq 43, 3) := by decide +kernel
theorem dX12_firstAgainst_98 : decode cX12_firstAgainst 98 = .ok (.aload_n 0, 1) := by decide +kernel
theorem dX12_firstAgainst_99 : decode cX12_firstAgainst 99 = .ok (.iload_n 2, 1) := by decide +kernel
theorem dX12_firstAgainst_100 : decode cX12_firstAgainst 100 = .ok (.iload 5, 2) := by decide +kernel
theorem dX12_firstAgainst_102 : decode cX12_firstAgainst 102 = .ok (.iload_n 1, 1) := by decide +kernel
theorem dX12_firstAgainst_103 : decode cX12_firstAgainst 103 = .ok (.idiv, 1) := by decide +kernel
theorem dX12_firstAgainst_104 : decode cX12_firstAgainst 104 = .ok (.iload 5, 2) := by decide +kernel
theorem dX12_firstAgainst_106 : decode cX12_firstAgainst 106 = .ok (.iload_n 1, 1) := by decide +kernel
theorem dX12_firstAgainst_107 : decode cX12_firstAgainst 107 = .ok (.irem, 1) := by decide +kernel
theorem dX12_firstAgainst_108 : decode cX12_firstAgainst 108 = .ok (.invokevirtual 169, 3) := by decide +kernel
theorem dX12_firstAgainst_111 : decode cX12_firstAgainst 111 = .ok (.ifCond .eq 21, 3) := by decide +kernel
theorem dX12_firstAgainst_114 : decode cX12_firstAgainst 114 = .ok (.aload_n 0, 1) := by decide +kernel
theorem dX12_firstAgainst_115 : decode cX12_firstAgainst 115 = .ok (.iload_n 3, 1) := by decide +kernel
theorem dX12_firstAgainst_116 : decode cX12_firstAgainst 116 = .ok (.iload 5, 2) := by decide +kernel
theorem dX12_firstAgainst_118 : decode cX12_firstAgainst 118 = .ok (.iload_n 1, 1) := by decide +kernel
theorem dX12_firstAgainst_119 : decode cX12_firstAgainst 119 = .ok (.idiv, 1) := by decide +kernel
theorem dX12_firstAgainst_120 : decode cX12_firstAgainst 120 = .ok (.iload 5, 2) := by decide +kernel
theorem dX12_firstAgainst_122 : decode cX12_firstAgainst 122 = .ok (.iload_n 1, 1) := by decide +kernel
theorem dX12_firstAgainst_123 : decode cX12_firstAgainst 123 = .ok (.irem, 1) := by decide +kernel
theorem dX12_firstAgainst_124 : decode cX12_firstAgainst 124 = .ok (.invokevirtual 169, 3) := by decide +kernel
theorem dX12_firstAgainst_127 : decode cX12_firstAgainst 127 = .ok (.ifCond .eq 5, 3) := by decide +kernel
theorem dX12_firstAgainst_130 : decode cX12_firstAgainst 130 = .ok (.iload_n 2, 1) := by decide +kernel
theorem dX12_firstAgainst_131 : decode cX12_firstAgainst 131 = .ok (.ireturn, 1) := by decide +kernel
theorem dX12_firstAgainst_132 : decode cX12_firstAgainst 132 = .ok (.iinc 5 1, 3) := by decide +kernel
theorem dX12_firstAgainst_135 : decode cX12_firstAgainst 135 = .ok (.goto (-50), 3) := by decide +kernel
theorem dX12_firstAgainst_138 : decode cX12_firstAgainst 138 = .ok (.iinc 3 1, 3) := by decide +kernel
theorem dX12_firstAgainst_141 : decode cX12_firstAgainst 141 = .ok (.goto (-118), 3) := by decide +kernel
theorem dX12_firstAgainst_144 : decode cX12_firstAgainst 144 = .ok (.iinc 2 1, 3) := by decide +kernel
theorem dX12_firstAgainst_147 : decode cX12_firstAgainst 147 = .ok (.goto (-134), 3) := by decide +kernel
theorem dX12_firstAgainst_150 : decode cX12_firstAgainst 150 = .ok (.iconst (-1), 1) := by decide +kernel
theorem dX12_firstAgainst_151 : decode cX12_firstAgainst 151 = .ok (.ireturn, 1) := by decide +kernel
theorem dX12_shared_0 : decode cX12_shared 0 = .ok (.iconst 0, 1) := by decide +kernel
theorem dX12_shared_1 : decode cX12_shared 1 = .ok (.istore_n 3, 1) := by decide +kernel
theorem dX12_shared_2 : decode cX12_shared 2 = .ok (.iconst 3, 1) := by decide +kernel
theorem dX12_shared_3 : decode cX12_shared 3 = .ok (.istore 4, 2) := by decide +kernel
theorem dX12_shared_5 : decode cX12_shared 5 = .ok (.iload 4, 2) := by decide +kernel
theorem dX12_shared_7 : decode cX12_shared 7 = .ok (.aload_n 0, 1) := by decide +kernel
theorem dX12_shared_8 : decode cX12_shared 8 = .ok (.getfield 21, 3) := by decide +kernel
theorem dX12_shared_11 : decode cX12_shared 11 = .ok (.iload_n 1, 1) := by decide +kernel
theorem dX12_shared_12 : decode cX12_shared 12 = .ok (.iaload, 1) := by decide +kernel
theorem dX12_shared_13 : decode cX12_shared 13 = .ok (.if_icmp .ge 56, 3) := by decide +kernel
theorem dX12_shared_16 : decode cX12_shared 16 = .ok (.iconst 3, 1) := by decide +kernel
theorem dX12_shared_17 : decode cX12_shared 17 = .ok (.istore 5, 2) := by decide +kernel
theorem dX12_shared_19 : decode cX12_shared 19 = .ok (.iload 5, 2) := by decide +kernel
theorem dX12_shared_21 : decode cX12_shared 21 = .ok (.aload_n 0, 1) := by decide +kernel
theorem dX12_shared_22 : decode cX12_shared 22 = .ok (.getfield 21, 3) := by decide +kernel
theorem dX12_shared_25 : decode cX12_shared 25 = .ok (.iload_n 2, 1) := by decide +kernel
theorem dX12_shared_26 : decode cX12_shared 26 = .ok (.iaload, 1) := by decide +kernel
theorem dX12_shared_27 : decode cX12_shared 27 = .ok (.if_icmp .ge 36, 3) := by decide +kernel
theorem dX12_shared_30 : decode cX12_shared 30 = .ok (.iload_n 3, 1) := by decide +kernel
theorem dX12_shared_31 : decode cX12_shared 31 = .ok (.ifCond .ne 20, 3) := by decide +kernel
theorem dX12_shared_34 : decode cX12_shared 34 = .ok (.aload_n 0, 1) := by decide +kernel
theorem dX12_shared_35 : decode cX12_shared 35 = .ok (.iload_n 1, 1) := by decide +kernel
theorem dX12_shared_36 : decode cX12_shared 36 = .ok (.iload 4, 2) := by decide +kernel
theorem dX12_shared_38 : decode cX12_shared 38 = .ok (.invokevirtual 124, 3) := by decide +kernel
theorem dX12_shared_41 : decode cX12_shared 41 = .ok (.aload_n 0, 1) := by decide +kernel
theorem dX12_shared_42 : decode cX12_shared 42 = .ok (.iload_n 2, 1) := by decide +kernel
theorem dX12_shared_43 : decode cX12_shared 43 = .ok (.iload 5, 2) := by decide +kernel
theorem dX12_shared_45 : decode cX12_shared 45 = .ok (.invokevirtual 124, 3) := by decide +kernel
theorem dX12_shared_48 : decode cX12_shared 48 = .ok (.if_icmp .ne 7, 3) := by decide +kernel
theorem dX12_shared_51 : decode cX12_shared 51 = .ok (.iconst 1, 1) := by decide +kernel
theorem dX12_shared_52 : decode cX12_shared 52 = .ok (.goto 4, 3) := by decide +kernel
theorem dX12_shared_55 : decode cX12_shared 55 = .ok (.iconst 0, 1) := by decide +kernel
theorem dX12_shared_56 : decode cX12_shared 56 = .ok (.istore_n 3, 1) := by decide +kernel
theorem dX12_shared_57 : decode cX12_shared 57 = .ok (.iinc 5 1, 3) := by decide +kernel
theorem dX12_shared_60 : decode cX12_shared 60 = .ok (.goto (-41), 3) := by decide +kernel
theorem dX12_shared_63 : decode cX12_shared 63 = .ok (.iinc 4 1, 3) := by decide +kernel
theorem dX12_shared_66 : decode cX12_shared 66 = .ok (.goto (-61), 3) := by decide +kernel
theorem dX12_shared_69 : decode cX12_shared 69 = .ok (.iload_n 3, 1) := by decide +kernel
theorem dX12_shared_70 : decode cX12_shared 70 = .ok (.ireturn, 1) := by decide +kernel
theorem dX12_classNumber_0 : decode cX12_classNumber 0 = .ok (.iconst 0, 1) := by decide +kernel
theorem dX12_classNumber_1 : decode cX12_classNumber 1 = .ok (.istore_n 2, 1) := by decide +kernel
theorem dX12_classNumber_2 : decode cX12_classNumber 2 = .ok (.iload_n 2, 1) := by decide +kernel
theorem dX12_classNumber_3 : decode cX12_classNumber 3 = .ok (.iconst 2, 1) := by decide +kernel
theorem dX12_classNumber_4 : decode cX12_classNumber 4 = .ok (.if_icmp .ge 19, 3) := by decide +kernel
theorem dX12_classNumber_7 : decode cX12_classNumber 7 = .ok (.aload_n 0, 1) := by decide +kernel
theorem dX12_classNumber_8 : decode cX12_classNumber 8 = .ok (.getfield 51, 3) := by decide +kernel
theorem dX12_classNumber_11 : decode cX12_classNumber 11 = .ok (.iload_n 2, 1) := by decide +kernel
theorem dX12_classNumber_12 : decode cX12_classNumber 12 = .ok (.iaload, 1) := by decide +kernel
theorem dX12_classNumber_13 : decode cX12_classNumber 13 = .ok (.iload_n 1, 1) := by decide +kernel
theorem dX12_classNumber_14 : decode cX12_classNumber 14 = .ok (.if_icmp .eq 9, 3) := by decide +kernel
theorem dX12_classNumber_17 : decode cX12_classNumber 17 = .ok (.iinc 2 1, 3) := by decide +kernel
theorem dX12_classNumber_20 : decode cX12_classNumber 20 = .ok (.goto (-18), 3) := by decide +kernel
theorem dX12_classNumber_23 : decode cX12_classNumber 23 = .ok (.iload_n 2, 1) := by decide +kernel
theorem dX12_classNumber_24 : decode cX12_classNumber 24 = .ok (.ireturn, 1) := by decide +kernel
theorem dX12_typeNumber_0 : decode cX12_typeNumber 0 = .ok (.iconst 0, 1) := by decide +kernel
theorem dX12_typeNumber_1 : decode cX12_typeNumber 1 = .ok (.istore_n 2, 1) := by decide +kernel
theorem dX12_typeNumber_2 : decode cX12_typeNumber 2 = .ok (.iload_n 2, 1) := by decide +kernel
theorem dX12_typeNumber_3 : decode cX12_typeNumber 3 = .ok (.bipush 7, 2) := by decide +kernel
theorem dX12_typeNumber_5 : decode cX12_typeNumber 5 = .ok (.if_icmp .ge 19, 3) := by decide +kernel
theorem dX12_typeNumber_8 : decode cX12_typeNumber 8 = .ok (.aload_n 0, 1) := by decide +kernel
theorem dX12_typeNumber_9 : decode cX12_typeNumber 9 = .ok (.getfield 48, 3) := by decide +kernel
theorem dX12_typeNumber_12 : decode cX12_typeNumber 12 = .ok (.iload_n 2, 1) := by decide +kernel
theorem dX12_typeNumber_13 : decode cX12_typeNumber 13 = .ok (.iaload, 1) := by decide +kernel
theorem dX12_typeNumber_14 : decode cX12_typeNumber 14 = .ok (.iload_n 1, 1) := by decide +kernel
theorem dX12_typeNumber_15 : decode cX12_typeNumber 15 = .ok (.if_icmp .eq 9, 3) := by decide +kernel
theorem dX12_typeNumber_18 : decode cX12_typeNumber 18 = .ok (.iinc 2 1, 3) := by decide +kernel
theorem dX12_typeNumber_21 : decode cX12_typeNumber 21 = .ok (.goto (-19), 3) := by decide +kernel
theorem dX12_typeNumber_24 : decode cX12_typeNumber 24 = .ok (.iload_n 2, 1) := by decide +kernel
theorem dX12_typeNumber_25 : decode cX12_typeNumber 25 = .ok (.ireturn, 1) := by decide +kernel
theorem dX12_maskOf_0 : decode cX12_maskOf 0 = .ok (.iconst 0, 1) := by decide +kernel
theorem dX12_maskOf_1 : decode cX12_maskOf 1 = .ok (.istore 4, 2) := by decide +kernel
theorem dX12_maskOf_3 : decode cX12_maskOf 3 = .ok (.iconst 0, 1) := by decide +kernel
theorem dX12_maskOf_4 : decode cX12_maskOf 4 = .ok (.istore 5, 2) := by decide +kernel
theorem dX12_maskOf_6 : decode cX12_maskOf 6 = .ok (.iload 5, 2) := by decide +kernel
theorem dX12_maskOf_8 : decode cX12_maskOf 8 = .ok (.aload_n 0, 1) := by decide +kernel
theorem dX12_maskOf_9 : decode cX12_maskOf 9 = .ok (.getfield 107, 3) := by decide +kernel
theorem dX12_maskOf_12 : decode cX12_maskOf 12 = .ok (.if_icmp .ge 122, 3) := by decide +kernel
theorem dX12_maskOf_15 : decode cX12_maskOf 15 = .ok (.iconst 1, 1) := by decide +kernel
theorem dX12_maskOf_16 : decode cX12_maskOf 16 = .ok (.istore 6, 2) := by decide +kernel
theorem dX12_maskOf_18 : decode cX12_maskOf 18 = .ok (.iload 6, 2) := by decide +kernel
theorem dX12_maskOf_20 : decode cX12_maskOf 20 = .ok (.aload_n 0, 1) := by decide +kernel
theorem dX12_maskOf_21 : decode cX12_maskOf 21 = .ok (.getfield 21, 3) := by decide +kernel
theorem dX12_maskOf_24 : decode cX12_maskOf 24 = .ok (.iload 5, 2) := by decide +kernel
theorem dX12_maskOf_26 : decode cX12_maskOf 26 = .ok (.iaload, 1) := by decide +kernel
theorem dX12_maskOf_27 : decode cX12_maskOf 27 = .ok (.if_icmp .ge 101, 3) := by decide +kernel
theorem dX12_maskOf_30 : decode cX12_maskOf 30 = .ok (.iload_n 2, 1) := by decide +kernel
theorem dX12_maskOf_31 : decode cX12_maskOf 31 = .ok (.istore 7, 2) := by decide +kernel
theorem dX12_maskOf_33 : decode cX12_maskOf 33 = .ok (.iload 7, 2) := by decide +kernel
theorem dX12_maskOf_35 : decode cX12_maskOf 35 = .ok (.aload_n 0, 1) := by decide +kernel
theorem dX12_maskOf_36 : decode cX12_maskOf 36 = .ok (.getfield 21, 3) := by decide +kernel
theorem dX12_maskOf_39 : decode cX12_maskOf 39 = .ok (.iload_n 1, 1) := by decide +kernel
theorem dX12_maskOf_40 : decode cX12_maskOf 40 = .ok (.iaload, 1) := by decide +kernel
theorem dX12_maskOf_41 : decode cX12_maskOf 41 = .ok (.if_icmp .ge 81, 3) := by decide +kernel
theorem dX12_maskOf_44 : decode cX12_maskOf 44 = .ok (.aload_n 0, 1) := by decide +kernel
theorem dX12_maskOf_45 : decode cX12_maskOf 45 = .ok (.getfield 17, 3) := by decide +kernel
theorem dX12_maskOf_48 : decode cX12_maskOf 48 = .ok (.iload 5, 2) := by decide +kernel
theorem dX12_maskOf_50 : decode cX12_maskOf 50 = .ok (.iaload, 1) := by decide +kernel
theorem dX12_maskOf_51 : decode cX12_maskOf 51 = .ok (.ifCond .ne 41, 3) := by decide +kernel
theorem dX12_maskOf_54 : decode cX12_maskOf 54 = .ok (.aload_n 0, 1) := by decide +kernel
theorem dX12_maskOf_55 : decode cX12_maskOf 55 = .ok (.iload 5, 2) := by decide +kernel
theorem dX12_maskOf_57 : decode cX12_maskOf 57 = .ok (.iconst 0, 1) := by decide +kernel
theorem dX12_maskOf_58 : decode cX12_maskOf 58 = .ok (.invokevirtual 124, 3) := by decide +kernel
theorem dX12_maskOf_61 : decode cX12_maskOf 61 = .ok (.aload_n 0, 1) := by decide +kernel
theorem dX12_maskOf_62 : decode cX12_maskOf 62 = .ok (.getfield 51, 3) := by decide +kernel
theorem dX12_maskOf_65 : decode cX12_maskOf 65 = .ok (.iload_n 3, 1) := by decide +kernel
theorem dX12_maskOf_66 : decode cX12_maskOf 66 = .ok (.iaload, 1) := by decide +kernel
theorem dX12_maskOf_67 : decode cX12_maskOf 67 = .ok (.if_icmp .ne 25, 3) := by decide +kernel
theorem dX12_maskOf_70 : decode cX12_maskOf 70 = .ok (.aload_n 0, 1) := by decide +kernel
theorem dX12_maskOf_71 : decode cX12_maskOf 71 = .ok (.iload 5, 2) := by decide +kernel
theorem dX12_maskOf_73 : decode cX12_maskOf 73 = .ok (.iload 6, 2) := by decide +kernel
theorem dX12_maskOf_75 : decode cX12_maskOf 75 = .ok (.invokevirtual 124, 3) := by decide +kernel
theorem dX12_maskOf_78 : decode cX12_maskOf 78 = .ok (.aload_n 0, 1) := by decide +kernel
theorem dX12_maskOf_79 : decode cX12_maskOf 79 = .ok (.iload_n 1, 1) := by decide +kernel
theorem dX12_maskOf_80 : decode cX12_maskOf 80 = .ok (.iload 7, 2) := by decide +kernel
theorem dX12_maskOf_82 : decode cX12_maskOf 82 = .ok (.invokevirtual 124, 3) := by decide +kernel
theorem dX12_maskOf_85 : decode cX12_maskOf 85 = .ok (.if_icmp .ne 7, 3) := by decide +kernel
theorem dX12_maskOf_88 : decode cX12_maskOf 88 = .ok (.iconst 1, 1) := by decide +kernel
theorem dX12_maskOf_89 : decode cX12_maskOf 89 = .ok (.goto 4, 3) := by decide +kernel
theorem dX12_maskOf_92 : decode cX12_maskOf 92 = .ok (.iconst 0, 1) := by decide +kernel
theorem dX12_maskOf_93 : decode cX12_maskOf 93 = .ok (.istore 8, 2) := by decide +kernel
theorem dX12_maskOf_95 : decode cX12_maskOf 95 = .ok (.iload 8, 2) := by decide +kernel
theorem dX12_maskOf_97 : decode cX12_maskOf 97 = .ok (.ifCond .eq 15, 3) := by decide +kernel
theorem dX12_maskOf_100 : decode cX12_maskOf 100 = .ok (.iload 4, 2) := by decide +kernel
theorem dX12_maskOf_102 : decode cX12_maskOf 102 = .ok (.iconst 1, 1) := by decide +kernel
theorem dX12_maskOf_103 : decode cX12_maskOf 103 = .ok (.iload 6, 2) := by decide +kernel
theorem dX12_maskOf_105 : decode cX12_maskOf 105 = .ok (.iconst 1, 1) := by decide +kernel
theorem dX12_maskOf_106 : decode cX12_maskOf 106 = .ok (.isub, 1) := by decide +kernel
theorem dX12_maskOf_107 : decode cX12_maskOf 107 = .ok (.ishl, 1) := by decide +kernel
theorem dX12_maskOf_108 : decode cX12_maskOf 108 = .ok (.ior, 1) := by decide +kernel
theorem dX12_maskOf_109 : decode cX12_maskOf 109 = .ok (.goto 5, 3) := by decide +kernel
theorem dX12_maskOf_112 : decode cX12_maskOf 112 = .ok (.iload 4, 2) := by decide +kernel
theorem dX12_maskOf_114 : decode cX12_maskOf 114 = .ok (.istore 4, 2) := by decide +kernel
theorem dX12_maskOf_116 : decode cX12_maskOf 116 = .ok (.iinc 7 1, 3) := by decide +kernel
theorem dX12_maskOf_119 : decode cX12_maskOf 119 = .ok (.goto (-86), 3) := by decide +kernel
theorem dX12_maskOf_122 : decode cX12_maskOf 122 = .ok (.iinc 6 1, 3) := by decide +kernel
theorem dX12_maskOf_125 : decode cX12_maskOf 125 = .ok (.goto (-107), 3) := by decide +kernel
theorem dX12_maskOf_128 : decode cX12_maskOf 128 = .ok (.iinc 5 1, 3) := by decide +kernel
theorem dX12_maskOf_131 : decode cX12_maskOf 131 = .ok (.goto (-125), 3) := by decide +kernel
theorem dX12_maskOf_134 : decode cX12_maskOf 134 = .ok (.iload 4, 2) := by decide +kernel
theorem dX12_maskOf_136 : decode cX12_maskOf 136 = .ok (.ireturn, 1) := by decide +kernel
theorem dX12_begin_0 : decode cX12_begin 0 = .ok (.aload_n 0, 1) := by decide +kernel
theorem dX12_begin_1 : decode cX12_begin 1 = .ok (.iconst 0, 1) := by decide +kernel
theorem dX12_begin_2 : decode cX12_begin 2 = .ok (.putfield 172, 3) := by decide +kernel
theorem dX12_begin_5 : decode cX12_begin 5 = .ok (.aload_n 0, 1) := by decide +kernel
theorem dX12_begin_6 : decode cX12_begin 6 = .ok (.iconst 0, 1) := by decide +kernel
theorem dX12_begin_7 : decode cX12_begin 7 = .ok (.putfield 175, 3) := by decide +kernel
theorem dX12_begin_10 : decode cX12_begin 10 = .ok (.iconst 0, 1) := by decide +kernel
theorem dX12_begin_11 : decode cX12_begin 11 = .ok (.istore_n 1, 1) := by decide +kernel
theorem dX12_begin_12 : decode cX12_begin 12 = .ok (.iload_n 1, 1) := by decide +kernel
theorem dX12_begin_13 : decode cX12_begin 13 = .ok (.sipush 192, 3) := by decide +kernel
theorem dX12_begin_16 : decode cX12_begin 16 = .ok (.if_icmp .ge 23, 3) := by decide +kernel
theorem dX12_begin_19 : decode cX12_begin 19 = .ok (.aload_n 0, 1) := by decide +kernel
theorem dX12_begin_20 : decode cX12_begin 20 = .ok (.getfield 39, 3) := by decide +kernel
theorem dX12_begin_23 : decode cX12_begin 23 = .ok (.iload_n 1, 1) := by decide +kernel
theorem dX12_begin_24 : decode cX12_begin 24 = .ok (.iconst 0, 1) := by decide +kernel
theorem dX12_begin_25 : decode cX12_begin 25 = .ok (.iastore, 1) := by decide +kernel
theorem dX12_begin_26 : decode cX12_begin 26 = .ok (.aload_n 0, 1) := by decide +kernel
theorem dX12_begin_27 : decode cX12_begin 27 = .ok (.getfield 42, 3) := by decide +kernel
theorem dX12_begin_30 : decode cX12_begin 30 = .ok (.iload_n 1, 1) := by decide +kernel
theorem dX12_begin_31 : decode cX12_begin 31 = .ok (.iconst (-1), 1) := by decide +kernel
theorem dX12_begin_32 : decode cX12_begin 32 = .ok (.iastore, 1) := by decide +kernel
theorem dX12_begin_33 : decode cX12_begin 33 = .ok (.iinc 1 1, 3) := by decide +kernel
theorem dX12_begin_36 : decode cX12_begin 36 = .ok (.goto (-24), 3) := by decide +kernel
theorem dX12_begin_39 : decode cX12_begin 39 = .ok (.iconst 0, 1) := by decide +kernel
theorem dX12_begin_40 : decode cX12_begin 40 = .ok (.istore_n 1, 1) := by decide +kernel
theorem dX12_begin_41 : decode cX12_begin 41 = .ok (.iload_n 1, 1) := by decide +kernel
theorem dX12_begin_42 : decode cX12_begin 42 = .ok (.bipush 15, 2) := by decide +kernel
theorem dX12_begin_44 : decode cX12_begin 44 = .ok (.if_icmp .ge 16, 3) := by decide +kernel
theorem dX12_begin_47 : decode cX12_begin 47 = .ok (.aload_n 0, 1) := by decide +kernel
theorem dX12_begin_48 : decode cX12_begin 48 = .ok (.getfield 45, 3) := by decide +kernel
theorem dX12_begin_51 : decode cX12_begin 51 = .ok (.iload_n 1, 1) := by decide +kernel
theorem dX12_begin_52 : decode cX12_begin 52 = .ok (.iconst 0, 1) := by decide +kernel
theorem dX12_begin_53 : decode cX12_begin 53 = .ok (.iastore, 1) := by decide +kernel
theorem dX12_begin_54 : decode cX12_begin 54 = .ok (.iinc 1 1, 3) := by decide +kernel
theorem dX12_begin_57 : decode cX12_begin 57 = .ok (.goto (-16), 3) := by decide +kernel
theorem dX12_begin_60 : decode cX12_begin 60 = .ok (.iconst 0, 1) := by decide +kernel
theorem dX12_begin_61 : decode cX12_begin 61 = .ok (.istore_n 1, 1) := by decide +kernel
theorem dX12_begin_62 : decode cX12_begin 62 = .ok (.iload_n 1, 1) := by decide +kernel
theorem dX12_begin_63 : decode cX12_begin 63 = .ok (.aload_n 0, 1) := by decide +kernel
theorem dX12_begin_64 : decode cX12_begin 64 = .ok (.getfield 107, 3) := by decide +kernel
theorem dX12_begin_67 : decode cX12_begin 67 = .ok (.if_icmp .ge 108, 3) := by decide +kernel
theorem dX12_begin_70 : decode cX12_begin 70 = .ok (.aload_n 0, 1) := by decide +kernel
theorem dX12_begin_71 : decode cX12_begin 71 = .ok (.getfield 17, 3) := by decide +kernel
theorem dX12_begin_74 : decode cX12_begin 74 = .ok (.iload_n 1, 1) := by decide +kernel
theorem dX12_begin_75 : decode cX12_begin 75 = .ok (.iaload, 1) := by decide +kernel
theorem dX12_begin_76 : decode cX12_begin 76 = .ok (.iconst 1, 1) := by decide +kernel
theorem dX12_begin_77 : decode cX12_begin 77 = .ok (.if_icmp .ne 41, 3) := by decide +kernel
theorem dX12_begin_80 : decode cX12_begin 80 = .ok (.aload_n 0, 1) := by decide +kernel
theorem dX12_begin_81 : decode cX12_begin 81 = .ok (.getfield 48, 3) := by decide +kernel
theorem dX12_begin_84 : decode cX12_begin 84 = .ok (.aload_n 0, 1) := by decide +kernel
theorem dX12_begin_85 : decode cX12_begin 85 = .ok (.getfield 172, 3) := by decide +kernel
theorem dX12_begin_88 : decode cX12_begin 88 = .ok (.aload_n 0, 1) := by decide +kernel
theorem dX12_begin_89 : decode cX12_begin 89 = .ok (.iload_n 1, 1) := by decide +kernel
theorem dX12_begin_90 : decode cX12_begin 90 = .ok (.iconst 0, 1) := by decide +kernel
theorem dX12_begin_91 : decode cX12_begin 91 = .ok (.invokevirtual 124, 3) := by decide +kernel
theorem dX12_begin_94 : decode cX12_begin 94 = .ok (.iastore, 1) := by decide +kernel
theorem dX12_begin_95 : decode cX12_begin 95 = .ok (.aload_n 0, 1) := by decide +kernel
theorem dX12_begin_96 : decode cX12_begin 96 = .ok (.getfield 36, 3) := by decide +kernel
theorem dX12_begin_99 : decode cX12_begin 99 = .ok (.aload_n 0, 1) := by decide +kernel
theorem dX12_begin_100 : decode cX12_begin 100 = .ok (.getfield 172, 3) := by decide +kernel
theorem dX12_begin_103 : decode cX12_begin 103 = .ok (.iconst 0, 1) := by decide +kernel
theorem dX12_begin_104 : decode cX12_begin 104 = .ok (.iastore, 1) := by decide +kernel
theorem dX12_begin_105 : decode cX12_begin 105 = .ok (.aload_n 0, 1) := by decide +kernel
theorem dX12_begin_106 : decode cX12_begin 106 = .ok (.dup, 1) := by decide +kernel
theorem dX12_begin_107 : decode cX12_begin 107 = .ok (.getfield 172, 3) := by decide +kernel
theorem dX12_begin_110 : decode cX12_begin 110 = .ok (.iconst 1, 1) := by decide +kernel
theorem dX12_begin_111 : decode cX12_begin 111 = .ok (.iadd, 1) := by decide +kernel
theorem dX12_begin_112 : decode cX12_begin 112 = .ok (.putfield 172, 3) := by decide +kernel
theorem dX12_begin_115 : decode cX12_begin 115 = .ok (.goto 54, 3) := by decide +kernel
theorem dX12_begin_118 : decode cX12_begin 118 = .ok (.aload_n 0, 1) := by decide +kernel
theorem dX12_begin_119 : decode cX12_begin 119 = .ok (.getfield 17, 3) := by decide +kernel
theorem dX12_begin_122 : decode cX12_begin 122 = .ok (.iload_n 1, 1) := by decide +kernel
theorem dX12_begin_123 : decode cX12_begin 123 = .ok (.iaload, 1) := by decide +kernel
theorem dX12_begin_124 : decode cX12_begin 124 = .ok (.ifCond .ne 45, 3) := by decide +kernel
theorem dX12_begin_127 : decode cX12_begin 127 = .ok (.aload_n 0, 1) := by decide +kernel
theorem dX12_begin_128 : decode cX12_begin 128 = .ok (.getfield 51, 3) := by decide +kernel
theorem dX12_begin_131 : decode cX12_begin 131 = .ok (.aload_n 0, 1) := by decide +kernel
theorem dX12_begin_132 : decode cX12_begin 132 = .ok (.getfield 175, 3) := by decide +kernel
theorem dX12_begin_135 : decode cX12_begin 135 = .ok (.aload_n 0, 1) := by decide +kernel
theorem dX12_begin_136 : decode cX12_begin 136 = .ok (.iload_n 1, 1) := by decide +kernel
theorem dX12_begin_137 : decode cX12_begin 137 = .ok (.iconst 0, 1) := by decide +kernel
theorem dX12_begin_138 : decode cX12_begin 138 = .ok (.invokevirtual 124, 3) := by decide +kernel
theorem dX12_begin_141 : decode cX12_begin 141 = .ok (.iastore, 1) := by decide +kernel
theorem dX12_begin_142 : decode cX12_begin 142 = .ok (.aload_n 0, 1) := by decide +kernel
theorem dX12_begin_143 : decode cX12_begin 143 = .ok (.getfield 33, 3) := by decide +kernel
theorem dX12_begin_146 : decode cX12_begin 146 = .ok (.aload_n 0, 1) := by decide +kernel
theorem dX12_begin_147 : decode cX12_begin 147 = .ok (.getfield 175, 3) := by decide +kernel
theorem dX12_begin_150 : decode cX12_begin 150 = .ok (.aload_n 0, 1) := by decide +kernel
theorem dX12_begin_151 : decode cX12_begin 151 = .ok (.getfield 21, 3) := by decide +kernel
theorem dX12_begin_154 : decode cX12_begin 154 = .ok (.iload_n 1, 1) := by decide +kernel
theorem dX12_begin_155 : decode cX12_begin 155 = .ok (.iaload, 1) := by decide +kernel
theorem dX12_begin_156 : decode cX12_begin 156 = .ok (.iconst 1, 1) := by decide +kernel
theorem dX12_begin_157 : decode cX12_begin 157 = .ok (.isub, 1) := by decide +kernel
theorem dX12_begin_158 : decode cX12_begin 158 = .ok (.iastore, 1) := by decide +kernel
theorem dX12_begin_159 : decode cX12_begin 159 = .ok (.aload_n 0, 1) := by decide +kernel
theorem dX12_begin_160 : decode cX12_begin 160 = .ok (.dup, 1) := by decide +kernel
theorem dX12_begin_161 : decode cX12_begin 161 = .ok (.getfield 175, 3) := by decide +kernel
theorem dX12_begin_164 : decode cX12_begin 164 = .ok (.iconst 1, 1) := by decide +kernel
theorem dX12_begin_165 : decode cX12_begin 165 = .ok (.iadd, 1) := by decide +kernel
theorem dX12_begin_166 : decode cX12_begin 166 = .ok (.putfield 175, 3) := by decide +kernel
theorem dX12_begin_169 : decode cX12_begin 169 = .ok (.iinc 1 1, 3) := by decide +kernel
theorem dX12_begin_172 : decode cX12_begin 172 = .ok (.goto (-110), 3) := by decide +kernel
theorem dX12_begin_175 : decode cX12_begin 175 = .ok (.return_, 1) := by decide +kernel
theorem dX12_put_0 : decode cX12_put 0 = .ok (.aload_n 0, 1) := by decide +kernel
theorem dX12_put_1 : decode cX12_put 1 = .ok (.iload_n 1, 1) := by decide +kernel
theorem dX12_put_2 : decode cX12_put 2 = .ok (.iconst 0, 1) := by decide +kernel
theorem dX12_put_3 : decode cX12_put 3 = .ok (.invokevirtual 124, 3) := by decide +kernel
theorem dX12_put_6 : decode cX12_put 6 = .ok (.istore_n 2, 1) := by decide +kernel
theorem dX12_put_7 : decode cX12_put 7 = .ok (.aload_n 0, 1) := by decide +kernel
theorem dX12_put_8 : decode cX12_put 8 = .ok (.getfield 17, 3) := by decide +kernel
theorem dX12_put_11 : decode cX12_put 11 = .ok (.iload_n 1, 1) := by decide +kernel
theorem dX12_put_12 : decode cX12_put 12 = .ok (.iaload, 1) := by decide +kernel
theorem dX12_put_13 : decode cX12_put 13 = .ok (.iconst 2, 1) := by decide +kernel
theorem dX12_put_14 : decode cX12_put 14 = .ok (.if_icmp .ne 123, 3) := by decide +kernel
theorem dX12_put_17 : decode cX12_put 17 = .ok (.aload_n 0, 1) := by decide +kernel
theorem dX12_put_18 : decode cX12_put 18 = .ok (.aload_n 0, 1) := by decide +kernel
theorem dX12_put_19 : decode cX12_put 19 = .ok (.iload_n 1, 1) := by decide +kernel
theorem dX12_put_20 : decode cX12_put 20 = .ok (.iconst 2, 1) := by decide +kernel
theorem dX12_put_21 : decode cX12_put 21 = .ok (.invokevirtual 124, 3) := by decide +kernel
theorem dX12_put_24 : decode cX12_put 24 = .ok (.invokevirtual 178, 3) := by decide +kernel
theorem dX12_put_27 : decode cX12_put 27 = .ok (.istore_n 3, 1) := by decide +kernel
theorem dX12_put_28 : decode cX12_put 28 = .ok (.aload_n 0, 1) := by decide +kernel
theorem dX12_put_29 : decode cX12_put 29 = .ok (.iload_n 1, 1) := by decide +kernel
theorem dX12_put_30 : decode cX12_put 30 = .ok (.iconst 3, 1) := by decide +kernel
theorem dX12_put_31 : decode cX12_put 31 = .ok (.iload_n 3, 1) := by decide +kernel
theorem dX12_put_32 : decode cX12_put 32 = .ok (.invokevirtual 181, 3) := by decide +kernel
theorem dX12_put_35 : decode cX12_put 35 = .ok (.istore 4, 2) := by decide +kernel
theorem dX12_put_37 : decode cX12_put 37 = .ok (.iconst 0, 1) := by decide +kernel
theorem dX12_put_38 : decode cX12_put 38 = .ok (.istore 5, 2) := by decide +kernel
theorem dX12_put_40 : decode cX12_put 40 = .ok (.iload 5, 2) := by decide +kernel
theorem dX12_put_42 : decode cX12_put 42 = .ok (.aload_n 0, 1) := by decide +kernel
theorem dX12_put_43 : decode cX12_put 43 = .ok (.getfield 172, 3) := by decide +kernel
theorem dX12_put_46 : decode cX12_put 46 = .ok (.aload_n 0, 1) := by decide +kernel
theorem dX12_put_47 : decode cX12_put 47 = .ok (.getfield 172, 3) := by decide +kernel
theorem dX12_put_50 : decode cX12_put 50 = .ok (.imul, 1) := by decide +kernel
theorem dX12_put_51 : decode cX12_put 51 = .ok (.if_icmp .ge 83, 3) := by decide +kernel
theorem dX12_put_54 : decode cX12_put 54 = .ok (.bipush 64, 2) := by decide +kernel
theorem dX12_put_56 : decode cX12_put 56 = .ok (.iload_n 3, 1) := by decide +kernel
theorem dX12_put_57 : decode cX12_put 57 = .ok (.imul, 1) := by decide +kernel
theorem dX12_put_58 : decode cX12_put 58 = .ok (.bipush 8, 2) := by decide +kernel
theorem dX12_put_60 : decode cX12_put 60 = .ok (.iload 5, 2) := by decide +kernel
theorem dX12_put_62 : decode cX12_put 62 = .ok (.aload_n 0, 1) := by decide +kernel
theorem dX12_put_63 : decode cX12_put 63 = .ok (.getfield 172, 3) := by decide +kernel
theorem dX12_put_66 : decode cX12_put 66 = .ok (.idiv, 1) := by decide +kernel
theorem dX12_put_67 : decode cX12_put 67 = .ok (.imul, 1) := by decide +kernel
theorem dX12_put_68 : decode cX12_put 68 = .ok (.iadd, 1) := by decide +kernel
theorem dX12_put_69 : decode cX12_put 69 = .ok (.iload 5, 2) := by decide +kernel
theorem dX12_put_71 : decode cX12_put 71 = .ok (.aload_n 0, 1) := by decide +kernel
theorem dX12_put_72 : decode cX12_put 72 = .ok (.getfield 172, 3) := by decide +kernel
theorem dX12_put_75 : decode cX12_put 75 = .ok (.irem, 1) := by decide +kernel
theorem dX12_put_76 : decode cX12_put 76 = .ok (.iadd, 1) := by decide +kernel
theorem dX12_put_77 : decode cX12_put 77 = .ok (.istore 6, 2) := by decide +kernel
theorem dX12_put_79 : decode cX12_put 79 = .ok (.aload_n 0, 1) := by decide +kernel
theorem dX12_put_80 : decode cX12_put 80 = .ok (.getfield 39, 3) := by decide +kernel
theorem dX12_put_83 : decode cX12_put 83 = .ok (.iload 6, 2) := by decide +kernel
theorem dX12_put_85 : decode cX12_put 85 = .ok (.aload_n 0, 1) := by decide +kernel
theorem dX12_put_86 : decode cX12_put 86 = .ok (.iload_n 1, 1) := by decide +kernel
theorem dX12_put_87 : decode cX12_put 87 = .ok (.iload 5, 2) := by decide +kernel
theorem dX12_put_89 : decode cX12_put 89 = .ok (.aload_n 0, 1) := by decide +kernel
theorem dX12_put_90 : decode cX12_put 90 = .ok (.getfield 172, 3) := by decide +kernel
theorem dX12_put_93 : decode cX12_put 93 = .ok (.idiv, 1) := by decide +kernel
theorem dX12_put_94 : decode cX12_put 94 = .ok (.iload 5, 2) := by decide +kernel
theorem dX12_put_96 : decode cX12_put 96 = .ok (.aload_n 0, 1) := by decide +kernel
theorem dX12_put_97 : decode cX12_put 97 = .ok (.getfield 172, 3) := by decide +kernel
theorem dX12_put_100 : decode cX12_put 100 = .ok (.irem, 1) := by decide +kernel
theorem dX12_put_101 : decode cX12_put 101 = .ok (.invokevirtual 169, 3) := by decide +kernel
theorem dX12_put_104 : decode cX12_put 104 = .ok (.ifCond .eq 16, 3) := by decide +kernel
theorem dX12_put_107 : decode cX12_put 107 = .ok (.aload_n 0, 1) := by decide +kernel
theorem dX12_put_108 : decode cX12_put 108 = .ok (.getfield 39, 3) := by decide +kernel
theorem dX12_put_111 : decode cX12_put 111 = .ok (.iload 6, 2) := by decide +kernel
theorem dX12_put_113 : decode cX12_put 113 = .ok (.iaload, 1) := by decide +kernel
theorem dX12_put_114 : decode cX12_put 114 = .ok (.iload 4, 2) := by decide +kernel
theorem dX12_put_116 : decode cX12_put 116 = .ok (.ior, 1) := by decide +kernel
theorem dX12_put_117 : decode cX12_put 117 = .ok (.goto 10, 3) := by decide +kernel
theorem dX12_put_120 : decode cX12_put 120 = .ok (.aload_n 0, 1) := by decide +kernel
theorem dX12_put_121 : decode cX12_put 121 = .ok (.getfield 39, 3) := by decide +kernel
theorem dX12_put_124 : decode cX12_put 124 = .ok (.iload 6, 2) := by decide +kernel
theorem dX12_put_126 : decode cX12_put 126 = .ok (.iaload, 1) := by decide +kernel
theorem dX12_put_127 : decode cX12_put 127 = .ok (.iastore, 1) := by decide +kernel
theorem dX12_put_128 : decode cX12_put 128 = .ok (.iinc 5 1, 3) := by decide +kernel
theorem dX12_put_131 : decode cX12_put 131 = .ok (.goto (-91), 3) := by decide +kernel
theorem dX12_put_134 : decode cX12_put 134 = .ok (.goto 173, 3) := by decide +kernel
theorem dX12_put_137 : decode cX12_put 137 = .ok (.aload_n 0, 1) := by decide +kernel
theorem dX12_put_138 : decode cX12_put 138 = .ok (.getfield 17, 3) := by decide +kernel
theorem dX12_put_141 : decode cX12_put 141 = .ok (.iload_n 1, 1) := by decide +kernel
theorem dX12_put_142 : decode cX12_put 142 = .ok (.iaload, 1) := by decide +kernel
theorem dX12_put_143 : decode cX12_put 143 = .ok (.iconst 4, 1) := by decide +kernel
theorem dX12_put_144 : decode cX12_put 144 = .ok (.if_icmp .ne 54, 3) := by decide +kernel
theorem dX12_put_147 : decode cX12_put 147 = .ok (.aload_n 0, 1) := by decide +kernel
theorem dX12_put_148 : decode cX12_put 148 = .ok (.getfield 42, 3) := by decide +kernel
theorem dX12_put_151 : decode cX12_put 151 = .ok (.bipush 64, 2) := by decide +kernel
theorem dX12_put_153 : decode cX12_put 153 = .ok (.aload_n 0, 1) := by decide +kernel
theorem dX12_put_154 : decode cX12_put 154 = .ok (.aload_n 0, 1) := by decide +kernel
theorem dX12_put_155 : decode cX12_put 155 = .ok (.iload_n 1, 1) := by decide +kernel
theorem dX12_put_156 : decode cX12_put 156 = .ok (.iconst 2, 1) := by decide +kernel
theorem dX12_put_157 : decode cX12_put 157 = .ok (.invokevirtual 124, 3) := by decide +kernel
theorem dX12_put_160 : decode cX12_put 160 = .ok (.invokevirtual 178, 3) := by decide +kernel
theorem dX12_put_163 : decode cX12_put 163 = .ok (.imul, 1) := by decide +kernel
theorem dX12_put_164 : decode cX12_put 164 = .ok (.bipush 8, 2) := by decide +kernel
theorem dX12_put_166 : decode cX12_put 166 = .ok (.aload_n 0, 1) := by decide +kernel
theorem dX12_put_167 : decode cX12_put 167 = .ok (.iload_n 2, 1) := by decide +kernel
theorem dX12_put_168 : decode cX12_put 168 = .ok (.invokevirtual 184, 3) := by decide +kernel
theorem dX12_put_171 : decode cX12_put 171 = .ok (.imul, 1) := by decide +kernel
theorem dX12_put_172 : decode cX12_put 172 = .ok (.iadd, 1) := by decide +kernel
theorem dX12_put_173 : decode cX12_put 173 = .ok (.aload_n 0, 1) := by decide +kernel
theorem dX12_put_174 : decode cX12_put 174 = .ok (.aload_n 0, 1) := by decide +kernel
theorem dX12_put_175 : decode cX12_put 175 = .ok (.iload_n 1, 1) := by decide +kernel
theorem dX12_put_176 : decode cX12_put 176 = .ok (.iconst 1, 1) := by decide +kernel
theorem dX12_put_177 : decode cX12_put 177 = .ok (.invokevirtual 124, 3) := by decide +kernel
theorem dX12_put_180 : decode cX12_put 180 = .ok (.invokevirtual 184, 3) := by decide +kernel
theorem dX12_put_183 : decode cX12_put 183 = .ok (.iadd, 1) := by decide +kernel
theorem dX12_put_184 : decode cX12_put 184 = .ok (.aload_n 0, 1) := by decide +kernel
theorem dX12_put_185 : decode cX12_put 185 = .ok (.aload_n 0, 1) := by decide +kernel
theorem dX12_put_186 : decode cX12_put 186 = .ok (.iload_n 1, 1) := by decide +kernel
theorem dX12_put_187 : decode cX12_put 187 = .ok (.iconst 3, 1) := by decide +kernel
theorem dX12_put_188 : decode cX12_put 188 = .ok (.invokevirtual 124, 3) := by decide +kernel
theorem dX12_put_191 : decode cX12_put 191 = .ok (.invokevirtual 184, 3) := by decide +kernel
theorem dX12_put_194 : decode cX12_put 194 = .ok (.iastore, 1) := by decide +kernel
theorem dX12_put_195 : decode cX12_put 195 = .ok (.goto 112, 3) := by decide +kernel
theorem dX12_put_198 : decode cX12_put 198 = .ok (.aload_n 0, 1) := by decide +kernel
theorem dX12_put_199 : decode cX12_put 199 = .ok (.getfield 17, 3) := by decide +kernel
theorem dX12_put_202 : decode cX12_put 202 = .ok (.iload_n 1, 1) := by decide +kernel
theorem dX12_put_203 : decode cX12_put 203 = .ok (.iaload, 1) := by decide +kernel
theorem dX12_put_204 : decode cX12_put 204 = .ok (.iconst 5, 1) := by decide +kernel
theorem dX12_put_205 : decode cX12_put 205 = .ok (.if_icmp .ne 22, 3) := by decide +kernel
theorem dX12_put_208 : decode cX12_put 208 = .ok (.aload_n 0, 1) := by decide +kernel
theorem dX12_put_209 : decode cX12_put 209 = .ok (.getfield 36, 3) := by decide +kernel
theorem dX12_put_212 : decode cX12_put 212 = .ok (.aload_n 0, 1) := by decide +kernel
theorem dX12_put_213 : decode cX12_put 213 = .ok (.iload_n 2, 1) := by decide +kernel
theorem dX12_put_214 : decode cX12_put 214 = .ok (.invokevirtual 184, 3) := by decide +kernel
theorem dX12_put_217 : decode cX12_put 217 = .ok (.aload_n 0, 1) := by decide +kernel
theorem dX12_put_218 : decode cX12_put 218 = .ok (.getfield 27, 3) := by decide +kernel
theorem dX12_put_221 : decode cX12_put 221 = .ok (.iload_n 1, 1) := by decide +kernel
theorem dX12_put_222 : decode cX12_put 222 = .ok (.iaload, 1) := by decide +kernel
theorem dX12_put_223 : decode cX12_put 223 = .ok (.iastore, 1) := by decide +kernel
theorem dX12_put_224 : decode cX12_put 224 = .ok (.goto 83, 3) := by decide +kernel
theorem dX12_put_227 : decode cX12_put 227 = .ok (.aload_n 0, 1) := by decide +kernel
theorem dX12_put_228 : decode cX12_put 228 = .ok (.getfield 17, 3) := by decide +kernel
theorem dX12_put_231 : decode cX12_put 231 = .ok (.iload_n 1, 1) := by decide +kernel
theorem dX12_put_232 : decode cX12_put 232 = .ok (.iaload, 1) := by decide +kernel
theorem dX12_put_233 : decode cX12_put 233 = .ok (.iconst 5, 1) := by decide +kernel
theorem dX12_put_234 : decode cX12_put 234 = .ok (.if_icmp .le 73, 3) := by decide +kernel
theorem dX12_put_237 : decode cX12_put 237 = .ok (.aload_n 0, 1) := by decide +kernel
theorem dX12_put_238 : decode cX12_put 238 = .ok (.iload_n 2, 1) := by decide +kernel
theorem dX12_put_239 : decode cX12_put 239 = .ok (.invokevirtual 178, 3) := by decide +kernel
theorem dX12_put_242 : decode cX12_put 242 = .ok (.istore_n 3, 1) := by decide +kernel
theorem dX12_put_243 : decode cX12_put 243 = .ok (.iconst 5, 1) := by decide +kernel
theorem dX12_put_244 : decode cX12_put 244 = .ok (.iload_n 3, 1) := by decide +kernel
theorem dX12_put_245 : decode cX12_put 245 = .ok (.imul, 1) := by decide +kernel
theorem dX12_put_246 : decode cX12_put 246 = .ok (.aload_n 0, 1) := by decide +kernel
theorem dX12_put_247 : decode cX12_put 247 = .ok (.getfield 17, 3) := by decide +kernel
theorem dX12_put_250 : decode cX12_put 250 = .ok (.iload_n 1, 1) := by decide +kernel
theorem dX12_put_251 : decode cX12_put 251 = .ok (.iaload, 1) := by decide +kernel
theorem dX12_put_252 : decode cX12_put 252 = .ok (.bipush 6, 2) := by decide +kernel
theorem dX12_put_254 : decode cX12_put 254 = .ok (.if_icmp .ne 12, 3) := by decide +kernel
theorem dX12_put_257 : decode cX12_put 257 = .ok (.aload_n 0, 1) := by decide +kernel
theorem dX12_put_258 : decode cX12_put 258 = .ok (.getfield 27, 3) := by decide +kernel
theorem dX12_put_261 : decode cX12_put 261 = .ok (.iload_n 1, 1) := by decide +kernel
theorem dX12_put_262 : decode cX12_put 262 = .ok (.iaload, 1) := by decide +kernel
theorem dX12_put_263 : decode cX12_put 263 = .ok (.goto 19, 3) := by decide +kernel
theorem dX12_put_266 : decode cX12_put 266 = .ok (.aload_n 0, 1) := by decide +kernel
theorem dX12_put_267 : decode cX12_put 267 = .ok (.getfield 17, 3) := by decide +kernel
theorem dX12_put_270 : decode cX12_put 270 = .ok (.iload_n 1, 1) := by decide +kernel
theorem dX12_put_271 : decode cX12_put 271 = .ok (.iaload, 1) := by decide +kernel
theorem dX12_put_272 : decode cX12_put 272 = .ok (.bipush 7, 2) := by decide +kernel
theorem dX12_put_274 : decode cX12_put 274 = .ok (.if_icmp .ne 7, 3) := by decide +kernel
theorem dX12_put_277 : decode cX12_put 277 = .ok (.iconst 3, 1) := by decide +kernel
theorem dX12_put_278 : decode cX12_put 278 = .ok (.goto 4, 3) := by decide +kernel
theorem dX12_put_281 : decode cX12_put 281 = .ok (.iconst 4, 1) := by decide +kernel
theorem dX12_put_282 : decode cX12_put 282 = .ok (.iadd, 1) := by decide +kernel
theorem dX12_put_283 : decode cX12_put 283 = .ok (.istore 4, 2) := by decide +kernel
theorem dX12_put_285 : decode cX12_put 285 = .ok (.aload_n 0, 1) := by decide +kernel
theorem dX12_put_286 : decode cX12_put 286 = .ok (.getfield 45, 3) := by decide +kernel
theorem dX12_put_289 : decode cX12_put 289 = .ok (.iload 4, 2) := by decide +kernel
theorem dX12_put_291 : decode cX12_put 291 = .ok (.aload_n 0, 1) := by decide +kernel
theorem dX12_put_292 : decode cX12_put 292 = .ok (.getfield 45, 3) := by decide +kernel
theorem dX12_put_295 : decode cX12_put 295 = .ok (.iload 4, 2) := by decide +kernel
theorem dX12_put_297 : decode cX12_put 297 = .ok (.iaload, 1) := by decide +kernel
theorem dX12_put_298 : decode cX12_put 298 = .ok (.aload_n 0, 1) := by decide +kernel
theorem dX12_put_299 : decode cX12_put 299 = .ok (.iload_n 1, 1) := by decide +kernel
theorem dX12_put_300 : decode cX12_put 300 = .ok (.iconst 1, 1) := by decide +kernel
theorem dX12_put_301 : decode cX12_put 301 = .ok (.iload_n 3, 1) := by decide +kernel
theorem dX12_put_302 : decode cX12_put 302 = .ok (.invokevirtual 181, 3) := by decide +kernel
theorem dX12_put_305 : decode cX12_put 305 = .ok (.ior, 1) := by decide +kernel
theorem dX12_put_306 : decode cX12_put 306 = .ok (.iastore, 1) := by decide +kernel
theorem dX12_put_307 : decode cX12_put 307 = .ok (.return_, 1) := by decide +kernel
theorem dX12_accept_0 : decode cX12_accept 0 = .ok (.aload_n 0, 1) := by decide +kernel
theorem dX12_accept_1 : decode cX12_accept 1 = .ok (.invokevirtual 187, 3) := by decide +kernel
theorem dX12_accept_4 : decode cX12_accept 4 = .ok (.istore_n 1, 1) := by decide +kernel
theorem dX12_accept_5 : decode cX12_accept 5 = .ok (.iload_n 1, 1) := by decide +kernel
theorem dX12_accept_6 : decode cX12_accept 6 = .ok (.ifCond .ge 10, 3) := by decide +kernel
theorem dX12_accept_9 : decode cX12_accept 9 = .ok (.aload_n 0, 1) := by decide +kernel
theorem dX12_accept_10 : decode cX12_accept 10 = .ok (.invokevirtual 190, 3) := by decide +kernel
theorem dX12_accept_13 : decode cX12_accept 13 = .ok (.goto 4, 3) := by decide +kernel
theorem dX12_accept_16 : decode cX12_accept 16 = .ok (.iconst (-1), 1) := by decide +kernel
theorem dX12_accept_17 : decode cX12_accept 17 = .ok (.istore_n 2, 1) := by decide +kernel
theorem dX12_accept_18 : decode cX12_accept 18 = .ok (.aload_n 0, 1) := by decide +kernel
theorem dX12_accept_19 : decode cX12_accept 19 = .ok (.iload_n 1, 1) := by decide +kernel
theorem dX12_accept_20 : decode cX12_accept 20 = .ok (.ifCond .lt 7, 3) := by decide +kernel
theorem dX12_accept_23 : decode cX12_accept 23 = .ok (.iload_n 1, 1) := by decide +kernel
theorem dX12_accept_24 : decode cX12_accept 24 = .ok (.goto 4, 3) := by decide +kernel
theorem dX12_accept_27 : decode cX12_accept 27 = .ok (.iload_n 2, 1) := by decide +kernel
theorem dX12_accept_28 : decode cX12_accept 28 = .ok (.putfield 30, 3) := by decide +kernel
theorem dX12_accept_31 : decode cX12_accept 31 = .ok (.aload_n 0, 1) := by decide +kernel
theorem dX12_accept_32 : decode cX12_accept 32 = .ok (.iload_n 1, 1) := by decide +kernel
theorem dX12_accept_33 : decode cX12_accept 33 = .ok (.ifCond .lt 7, 3) := by decide +kernel
theorem dX12_accept_36 : decode cX12_accept 36 = .ok (.iconst 1, 1) := by decide +kernel
theorem dX12_accept_37 : decode cX12_accept 37 = .ok (.goto 12, 3) := by decide +kernel
theorem dX12_accept_40 : decode cX12_accept 40 = .ok (.iload_n 2, 1) := by decide +kernel
theorem dX12_accept_41 : decode cX12_accept 41 = .ok (.ifCond .lt 7, 3) := by decide +kernel
theorem dX12_accept_44 : decode cX12_accept 44 = .ok (.iconst 2, 1) := by decide +kernel
theorem dX12_accept_45 : decode cX12_accept 45 = .ok (.goto 4, 3) := by decide +kernel
theorem dX12_accept_48 : decode cX12_accept 48 = .ok (.iconst 0, 1) := by decide +kernel
theorem dX12_accept_49 : decode cX12_accept 49 = .ok (.putfield 76, 3) := by decide +kernel
theorem dX12_accept_52 : decode cX12_accept 52 = .ok (.aload_n 0, 1) := by decide +kernel
theorem dX12_accept_53 : decode cX12_accept 53 = .ok (.getfield 76, 3) := by decide +kernel
theorem dX12_accept_56 : decode cX12_accept 56 = .ok (.ifCond .le 5, 3) := by decide +kernel
theorem dX12_accept_59 : decode cX12_accept 59 = .ok (.iconst 0, 1) := by decide +kernel
theorem dX12_accept_60 : decode cX12_accept 60 = .ok (.ireturn, 1) := by decide +kernel
theorem dX12_accept_61 : decode cX12_accept 61 = .ok (.aload_n 0, 1) := by decide +kernel
theorem dX12_accept_62 : decode cX12_accept 62 = .ok (.invokevirtual 193, 3) := by decide +kernel
theorem dX12_accept_65 : decode cX12_accept 65 = .ok (.iconst 0, 1) := by decide +kernel
theorem dX12_accept_66 : decode cX12_accept 66 = .ok (.istore_n 3, 1) := by decide +kernel
theorem dX12_accept_67 : decode cX12_accept 67 = .ok (.iload_n 3, 1) := by decide +kernel
theorem dX12_accept_68 : decode cX12_accept 68 = .ok (.aload_n 0, 1) := by decide +kernel
theorem dX12_accept_69 : decode cX12_accept 69 = .ok (.getfield 107, 3) := by decide +kernel
theorem dX12_accept_72 : decode cX12_accept 72 = .ok (.if_icmp .ge 14, 3) := by decide +kernel
theorem dX12_accept_75 : decode cX12_accept 75 = .ok (.aload_n 0, 1) := by decide +kernel
theorem dX12_accept_76 : decode cX12_accept 76 = .ok (.iload_n 3, 1) := by decide +kernel
theorem dX12_accept_77 : decode cX12_accept 77 = .ok (.invokevirtual 196, 3) := by decide +kernel
theorem dX12_accept_80 : decode cX12_accept 80 = .ok (.iinc 3 1, 3) := by decide +kernel
theorem dX12_accept_83 : decode cX12_accept 83 = .ok (.goto (-16), 3) := by decide +kernel
theorem dX12_accept_86 : decode cX12_accept 86 = .ok (.aload_n 0, 1) := by decide +kernel
theorem dX12_accept_87 : decode cX12_accept 87 = .ok (.iconst 0, 1) := by decide +kernel
theorem dX12_accept_88 : decode cX12_accept 88 = .ok (.putfield 200, 3) := by decide +kernel
theorem dX12_accept_91 : decode cX12_accept 91 = .ok (.aload_n 0, 1) := by decide +kernel
theorem dX12_accept_92 : decode cX12_accept 92 = .ok (.getfield 172, 3) := by decide +kernel
theorem dX12_accept_95 : decode cX12_accept 95 = .ok (.ireturn, 1) := by decide +kernel
theorem dX12_fault_0 : decode cX12_fault 0 = .ok (.aload_n 0, 1) := by decide +kernel
theorem dX12_fault_1 : decode cX12_fault 1 = .ok (.iconst 0, 1) := by decide +kernel
theorem dX12_fault_2 : decode cX12_fault 2 = .ok (.putfield 76, 3) := by decide +kernel
theorem dX12_fault_5 : decode cX12_fault 5 = .ok (.aload_n 0, 1) := by decide +kernel
theorem dX12_fault_6 : decode cX12_fault 6 = .ok (.getfield 30, 3) := by decide +kernel
theorem dX12_fault_9 : decode cX12_fault 9 = .ok (.ireturn, 1) := by decide +kernel
theorem dX12_worked_0 : decode cX12_worked 0 = .ok (.aload_n 0, 1) := by decide +kernel
theorem dX12_worked_1 : decode cX12_worked 1 = .ok (.getfield 39, 3) := by decide +kernel
theorem dX12_worked_4 : decode cX12_worked 4 = .ok (.bipush 64, 2) := by decide +kernel
theorem dX12_worked_6 : decode cX12_worked 6 = .ok (.iload_n 3, 1) := by decide +kernel
theorem dX12_worked_7 : decode cX12_worked 7 = .ok (.imul, 1) := by decide +kernel
theorem dX12_worked_8 : decode cX12_worked 8 = .ok (.bipush 8, 2) := by decide +kernel
theorem dX12_worked_10 : decode cX12_worked 10 = .ok (.iload_n 1, 1) := by decide +kernel
theorem dX12_worked_11 : decode cX12_worked 11 = .ok (.imul, 1) := by decide +kernel
theorem dX12_worked_12 : decode cX12_worked 12 = .ok (.iadd, 1) := by decide +kernel
theorem dX12_worked_13 : decode cX12_worked 13 = .ok (.iload_n 2, 1) := by decide +kernel
theorem dX12_worked_14 : decode cX12_worked 14 = .ok (.iadd, 1) := by decide +kernel
theorem dX12_worked_15 : decode cX12_worked 15 = .ok (.iaload, 1) := by decide +kernel
theorem dX12_worked_16 : decode cX12_worked 16 = .ok (.istore 4, 2) := by decide +kernel
theorem dX12_worked_18 : decode cX12_worked 18 = .ok (.aload_n 0, 1) := by decide +kernel
theorem dX12_worked_19 : decode cX12_worked 19 = .ok (.getfield 36, 3) := by decide +kernel
theorem dX12_worked_22 : decode cX12_worked 22 = .ok (.iload_n 1, 1) := by decide +kernel
theorem dX12_worked_23 : decode cX12_worked 23 = .ok (.iaload, 1) := by decide +kernel
theorem dX12_worked_24 : decode cX12_worked 24 = .ok (.aload_n 0, 1) := by decide +kernel
theorem dX12_worked_25 : decode cX12_worked 25 = .ok (.getfield 36, 3) := by decide +kernel
theorem dX12_worked_28 : decode cX12_worked 28 = .ok (.iload_n 2, 1) := by decide +kernel
theorem dX12_worked_29 : decode cX12_worked 29 = .ok (.iaload, 1) := by decide +kernel
theorem dX12_worked_30 : decode cX12_worked 30 = .ok (.if_icmp .ge 19, 3) := by decide +kernel
theorem dX12_worked_33 : decode cX12_worked 33 = .ok (.iload 4, 2) := by decide +kernel
theorem dX12_worked_35 : decode cX12_worked 35 = .ok (.aload_n 0, 1) := by decide +kernel
theorem dX12_worked_36 : decode cX12_worked 36 = .ok (.getfield 45, 3) := by decide +kernel
theorem dX12_worked_39 : decode cX12_worked 39 = .ok (.iconst 5, 1) := by decide +kernel
theorem dX12_worked_40 : decode cX12_worked 40 = .ok (.iload_n 3, 1) := by decide +kernel
theorem dX12_worked_41 : decode cX12_worked 41 = .ok (.imul, 1) := by decide +kernel
theorem dX12_worked_42 : decode cX12_worked 42 = .ok (.iaload, 1) := by decide +kernel
theorem dX12_worked_43 : decode cX12_worked 43 = .ok (.iconst (-1), 1) := by decide +kernel
theorem dX12_worked_44 : decode cX12_worked 44 = .ok (.ixor, 1) := by decide +kernel
theorem dX12_worked_45 : decode cX12_worked 45 = .ok (.iand, 1) := by decide +kernel
theorem dX12_worked_46 : decode cX12_worked 46 = .ok (.goto 5, 3) := by decide +kernel
theorem dX12_worked_49 : decode cX12_worked 49 = .ok (.iload 4, 2) := by decide +kernel
theorem dX12_worked_51 : decode cX12_worked 51 = .ok (.istore 4, 2) := by decide +kernel
theorem dX12_worked_53 : decode cX12_worked 53 = .ok (.aload_n 0, 1) := by decide +kernel
theorem dX12_worked_54 : decode cX12_worked 54 = .ok (.getfield 36, 3) := by decide +kernel
theorem dX12_worked_57 : decode cX12_worked 57 = .ok (.iload_n 1, 1) := by decide +kernel
theorem dX12_worked_58 : decode cX12_worked 58 = .ok (.iaload, 1) := by decide +kernel
theorem dX12_worked_59 : decode cX12_worked 59 = .ok (.aload_n 0, 1) := by decide +kernel
theorem dX12_worked_60 : decode cX12_worked 60 = .ok (.getfield 36, 3) := by decide +kernel
theorem dX12_worked_63 : decode cX12_worked 63 = .ok (.iload_n 2, 1) := by decide +kernel
theorem dX12_worked_64 : decode cX12_worked 64 = .ok (.iaload, 1) := by decide +kernel
theorem dX12_worked_65 : decode cX12_worked 65 = .ok (.if_icmp .eq 21, 3) := by decide +kernel
theorem dX12_worked_68 : decode cX12_worked 68 = .ok (.iload 4, 2) := by decide +kernel
theorem dX12_worked_70 : decode cX12_worked 70 = .ok (.aload_n 0, 1) := by decide +kernel
theorem dX12_worked_71 : decode cX12_worked 71 = .ok (.getfield 45, 3) := by decide +kernel
theorem dX12_worked_74 : decode cX12_worked 74 = .ok (.iconst 5, 1) := by decide +kernel
theorem dX12_worked_75 : decode cX12_worked 75 = .ok (.iload_n 3, 1) := by decide +kernel
theorem dX12_worked_76 : decode cX12_worked 76 = .ok (.imul, 1) := by decide +kernel
theorem dX12_worked_77 : decode cX12_worked 77 = .ok (.iconst 1, 1) := by decide +kernel
theorem dX12_worked_78 : decode cX12_worked 78 = .ok (.iadd, 1) := by decide +kernel
theorem dX12_worked_79 : decode cX12_worked 79 = .ok (.iaload, 1) := by decide +kernel
theorem dX12_worked_80 : decode cX12_worked 80 = .ok (.iconst (-1), 1) := by decide +kernel
theorem dX12_worked_81 : decode cX12_worked 81 = .ok (.ixor, 1) := by decide +kernel
theorem dX12_worked_82 : decode cX12_worked 82 = .ok (.iand, 1) := by decide +kernel
theorem dX12_worked_83 : decode cX12_worked 83 = .ok (.goto 5, 3) := by decide +kernel
theorem dX12_worked_86 : decode cX12_worked 86 = .ok (.iload 4, 2) := by decide +kernel
theorem dX12_worked_88 : decode cX12_worked 88 = .ok (.istore 4, 2) := by decide +kernel
theorem dX12_worked_90 : decode cX12_worked 90 = .ok (.aload_n 0, 1) := by decide +kernel
theorem dX12_worked_91 : decode cX12_worked 91 = .ok (.getfield 36, 3) := by decide +kernel
theorem dX12_worked_94 : decode cX12_worked 94 = .ok (.iload_n 1, 1) := by decide +kernel
theorem dX12_worked_95 : decode cX12_worked 95 = .ok (.iaload, 1) := by decide +kernel
theorem dX12_worked_96 : decode cX12_worked 96 = .ok (.aload_n 0, 1) := by decide +kernel
theorem dX12_worked_97 : decode cX12_worked 97 = .ok (.getfield 36, 3) := by decide +kernel
theorem dX12_worked_100 : decode cX12_worked 100 = .ok (.iload_n 2, 1) := by decide +kernel
theorem dX12_worked_101 : decode cX12_worked 101 = .ok (.iaload, 1) := by decide +kernel
theorem dX12_worked_102 : decode cX12_worked 102 = .ok (.if_icmp .le 21, 3) := by decide +kernel
theorem dX12_worked_105 : decode cX12_worked 105 = .ok (.iload 4, 2) := by decide +kernel
theorem dX12_worked_107 : decode cX12_worked 107 = .ok (.aload_n 0, 1) := by decide +kernel
theorem dX12_worked_108 : decode cX12_worked 108 = .ok (.getfield 45, 3) := by decide +kernel
theorem dX12_worked_111 : decode cX12_worked 111 = .ok (.iconst 5, 1) := by decide +kernel
theorem dX12_worked_112 : decode cX12_worked 112 = .ok (.iload_n 3, 1) := by decide +kernel
theorem dX12_worked_113 : decode cX12_worked 113 = .ok (.imul, 1) := by decide +kernel
theorem dX12_worked_114 : decode cX12_worked 114 = .ok (.iconst 2, 1) := by decide +kernel
theorem dX12_worked_115 : decode cX12_worked 115 = .ok (.iadd, 1) := by decide +kernel
theorem dX12_worked_116 : decode cX12_worked 116 = .ok (.iaload, 1) := by decide +kernel
theorem dX12_worked_117 : decode cX12_worked 117 = .ok (.iconst (-1), 1) := by decide +kernel
theorem dX12_worked_118 : decode cX12_worked 118 = .ok (.ixor, 1) := by decide +kernel
theorem dX12_worked_119 : decode cX12_worked 119 = .ok (.iand, 1) := by decide +kernel
theorem dX12_worked_120 : decode cX12_worked 120 = .ok (.goto 5, 3) := by decide +kernel
theorem dX12_worked_123 : decode cX12_worked 123 = .ok (.iload 4, 2) := by decide +kernel
theorem dX12_worked_125 : decode cX12_worked 125 = .ok (.ireturn, 1) := by decide +kernel
theorem dX12_isThere_0 : decode cX12_isThere 0 = .ok (.iload_n 1, 1) := by decide +kernel
theorem dX12_isThere_1 : decode cX12_isThere 1 = .ok (.ifCond .lt 39, 3) := by decide +kernel
theorem dX12_isThere_4 : decode cX12_isThere 4 = .ok (.iload_n 1, 1) := by decide +kernel
theorem dX12_isThere_5 : decode cX12_isThere 5 = .ok (.aload_n 0, 1) := by decide +kernel
theorem dX12_isThere_6 : decode cX12_isThere 6 = .ok (.getfield 172, 3) := by decide +kernel
theorem dX12_isThere_9 : decode cX12_isThere 9 = .ok (.if_icmp .ge 31, 3) := by decide +kernel
theorem dX12_isThere_12 : decode cX12_isThere 12 = .ok (.iload_n 2, 1) := by decide +kernel
theorem dX12_isThere_13 : decode cX12_isThere 13 = .ok (.ifCond .lt 27, 3) := by decide +kernel
theorem dX12_isThere_16 : decode cX12_isThere 16 = .ok (.iload_n 2, 1) := by decide +kernel
theorem dX12_isThere_17 : decode cX12_isThere 17 = .ok (.aload_n 0, 1) := by decide +kernel
theorem dX12_isThere_18 : decode cX12_isThere 18 = .ok (.getfield 172, 3) := by decide +kernel
theorem dX12_isThere_21 : decode cX12_isThere 21 = .ok (.if_icmp .ge 19, 3) := by decide +kernel
theorem dX12_isThere_24 : decode cX12_isThere 24 = .ok (.iload_n 3, 1) := by decide +kernel
theorem dX12_isThere_25 : decode cX12_isThere 25 = .ok (.ifCond .lt 15, 3) := by decide +kernel
theorem dX12_isThere_28 : decode cX12_isThere 28 = .ok (.iload_n 3, 1) := by decide +kernel
theorem dX12_isThere_29 : decode cX12_isThere 29 = .ok (.aload_n 0, 1) := by decide +kernel
theorem dX12_isThere_30 : decode cX12_isThere 30 = .ok (.getfield 175, 3) := by decide +kernel
theorem dX12_isThere_33 : decode cX12_isThere 33 = .ok (.if_icmp .ge 7, 3) := by decide +kernel
theorem dX12_isThere_36 : decode cX12_isThere 36 = .ok (.iconst 1, 1) := by decide +kernel
theorem dX12_isThere_37 : decode cX12_isThere 37 = .ok (.goto 4, 3) := by decide +kernel
theorem dX12_isThere_40 : decode cX12_isThere 40 = .ok (.iconst 0, 1) := by decide +kernel
theorem dX12_isThere_41 : decode cX12_isThere 41 = .ok (.ireturn, 1) := by decide +kernel
theorem dX12_may_0 : decode cX12_may 0 = .ok (.aload_n 0, 1) := by decide +kernel
theorem dX12_may_1 : decode cX12_may 1 = .ok (.aload_n 0, 1) := by decide +kernel
theorem dX12_may_2 : decode cX12_may 2 = .ok (.iload_n 1, 1) := by decide +kernel
theorem dX12_may_3 : decode cX12_may 3 = .ok (.iload_n 2, 1) := by decide +kernel
theorem dX12_may_4 : decode cX12_may 4 = .ok (.iload_n 3, 1) := by decide +kernel
theorem dX12_may_5 : decode cX12_may 5 = .ok (.invokevirtual 203, 3) := by decide +kernel
theorem dX12_may_8 : decode cX12_may 8 = .ok (.ifCond .eq 7, 3) := by decide +kernel
theorem dX12_may_11 : decode cX12_may 11 = .ok (.iconst 0, 1) := by decide +kernel
theorem dX12_may_12 : decode cX12_may 12 = .ok (.goto 4, 3) := by decide +kernel
theorem dX12_may_15 : decode cX12_may 15 = .ok (.iconst 1, 1) := by decide +kernel
theorem dX12_may_16 : decode cX12_may 16 = .ok (.putfield 76, 3) := by decide +kernel
theorem dX12_may_19 : decode cX12_may 19 = .ok (.aload_n 0, 1) := by decide +kernel
theorem dX12_may_20 : decode cX12_may 20 = .ok (.getfield 76, 3) := by decide +kernel
theorem dX12_may_23 : decode cX12_may 23 = .ok (.ifCond .le 5, 3) := by decide +kernel
theorem dX12_may_26 : decode cX12_may 26 = .ok (.iconst 0, 1) := by decide +kernel
theorem dX12_may_27 : decode cX12_may 27 = .ok (.ireturn, 1) := by decide +kernel
theorem dX12_may_28 : decode cX12_may 28 = .ok (.bipush 64, 2) := by decide +kernel
theorem dX12_may_30 : decode cX12_may 30 = .ok (.iload_n 3, 1) := by decide +kernel
theorem dX12_may_31 : decode cX12_may 31 = .ok (.imul, 1) := by decide +kernel
theorem dX12_may_32 : decode cX12_may 32 = .ok (.bipush 8, 2) := by decide +kernel
theorem dX12_may_34 : decode cX12_may 34 = .ok (.iload_n 1, 1) := by decide +kernel
theorem dX12_may_35 : decode cX12_may 35 = .ok (.imul, 1) := by decide +kernel
theorem dX12_may_36 : decode cX12_may 36 = .ok (.iadd, 1) := by decide +kernel
theorem dX12_may_37 : decode cX12_may 37 = .ok (.iload_n 2, 1) := by decide +kernel
theorem dX12_may_38 : decode cX12_may 38 = .ok (.iadd, 1) := by decide +kernel
theorem dX12_may_39 : decode cX12_may 39 = .ok (.istore 4, 2) := by decide +kernel
theorem dX12_may_41 : decode cX12_may 41 = .ok (.iconst 0, 1) := by decide +kernel
theorem dX12_may_42 : decode cX12_may 42 = .ok (.istore 5, 2) := by decide +kernel
theorem dX12_may_44 : decode cX12_may 44 = .ok (.iload 5, 2) := by decide +kernel
theorem dX12_may_46 : decode cX12_may 46 = .ok (.aload_n 0, 1) := by decide +kernel
theorem dX12_may_47 : decode cX12_may 47 = .ok (.getfield 200, 3) := by decide +kernel
theorem dX12_may_50 : decode cX12_may 50 = .ok (.if_icmp .ge 21, 3) := by decide +kernel
theorem dX12_may_53 : decode cX12_may 53 = .ok (.aload_n 0, 1) := by decide +kernel
theorem dX12_may_54 : decode cX12_may 54 = .ok (.getfield 54, 3) := by decide +kernel
theorem dX12_may_57 : decode cX12_may 57 = .ok (.iload 5, 2) := by decide +kernel
theorem dX12_may_59 : decode cX12_may 59 = .ok (.iaload, 1) := by decide +kernel
theorem dX12_may_60 : decode cX12_may 60 = .ok (.iload 4, 2) := by decide +kernel
theorem dX12_may_62 : decode cX12_may 62 = .ok (.if_icmp .eq 9, 3) := by decide +kernel
theorem dX12_may_65 : decode cX12_may 65 = .ok (.iinc 5 1, 3) := by decide +kernel
theorem dX12_may_68 : decode cX12_may 68 = .ok (.goto (-24), 3) := by decide +kernel
theorem dX12_may_71 : decode cX12_may 71 = .ok (.aload_n 0, 1) := by decide +kernel
theorem dX12_may_72 : decode cX12_may 72 = .ok (.iload_n 1, 1) := by decide +kernel
theorem dX12_may_73 : decode cX12_may 73 = .ok (.iload_n 2, 1) := by decide +kernel
theorem dX12_may_74 : decode cX12_may 74 = .ok (.iload_n 3, 1) := by decide +kernel
theorem dX12_may_75 : decode cX12_may 75 = .ok (.invokevirtual 206, 3) := by decide +kernel
theorem dX12_may_78 : decode cX12_may 78 = .ok (.istore 6, 2) := by decide +kernel
theorem dX12_may_80 : decode cX12_may 80 = .ok (.iload 5, 2) := by decide +kernel
theorem dX12_may_82 : decode cX12_may 82 = .ok (.aload_n 0, 1) := by decide +kernel
theorem dX12_may_83 : decode cX12_may 83 = .ok (.getfield 200, 3) := by decide +kernel
theorem dX12_may_86 : decode cX12_may 86 = .ok (.if_icmp .ge 25, 3) := by decide +kernel
theorem dX12_may_89 : decode cX12_may 89 = .ok (.aload_n 0, 1) := by decide +kernel
theorem dX12_may_90 : decode cX12_may 90 = .ok (.dup, 1) := by decide +kernel
theorem dX12_may_91 : decode cX12_may 91 = .ok (.getfield 209, 3) := by decide +kernel
theorem dX12_may_94 : decode cX12_may 94 = .ok (.iconst 1, 1) := by decide +kernel
theorem dX12_may_95 : decode cX12_may 95 = .ok (.iadd, 1) := by decide +kernel
theorem dX12_may_96 : decode cX12_may 96 = .ok (.putfield 209, 3) := by decide +kernel
theorem dX12_may_99 : decode cX12_may 99 = .ok (.aload_n 0, 1) := by decide +kernel
theorem dX12_may_100 : decode cX12_may 100 = .ok (.getfield 57, 3) := by decide +kernel
theorem dX12_may_103 : decode cX12_may 103 = .ok (.iload 5, 2) := by decide +kernel
theorem dX12_may_105 : decode cX12_may 105 = .ok (.iaload, 1) := by decide +kernel
theorem dX12_may_106 : decode cX12_may 106 = .ok (.istore 6, 2) := by decide +kernel
theorem dX12_may_108 : decode cX12_may 108 = .ok (.goto 62, 3) := by decide +kernel
theorem dX12_may_111 : decode cX12_may 111 = .ok (.aload_n 0, 1) := by decide +kernel
theorem dX12_may_112 : decode cX12_may 112 = .ok (.dup, 1) := by decide +kernel
theorem dX12_may_113 : decode cX12_may 113 = .ok (.getfield 212, 3) := by decide +kernel
theorem dX12_may_116 : decode cX12_may 116 = .ok (.iconst 1, 1) := by decide +kernel
theorem dX12_may_117 : decode cX12_may 117 = .ok (.iadd, 1) := by decide +kernel
theorem dX12_may_118 : decode cX12_may 118 = .ok (.putfield 212, 3) := by decide +kernel
theorem dX12_may_121 : decode cX12_may 121 = .ok (.aload_n 0, 1) := by decide +kernel
theorem dX12_may_122 : decode cX12_may 122 = .ok (.getfield 200, 3) := by decide +kernel
theorem dX12_may_125 : decode cX12_may 125 = .ok (.aload_n 0, 1) := by decide +kernel
theorem dX12_may_126 : decode cX12_may 126 = .ok (.getfield 73, 3) := by decide +kernel
theorem dX12_may_129 : decode cX12_may 129 = .ok (.if_icmp .ne 7, 3) := by decide +kernel
theorem dX12_may_132 : decode cX12_may 132 = .ok (.iconst 0, 1) := by decide +kernel
theorem dX12_may_133 : decode cX12_may 133 = .ok (.goto 7, 3) := by decide +kernel
theorem dX12_may_136 : decode cX12_may 136 = .ok (.aload_n 0, 1) := by decide +kernel
theorem dX12_may_137 : decode cX12_may 137 = .ok (.getfield 200, 3) := by decide +kernel
theorem dX12_may_140 : decode cX12_may 140 = .ok (.istore 5, 2) := by decide +kernel
theorem dX12_may_142 : decode cX12_may 142 = .ok (.aload_n 0, 1) := by decide +kernel
theorem dX12_may_143 : decode cX12_may 143 = .ok (.aload_n 0, 1) := by decide +kernel
theorem dX12_may_144 : decode cX12_may 144 = .ok (.getfield 200, 3) := by decide +kernel
theorem dX12_may_147 : decode cX12_may 147 = .ok (.aload_n 0, 1) := by decide +kernel
theorem dX12_may_148 : decode cX12_may 148 = .ok (.getfield 73, 3) := by decide +kernel
theorem dX12_may_151 : decode cX12_may 151 = .ok (.if_icmp .ne 10, 3) := by decide +kernel
theorem dX12_may_154 : decode cX12_may 154 = .ok (.aload_n 0, 1) := by decide +kernel
theorem dX12_may_155 : decode cX12_may 155 = .ok (.getfield 200, 3) := by decide +kernel
theorem dX12_may_158 : decode cX12_may 158 = .ok (.goto 9, 3) := by decide +kernel
theorem dX12_may_161 : decode cX12_may 161 = .ok (.aload_n 0, 1) := by decide +kernel
theorem dX12_may_162 : decode cX12_may 162 = .ok (.getfield 200, 3) := by decide +kernel
theorem dX12_may_165 : decode cX12_may 165 = .ok (.iconst 1, 1) := by decide +kernel
theorem dX12_may_166 : decode cX12_may 166 = .ok (.iadd, 1) := by decide +kernel
theorem dX12_may_167 : decode cX12_may 167 = .ok (.putfield 200, 3) := by decide +kernel
theorem dX12_may_170 : decode cX12_may 170 = .ok (.iload 5, 2) := by decide +kernel
theorem dX12_may_172 : decode cX12_may 172 = .ok (.istore 7, 2) := by decide +kernel
theorem dX12_may_174 : decode cX12_may 174 = .ok (.iload 7, 2) := by decide +kernel
theorem dX12_may_176 : decode cX12_may 176 = .ok (.iconst 1, 1) := by decide +kernel
theorem dX12_may_177 : decode cX12_may 177 = .ok (.iadd, 1) := by decide +kernel
theorem dX12_may_178 : decode cX12_may 178 = .ok (.aload_n 0, 1) := by decide +kernel
theorem dX12_may_179 : decode cX12_may 179 = .ok (.getfield 200, 3) := by decide +kernel
theorem dX12_may_182 : decode cX12_may 182 = .ok (.if_icmp .ge 41, 3) := by decide +kernel
theorem dX12_may_185 : decode cX12_may 185 = .ok (.aload_n 0, 1) := by decide +kernel
theorem dX12_may_186 : decode cX12_may 186 = .ok (.getfield 54, 3) := by decide +kernel
theorem dX12_may_189 : decode cX12_may 189 = .ok (.iload 7, 2) := by decide +kernel
theorem dX12_may_191 : decode cX12_may 191 = .ok (.aload_n 0, 1) := by decide +kernel
theorem dX12_may_192 : decode cX12_may 192 = .ok (.getfield 54, 3) := by decide +kernel
theorem dX12_may_195 : decode cX12_may 195 = .ok (.iload 7, 2) := by decide +kernel
theorem dX12_may_197 : decode cX12_may 197 = .ok (.iconst 1, 1) := by decide +kernel
theorem dX12_may_198 : decode cX12_may 198 = .ok (.iadd, 1) := by decide +kernel
theorem dX12_may_199 : decode cX12_may 199 = .ok (.iaload, 1) := by decide +kernel
theorem dX12_may_200 : decode cX12_may 200 = .ok (.iastore, 1) := by decide +kernel
theorem dX12_may_201 : decode cX12_may 201 = .ok (.aload_n 0, 1) := by decide +kernel
theorem dX12_may_202 : decode cX12_may 202 = .ok (.getfield 57, 3) := by decide +kernel
theorem dX12_may_205 : decode cX12_may 205 = .ok (.iload 7, 2) := by decide +kernel
theorem dX12_may_207 : decode cX12_may 207 = .ok (.aload_n 0, 1) := by decide +kernel
theorem dX12_may_208 : decode cX12_may 208 = .ok (.getfield 57, 3) := by decide +kernel
theorem dX12_may_211 : decode cX12_may 211 = .ok (.iload 7, 2) := by decide +kernel
theorem dX12_may_213 : decode cX12_may 213 = .ok (.iconst 1, 1) := by decide +kernel
theorem dX12_may_214 : decode cX12_may 214 = .ok (.iadd, 1) := by decide +kernel
theorem dX12_may_215 : decode cX12_may 215 = .ok (.iaload, 1) := by decide +kernel
theorem dX12_may_216 : decode cX12_may 216 = .ok (.iastore, 1) := by decide +kernel
theorem dX12_may_217 : decode cX12_may 217 = .ok (.iinc 7 1, 3) := by decide +kernel
theorem dX12_may_220 : decode cX12_may 220 = .ok (.goto (-46), 3) := by decide +kernel
theorem dX12_may_223 : decode cX12_may 223 = .ok (.aload_n 0, 1) := by decide +kernel
theorem dX12_may_224 : decode cX12_may 224 = .ok (.getfield 54, 3) := by decide +kernel
theorem dX12_may_227 : decode cX12_may 227 = .ok (.aload_n 0, 1) := by decide +kernel
theorem dX12_may_228 : decode cX12_may 228 = .ok (.getfield 200, 3) := by decide +kernel
theorem dX12_may_231 : decode cX12_may 231 = .ok (.iconst 1, 1) := by decide +kernel
theorem dX12_may_232 : decode cX12_may 232 = .ok (.isub, 1) := by decide +kernel
theorem dX12_may_233 : decode cX12_may 233 = .ok (.iload 4, 2) := by decide +kernel
theorem dX12_may_235 : decode cX12_may 235 = .ok (.iastore, 1) := by decide +kernel
theorem dX12_may_236 : decode cX12_may 236 = .ok (.aload_n 0, 1) := by decide +kernel
theorem dX12_may_237 : decode cX12_may 237 = .ok (.getfield 57, 3) := by decide +kernel
theorem dX12_may_240 : decode cX12_may 240 = .ok (.aload_n 0, 1) := by decide +kernel
theorem dX12_may_241 : decode cX12_may 241 = .ok (.getfield 200, 3) := by decide +kernel
theorem dX12_may_244 : decode cX12_may 244 = .ok (.iconst 1, 1) := by decide +kernel
theorem dX12_may_245 : decode cX12_may 245 = .ok (.isub, 1) := by decide +kernel
theorem dX12_may_246 : decode cX12_may 246 = .ok (.iload 6, 2) := by decide +kernel
theorem dX12_may_248 : decode cX12_may 248 = .ok (.iastore, 1) := by decide +kernel
theorem dX12_may_249 : decode cX12_may 249 = .ok (.iload 6, 2) := by decide +kernel
theorem dX12_may_251 : decode cX12_may 251 = .ok (.ireturn, 1) := by decide +kernel
theorem dX12_made_0 : decode cX12_made 0 = .ok (.aload_n 0, 1) := by decide +kernel
theorem dX12_made_1 : decode cX12_made 1 = .ok (.iconst 0, 1) := by decide +kernel
theorem dX12_made_2 : decode cX12_made 2 = .ok (.putfield 76, 3) := by decide +kernel
theorem dX12_made_5 : decode cX12_made 5 = .ok (.aload_n 0, 1) := by decide +kernel
theorem dX12_made_6 : decode cX12_made 6 = .ok (.iload_n 1, 1) := by decide +kernel
theorem dX12_made_7 : decode cX12_made 7 = .ok (.iload_n 2, 1) := by decide +kernel
theorem dX12_made_8 : decode cX12_made 8 = .ok (.iload_n 3, 1) := by decide +kernel
theorem dX12_made_9 : decode cX12_made 9 = .ok (.invokevirtual 203, 3) := by decide +kernel
theorem dX12_made_12 : decode cX12_made 12 = .ok (.ifCond .eq 22, 3) := by decide +kernel
theorem dX12_made_15 : decode cX12_made 15 = .ok (.aload_n 0, 1) := by decide +kernel
theorem dX12_made_16 : decode cX12_made 16 = .ok (.getfield 42, 3) := by decide +kernel
theorem dX12_made_19 : decode cX12_made 19 = .ok (.bipush 64, 2) := by decide +kernel
theorem dX12_made_21 : decode cX12_made 21 = .ok (.iload_n 3, 1) := by decide +kernel
theorem dX12_made_22 : decode cX12_made 22 = .ok (.imul, 1) := by decide +kernel
theorem dX12_made_23 : decode cX12_made 23 = .ok (.bipush 8, 2) := by decide +kernel
theorem dX12_made_25 : decode cX12_made 25 = .ok (.iload_n 1, 1) := by decide +kernel
theorem dX12_made_26 : decode cX12_made 26 = .ok (.imul, 1) := by decide +kernel
theorem dX12_made_27 : decode cX12_made 27 = .ok (.iadd, 1) := by decide +kernel
theorem dX12_made_28 : decode cX12_made 28 = .ok (.iload_n 2, 1) := by decide +kernel
theorem dX12_made_29 : decode cX12_made 29 = .ok (.iadd, 1) := by decide +kernel
theorem dX12_made_30 : decode cX12_made 30 = .ok (.iaload, 1) := by decide +kernel
theorem dX12_made_31 : decode cX12_made 31 = .ok (.goto 4, 3) := by decide +kernel
theorem dX12_made_34 : decode cX12_made 34 = .ok (.iconst (-1), 1) := by decide +kernel
theorem dX12_made_35 : decode cX12_made 35 = .ok (.ireturn, 1) := by decide +kernel
theorem dX12_flows_0 : decode cX12_flows 0 = .ok (.iconst 0, 1) := by decide +kernel
theorem dX12_flows_1 : decode cX12_flows 1 = .ok (.istore_n 3, 1) := by decide +kernel
theorem dX12_flows_2 : decode cX12_flows 2 = .ok (.iconst 0, 1) := by decide +kernel
theorem dX12_flows_3 : decode cX12_flows 3 = .ok (.istore 4, 2) := by decide +kernel
theorem dX12_flows_5 : decode cX12_flows 5 = .ok (.iload 4, 2) := by decide +kernel
theorem dX12_flows_7 : decode cX12_flows 7 = .ok (.aload_n 0, 1) := by decide +kernel
theorem dX12_flows_8 : decode cX12_flows 8 = .ok (.getfield 175, 3) := by decide +kernel
theorem dX12_flows_11 : decode cX12_flows 11 = .ok (.if_icmp .ge 65, 3) := by decide +kernel
theorem dX12_flows_14 : decode cX12_flows 14 = .ok (.iload_n 3, 1) := by decide +kernel
theorem dX12_flows_15 : decode cX12_flows 15 = .ok (.ifCond .ne 49, 3) := by decide +kernel
theorem dX12_flows_18 : decode cX12_flows 18 = .ok (.aload_n 0, 1) := by decide +kernel
theorem dX12_flows_19 : decode cX12_flows 19 = .ok (.iload_n 2, 1) := by decide +kernel
theorem dX12_flows_20 : decode cX12_flows 20 = .ok (.iload_n 1, 1) := by decide +kernel
theorem dX12_flows_21 : decode cX12_flows 21 = .ok (.iload 4, 2) := by decide +kernel
theorem dX12_flows_23 : decode cX12_flows 23 = .ok (.invokevirtual 206, 3) := by decide +kernel
theorem dX12_flows_26 : decode cX12_flows 26 = .ok (.aload_n 0, 1) := by decide +kernel
theorem dX12_flows_27 : decode cX12_flows 27 = .ok (.getfield 45, 3) := by decide +kernel
theorem dX12_flows_30 : decode cX12_flows 30 = .ok (.iconst 5, 1) := by decide +kernel
theorem dX12_flows_31 : decode cX12_flows 31 = .ok (.iload 4, 2) := by decide +kernel
theorem dX12_flows_33 : decode cX12_flows 33 = .ok (.imul, 1) := by decide +kernel
theorem dX12_flows_34 : decode cX12_flows 34 = .ok (.iconst 3, 1) := by decide +kernel
theorem dX12_flows_35 : decode cX12_flows 35 = .ok (.iadd, 1) := by decide +kernel
theorem dX12_flows_36 : decode cX12_flows 36 = .ok (.iaload, 1) := by decide +kernel
theorem dX12_flows_37 : decode cX12_flows 37 = .ok (.iand, 1) := by decide +kernel
theorem dX12_flows_38 : decode cX12_flows 38 = .ok (.ifCond .ne 26, 3) := by decide +kernel
theorem dX12_flows_41 : decode cX12_flows 41 = .ok (.aload_n 0, 1) := by decide +kernel
theorem dX12_flows_42 : decode cX12_flows 42 = .ok (.iload_n 1, 1) := by decide +kernel
