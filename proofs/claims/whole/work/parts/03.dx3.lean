theorem dX7_requireThreshold_5 : decode cX7_requireThreshold 5 = .ok (.iload_n 0, 1) := by decide +kernel
theorem dX7_requireThreshold_6 : decode cX7_requireThreshold 6 = .ok (.sipush 1201, 3) := by decide +kernel
theorem dX7_requireThreshold_9 : decode cX7_requireThreshold 9 = .ok (.if_icmp .le 14, 3) := by decide +kernel
theorem dX7_requireThreshold_12 : decode cX7_requireThreshold 12 = .ok (.new 41, 3) := by decide +kernel
theorem dX7_requireThreshold_15 : decode cX7_requireThreshold 15 = .ok (.dup, 1) := by decide +kernel
theorem dX7_requireThreshold_16 : decode cX7_requireThreshold 16 = .ok (.ldc_w 352, 3) := by decide +kernel
theorem dX7_requireThreshold_19 : decode cX7_requireThreshold 19 = .ok (.invokespecial 45, 3) := by decide +kernel
theorem dX7_requireThreshold_22 : decode cX7_requireThreshold 22 = .ok (.athrow, 1) := by decide +kernel
theorem dX7_requireThreshold_23 : decode cX7_requireThreshold 23 = .ok (.return_, 1) := by decide +kernel
theorem dX7_requireMost_0 : decode cX7_requireMost 0 = .ok (.iload_n 0, 1) := by decide +kernel
theorem dX7_requireMost_1 : decode cX7_requireMost 1 = .ok (.ifCond .lt 10, 3) := by decide +kernel
theorem dX7_requireMost_4 : decode cX7_requireMost 4 = .ok (.iload_n 0, 1) := by decide +kernel
theorem dX7_requireMost_5 : decode cX7_requireMost 5 = .ok (.sipush 200, 3) := by decide +kernel
theorem dX7_requireMost_8 : decode cX7_requireMost 8 = .ok (.if_icmp .le 14, 3) := by decide +kernel
theorem dX7_requireMost_11 : decode cX7_requireMost 11 = .ok (.new 41, 3) := by decide +kernel
theorem dX7_requireMost_14 : decode cX7_requireMost 14 = .ok (.dup, 1) := by decide +kernel
theorem dX7_requireMost_15 : decode cX7_requireMost 15 = .ok (.ldc_w 354, 3) := by decide +kernel
theorem dX7_requireMost_18 : decode cX7_requireMost 18 = .ok (.invokespecial 45, 3) := by decide +kernel
theorem dX7_requireMost_21 : decode cX7_requireMost 21 = .ok (.athrow, 1) := by decide +kernel
theorem dX7_requireMost_22 : decode cX7_requireMost 22 = .ok (.return_, 1) := by decide +kernel
theorem dX7_requireWay_0 : decode cX7_requireWay 0 = .ok (.iload_n 0, 1) := by decide +kernel
theorem dX7_requireWay_1 : decode cX7_requireWay 1 = .ok (.iconst (-1), 1) := by decide +kernel
theorem dX7_requireWay_2 : decode cX7_requireWay 2 = .ok (.if_icmp .ne 14, 3) := by decide +kernel
theorem dX7_requireWay_5 : decode cX7_requireWay 5 = .ok (.new 249, 3) := by decide +kernel
theorem dX7_requireWay_8 : decode cX7_requireWay 8 = .ok (.dup, 1) := by decide +kernel
theorem dX7_requireWay_9 : decode cX7_requireWay 9 = .ok (.ldc_w 356, 3) := by decide +kernel
theorem dX7_requireWay_12 : decode cX7_requireWay 12 = .ok (.invokespecial 253, 3) := by decide +kernel
theorem dX7_requireWay_15 : decode cX7_requireWay 15 = .ok (.athrow, 1) := by decide +kernel
theorem dX7_requireWay_16 : decode cX7_requireWay 16 = .ok (.iload_n 0, 1) := by decide +kernel
theorem dX7_requireWay_17 : decode cX7_requireWay 17 = .ok (.ireturn, 1) := by decide +kernel
theorem dX7_hasBit_0 : decode cX7_hasBit 0 = .ok (.iload_n 0, 1) := by decide +kernel
theorem dX7_hasBit_1 : decode cX7_hasBit 1 = .ok (.iload_n 1, 1) := by decide +kernel
theorem dX7_hasBit_2 : decode cX7_hasBit 2 = .ok (.ishr, 1) := by decide +kernel
theorem dX7_hasBit_3 : decode cX7_hasBit 3 = .ok (.iconst 1, 1) := by decide +kernel
theorem dX7_hasBit_4 : decode cX7_hasBit 4 = .ok (.iand, 1) := by decide +kernel
theorem dX7_hasBit_5 : decode cX7_hasBit 5 = .ok (.ifCond .eq 7, 3) := by decide +kernel
theorem dX7_hasBit_8 : decode cX7_hasBit 8 = .ok (.iconst 1, 1) := by decide +kernel
theorem dX7_hasBit_9 : decode cX7_hasBit 9 = .ok (.goto 4, 3) := by decide +kernel
theorem dX7_hasBit_12 : decode cX7_hasBit 12 = .ok (.iconst 0, 1) := by decide +kernel
theorem dX7_hasBit_13 : decode cX7_hasBit 13 = .ok (.ireturn, 1) := by decide +kernel
theorem dX7_withBit_0 : decode cX7_withBit 0 = .ok (.iload_n 2, 1) := by decide +kernel
theorem dX7_withBit_1 : decode cX7_withBit 1 = .ok (.ifCond .eq 11, 3) := by decide +kernel
theorem dX7_withBit_4 : decode cX7_withBit 4 = .ok (.iload_n 0, 1) := by decide +kernel
theorem dX7_withBit_5 : decode cX7_withBit 5 = .ok (.iconst 1, 1) := by decide +kernel
theorem dX7_withBit_6 : decode cX7_withBit 6 = .ok (.iload_n 1, 1) := by decide +kernel
theorem dX7_withBit_7 : decode cX7_withBit 7 = .ok (.ishl, 1) := by decide +kernel
theorem dX7_withBit_8 : decode cX7_withBit 8 = .ok (.ior, 1) := by decide +kernel
theorem dX7_withBit_9 : decode cX7_withBit 9 = .ok (.goto 10, 3) := by decide +kernel
theorem dX7_withBit_12 : decode cX7_withBit 12 = .ok (.iload_n 0, 1) := by decide +kernel
theorem dX7_withBit_13 : decode cX7_withBit 13 = .ok (.iconst 1, 1) := by decide +kernel
theorem dX7_withBit_14 : decode cX7_withBit 14 = .ok (.iload_n 1, 1) := by decide +kernel
theorem dX7_withBit_15 : decode cX7_withBit 15 = .ok (.ishl, 1) := by decide +kernel
theorem dX7_withBit_16 : decode cX7_withBit 16 = .ok (.iconst (-1), 1) := by decide +kernel
theorem dX7_withBit_17 : decode cX7_withBit 17 = .ok (.ixor, 1) := by decide +kernel
theorem dX7_withBit_18 : decode cX7_withBit 18 = .ok (.iand, 1) := by decide +kernel
theorem dX7_withBit_19 : decode cX7_withBit 19 = .ok (.ireturn, 1) := by decide +kernel
theorem dX8_init_0 : decode cX8_init 0 = .ok (.aload_n 0, 1) := by decide +kernel
theorem dX8_init_1 : decode cX8_init 1 = .ok (.invokespecial 1, 3) := by decide +kernel
theorem dX8_init_4 : decode cX8_init 4 = .ok (.aload_n 0, 1) := by decide +kernel
theorem dX8_init_5 : decode cX8_init 5 = .ok (.bipush 20, 2) := by decide +kernel
theorem dX8_init_7 : decode cX8_init 7 = .ok (.newarray .char, 2) := by decide +kernel
theorem dX8_init_9 : decode cX8_init 9 = .ok (.putfield 9, 3) := by decide +kernel
theorem dX8_init_12 : decode cX8_init 12 = .ok (.aload_n 0, 1) := by decide +kernel
theorem dX8_init_13 : decode cX8_init 13 = .ok (.bipush 20, 2) := by decide +kernel
theorem dX8_init_15 : decode cX8_init 15 = .ok (.newarray .int, 2) := by decide +kernel
theorem dX8_init_17 : decode cX8_init 17 = .ok (.putfield 13, 3) := by decide +kernel
theorem dX8_init_20 : decode cX8_init 20 = .ok (.aload_n 0, 1) := by decide +kernel
theorem dX8_init_21 : decode cX8_init 21 = .ok (.sipush 200, 3) := by decide +kernel
theorem dX8_init_24 : decode cX8_init 24 = .ok (.newarray .int, 2) := by decide +kernel
theorem dX8_init_26 : decode cX8_init 26 = .ok (.putfield 17, 3) := by decide +kernel
theorem dX8_init_29 : decode cX8_init 29 = .ok (.aload_n 0, 1) := by decide +kernel
theorem dX8_init_30 : decode cX8_init 30 = .ok (.sipush 200, 3) := by decide +kernel
theorem dX8_init_33 : decode cX8_init 33 = .ok (.newarray .int, 2) := by decide +kernel
theorem dX8_init_35 : decode cX8_init 35 = .ok (.putfield 20, 3) := by decide +kernel
theorem dX8_init_38 : decode cX8_init 38 = .ok (.aload_n 0, 1) := by decide +kernel
theorem dX8_init_39 : decode cX8_init 39 = .ok (.sipush 200, 3) := by decide +kernel
theorem dX8_init_42 : decode cX8_init 42 = .ok (.newarray .int, 2) := by decide +kernel
theorem dX8_init_44 : decode cX8_init 44 = .ok (.putfield 23, 3) := by decide +kernel
theorem dX8_init_47 : decode cX8_init 47 = .ok (.aload_n 0, 1) := by decide +kernel
theorem dX8_init_48 : decode cX8_init 48 = .ok (.sipush 200, 3) := by decide +kernel
theorem dX8_init_51 : decode cX8_init 51 = .ok (.newarray .int, 2) := by decide +kernel
theorem dX8_init_53 : decode cX8_init 53 = .ok (.putfield 26, 3) := by decide +kernel
theorem dX8_init_56 : decode cX8_init 56 = .ok (.aload_n 0, 1) := by decide +kernel
theorem dX8_init_57 : decode cX8_init 57 = .ok (.sipush 200, 3) := by decide +kernel
theorem dX8_init_60 : decode cX8_init 60 = .ok (.newarray .int, 2) := by decide +kernel
theorem dX8_init_62 : decode cX8_init 62 = .ok (.putfield 29, 3) := by decide +kernel
theorem dX8_init_65 : decode cX8_init 65 = .ok (.aload_n 0, 1) := by decide +kernel
theorem dX8_init_66 : decode cX8_init 66 = .ok (.sipush 200, 3) := by decide +kernel
theorem dX8_init_69 : decode cX8_init 69 = .ok (.newarray .int, 2) := by decide +kernel
theorem dX8_init_71 : decode cX8_init 71 = .ok (.putfield 32, 3) := by decide +kernel
theorem dX8_init_74 : decode cX8_init 74 = .ok (.aload_n 0, 1) := by decide +kernel
theorem dX8_init_75 : decode cX8_init 75 = .ok (.sipush 200, 3) := by decide +kernel
theorem dX8_init_78 : decode cX8_init 78 = .ok (.newarray .int, 2) := by decide +kernel
theorem dX8_init_80 : decode cX8_init 80 = .ok (.putfield 35, 3) := by decide +kernel
theorem dX8_init_83 : decode cX8_init 83 = .ok (.aload_n 0, 1) := by decide +kernel
theorem dX8_init_84 : decode cX8_init 84 = .ok (.sipush 200, 3) := by decide +kernel
theorem dX8_init_87 : decode cX8_init 87 = .ok (.newarray .char, 2) := by decide +kernel
theorem dX8_init_89 : decode cX8_init 89 = .ok (.putfield 38, 3) := by decide +kernel
theorem dX8_init_92 : decode cX8_init 92 = .ok (.aload_n 0, 1) := by decide +kernel
theorem dX8_init_93 : decode cX8_init 93 = .ok (.bipush 50, 2) := by decide +kernel
theorem dX8_init_95 : decode cX8_init 95 = .ok (.putfield 41, 3) := by decide +kernel
theorem dX8_init_98 : decode cX8_init 98 = .ok (.aload_n 0, 1) := by decide +kernel
theorem dX8_init_99 : decode cX8_init 99 = .ok (.bipush 20, 2) := by decide +kernel
theorem dX8_init_101 : decode cX8_init 101 = .ok (.newarray .int, 2) := by decide +kernel
theorem dX8_init_103 : decode cX8_init 103 = .ok (.putfield 45, 3) := by decide +kernel
theorem dX8_init_106 : decode cX8_init 106 = .ok (.aload_n 0, 1) := by decide +kernel
theorem dX8_init_107 : decode cX8_init 107 = .ok (.bipush 30, 2) := by decide +kernel
theorem dX8_init_109 : decode cX8_init 109 = .ok (.newarray .int, 2) := by decide +kernel
theorem dX8_init_111 : decode cX8_init 111 = .ok (.putfield 48, 3) := by decide +kernel
theorem dX8_init_114 : decode cX8_init 114 = .ok (.aload_n 0, 1) := by decide +kernel
theorem dX8_init_115 : decode cX8_init 115 = .ok (.bipush 30, 2) := by decide +kernel
theorem dX8_init_117 : decode cX8_init 117 = .ok (.newarray .int, 2) := by decide +kernel
theorem dX8_init_119 : decode cX8_init 119 = .ok (.putfield 51, 3) := by decide +kernel
theorem dX8_init_122 : decode cX8_init 122 = .ok (.aload_n 0, 1) := by decide +kernel
theorem dX8_init_123 : decode cX8_init 123 = .ok (.bipush 30, 2) := by decide +kernel
theorem dX8_init_125 : decode cX8_init 125 = .ok (.newarray .int, 2) := by decide +kernel
theorem dX8_init_127 : decode cX8_init 127 = .ok (.putfield 54, 3) := by decide +kernel
theorem dX8_init_130 : decode cX8_init 130 = .ok (.aload_n 0, 1) := by decide +kernel
theorem dX8_init_131 : decode cX8_init 131 = .ok (.bipush 30, 2) := by decide +kernel
theorem dX8_init_133 : decode cX8_init 133 = .ok (.newarray .int, 2) := by decide +kernel
theorem dX8_init_135 : decode cX8_init 135 = .ok (.putfield 57, 3) := by decide +kernel
theorem dX8_init_138 : decode cX8_init 138 = .ok (.aload_n 0, 1) := by decide +kernel
theorem dX8_init_139 : decode cX8_init 139 = .ok (.bipush 30, 2) := by decide +kernel
theorem dX8_init_141 : decode cX8_init 141 = .ok (.newarray .int, 2) := by decide +kernel
theorem dX8_init_143 : decode cX8_init 143 = .ok (.putfield 60, 3) := by decide +kernel
theorem dX8_init_146 : decode cX8_init 146 = .ok (.aload_n 0, 1) := by decide +kernel
theorem dX8_init_147 : decode cX8_init 147 = .ok (.bipush 30, 2) := by decide +kernel
theorem dX8_init_149 : decode cX8_init 149 = .ok (.newarray .int, 2) := by decide +kernel
theorem dX8_init_151 : decode cX8_init 151 = .ok (.putfield 63, 3) := by decide +kernel
theorem dX8_init_154 : decode cX8_init 154 = .ok (.aload_n 0, 1) := by decide +kernel
theorem dX8_init_155 : decode cX8_init 155 = .ok (.bipush 30, 2) := by decide +kernel
theorem dX8_init_157 : decode cX8_init 157 = .ok (.newarray .char, 2) := by decide +kernel
theorem dX8_init_159 : decode cX8_init 159 = .ok (.putfield 66, 3) := by decide +kernel
theorem dX8_init_162 : decode cX8_init 162 = .ok (.aload_n 0, 1) := by decide +kernel
theorem dX8_init_163 : decode cX8_init 163 = .ok (.bipush 30, 2) := by decide +kernel
theorem dX8_init_165 : decode cX8_init 165 = .ok (.newarray .boolean, 2) := by decide +kernel
theorem dX8_init_167 : decode cX8_init 167 = .ok (.putfield 69, 3) := by decide +kernel
theorem dX8_init_170 : decode cX8_init 170 = .ok (.aload_n 0, 1) := by decide +kernel
theorem dX8_init_171 : decode cX8_init 171 = .ok (.bipush 12, 2) := by decide +kernel
theorem dX8_init_173 : decode cX8_init 173 = .ok (.newarray .int, 2) := by decide +kernel
theorem dX8_init_175 : decode cX8_init 175 = .ok (.putfield 73, 3) := by decide +kernel
theorem dX8_init_178 : decode cX8_init 178 = .ok (.aload_n 0, 1) := by decide +kernel
theorem dX8_init_179 : decode cX8_init 179 = .ok (.bipush 12, 2) := by decide +kernel
theorem dX8_init_181 : decode cX8_init 181 = .ok (.newarray .int, 2) := by decide +kernel
theorem dX8_init_183 : decode cX8_init 183 = .ok (.putfield 76, 3) := by decide +kernel
theorem dX8_init_186 : decode cX8_init 186 = .ok (.aload_n 0, 1) := by decide +kernel
theorem dX8_init_187 : decode cX8_init 187 = .ok (.bipush 16, 2) := by decide +kernel
theorem dX8_init_189 : decode cX8_init 189 = .ok (.newarray .int, 2) := by decide +kernel
theorem dX8_init_191 : decode cX8_init 191 = .ok (.putfield 79, 3) := by decide +kernel
theorem dX8_init_194 : decode cX8_init 194 = .ok (.return_, 1) := by decide +kernel
theorem dX8_thrown_0 : decode cX8_thrown 0 = .ok (.aload_n 0, 1) := by decide +kernel
theorem dX8_thrown_1 : decode cX8_thrown 1 = .ok (.getfield 82, 3) := by decide +kernel
theorem dX8_thrown_4 : decode cX8_thrown 4 = .ok (.ireturn, 1) := by decide +kernel
theorem dX8_fails_0 : decode cX8_fails 0 = .ok (.aload_n 0, 1) := by decide +kernel
theorem dX8_fails_1 : decode cX8_fails 1 = .ok (.iload_n 1, 1) := by decide +kernel
theorem dX8_fails_2 : decode cX8_fails 2 = .ok (.putfield 82, 3) := by decide +kernel
theorem dX8_fails_5 : decode cX8_fails 5 = .ok (.iconst 0, 1) := by decide +kernel
theorem dX8_fails_6 : decode cX8_fails 6 = .ok (.ireturn, 1) := by decide +kernel
theorem dX8_isWrong_0 : decode cX8_isWrong 0 = .ok (.aload_n 0, 1) := by decide +kernel
theorem dX8_isWrong_1 : decode cX8_isWrong 1 = .ok (.iload_n 1, 1) := by decide +kernel
theorem dX8_isWrong_2 : decode cX8_isWrong 2 = .ok (.putfield 82, 3) := by decide +kernel
theorem dX8_isWrong_5 : decode cX8_isWrong 5 = .ok (.iconst 0, 1) := by decide +kernel
theorem dX8_isWrong_6 : decode cX8_isWrong 6 = .ok (.ireturn, 1) := by decide +kernel
theorem dX8_isBetween_0 : decode cX8_isBetween 0 = .ok (.iload_n 1, 1) := by decide +kernel
theorem dX8_isBetween_1 : decode cX8_isBetween 1 = .ok (.iload_n 0, 1) := by decide +kernel
theorem dX8_isBetween_2 : decode cX8_isBetween 2 = .ok (.if_icmp .gt 12, 3) := by decide +kernel
theorem dX8_isBetween_5 : decode cX8_isBetween 5 = .ok (.iload_n 0, 1) := by decide +kernel
theorem dX8_isBetween_6 : decode cX8_isBetween 6 = .ok (.iload_n 2, 1) := by decide +kernel
theorem dX8_isBetween_7 : decode cX8_isBetween 7 = .ok (.if_icmp .gt 7, 3) := by decide +kernel
theorem dX8_isBetween_10 : decode cX8_isBetween 10 = .ok (.iconst 1, 1) := by decide +kernel
theorem dX8_isBetween_11 : decode cX8_isBetween 11 = .ok (.goto 4, 3) := by decide +kernel
theorem dX8_isBetween_14 : decode cX8_isBetween 14 = .ok (.iconst 0, 1) := by decide +kernel
theorem dX8_isBetween_15 : decode cX8_isBetween 15 = .ok (.ireturn, 1) := by decide +kernel
theorem dX8_isAccount_0 : decode cX8_isAccount 0 = .ok (.iload_n 1, 1) := by decide +kernel
theorem dX8_isAccount_1 : decode cX8_isAccount 1 = .ok (.iconst 0, 1) := by decide +kernel
theorem dX8_isAccount_2 : decode cX8_isAccount 2 = .ok (.aload_n 0, 1) := by decide +kernel
theorem dX8_isAccount_3 : decode cX8_isAccount 3 = .ok (.getfield 85, 3) := by decide +kernel
theorem dX8_isAccount_6 : decode cX8_isAccount 6 = .ok (.iconst 1, 1) := by decide +kernel
theorem dX8_isAccount_7 : decode cX8_isAccount 7 = .ok (.isub, 1) := by decide +kernel
theorem dX8_isAccount_8 : decode cX8_isAccount 8 = .ok (.invokestatic 88, 3) := by decide +kernel
theorem dX8_isAccount_11 : decode cX8_isAccount 11 = .ok (.ireturn, 1) := by decide +kernel
theorem dX8_has_0 : decode cX8_has 0 = .ok (.iload_n 0, 1) := by decide +kernel
theorem dX8_has_1 : decode cX8_has 1 = .ok (.iload_n 1, 1) := by decide +kernel
theorem dX8_has_2 : decode cX8_has 2 = .ok (.ishr, 1) := by decide +kernel
theorem dX8_has_3 : decode cX8_has 3 = .ok (.iconst 1, 1) := by decide +kernel
theorem dX8_has_4 : decode cX8_has 4 = .ok (.iand, 1) := by decide +kernel
theorem dX8_has_5 : decode cX8_has 5 = .ok (.iconst 1, 1) := by decide +kernel
theorem dX8_has_6 : decode cX8_has 6 = .ok (.if_icmp .ne 7, 3) := by decide +kernel
theorem dX8_has_9 : decode cX8_has 9 = .ok (.iconst 1, 1) := by decide +kernel
theorem dX8_has_10 : decode cX8_has 10 = .ok (.goto 4, 3) := by decide +kernel
theorem dX8_has_13 : decode cX8_has 13 = .ok (.iconst 0, 1) := by decide +kernel
theorem dX8_has_14 : decode cX8_has 14 = .ok (.ireturn, 1) := by decide +kernel
theorem dX8_with_0 : decode cX8_with 0 = .ok (.iload_n 2, 1) := by decide +kernel
theorem dX8_with_1 : decode cX8_with 1 = .ok (.ifCond .eq 11, 3) := by decide +kernel
theorem dX8_with_4 : decode cX8_with 4 = .ok (.iload_n 0, 1) := by decide +kernel
theorem dX8_with_5 : decode cX8_with 5 = .ok (.iconst 1, 1) := by decide +kernel
theorem dX8_with_6 : decode cX8_with 6 = .ok (.iload_n 1, 1) := by decide +kernel
theorem dX8_with_7 : decode cX8_with 7 = .ok (.ishl, 1) := by decide +kernel
theorem dX8_with_8 : decode cX8_with 8 = .ok (.ior, 1) := by decide +kernel
theorem dX8_with_9 : decode cX8_with 9 = .ok (.goto 10, 3) := by decide +kernel
theorem dX8_with_12 : decode cX8_with 12 = .ok (.iload_n 0, 1) := by decide +kernel
theorem dX8_with_13 : decode cX8_with 13 = .ok (.iconst 1, 1) := by decide +kernel
theorem dX8_with_14 : decode cX8_with 14 = .ok (.iload_n 1, 1) := by decide +kernel
theorem dX8_with_15 : decode cX8_with 15 = .ok (.ishl, 1) := by decide +kernel
theorem dX8_with_16 : decode cX8_with 16 = .ok (.iconst (-1), 1) := by decide +kernel
theorem dX8_with_17 : decode cX8_with 17 = .ok (.ixor, 1) := by decide +kernel
theorem dX8_with_18 : decode cX8_with 18 = .ok (.iand, 1) := by decide +kernel
theorem dX8_with_19 : decode cX8_with 19 = .ok (.ireturn, 1) := by decide +kernel
theorem dX8_open_0 : decode cX8_open 0 = .ok (.aload_n 0, 1) := by decide +kernel
theorem dX8_open_1 : decode cX8_open 1 = .ok (.iconst 0, 1) := by decide +kernel
theorem dX8_open_2 : decode cX8_open 2 = .ok (.putfield 82, 3) := by decide +kernel
theorem dX8_open_5 : decode cX8_open 5 = .ok (.iload_n 1, 1) := by decide +kernel
theorem dX8_open_6 : decode cX8_open 6 = .ok (.bipush 97, 2) := by decide +kernel
theorem dX8_open_8 : decode cX8_open 8 = .ok (.bipush 100, 2) := by decide +kernel
theorem dX8_open_10 : decode cX8_open 10 = .ok (.invokestatic 88, 3) := by decide +kernel
theorem dX8_open_13 : decode cX8_open 13 = .ok (.ifCond .ne 9, 3) := by decide +kernel
theorem dX8_open_16 : decode cX8_open 16 = .ok (.aload_n 0, 1) := by decide +kernel
theorem dX8_open_17 : decode cX8_open 17 = .ok (.iconst 1, 1) := by decide +kernel
theorem dX8_open_18 : decode cX8_open 18 = .ok (.invokevirtual 92, 3) := by decide +kernel
theorem dX8_open_21 : decode cX8_open 21 = .ok (.ireturn, 1) := by decide +kernel
theorem dX8_open_22 : decode cX8_open 22 = .ok (.aload_n 0, 1) := by decide +kernel
theorem dX8_open_23 : decode cX8_open 23 = .ok (.getfield 85, 3) := by decide +kernel
theorem dX8_open_26 : decode cX8_open 26 = .ok (.bipush 20, 2) := by decide +kernel
theorem dX8_open_28 : decode cX8_open 28 = .ok (.if_icmp .ne 9, 3) := by decide +kernel
theorem dX8_open_31 : decode cX8_open 31 = .ok (.aload_n 0, 1) := by decide +kernel
theorem dX8_open_32 : decode cX8_open 32 = .ok (.iconst 2, 1) := by decide +kernel
theorem dX8_open_33 : decode cX8_open 33 = .ok (.invokevirtual 92, 3) := by decide +kernel
theorem dX8_open_36 : decode cX8_open 36 = .ok (.ireturn, 1) := by decide +kernel
theorem dX8_open_37 : decode cX8_open 37 = .ok (.aload_n 0, 1) := by decide +kernel
theorem dX8_open_38 : decode cX8_open 38 = .ok (.getfield 9, 3) := by decide +kernel
theorem dX8_open_41 : decode cX8_open 41 = .ok (.aload_n 0, 1) := by decide +kernel
theorem dX8_open_42 : decode cX8_open 42 = .ok (.getfield 85, 3) := by decide +kernel
theorem dX8_open_45 : decode cX8_open 45 = .ok (.iload_n 1, 1) := by decide +kernel
theorem dX8_open_46 : decode cX8_open 46 = .ok (.castore, 1) := by decide +kernel
theorem dX8_open_47 : decode cX8_open 47 = .ok (.aload_n 0, 1) := by decide +kernel
theorem dX8_open_48 : decode cX8_open 48 = .ok (.getfield 13, 3) := by decide +kernel
theorem dX8_open_51 : decode cX8_open 51 = .ok (.aload_n 0, 1) := by decide +kernel
theorem dX8_open_52 : decode cX8_open 52 = .ok (.getfield 85, 3) := by decide +kernel
theorem dX8_open_55 : decode cX8_open 55 = .ok (.aload_n 0, 1) := by decide +kernel
theorem dX8_open_56 : decode cX8_open 56 = .ok (.getfield 96, 3) := by decide +kernel
theorem dX8_open_59 : decode cX8_open 59 = .ok (.iastore, 1) := by decide +kernel
theorem dX8_open_60 : decode cX8_open 60 = .ok (.aload_n 0, 1) := by decide +kernel
theorem dX8_open_61 : decode cX8_open 61 = .ok (.dup, 1) := by decide +kernel
theorem dX8_open_62 : decode cX8_open 62 = .ok (.getfield 85, 3) := by decide +kernel
theorem dX8_open_65 : decode cX8_open 65 = .ok (.iconst 1, 1) := by decide +kernel
theorem dX8_open_66 : decode cX8_open 66 = .ok (.iadd, 1) := by decide +kernel
theorem dX8_open_67 : decode cX8_open 67 = .ok (.putfield 85, 3) := by decide +kernel
theorem dX8_open_70 : decode cX8_open 70 = .ok (.aload_n 0, 1) := by decide +kernel
theorem dX8_open_71 : decode cX8_open 71 = .ok (.getfield 85, 3) := by decide +kernel
theorem dX8_open_74 : decode cX8_open 74 = .ok (.iconst 1, 1) := by decide +kernel
theorem dX8_open_75 : decode cX8_open 75 = .ok (.isub, 1) := by decide +kernel
theorem dX8_open_76 : decode cX8_open 76 = .ok (.ireturn, 1) := by decide +kernel
theorem dX8_setMarked_0 : decode cX8_setMarked 0 = .ok (.aload_n 0, 1) := by decide +kernel
theorem dX8_setMarked_1 : decode cX8_setMarked 1 = .ok (.iconst 0, 1) := by decide +kernel
theorem dX8_setMarked_2 : decode cX8_setMarked 2 = .ok (.putfield 82, 3) := by decide +kernel
theorem dX8_setMarked_5 : decode cX8_setMarked 5 = .ok (.aload_n 0, 1) := by decide +kernel
theorem dX8_setMarked_6 : decode cX8_setMarked 6 = .ok (.iload_n 1, 1) := by decide +kernel
theorem dX8_setMarked_7 : decode cX8_setMarked 7 = .ok (.invokevirtual 99, 3) := by decide +kernel
theorem dX8_setMarked_10 : decode cX8_setMarked 10 = .ok (.ifCond .ne 9, 3) := by decide +kernel
theorem dX8_setMarked_13 : decode cX8_setMarked 13 = .ok (.aload_n 0, 1) := by decide +kernel
theorem dX8_setMarked_14 : decode cX8_setMarked 14 = .ok (.iconst 1, 1) := by decide +kernel
theorem dX8_setMarked_15 : decode cX8_setMarked 15 = .ok (.invokevirtual 103, 3) := by decide +kernel
theorem dX8_setMarked_18 : decode cX8_setMarked 18 = .ok (.ireturn, 1) := by decide +kernel
theorem dX8_setMarked_19 : decode cX8_setMarked 19 = .ok (.aload_n 0, 1) := by decide +kernel
theorem dX8_setMarked_20 : decode cX8_setMarked 20 = .ok (.getfield 106, 3) := by decide +kernel
theorem dX8_setMarked_23 : decode cX8_setMarked 23 = .ok (.iload_n 1, 1) := by decide +kernel
theorem dX8_setMarked_24 : decode cX8_setMarked 24 = .ok (.invokestatic 109, 3) := by decide +kernel
theorem dX8_setMarked_27 : decode cX8_setMarked 27 = .ok (.istore_n 3, 1) := by decide +kernel
theorem dX8_setMarked_28 : decode cX8_setMarked 28 = .ok (.aload_n 0, 1) := by decide +kernel
theorem dX8_setMarked_29 : decode cX8_setMarked 29 = .ok (.aload_n 0, 1) := by decide +kernel
theorem dX8_setMarked_30 : decode cX8_setMarked 30 = .ok (.getfield 106, 3) := by decide +kernel
theorem dX8_setMarked_33 : decode cX8_setMarked 33 = .ok (.iload_n 1, 1) := by decide +kernel
theorem dX8_setMarked_34 : decode cX8_setMarked 34 = .ok (.iload_n 2, 1) := by decide +kernel
theorem dX8_setMarked_35 : decode cX8_setMarked 35 = .ok (.invokestatic 113, 3) := by decide +kernel
theorem dX8_setMarked_38 : decode cX8_setMarked 38 = .ok (.putfield 106, 3) := by decide +kernel
theorem dX8_setMarked_41 : decode cX8_setMarked 41 = .ok (.iload_n 3, 1) := by decide +kernel
theorem dX8_setMarked_42 : decode cX8_setMarked 42 = .ok (.ireturn, 1) := by decide +kernel
theorem dX8_setBlocked_0 : decode cX8_setBlocked 0 = .ok (.aload_n 0, 1) := by decide +kernel
theorem dX8_setBlocked_1 : decode cX8_setBlocked 1 = .ok (.iconst 0, 1) := by decide +kernel
theorem dX8_setBlocked_2 : decode cX8_setBlocked 2 = .ok (.putfield 82, 3) := by decide +kernel
theorem dX8_setBlocked_5 : decode cX8_setBlocked 5 = .ok (.aload_n 0, 1) := by decide +kernel
theorem dX8_setBlocked_6 : decode cX8_setBlocked 6 = .ok (.iload_n 1, 1) := by decide +kernel
theorem dX8_setBlocked_7 : decode cX8_setBlocked 7 = .ok (.invokevirtual 99, 3) := by decide +kernel
theorem dX8_setBlocked_10 : decode cX8_setBlocked 10 = .ok (.ifCond .ne 9, 3) := by decide +kernel
theorem dX8_setBlocked_13 : decode cX8_setBlocked 13 = .ok (.aload_n 0, 1) := by decide +kernel
theorem dX8_setBlocked_14 : decode cX8_setBlocked 14 = .ok (.iconst 1, 1) := by decide +kernel
theorem dX8_setBlocked_15 : decode cX8_setBlocked 15 = .ok (.invokevirtual 103, 3) := by decide +kernel
theorem dX8_setBlocked_18 : decode cX8_setBlocked 18 = .ok (.ireturn, 1) := by decide +kernel
theorem dX8_setBlocked_19 : decode cX8_setBlocked 19 = .ok (.aload_n 0, 1) := by decide +kernel
theorem dX8_setBlocked_20 : decode cX8_setBlocked 20 = .ok (.getfield 117, 3) := by decide +kernel
theorem dX8_setBlocked_23 : decode cX8_setBlocked 23 = .ok (.iload_n 1, 1) := by decide +kernel
theorem dX8_setBlocked_24 : decode cX8_setBlocked 24 = .ok (.invokestatic 109, 3) := by decide +kernel
theorem dX8_setBlocked_27 : decode cX8_setBlocked 27 = .ok (.istore_n 3, 1) := by decide +kernel
theorem dX8_setBlocked_28 : decode cX8_setBlocked 28 = .ok (.aload_n 0, 1) := by decide +kernel
theorem dX8_setBlocked_29 : decode cX8_setBlocked 29 = .ok (.aload_n 0, 1) := by decide +kernel
theorem dX8_setBlocked_30 : decode cX8_setBlocked 30 = .ok (.getfield 117, 3) := by decide +kernel
theorem dX8_setBlocked_33 : decode cX8_setBlocked 33 = .ok (.iload_n 1, 1) := by decide +kernel
theorem dX8_setBlocked_34 : decode cX8_setBlocked 34 = .ok (.iload_n 2, 1) := by decide +kernel
theorem dX8_setBlocked_35 : decode cX8_setBlocked 35 = .ok (.invokestatic 113, 3) := by decide +kernel
theorem dX8_setBlocked_38 : decode cX8_setBlocked 38 = .ok (.putfield 117, 3) := by decide +kernel
theorem dX8_setBlocked_41 : decode cX8_setBlocked 41 = .ok (.iload_n 3, 1) := by decide +kernel
theorem dX8_setBlocked_42 : decode cX8_setBlocked 42 = .ok (.ireturn, 1) := by decide +kernel
theorem dX8_isMarked_0 : decode cX8_isMarked 0 = .ok (.aload_n 0, 1) := by decide +kernel
theorem dX8_isMarked_1 : decode cX8_isMarked 1 = .ok (.iconst 0, 1) := by decide +kernel
theorem dX8_isMarked_2 : decode cX8_isMarked 2 = .ok (.putfield 82, 3) := by decide +kernel
theorem dX8_isMarked_5 : decode cX8_isMarked 5 = .ok (.aload_n 0, 1) := by decide +kernel
theorem dX8_isMarked_6 : decode cX8_isMarked 6 = .ok (.iload_n 1, 1) := by decide +kernel
theorem dX8_isMarked_7 : decode cX8_isMarked 7 = .ok (.invokevirtual 99, 3) := by decide +kernel
theorem dX8_isMarked_10 : decode cX8_isMarked 10 = .ok (.ifCond .eq 14, 3) := by decide +kernel
theorem dX8_isMarked_13 : decode cX8_isMarked 13 = .ok (.aload_n 0, 1) := by decide +kernel
theorem dX8_isMarked_14 : decode cX8_isMarked 14 = .ok (.getfield 106, 3) := by decide +kernel
theorem dX8_isMarked_17 : decode cX8_isMarked 17 = .ok (.iload_n 1, 1) := by decide +kernel
theorem dX8_isMarked_18 : decode cX8_isMarked 18 = .ok (.invokestatic 109, 3) := by decide +kernel
theorem dX8_isMarked_21 : decode cX8_isMarked 21 = .ok (.goto 8, 3) := by decide +kernel
theorem dX8_isMarked_24 : decode cX8_isMarked 24 = .ok (.aload_n 0, 1) := by decide +kernel
theorem dX8_isMarked_25 : decode cX8_isMarked 25 = .ok (.iconst 1, 1) := by decide +kernel
theorem dX8_isMarked_26 : decode cX8_isMarked 26 = .ok (.invokevirtual 103, 3) := by decide +kernel
theorem dX8_isMarked_29 : decode cX8_isMarked 29 = .ok (.ireturn, 1) := by decide +kernel
theorem dX8_countryOf_0 : decode cX8_countryOf 0 = .ok (.aload_n 0, 1) := by decide +kernel
theorem dX8_countryOf_1 : decode cX8_countryOf 1 = .ok (.iconst 0, 1) := by decide +kernel
theorem dX8_countryOf_2 : decode cX8_countryOf 2 = .ok (.putfield 82, 3) := by decide +kernel
theorem dX8_countryOf_5 : decode cX8_countryOf 5 = .ok (.aload_n 0, 1) := by decide +kernel
theorem dX8_countryOf_6 : decode cX8_countryOf 6 = .ok (.iload_n 1, 1) := by decide +kernel
theorem dX8_countryOf_7 : decode cX8_countryOf 7 = .ok (.invokevirtual 99, 3) := by decide +kernel
theorem dX8_countryOf_10 : decode cX8_countryOf 10 = .ok (.ifCond .eq 12, 3) := by decide +kernel
theorem dX8_countryOf_13 : decode cX8_countryOf 13 = .ok (.aload_n 0, 1) := by decide +kernel
theorem dX8_countryOf_14 : decode cX8_countryOf 14 = .ok (.getfield 9, 3) := by decide +kernel
theorem dX8_countryOf_17 : decode cX8_countryOf 17 = .ok (.iload_n 1, 1) := by decide +kernel
theorem dX8_countryOf_18 : decode cX8_countryOf 18 = .ok (.caload, 1) := by decide +kernel
theorem dX8_countryOf_19 : decode cX8_countryOf 19 = .ok (.goto 9, 3) := by decide +kernel
theorem dX8_countryOf_22 : decode cX8_countryOf 22 = .ok (.aload_n 0, 1) := by decide +kernel
theorem dX8_countryOf_23 : decode cX8_countryOf 23 = .ok (.iconst 1, 1) := by decide +kernel
theorem dX8_countryOf_24 : decode cX8_countryOf 24 = .ok (.invokevirtual 92, 3) := by decide +kernel
theorem dX8_countryOf_27 : decode cX8_countryOf 27 = .ok (.i2c, 1) := by decide +kernel
theorem dX8_countryOf_28 : decode cX8_countryOf 28 = .ok (.ireturn, 1) := by decide +kernel
theorem dX8_accounts_0 : decode cX8_accounts 0 = .ok (.aload_n 0, 1) := by decide +kernel
theorem dX8_accounts_1 : decode cX8_accounts 1 = .ok (.iconst 0, 1) := by decide +kernel
theorem dX8_accounts_2 : decode cX8_accounts 2 = .ok (.putfield 82, 3) := by decide +kernel
theorem dX8_accounts_5 : decode cX8_accounts 5 = .ok (.aload_n 0, 1) := by decide +kernel
theorem dX8_accounts_6 : decode cX8_accounts 6 = .ok (.getfield 85, 3) := by decide +kernel
theorem dX8_accounts_9 : decode cX8_accounts 9 = .ok (.ireturn, 1) := by decide +kernel
theorem dX8_pass_0 : decode cX8_pass 0 = .ok (.aload_n 0, 1) := by decide +kernel
theorem dX8_pass_1 : decode cX8_pass 1 = .ok (.iconst 0, 1) := by decide +kernel
theorem dX8_pass_2 : decode cX8_pass 2 = .ok (.putfield 82, 3) := by decide +kernel
theorem dX8_pass_5 : decode cX8_pass 5 = .ok (.iload_n 1, 1) := by decide +kernel
theorem dX8_pass_6 : decode cX8_pass 6 = .ok (.iconst 1, 1) := by decide +kernel
theorem dX8_pass_7 : decode cX8_pass 7 = .ok (.sipush 1440, 3) := by decide +kernel
theorem dX8_pass_10 : decode cX8_pass 10 = .ok (.invokestatic 88, 3) := by decide +kernel
theorem dX8_pass_13 : decode cX8_pass 13 = .ok (.ifCond .ne 9, 3) := by decide +kernel
theorem dX8_pass_16 : decode cX8_pass 16 = .ok (.aload_n 0, 1) := by decide +kernel
theorem dX8_pass_17 : decode cX8_pass 17 = .ok (.iconst 1, 1) := by decide +kernel
theorem dX8_pass_18 : decode cX8_pass 18 = .ok (.invokevirtual 92, 3) := by decide +kernel
theorem dX8_pass_21 : decode cX8_pass 21 = .ok (.ireturn, 1) := by decide +kernel
theorem dX8_pass_22 : decode cX8_pass 22 = .ok (.aload_n 0, 1) := by decide +kernel
theorem dX8_pass_23 : decode cX8_pass 23 = .ok (.dup, 1) := by decide +kernel
theorem dX8_pass_24 : decode cX8_pass 24 = .ok (.getfield 96, 3) := by decide +kernel
theorem dX8_pass_27 : decode cX8_pass 27 = .ok (.iload_n 1, 1) := by decide +kernel
theorem dX8_pass_28 : decode cX8_pass 28 = .ok (.iadd, 1) := by decide +kernel
theorem dX8_pass_29 : decode cX8_pass 29 = .ok (.putfield 96, 3) := by decide +kernel
theorem dX8_pass_32 : decode cX8_pass 32 = .ok (.aload_n 0, 1) := by decide +kernel
theorem dX8_pass_33 : decode cX8_pass 33 = .ok (.getfield 96, 3) := by decide +kernel
theorem dX8_pass_36 : decode cX8_pass 36 = .ok (.ireturn, 1) := by decide +kernel
theorem dX8_time_0 : decode cX8_time 0 = .ok (.aload_n 0, 1) := by decide +kernel
theorem dX8_time_1 : decode cX8_time 1 = .ok (.iconst 0, 1) := by decide +kernel
theorem dX8_time_2 : decode cX8_time 2 = .ok (.putfield 82, 3) := by decide +kernel
theorem dX8_time_5 : decode cX8_time 5 = .ok (.aload_n 0, 1) := by decide +kernel
theorem dX8_time_6 : decode cX8_time 6 = .ok (.getfield 96, 3) := by decide +kernel
theorem dX8_time_9 : decode cX8_time 9 = .ok (.ireturn, 1) := by decide +kernel
theorem dX8_isPayment_0 : decode cX8_isPayment 0 = .ok (.iload_n 1, 1) := by decide +kernel
theorem dX8_isPayment_1 : decode cX8_isPayment 1 = .ok (.iconst 0, 1) := by decide +kernel
theorem dX8_isPayment_2 : decode cX8_isPayment 2 = .ok (.aload_n 0, 1) := by decide +kernel
theorem dX8_isPayment_3 : decode cX8_isPayment 3 = .ok (.getfield 120, 3) := by decide +kernel
theorem dX8_isPayment_6 : decode cX8_isPayment 6 = .ok (.iconst 1, 1) := by decide +kernel
theorem dX8_isPayment_7 : decode cX8_isPayment 7 = .ok (.isub, 1) := by decide +kernel
theorem dX8_isPayment_8 : decode cX8_isPayment 8 = .ok (.invokestatic 88, 3) := by decide +kernel
theorem dX8_isPayment_11 : decode cX8_isPayment 11 = .ok (.ireturn, 1) := by decide +kernel
theorem dX8_isWindow_0 : decode cX8_isWindow 0 = .ok (.iload_n 0, 1) := by decide +kernel
theorem dX8_isWindow_1 : decode cX8_isWindow 1 = .ok (.iconst 1, 1) := by decide +kernel
theorem dX8_isWindow_2 : decode cX8_isWindow 2 = .ok (.sipush 10080, 3) := by decide +kernel
theorem dX8_isWindow_5 : decode cX8_isWindow 5 = .ok (.invokestatic 88, 3) := by decide +kernel
theorem dX8_isWindow_8 : decode cX8_isWindow 8 = .ok (.ireturn, 1) := by decide +kernel
theorem dX8_isIn_0 : decode cX8_isIn 0 = .ok (.aload_n 0, 1) := by decide +kernel
theorem dX8_isIn_1 : decode cX8_isIn 1 = .ok (.getfield 26, 3) := by decide +kernel
theorem dX8_isIn_4 : decode cX8_isIn 4 = .ok (.iload_n 1, 1) := by decide +kernel
theorem dX8_isIn_5 : decode cX8_isIn 5 = .ok (.iaload, 1) := by decide +kernel
theorem dX8_isIn_6 : decode cX8_isIn 6 = .ok (.iload_n 3, 1) := by decide +kernel
theorem dX8_isIn_7 : decode cX8_isIn 7 = .ok (.iload_n 2, 1) := by decide +kernel
theorem dX8_isIn_8 : decode cX8_isIn 8 = .ok (.isub, 1) := by decide +kernel
theorem dX8_isIn_9 : decode cX8_isIn 9 = .ok (.if_icmp .le 17, 3) := by decide +kernel
theorem dX8_isIn_12 : decode cX8_isIn 12 = .ok (.aload_n 0, 1) := by decide +kernel
theorem dX8_isIn_13 : decode cX8_isIn 13 = .ok (.getfield 26, 3) := by decide +kernel
theorem dX8_isIn_16 : decode cX8_isIn 16 = .ok (.iload_n 1, 1) := by decide +kernel
theorem dX8_isIn_17 : decode cX8_isIn 17 = .ok (.iaload, 1) := by decide +kernel
theorem dX8_isIn_18 : decode cX8_isIn 18 = .ok (.iload_n 3, 1) := by decide +kernel
theorem dX8_isIn_19 : decode cX8_isIn 19 = .ok (.if_icmp .gt 7, 3) := by decide +kernel
theorem dX8_isIn_22 : decode cX8_isIn 22 = .ok (.iconst 1, 1) := by decide +kernel
theorem dX8_isIn_23 : decode cX8_isIn 23 = .ok (.goto 4, 3) := by decide +kernel
theorem dX8_isIn_26 : decode cX8_isIn 26 = .ok (.iconst 0, 1) := by decide +kernel
theorem dX8_isIn_27 : decode cX8_isIn 27 = .ok (.ireturn, 1) := by decide +kernel
theorem dX8_pay_0 : decode cX8_pay 0 = .ok (.aload_n 0, 1) := by decide +kernel
theorem dX8_pay_1 : decode cX8_pay 1 = .ok (.iconst 0, 1) := by decide +kernel
theorem dX8_pay_2 : decode cX8_pay 2 = .ok (.putfield 82, 3) := by decide +kernel
theorem dX8_pay_5 : decode cX8_pay 5 = .ok (.aload_n 0, 1) := by decide +kernel
theorem dX8_pay_6 : decode cX8_pay 6 = .ok (.iload_n 1, 1) := by decide +kernel
theorem dX8_pay_7 : decode cX8_pay 7 = .ok (.invokevirtual 99, 3) := by decide +kernel
theorem dX8_pay_10 : decode cX8_pay 10 = .ok (.ifCond .eq 11, 3) := by decide +kernel
theorem dX8_pay_13 : decode cX8_pay 13 = .ok (.aload_n 0, 1) := by decide +kernel
theorem dX8_pay_14 : decode cX8_pay 14 = .ok (.iload_n 2, 1) := by decide +kernel
theorem dX8_pay_15 : decode cX8_pay 15 = .ok (.invokevirtual 99, 3) := by decide +kernel
theorem dX8_pay_18 : decode cX8_pay 18 = .ok (.ifCond .ne 9, 3) := by decide +kernel
theorem dX8_pay_21 : decode cX8_pay 21 = .ok (.aload_n 0, 1) := by decide +kernel
theorem dX8_pay_22 : decode cX8_pay 22 = .ok (.iconst 1, 1) := by decide +kernel
theorem dX8_pay_23 : decode cX8_pay 23 = .ok (.invokevirtual 92, 3) := by decide +kernel
theorem dX8_pay_26 : decode cX8_pay 26 = .ok (.ireturn, 1) := by decide +kernel
theorem dX8_pay_27 : decode cX8_pay 27 = .ok (.iload_n 3, 1) := by decide +kernel
theorem dX8_pay_28 : decode cX8_pay 28 = .ok (.iconst 1, 1) := by decide +kernel
theorem dX8_pay_29 : decode cX8_pay 29 = .ok (.sipush 9999, 3) := by decide +kernel
theorem dX8_pay_32 : decode cX8_pay 32 = .ok (.invokestatic 88, 3) := by decide +kernel
theorem dX8_pay_35 : decode cX8_pay 35 = .ok (.ifCond .ne 9, 3) := by decide +kernel
theorem dX8_pay_38 : decode cX8_pay 38 = .ok (.aload_n 0, 1) := by decide +kernel
theorem dX8_pay_39 : decode cX8_pay 39 = .ok (.iconst 2, 1) := by decide +kernel
theorem dX8_pay_40 : decode cX8_pay 40 = .ok (.invokevirtual 92, 3) := by decide +kernel
theorem dX8_pay_43 : decode cX8_pay 43 = .ok (.ireturn, 1) := by decide +kernel
theorem dX8_pay_44 : decode cX8_pay 44 = .ok (.iload_n 1, 1) := by decide +kernel
theorem dX8_pay_45 : decode cX8_pay 45 = .ok (.iload_n 2, 1) := by decide +kernel
theorem dX8_pay_46 : decode cX8_pay 46 = .ok (.if_icmp .ne 9, 3) := by decide +kernel
theorem dX8_pay_49 : decode cX8_pay 49 = .ok (.aload_n 0, 1) := by decide +kernel
theorem dX8_pay_50 : decode cX8_pay 50 = .ok (.iconst 3, 1) := by decide +kernel
theorem dX8_pay_51 : decode cX8_pay 51 = .ok (.invokevirtual 92, 3) := by decide +kernel
theorem dX8_pay_54 : decode cX8_pay 54 = .ok (.ireturn, 1) := by decide +kernel
theorem dX8_pay_55 : decode cX8_pay 55 = .ok (.aload_n 0, 1) := by decide +kernel
theorem dX8_pay_56 : decode cX8_pay 56 = .ok (.getfield 117, 3) := by decide +kernel
theorem dX8_pay_59 : decode cX8_pay 59 = .ok (.iload_n 1, 1) := by decide +kernel
theorem dX8_pay_60 : decode cX8_pay 60 = .ok (.invokestatic 109, 3) := by decide +kernel
theorem dX8_pay_63 : decode cX8_pay 63 = .ok (.ifCond .ne 24, 3) := by decide +kernel
theorem dX8_pay_66 : decode cX8_pay 66 = .ok (.aload_n 0, 1) := by decide +kernel
theorem dX8_pay_67 : decode cX8_pay 67 = .ok (.getfield 117, 3) := by decide +kernel
theorem dX8_pay_70 : decode cX8_pay 70 = .ok (.iload_n 2, 1) := by decide +kernel
theorem dX8_pay_71 : decode cX8_pay 71 = .ok (.invokestatic 109, 3) := by decide +kernel
theorem dX8_pay_74 : decode cX8_pay 74 = .ok (.ifCond .ne 13, 3) := by decide +kernel
theorem dX8_pay_77 : decode cX8_pay 77 = .ok (.aload_n 0, 1) := by decide +kernel
theorem dX8_pay_78 : decode cX8_pay 78 = .ok (.getfield 120, 3) := by decide +kernel
theorem dX8_pay_81 : decode cX8_pay 81 = .ok (.sipush 200, 3) := by decide +kernel
theorem dX8_pay_84 : decode cX8_pay 84 = .ok (.if_icmp .ne 9, 3) := by decide +kernel
theorem dX8_pay_87 : decode cX8_pay 87 = .ok (.aload_n 0, 1) := by decide +kernel
theorem dX8_pay_88 : decode cX8_pay 88 = .ok (.iconst 4, 1) := by decide +kernel
theorem dX8_pay_89 : decode cX8_pay 89 = .ok (.invokevirtual 92, 3) := by decide +kernel
theorem dX8_pay_92 : decode cX8_pay 92 = .ok (.ireturn, 1) := by decide +kernel
theorem dX8_pay_93 : decode cX8_pay 93 = .ok (.aload_n 0, 1) := by decide +kernel
theorem dX8_pay_94 : decode cX8_pay 94 = .ok (.getfield 17, 3) := by decide +kernel
theorem dX8_pay_97 : decode cX8_pay 97 = .ok (.aload_n 0, 1) := by decide +kernel
theorem dX8_pay_98 : decode cX8_pay 98 = .ok (.getfield 120, 3) := by decide +kernel
theorem dX8_pay_101 : decode cX8_pay 101 = .ok (.iload_n 1, 1) := by decide +kernel
theorem dX8_pay_102 : decode cX8_pay 102 = .ok (.iastore, 1) := by decide +kernel
theorem dX8_pay_103 : decode cX8_pay 103 = .ok (.aload_n 0, 1) := by decide +kernel
theorem dX8_pay_104 : decode cX8_pay 104 = .ok (.getfield 20, 3) := by decide +kernel
theorem dX8_pay_107 : decode cX8_pay 107 = .ok (.aload_n 0, 1) := by decide +kernel
theorem dX8_pay_108 : decode cX8_pay 108 = .ok (.getfield 120, 3) := by decide +kernel
theorem dX8_pay_111 : decode cX8_pay 111 = .ok (.iload_n 2, 1) := by decide +kernel
theorem dX8_pay_112 : decode cX8_pay 112 = .ok (.iastore, 1) := by decide +kernel
theorem dX8_pay_113 : decode cX8_pay 113 = .ok (.aload_n 0, 1) := by decide +kernel
theorem dX8_pay_114 : decode cX8_pay 114 = .ok (.getfield 23, 3) := by decide +kernel
theorem dX8_pay_117 : decode cX8_pay 117 = .ok (.aload_n 0, 1) := by decide +kernel
theorem dX8_pay_118 : decode cX8_pay 118 = .ok (.getfield 120, 3) := by decide +kernel
theorem dX8_pay_121 : decode cX8_pay 121 = .ok (.iload_n 3, 1) := by decide +kernel
theorem dX8_pay_122 : decode cX8_pay 122 = .ok (.iastore, 1) := by decide +kernel
theorem dX8_pay_123 : decode cX8_pay 123 = .ok (.aload_n 0, 1) := by decide +kernel
theorem dX8_pay_124 : decode cX8_pay 124 = .ok (.getfield 26, 3) := by decide +kernel
theorem dX8_pay_127 : decode cX8_pay 127 = .ok (.aload_n 0, 1) := by decide +kernel
theorem dX8_pay_128 : decode cX8_pay 128 = .ok (.getfield 120, 3) := by decide +kernel
theorem dX8_pay_131 : decode cX8_pay 131 = .ok (.aload_n 0, 1) := by decide +kernel
theorem dX8_pay_132 : decode cX8_pay 132 = .ok (.getfield 96, 3) := by decide +kernel
theorem dX8_pay_135 : decode cX8_pay 135 = .ok (.iastore, 1) := by decide +kernel
theorem dX8_pay_136 : decode cX8_pay 136 = .ok (.aload_n 0, 1) := by decide +kernel
theorem dX8_pay_137 : decode cX8_pay 137 = .ok (.getfield 29, 3) := by decide +kernel
theorem dX8_pay_140 : decode cX8_pay 140 = .ok (.aload_n 0, 1) := by decide +kernel
theorem dX8_pay_141 : decode cX8_pay 141 = .ok (.getfield 120, 3) := by decide +kernel
theorem dX8_pay_144 : decode cX8_pay 144 = .ok (.aload_n 0, 1) := by decide +kernel
theorem dX8_pay_145 : decode cX8_pay 145 = .ok (.getfield 106, 3) := by decide +kernel
theorem dX8_pay_148 : decode cX8_pay 148 = .ok (.iastore, 1) := by decide +kernel
theorem dX8_pay_149 : decode cX8_pay 149 = .ok (.aload_n 0, 1) := by decide +kernel
theorem dX8_pay_150 : decode cX8_pay 150 = .ok (.getfield 32, 3) := by decide +kernel
theorem dX8_pay_153 : decode cX8_pay 153 = .ok (.aload_n 0, 1) := by decide +kernel
theorem dX8_pay_154 : decode cX8_pay 154 = .ok (.getfield 120, 3) := by decide +kernel
theorem dX8_pay_157 : decode cX8_pay 157 = .ok (.aload_n 0, 1) := by decide +kernel
theorem dX8_pay_158 : decode cX8_pay 158 = .ok (.getfield 123, 3) := by decide +kernel
theorem dX8_pay_161 : decode cX8_pay 161 = .ok (.iastore, 1) := by decide +kernel
theorem dX8_pay_162 : decode cX8_pay 162 = .ok (.aload_n 0, 1) := by decide +kernel
theorem dX8_pay_163 : decode cX8_pay 163 = .ok (.dup, 1) := by decide +kernel
theorem dX8_pay_164 : decode cX8_pay 164 = .ok (.getfield 120, 3) := by decide +kernel
theorem dX8_pay_167 : decode cX8_pay 167 = .ok (.iconst 1, 1) := by decide +kernel
theorem dX8_pay_168 : decode cX8_pay 168 = .ok (.iadd, 1) := by decide +kernel
theorem dX8_pay_169 : decode cX8_pay 169 = .ok (.putfield 120, 3) := by decide +kernel
theorem dX8_pay_172 : decode cX8_pay 172 = .ok (.aload_n 0, 1) := by decide +kernel
theorem dX8_pay_173 : decode cX8_pay 173 = .ok (.getfield 35, 3) := by decide +kernel
theorem dX8_pay_176 : decode cX8_pay 176 = .ok (.aload_n 0, 1) := by decide +kernel
theorem dX8_pay_177 : decode cX8_pay 177 = .ok (.getfield 120, 3) := by decide +kernel
theorem dX8_pay_180 : decode cX8_pay 180 = .ok (.iconst 1, 1) := by decide +kernel
theorem dX8_pay_181 : decode cX8_pay 181 = .ok (.isub, 1) := by decide +kernel
theorem dX8_pay_182 : decode cX8_pay 182 = .ok (.aload_n 0, 1) := by decide +kernel
theorem dX8_pay_183 : decode cX8_pay 183 = .ok (.aload_n 0, 1) := by decide +kernel
theorem dX8_pay_184 : decode cX8_pay 184 = .ok (.getfield 120, 3) := by decide +kernel
theorem dX8_pay_187 : decode cX8_pay 187 = .ok (.iconst 1, 1) := by decide +kernel
theorem dX8_pay_188 : decode cX8_pay 188 = .ok (.isub, 1) := by decide +kernel
theorem dX8_pay_189 : decode cX8_pay 189 = .ok (.aload_n 0, 1) := by decide +kernel
theorem dX8_pay_190 : decode cX8_pay 190 = .ok (.getfield 123, 3) := by decide +kernel
theorem dX8_pay_193 : decode cX8_pay 193 = .ok (.aload_n 0, 1) := by decide +kernel
theorem dX8_pay_194 : decode cX8_pay 194 = .ok (.getfield 106, 3) := by decide +kernel
theorem dX8_pay_197 : decode cX8_pay 197 = .ok (.invokevirtual 126, 3) := by decide +kernel
theorem dX8_pay_200 : decode cX8_pay 200 = .ok (.iastore, 1) := by decide +kernel
theorem dX8_pay_201 : decode cX8_pay 201 = .ok (.aload_n 0, 1) := by decide +kernel
theorem dX8_pay_202 : decode cX8_pay 202 = .ok (.getfield 38, 3) := by decide +kernel
theorem dX8_pay_205 : decode cX8_pay 205 = .ok (.aload_n 0, 1) := by decide +kernel
theorem dX8_pay_206 : decode cX8_pay 206 = .ok (.getfield 120, 3) := by decide +kernel
theorem dX8_pay_209 : decode cX8_pay 209 = .ok (.iconst 1, 1) := by decide +kernel
theorem dX8_pay_210 : decode cX8_pay 210 = .ok (.isub, 1) := by decide +kernel
theorem dX8_pay_211 : decode cX8_pay 211 = .ok (.aload_n 0, 1) := by decide +kernel
theorem dX8_pay_212 : decode cX8_pay 212 = .ok (.getfield 35, 3) := by decide +kernel
theorem dX8_pay_215 : decode cX8_pay 215 = .ok (.aload_n 0, 1) := by decide +kernel
theorem dX8_pay_216 : decode cX8_pay 216 = .ok (.getfield 120, 3) := by decide +kernel
theorem dX8_pay_219 : decode cX8_pay 219 = .ok (.iconst 1, 1) := by decide +kernel
theorem dX8_pay_220 : decode cX8_pay 220 = .ok (.isub, 1) := by decide +kernel
theorem dX8_pay_221 : decode cX8_pay 221 = .ok (.iaload, 1) := by decide +kernel
theorem dX8_pay_222 : decode cX8_pay 222 = .ok (.aload_n 0, 1) := by decide +kernel
theorem dX8_pay_223 : decode cX8_pay 223 = .ok (.getfield 41, 3) := by decide +kernel
theorem dX8_pay_226 : decode cX8_pay 226 = .ok (.if_icmp .lt 8, 3) := by decide +kernel
theorem dX8_pay_229 : decode cX8_pay 229 = .ok (.bipush 111, 2) := by decide +kernel
theorem dX8_pay_231 : decode cX8_pay 231 = .ok (.goto 5, 3) := by decide +kernel
theorem dX8_pay_234 : decode cX8_pay 234 = .ok (.bipush 45, 2) := by decide +kernel
theorem dX8_pay_236 : decode cX8_pay 236 = .ok (.castore, 1) := by decide +kernel
theorem dX8_pay_237 : decode cX8_pay 237 = .ok (.aload_n 0, 1) := by decide +kernel
theorem dX8_pay_238 : decode cX8_pay 238 = .ok (.getfield 120, 3) := by decide +kernel
theorem dX8_pay_241 : decode cX8_pay 241 = .ok (.iconst 1, 1) := by decide +kernel
theorem dX8_pay_242 : decode cX8_pay 242 = .ok (.isub, 1) := by decide +kernel
theorem dX8_pay_243 : decode cX8_pay 243 = .ok (.ireturn, 1) := by decide +kernel
theorem dX8_payments_0 : decode cX8_payments 0 = .ok (.aload_n 0, 1) := by decide +kernel
theorem dX8_payments_1 : decode cX8_payments 1 = .ok (.iconst 0, 1) := by decide +kernel
theorem dX8_payments_2 : decode cX8_payments 2 = .ok (.putfield 82, 3) := by decide +kernel
theorem dX8_payments_5 : decode cX8_payments 5 = .ok (.aload_n 0, 1) := by decide +kernel
theorem dX8_payments_6 : decode cX8_payments 6 = .ok (.getfield 120, 3) := by decide +kernel
theorem dX8_payments_9 : decode cX8_payments 9 = .ok (.ireturn, 1) := by decide +kernel
theorem dX8_minuteOf_0 : decode cX8_minuteOf 0 = .ok (.aload_n 0, 1) := by decide +kernel
theorem dX8_minuteOf_1 : decode cX8_minuteOf 1 = .ok (.iconst 0, 1) := by decide +kernel
theorem dX8_minuteOf_2 : decode cX8_minuteOf 2 = .ok (.putfield 82, 3) := by decide +kernel
theorem dX8_minuteOf_5 : decode cX8_minuteOf 5 = .ok (.aload_n 0, 1) := by decide +kernel
theorem dX8_minuteOf_6 : decode cX8_minuteOf 6 = .ok (.iload_n 1, 1) := by decide +kernel
theorem dX8_minuteOf_7 : decode cX8_minuteOf 7 = .ok (.invokevirtual 130, 3) := by decide +kernel
theorem dX8_minuteOf_10 : decode cX8_minuteOf 10 = .ok (.ifCond .eq 12, 3) := by decide +kernel
theorem dX8_minuteOf_13 : decode cX8_minuteOf 13 = .ok (.aload_n 0, 1) := by decide +kernel
theorem dX8_minuteOf_14 : decode cX8_minuteOf 14 = .ok (.getfield 26, 3) := by decide +kernel
theorem dX8_minuteOf_17 : decode cX8_minuteOf 17 = .ok (.iload_n 1, 1) := by decide +kernel
theorem dX8_minuteOf_18 : decode cX8_minuteOf 18 = .ok (.iaload, 1) := by decide +kernel
theorem dX8_minuteOf_19 : decode cX8_minuteOf 19 = .ok (.goto 8, 3) := by decide +kernel
theorem dX8_minuteOf_22 : decode cX8_minuteOf 22 = .ok (.aload_n 0, 1) := by decide +kernel
theorem dX8_minuteOf_23 : decode cX8_minuteOf 23 = .ok (.iconst 1, 1) := by decide +kernel
theorem dX8_minuteOf_24 : decode cX8_minuteOf 24 = .ok (.invokevirtual 92, 3) := by decide +kernel
theorem dX8_minuteOf_27 : decode cX8_minuteOf 27 = .ok (.ireturn, 1) := by decide +kernel
theorem dX8_sentBy_0 : decode cX8_sentBy 0 = .ok (.aload_n 0, 1) := by decide +kernel
theorem dX8_sentBy_1 : decode cX8_sentBy 1 = .ok (.iconst 0, 1) := by decide +kernel
theorem dX8_sentBy_2 : decode cX8_sentBy 2 = .ok (.putfield 82, 3) := by decide +kernel
theorem dX8_sentBy_5 : decode cX8_sentBy 5 = .ok (.aload_n 0, 1) := by decide +kernel
theorem dX8_sentBy_6 : decode cX8_sentBy 6 = .ok (.iload_n 1, 1) := by decide +kernel
theorem dX8_sentBy_7 : decode cX8_sentBy 7 = .ok (.invokevirtual 99, 3) := by decide +kernel
theorem dX8_sentBy_10 : decode cX8_sentBy 10 = .ok (.ifCond .ne 9, 3) := by decide +kernel
theorem dX8_sentBy_13 : decode cX8_sentBy 13 = .ok (.aload_n 0, 1) := by decide +kernel
theorem dX8_sentBy_14 : decode cX8_sentBy 14 = .ok (.iconst 1, 1) := by decide +kernel
theorem dX8_sentBy_15 : decode cX8_sentBy 15 = .ok (.invokevirtual 92, 3) := by decide +kernel
theorem dX8_sentBy_18 : decode cX8_sentBy 18 = .ok (.ireturn, 1) := by decide +kernel
theorem dX8_sentBy_19 : decode cX8_sentBy 19 = .ok (.iload_n 2, 1) := by decide +kernel
theorem dX8_sentBy_20 : decode cX8_sentBy 20 = .ok (.invokestatic 133, 3) := by decide +kernel
theorem dX8_sentBy_23 : decode cX8_sentBy 23 = .ok (.ifCond .ne 9, 3) := by decide +kernel
theorem dX8_sentBy_26 : decode cX8_sentBy 26 = .ok (.aload_n 0, 1) := by decide +kernel
theorem dX8_sentBy_27 : decode cX8_sentBy 27 = .ok (.iconst 2, 1) := by decide +kernel
theorem dX8_sentBy_28 : decode cX8_sentBy 28 = .ok (.invokevirtual 92, 3) := by decide +kernel
theorem dX8_sentBy_31 : decode cX8_sentBy 31 = .ok (.ireturn, 1) := by decide +kernel
theorem dX8_sentBy_32 : decode cX8_sentBy 32 = .ok (.iconst 0, 1) := by decide +kernel
theorem dX8_sentBy_33 : decode cX8_sentBy 33 = .ok (.istore_n 3, 1) := by decide +kernel
theorem dX8_sentBy_34 : decode cX8_sentBy 34 = .ok (.iconst 0, 1) := by decide +kernel
theorem dX8_sentBy_35 : decode cX8_sentBy 35 = .ok (.istore 4, 2) := by decide +kernel
theorem dX8_sentBy_37 : decode cX8_sentBy 37 = .ok (.iload 4, 2) := by decide +kernel
theorem dX8_sentBy_39 : decode cX8_sentBy 39 = .ok (.aload_n 0, 1) := by decide +kernel
theorem dX8_sentBy_40 : decode cX8_sentBy 40 = .ok (.getfield 120, 3) := by decide +kernel
theorem dX8_sentBy_43 : decode cX8_sentBy 43 = .ok (.if_icmp .ge 48, 3) := by decide +kernel
theorem dX8_sentBy_46 : decode cX8_sentBy 46 = .ok (.iload_n 3, 1) := by decide +kernel
theorem dX8_sentBy_47 : decode cX8_sentBy 47 = .ok (.aload_n 0, 1) := by decide +kernel
theorem dX8_sentBy_48 : decode cX8_sentBy 48 = .ok (.getfield 17, 3) := by decide +kernel
theorem dX8_sentBy_51 : decode cX8_sentBy 51 = .ok (.iload 4, 2) := by decide +kernel
theorem dX8_sentBy_53 : decode cX8_sentBy 53 = .ok (.iaload, 1) := by decide +kernel
theorem dX8_sentBy_54 : decode cX8_sentBy 54 = .ok (.iload_n 1, 1) := by decide +kernel
theorem dX8_sentBy_55 : decode cX8_sentBy 55 = .ok (.if_icmp .ne 27, 3) := by decide +kernel
theorem dX8_sentBy_58 : decode cX8_sentBy 58 = .ok (.aload_n 0, 1) := by decide +kernel
theorem dX8_sentBy_59 : decode cX8_sentBy 59 = .ok (.iload 4, 2) := by decide +kernel
theorem dX8_sentBy_61 : decode cX8_sentBy 61 = .ok (.iload_n 2, 1) := by decide +kernel
theorem dX8_sentBy_62 : decode cX8_sentBy 62 = .ok (.aload_n 0, 1) := by decide +kernel
theorem dX8_sentBy_63 : decode cX8_sentBy 63 = .ok (.getfield 96, 3) := by decide +kernel
theorem dX8_sentBy_66 : decode cX8_sentBy 66 = .ok (.invokevirtual 136, 3) := by decide +kernel
theorem dX8_sentBy_69 : decode cX8_sentBy 69 = .ok (.ifCond .eq 13, 3) := by decide +kernel
theorem dX8_sentBy_72 : decode cX8_sentBy 72 = .ok (.aload_n 0, 1) := by decide +kernel
theorem dX8_sentBy_73 : decode cX8_sentBy 73 = .ok (.getfield 23, 3) := by decide +kernel
theorem dX8_sentBy_76 : decode cX8_sentBy 76 = .ok (.iload 4, 2) := by decide +kernel
theorem dX8_sentBy_78 : decode cX8_sentBy 78 = .ok (.iaload, 1) := by decide +kernel
theorem dX8_sentBy_79 : decode cX8_sentBy 79 = .ok (.goto 4, 3) := by decide +kernel
theorem dX8_sentBy_82 : decode cX8_sentBy 82 = .ok (.iconst 0, 1) := by decide +kernel
theorem dX8_sentBy_83 : decode cX8_sentBy 83 = .ok (.iadd, 1) := by decide +kernel
theorem dX8_sentBy_84 : decode cX8_sentBy 84 = .ok (.istore_n 3, 1) := by decide +kernel
theorem dX8_sentBy_85 : decode cX8_sentBy 85 = .ok (.iinc 4 1, 3) := by decide +kernel
theorem dX8_sentBy_88 : decode cX8_sentBy 88 = .ok (.goto (-51), 3) := by decide +kernel
theorem dX8_sentBy_91 : decode cX8_sentBy 91 = .ok (.iload_n 3, 1) := by decide +kernel
theorem dX8_sentBy_92 : decode cX8_sentBy 92 = .ok (.ireturn, 1) := by decide +kernel
theorem dX8_sentByAnew_0 : decode cX8_sentByAnew 0 = .ok (.aload_n 0, 1) := by decide +kernel
theorem dX8_sentByAnew_1 : decode cX8_sentByAnew 1 = .ok (.iload_n 1, 1) := by decide +kernel
theorem dX8_sentByAnew_2 : decode cX8_sentByAnew 2 = .ok (.iload_n 2, 1) := by decide +kernel
theorem dX8_sentByAnew_3 : decode cX8_sentByAnew 3 = .ok (.invokevirtual 139, 3) := by decide +kernel
theorem dX8_sentByAnew_6 : decode cX8_sentByAnew 6 = .ok (.ireturn, 1) := by decide +kernel
theorem dX8_kept_0 : decode cX8_kept 0 = .ok (.aload_n 0, 1) := by decide +kernel
theorem dX8_kept_1 : decode cX8_kept 1 = .ok (.iconst 0, 1) := by decide +kernel
theorem dX8_kept_2 : decode cX8_kept 2 = .ok (.putfield 82, 3) := by decide +kernel
theorem dX8_kept_5 : decode cX8_kept 5 = .ok (.iconst 0, 1) := by decide +kernel
theorem dX8_kept_6 : decode cX8_kept 6 = .ok (.istore_n 1, 1) := by decide +kernel
theorem dX8_kept_7 : decode cX8_kept 7 = .ok (.iconst 0, 1) := by decide +kernel
theorem dX8_kept_8 : decode cX8_kept 8 = .ok (.istore_n 2, 1) := by decide +kernel
theorem dX8_kept_9 : decode cX8_kept 9 = .ok (.iload_n 2, 1) := by decide +kernel
theorem dX8_kept_10 : decode cX8_kept 10 = .ok (.aload_n 0, 1) := by decide +kernel
theorem dX8_kept_11 : decode cX8_kept 11 = .ok (.getfield 120, 3) := by decide +kernel
theorem dX8_kept_14 : decode cX8_kept 14 = .ok (.if_icmp .ge 32, 3) := by decide +kernel
theorem dX8_kept_17 : decode cX8_kept 17 = .ok (.iload_n 1, 1) := by decide +kernel
theorem dX8_kept_18 : decode cX8_kept 18 = .ok (.aload_n 0, 1) := by decide +kernel
theorem dX8_kept_19 : decode cX8_kept 19 = .ok (.iload_n 2, 1) := by decide +kernel
theorem dX8_kept_20 : decode cX8_kept 20 = .ok (.sipush 10080, 3) := by decide +kernel
theorem dX8_kept_23 : decode cX8_kept 23 = .ok (.aload_n 0, 1) := by decide +kernel
theorem dX8_kept_24 : decode cX8_kept 24 = .ok (.getfield 96, 3) := by decide +kernel
theorem dX8_kept_27 : decode cX8_kept 27 = .ok (.invokevirtual 136, 3) := by decide +kernel
theorem dX8_kept_30 : decode cX8_kept 30 = .ok (.ifCond .eq 7, 3) := by decide +kernel
theorem dX8_kept_33 : decode cX8_kept 33 = .ok (.iconst 1, 1) := by decide +kernel
theorem dX8_kept_34 : decode cX8_kept 34 = .ok (.goto 4, 3) := by decide +kernel
theorem dX8_kept_37 : decode cX8_kept 37 = .ok (.iconst 0, 1) := by decide +kernel
theorem dX8_kept_38 : decode cX8_kept 38 = .ok (.iadd, 1) := by decide +kernel
theorem dX8_kept_39 : decode cX8_kept 39 = .ok (.istore_n 1, 1) := by decide +kernel
theorem dX8_kept_40 : decode cX8_kept 40 = .ok (.iinc 2 1, 3) := by decide +kernel
theorem dX8_kept_43 : decode cX8_kept 43 = .ok (.goto (-34), 3) := by decide +kernel
theorem dX8_kept_46 : decode cX8_kept 46 = .ok (.iload_n 1, 1) := by decide +kernel
theorem dX8_kept_47 : decode cX8_kept 47 = .ok (.ireturn, 1) := by decide +kernel
theorem dX8_spreads_0 : decode cX8_spreads 0 = .ok (.iconst 0, 1) := by decide +kernel
theorem dX8_spreads_1 : decode cX8_spreads 1 = .ok (.istore 6, 2) := by decide +kernel
theorem dX8_spreads_3 : decode cX8_spreads 3 = .ok (.iload 6, 2) := by decide +kernel
theorem dX8_spreads_5 : decode cX8_spreads 5 = .ok (.aload_n 0, 1) := by decide +kernel
theorem dX8_spreads_6 : decode cX8_spreads 6 = .ok (.getfield 85, 3) := by decide +kernel
theorem dX8_spreads_9 : decode cX8_spreads 9 = .ok (.if_icmp .ge 18, 3) := by decide +kernel
theorem dX8_spreads_12 : decode cX8_spreads 12 = .ok (.aload_n 0, 1) := by decide +kernel
theorem dX8_spreads_13 : decode cX8_spreads 13 = .ok (.getfield 45, 3) := by decide +kernel
theorem dX8_spreads_16 : decode cX8_spreads 16 = .ok (.iload 6, 2) := by decide +kernel
theorem dX8_spreads_18 : decode cX8_spreads 18 = .ok (.bipush 99, 2) := by decide +kernel
theorem dX8_spreads_20 : decode cX8_spreads 20 = .ok (.iastore, 1) := by decide +kernel
theorem dX8_spreads_21 : decode cX8_spreads 21 = .ok (.iinc 6 1, 3) := by decide +kernel
theorem dX8_spreads_24 : decode cX8_spreads 24 = .ok (.goto (-21), 3) := by decide +kernel
theorem dX8_spreads_27 : decode cX8_spreads 27 = .ok (.aload_n 0, 1) := by decide +kernel
theorem dX8_spreads_28 : decode cX8_spreads 28 = .ok (.getfield 45, 3) := by decide +kernel
theorem dX8_spreads_31 : decode cX8_spreads 31 = .ok (.iload_n 1, 1) := by decide +kernel
theorem dX8_spreads_32 : decode cX8_spreads 32 = .ok (.iconst 0, 1) := by decide +kernel
theorem dX8_spreads_33 : decode cX8_spreads 33 = .ok (.iastore, 1) := by decide +kernel
theorem dX8_spreads_34 : decode cX8_spreads 34 = .ok (.iconst 0, 1) := by decide +kernel
theorem dX8_spreads_35 : decode cX8_spreads 35 = .ok (.istore 6, 2) := by decide +kernel
theorem dX8_spreads_37 : decode cX8_spreads 37 = .ok (.iload 6, 2) := by decide +kernel
theorem dX8_spreads_39 : decode cX8_spreads 39 = .ok (.aload_n 0, 1) := by decide +kernel
theorem dX8_spreads_40 : decode cX8_spreads 40 = .ok (.getfield 85, 3) := by decide +kernel
theorem dX8_spreads_43 : decode cX8_spreads 43 = .ok (.if_icmp .ge 144, 3) := by decide +kernel
theorem dX8_spreads_46 : decode cX8_spreads 46 = .ok (.iconst 0, 1) := by decide +kernel
theorem dX8_spreads_47 : decode cX8_spreads 47 = .ok (.istore 7, 2) := by decide +kernel
theorem dX8_spreads_49 : decode cX8_spreads 49 = .ok (.iload 7, 2) := by decide +kernel
theorem dX8_spreads_51 : decode cX8_spreads 51 = .ok (.iload_n 2, 1) := by decide +kernel
theorem dX8_spreads_52 : decode cX8_spreads 52 = .ok (.if_icmp .gt 129, 3) := by decide +kernel
theorem dX8_spreads_55 : decode cX8_spreads 55 = .ok (.aload_n 0, 1) := by decide +kernel
theorem dX8_spreads_56 : decode cX8_spreads 56 = .ok (.iload 7, 2) := by decide +kernel
theorem dX8_spreads_58 : decode cX8_spreads 58 = .ok (.iload_n 3, 1) := by decide +kernel
theorem dX8_spreads_59 : decode cX8_spreads 59 = .ok (.iload 4, 2) := by decide +kernel
theorem dX8_spreads_61 : decode cX8_spreads 61 = .ok (.invokevirtual 136, 3) := by decide +kernel
theorem dX8_spreads_64 : decode cX8_spreads 64 = .ok (.ifCond .ne 6, 3) := by decide +kernel
theorem dX8_spreads_67 : decode cX8_spreads 67 = .ok (.goto 108, 3) := by decide +kernel
theorem dX8_spreads_70 : decode cX8_spreads 70 = .ok (.aload_n 0, 1) := by decide +kernel
theorem dX8_spreads_71 : decode cX8_spreads 71 = .ok (.getfield 45, 3) := by decide +kernel
theorem dX8_spreads_74 : decode cX8_spreads 74 = .ok (.aload_n 0, 1) := by decide +kernel
theorem dX8_spreads_75 : decode cX8_spreads 75 = .ok (.getfield 17, 3) := by decide +kernel
theorem dX8_spreads_78 : decode cX8_spreads 78 = .ok (.iload 7, 2) := by decide +kernel
theorem dX8_spreads_80 : decode cX8_spreads 80 = .ok (.iaload, 1) := by decide +kernel
theorem dX8_spreads_81 : decode cX8_spreads 81 = .ok (.iaload, 1) := by decide +kernel
theorem dX8_spreads_82 : decode cX8_spreads 82 = .ok (.iload 6, 2) := by decide +kernel
theorem dX8_spreads_84 : decode cX8_spreads 84 = .ok (.if_icmp .ne 36, 3) := by decide +kernel
theorem dX8_spreads_87 : decode cX8_spreads 87 = .ok (.aload_n 0, 1) := by decide +kernel
theorem dX8_spreads_88 : decode cX8_spreads 88 = .ok (.getfield 45, 3) := by decide +kernel
theorem dX8_spreads_91 : decode cX8_spreads 91 = .ok (.aload_n 0, 1) := by decide +kernel
theorem dX8_spreads_92 : decode cX8_spreads 92 = .ok (.getfield 20, 3) := by decide +kernel
theorem dX8_spreads_95 : decode cX8_spreads 95 = .ok (.iload 7, 2) := by decide +kernel
theorem dX8_spreads_97 : decode cX8_spreads 97 = .ok (.iaload, 1) := by decide +kernel
theorem dX8_spreads_98 : decode cX8_spreads 98 = .ok (.iaload, 1) := by decide +kernel
theorem dX8_spreads_99 : decode cX8_spreads 99 = .ok (.bipush 99, 2) := by decide +kernel
theorem dX8_spreads_101 : decode cX8_spreads 101 = .ok (.if_icmp .ne 19, 3) := by decide +kernel
theorem dX8_spreads_104 : decode cX8_spreads 104 = .ok (.aload_n 0, 1) := by decide +kernel
theorem dX8_spreads_105 : decode cX8_spreads 105 = .ok (.getfield 45, 3) := by decide +kernel
theorem dX8_spreads_108 : decode cX8_spreads 108 = .ok (.aload_n 0, 1) := by decide +kernel
theorem dX8_spreads_109 : decode cX8_spreads 109 = .ok (.getfield 20, 3) := by decide +kernel
theorem dX8_spreads_112 : decode cX8_spreads 112 = .ok (.iload 7, 2) := by decide +kernel
theorem dX8_spreads_114 : decode cX8_spreads 114 = .ok (.iaload, 1) := by decide +kernel
theorem dX8_spreads_115 : decode cX8_spreads 115 = .ok (.iload 6, 2) := by decide +kernel
theorem dX8_spreads_117 : decode cX8_spreads 117 = .ok (.iconst 1, 1) := by decide +kernel
theorem dX8_spreads_118 : decode cX8_spreads 118 = .ok (.iadd, 1) := by decide +kernel
theorem dX8_spreads_119 : decode cX8_spreads 119 = .ok (.iastore, 1) := by decide +kernel
theorem dX8_spreads_120 : decode cX8_spreads 120 = .ok (.iload 5, 2) := by decide +kernel
theorem dX8_spreads_122 : decode cX8_spreads 122 = .ok (.ifCond .eq 53, 3) := by decide +kernel
theorem dX8_spreads_125 : decode cX8_spreads 125 = .ok (.aload_n 0, 1) := by decide +kernel
theorem dX8_spreads_126 : decode cX8_spreads 126 = .ok (.getfield 45, 3) := by decide +kernel
theorem dX8_spreads_129 : decode cX8_spreads 129 = .ok (.aload_n 0, 1) := by decide +kernel
theorem dX8_spreads_130 : decode cX8_spreads 130 = .ok (.getfield 20, 3) := by decide +kernel
theorem dX8_spreads_133 : decode cX8_spreads 133 = .ok (.iload 7, 2) := by decide +kernel
theorem dX8_spreads_135 : decode cX8_spreads 135 = .ok (.iaload, 1) := by decide +kernel
theorem dX8_spreads_136 : decode cX8_spreads 136 = .ok (.iaload, 1) := by decide +kernel
theorem dX8_spreads_137 : decode cX8_spreads 137 = .ok (.iload 6, 2) := by decide +kernel
theorem dX8_spreads_139 : decode cX8_spreads 139 = .ok (.if_icmp .ne 36, 3) := by decide +kernel
theorem dX8_spreads_142 : decode cX8_spreads 142 = .ok (.aload_n 0, 1) := by decide +kernel
theorem dX8_spreads_143 : decode cX8_spreads 143 = .ok (.getfield 45, 3) := by decide +kernel
theorem dX8_spreads_146 : decode cX8_spreads 146 = .ok (.aload_n 0, 1) := by decide +kernel
theorem dX8_spreads_147 : decode cX8_spreads 147 = .ok (.getfield 17, 3) := by decide +kernel
theorem dX8_spreads_150 : decode cX8_spreads 150 = .ok (.iload 7, 2) := by decide +kernel
theorem dX8_spreads_152 : decode cX8_spreads 152 = .ok (.iaload, 1) := by decide +kernel
theorem dX8_spreads_153 : decode cX8_spreads 153 = .ok (.iaload, 1) := by decide +kernel
theorem dX8_spreads_154 : decode cX8_spreads 154 = .ok (.bipush 99, 2) := by decide +kernel
theorem dX8_spreads_156 : decode cX8_spreads 156 = .ok (.if_icmp .ne 19, 3) := by decide +kernel
theorem dX8_spreads_159 : decode cX8_spreads 159 = .ok (.aload_n 0, 1) := by decide +kernel
theorem dX8_spreads_160 : decode cX8_spreads 160 = .ok (.getfield 45, 3) := by decide +kernel
theorem dX8_spreads_163 : decode cX8_spreads 163 = .ok (.aload_n 0, 1) := by decide +kernel
theorem dX8_spreads_164 : decode cX8_spreads 164 = .ok (.getfield 17, 3) := by decide +kernel
theorem dX8_spreads_167 : decode cX8_spreads 167 = .ok (.iload 7, 2) := by decide +kernel
theorem dX8_spreads_169 : decode cX8_spreads 169 = .ok (.iaload, 1) := by decide +kernel
theorem dX8_spreads_170 : decode cX8_spreads 170 = .ok (.iload 6, 2) := by decide +kernel
theorem dX8_spreads_172 : decode cX8_spreads 172 = .ok (.iconst 1, 1) := by decide +kernel
theorem dX8_spreads_173 : decode cX8_spreads 173 = .ok (.iadd, 1) := by decide +kernel
theorem dX8_spreads_174 : decode cX8_spreads 174 = .ok (.iastore, 1) := by decide +kernel
theorem dX8_spreads_175 : decode cX8_spreads 175 = .ok (.iinc 7 1, 3) := by decide +kernel
theorem dX8_spreads_178 : decode cX8_spreads 178 = .ok (.goto (-129), 3) := by decide +kernel
theorem dX8_spreads_181 : decode cX8_spreads 181 = .ok (.iinc 6 1, 3) := by decide +kernel
theorem dX8_spreads_184 : decode cX8_spreads 184 = .ok (.goto (-147), 3) := by decide +kernel
theorem dX8_spreads_187 : decode cX8_spreads 187 = .ok (.return_, 1) := by decide +kernel
theorem dX8_reached_0 : decode cX8_reached 0 = .ok (.aload_n 0, 1) := by decide +kernel
theorem dX8_reached_1 : decode cX8_reached 1 = .ok (.iload_n 1, 1) := by decide +kernel
theorem dX8_reached_2 : decode cX8_reached 2 = .ok (.iload_n 2, 1) := by decide +kernel
theorem dX8_reached_3 : decode cX8_reached 3 = .ok (.iload_n 3, 1) := by decide +kernel
theorem dX8_reached_4 : decode cX8_reached 4 = .ok (.iload 4, 2) := by decide +kernel
theorem dX8_reached_6 : decode cX8_reached 6 = .ok (.iconst 1, 1) := by decide +kernel
theorem dX8_reached_7 : decode cX8_reached 7 = .ok (.invokevirtual 143, 3) := by decide +kernel
theorem dX8_reached_10 : decode cX8_reached 10 = .ok (.iconst 0, 1) := by decide +kernel
theorem dX8_reached_11 : decode cX8_reached 11 = .ok (.istore 5, 2) := by decide +kernel
theorem dX8_reached_13 : decode cX8_reached 13 = .ok (.iconst 0, 1) := by decide +kernel
theorem dX8_reached_14 : decode cX8_reached 14 = .ok (.istore 6, 2) := by decide +kernel
theorem dX8_reached_16 : decode cX8_reached 16 = .ok (.iload 6, 2) := by decide +kernel
theorem dX8_reached_18 : decode cX8_reached 18 = .ok (.aload_n 0, 1) := by decide +kernel
theorem dX8_reached_19 : decode cX8_reached 19 = .ok (.getfield 85, 3) := by decide +kernel
theorem dX8_reached_22 : decode cX8_reached 22 = .ok (.if_icmp .ge 31, 3) := by decide +kernel
theorem dX8_reached_25 : decode cX8_reached 25 = .ok (.iload 5, 2) := by decide +kernel
theorem dX8_reached_27 : decode cX8_reached 27 = .ok (.aload_n 0, 1) := by decide +kernel
theorem dX8_reached_28 : decode cX8_reached 28 = .ok (.getfield 45, 3) := by decide +kernel
theorem dX8_reached_31 : decode cX8_reached 31 = .ok (.iload 6, 2) := by decide +kernel
theorem dX8_reached_33 : decode cX8_reached 33 = .ok (.iaload, 1) := by decide +kernel
theorem dX8_reached_34 : decode cX8_reached 34 = .ok (.bipush 99, 2) := by decide +kernel
theorem dX8_reached_36 : decode cX8_reached 36 = .ok (.if_icmp .ge 7, 3) := by decide +kernel
theorem dX8_reached_39 : decode cX8_reached 39 = .ok (.iconst 1, 1) := by decide +kernel
theorem dX8_reached_40 : decode cX8_reached 40 = .ok (.goto 4, 3) := by decide +kernel
theorem dX8_reached_43 : decode cX8_reached 43 = .ok (.iconst 0, 1) := by decide +kernel
theorem dX8_reached_44 : decode cX8_reached 44 = .ok (.iadd, 1) := by decide +kernel
theorem dX8_reached_45 : decode cX8_reached 45 = .ok (.istore 5, 2) := by decide +kernel
theorem dX8_reached_47 : decode cX8_reached 47 = .ok (.iinc 6 1, 3) := by decide +kernel
theorem dX8_reached_50 : decode cX8_reached 50 = .ok (.goto (-34), 3) := by decide +kernel
theorem dX8_reached_53 : decode cX8_reached 53 = .ok (.iload 5, 2) := by decide +kernel
theorem dX8_reached_55 : decode cX8_reached 55 = .ok (.ireturn, 1) := by decide +kernel
theorem dX8_toMarked_0 : decode cX8_toMarked 0 = .ok (.aload_n 0, 1) := by decide +kernel
theorem dX8_toMarked_1 : decode cX8_toMarked 1 = .ok (.aload_n 0, 1) := by decide +kernel
theorem dX8_toMarked_2 : decode cX8_toMarked 2 = .ok (.getfield 20, 3) := by decide +kernel
theorem dX8_toMarked_5 : decode cX8_toMarked 5 = .ok (.iload_n 1, 1) := by decide +kernel
theorem dX8_toMarked_6 : decode cX8_toMarked 6 = .ok (.iaload, 1) := by decide +kernel
theorem dX8_toMarked_7 : decode cX8_toMarked 7 = .ok (.iload_n 1, 1) := by decide +kernel
theorem dX8_toMarked_8 : decode cX8_toMarked 8 = .ok (.iload_n 2, 1) := by decide +kernel
theorem dX8_toMarked_9 : decode cX8_toMarked 9 = .ok (.aload_n 0, 1) := by decide +kernel
theorem dX8_toMarked_10 : decode cX8_toMarked 10 = .ok (.getfield 26, 3) := by decide +kernel
theorem dX8_toMarked_13 : decode cX8_toMarked 13 = .ok (.iload_n 1, 1) := by decide +kernel
theorem dX8_toMarked_14 : decode cX8_toMarked 14 = .ok (.iaload, 1) := by decide +kernel
theorem dX8_toMarked_15 : decode cX8_toMarked 15 = .ok (.iconst 1, 1) := by decide +kernel
theorem dX8_toMarked_16 : decode cX8_toMarked 16 = .ok (.invokevirtual 143, 3) := by decide +kernel
theorem dX8_toMarked_19 : decode cX8_toMarked 19 = .ok (.bipush 99, 2) := by decide +kernel
theorem dX8_toMarked_21 : decode cX8_toMarked 21 = .ok (.istore 4, 2) := by decide +kernel
theorem dX8_toMarked_23 : decode cX8_toMarked 23 = .ok (.iconst 0, 1) := by decide +kernel
theorem dX8_toMarked_24 : decode cX8_toMarked 24 = .ok (.istore 5, 2) := by decide +kernel
theorem dX8_toMarked_26 : decode cX8_toMarked 26 = .ok (.iload 5, 2) := by decide +kernel
theorem dX8_toMarked_28 : decode cX8_toMarked 28 = .ok (.aload_n 0, 1) := by decide +kernel
theorem dX8_toMarked_29 : decode cX8_toMarked 29 = .ok (.getfield 85, 3) := by decide +kernel
theorem dX8_toMarked_32 : decode cX8_toMarked 32 = .ok (.if_icmp .ge 37, 3) := by decide +kernel
theorem dX8_toMarked_35 : decode cX8_toMarked 35 = .ok (.iload_n 3, 1) := by decide +kernel
theorem dX8_toMarked_36 : decode cX8_toMarked 36 = .ok (.iload 5, 2) := by decide +kernel
theorem dX8_toMarked_38 : decode cX8_toMarked 38 = .ok (.invokestatic 109, 3) := by decide +kernel
theorem dX8_toMarked_41 : decode cX8_toMarked 41 = .ok (.ifCond .eq 18, 3) := by decide +kernel
theorem dX8_toMarked_44 : decode cX8_toMarked 44 = .ok (.iload 4, 2) := by decide +kernel
theorem dX8_toMarked_46 : decode cX8_toMarked 46 = .ok (.aload_n 0, 1) := by decide +kernel
theorem dX8_toMarked_47 : decode cX8_toMarked 47 = .ok (.getfield 45, 3) := by decide +kernel
theorem dX8_toMarked_50 : decode cX8_toMarked 50 = .ok (.iload 5, 2) := by decide +kernel
theorem dX8_toMarked_52 : decode cX8_toMarked 52 = .ok (.iaload, 1) := by decide +kernel
theorem dX8_toMarked_53 : decode cX8_toMarked 53 = .ok (.invokestatic 147, 3) := by decide +kernel
theorem dX8_toMarked_56 : decode cX8_toMarked 56 = .ok (.goto 5, 3) := by decide +kernel
theorem dX8_toMarked_59 : decode cX8_toMarked 59 = .ok (.iload 4, 2) := by decide +kernel
theorem dX8_toMarked_61 : decode cX8_toMarked 61 = .ok (.istore 4, 2) := by decide +kernel
theorem dX8_toMarked_63 : decode cX8_toMarked 63 = .ok (.iinc 5 1, 3) := by decide +kernel
theorem dX8_toMarked_66 : decode cX8_toMarked 66 = .ok (.goto (-40), 3) := by decide +kernel
theorem dX8_toMarked_69 : decode cX8_toMarked 69 = .ok (.iload 4, 2) := by decide +kernel
theorem dX8_toMarked_71 : decode cX8_toMarked 71 = .ok (.ireturn, 1) := by decide +kernel
theorem dX8_closing_0 : decode cX8_closing 0 = .ok (.aload_n 0, 1) := by decide +kernel
theorem dX8_closing_1 : decode cX8_closing 1 = .ok (.aload_n 0, 1) := by decide +kernel
theorem dX8_closing_2 : decode cX8_closing 2 = .ok (.getfield 20, 3) := by decide +kernel
theorem dX8_closing_5 : decode cX8_closing 5 = .ok (.iload_n 1, 1) := by decide +kernel
theorem dX8_closing_6 : decode cX8_closing 6 = .ok (.iaload, 1) := by decide +kernel
theorem dX8_closing_7 : decode cX8_closing 7 = .ok (.iload_n 1, 1) := by decide +kernel
theorem dX8_closing_8 : decode cX8_closing 8 = .ok (.iload_n 2, 1) := by decide +kernel
theorem dX8_closing_9 : decode cX8_closing 9 = .ok (.aload_n 0, 1) := by decide +kernel
theorem dX8_closing_10 : decode cX8_closing 10 = .ok (.getfield 26, 3) := by decide +kernel
theorem dX8_closing_13 : decode cX8_closing 13 = .ok (.iload_n 1, 1) := by decide +kernel
theorem dX8_closing_14 : decode cX8_closing 14 = .ok (.iaload, 1) := by decide +kernel
theorem dX8_closing_15 : decode cX8_closing 15 = .ok (.iconst 0, 1) := by decide +kernel
theorem dX8_closing_16 : decode cX8_closing 16 = .ok (.invokevirtual 143, 3) := by decide +kernel
theorem dX8_closing_19 : decode cX8_closing 19 = .ok (.aload_n 0, 1) := by decide +kernel
theorem dX8_closing_20 : decode cX8_closing 20 = .ok (.getfield 45, 3) := by decide +kernel
theorem dX8_closing_23 : decode cX8_closing 23 = .ok (.aload_n 0, 1) := by decide +kernel
theorem dX8_closing_24 : decode cX8_closing 24 = .ok (.getfield 17, 3) := by decide +kernel
theorem dX8_closing_27 : decode cX8_closing 27 = .ok (.iload_n 1, 1) := by decide +kernel
theorem dX8_closing_28 : decode cX8_closing 28 = .ok (.iaload, 1) := by decide +kernel
theorem dX8_closing_29 : decode cX8_closing 29 = .ok (.iaload, 1) := by decide +kernel
theorem dX8_closing_30 : decode cX8_closing 30 = .ok (.bipush 99, 2) := by decide +kernel
theorem dX8_closing_32 : decode cX8_closing 32 = .ok (.if_icmp .ne 7, 3) := by decide +kernel
theorem dX8_closing_35 : decode cX8_closing 35 = .ok (.iconst 0, 1) := by decide +kernel
theorem dX8_closing_36 : decode cX8_closing 36 = .ok (.goto 16, 3) := by decide +kernel
theorem dX8_closing_39 : decode cX8_closing 39 = .ok (.iconst 1, 1) := by decide +kernel
theorem dX8_closing_40 : decode cX8_closing 40 = .ok (.aload_n 0, 1) := by decide +kernel
theorem dX8_closing_41 : decode cX8_closing 41 = .ok (.getfield 45, 3) := by decide +kernel
theorem dX8_closing_44 : decode cX8_closing 44 = .ok (.aload_n 0, 1) := by decide +kernel
theorem dX8_closing_45 : decode cX8_closing 45 = .ok (.getfield 17, 3) := by decide +kernel
theorem dX8_closing_48 : decode cX8_closing 48 = .ok (.iload_n 1, 1) := by decide +kernel
theorem dX8_closing_49 : decode cX8_closing 49 = .ok (.iaload, 1) := by decide +kernel
theorem dX8_closing_50 : decode cX8_closing 50 = .ok (.iaload, 1) := by decide +kernel
theorem dX8_closing_51 : decode cX8_closing 51 = .ok (.iadd, 1) := by decide +kernel
theorem dX8_closing_52 : decode cX8_closing 52 = .ok (.ireturn, 1) := by decide +kernel
theorem dX8_isFeature_0 : decode cX8_isFeature 0 = .ok (.iload_n 0, 1) := by decide +kernel
theorem dX8_isFeature_1 : decode cX8_isFeature 1 = .ok (.bipush 97, 2) := by decide +kernel
theorem dX8_isFeature_3 : decode cX8_isFeature 3 = .ok (.bipush 122, 2) := by decide +kernel
theorem dX8_isFeature_5 : decode cX8_isFeature 5 = .ok (.invokestatic 88, 3) := by decide +kernel
theorem dX8_isFeature_8 : decode cX8_isFeature 8 = .ok (.ifCond .eq 49, 3) := by decide +kernel
theorem dX8_isFeature_11 : decode cX8_isFeature 11 = .ok (.iload_n 0, 1) := by decide +kernel
theorem dX8_isFeature_12 : decode cX8_isFeature 12 = .ok (.bipush 98, 2) := by decide +kernel
theorem dX8_isFeature_14 : decode cX8_isFeature 14 = .ok (.if_icmp .eq 43, 3) := by decide +kernel
theorem dX8_isFeature_17 : decode cX8_isFeature 17 = .ok (.iload_n 0, 1) := by decide +kernel
theorem dX8_isFeature_18 : decode cX8_isFeature 18 = .ok (.bipush 101, 2) := by decide +kernel
theorem dX8_isFeature_20 : decode cX8_isFeature 20 = .ok (.if_icmp .eq 37, 3) := by decide +kernel
theorem dX8_isFeature_23 : decode cX8_isFeature 23 = .ok (.iload_n 0, 1) := by decide +kernel
theorem dX8_isFeature_24 : decode cX8_isFeature 24 = .ok (.bipush 104, 2) := by decide +kernel
theorem dX8_isFeature_26 : decode cX8_isFeature 26 = .ok (.if_icmp .eq 31, 3) := by decide +kernel
theorem dX8_isFeature_29 : decode cX8_isFeature 29 = .ok (.iload_n 0, 1) := by decide +kernel
theorem dX8_isFeature_30 : decode cX8_isFeature 30 = .ok (.bipush 106, 2) := by decide +kernel
theorem dX8_isFeature_32 : decode cX8_isFeature 32 = .ok (.if_icmp .eq 25, 3) := by decide +kernel
theorem dX8_isFeature_35 : decode cX8_isFeature 35 = .ok (.iload_n 0, 1) := by decide +kernel
theorem dX8_isFeature_36 : decode cX8_isFeature 36 = .ok (.bipush 111, 2) := by decide +kernel
theorem dX8_isFeature_38 : decode cX8_isFeature 38 = .ok (.if_icmp .eq 19, 3) := by decide +kernel
theorem dX8_isFeature_41 : decode cX8_isFeature 41 = .ok (.iload_n 0, 1) := by decide +kernel
theorem dX8_isFeature_42 : decode cX8_isFeature 42 = .ok (.bipush 112, 2) := by decide +kernel
theorem dX8_isFeature_44 : decode cX8_isFeature 44 = .ok (.if_icmp .eq 13, 3) := by decide +kernel
theorem dX8_isFeature_47 : decode cX8_isFeature 47 = .ok (.iload_n 0, 1) := by decide +kernel
theorem dX8_isFeature_48 : decode cX8_isFeature 48 = .ok (.bipush 116, 2) := by decide +kernel
theorem dX8_isFeature_50 : decode cX8_isFeature 50 = .ok (.if_icmp .ge 7, 3) := by decide +kernel
theorem dX8_isFeature_53 : decode cX8_isFeature 53 = .ok (.iconst 1, 1) := by decide +kernel
theorem dX8_isFeature_54 : decode cX8_isFeature 54 = .ok (.goto 4, 3) := by decide +kernel
theorem dX8_isFeature_57 : decode cX8_isFeature 57 = .ok (.iconst 0, 1) := by decide +kernel
theorem dX8_isFeature_58 : decode cX8_isFeature 58 = .ok (.ireturn, 1) := by decide +kernel
theorem dX8_gathered_0 : decode cX8_gathered 0 = .ok (.iconst 0, 1) := by decide +kernel
theorem dX8_gathered_1 : decode cX8_gathered 1 = .ok (.istore 4, 2) := by decide +kernel
theorem dX8_gathered_3 : decode cX8_gathered 3 = .ok (.iconst 0, 1) := by decide +kernel
theorem dX8_gathered_4 : decode cX8_gathered 4 = .ok (.istore 5, 2) := by decide +kernel
theorem dX8_gathered_6 : decode cX8_gathered 6 = .ok (.iconst 0, 1) := by decide +kernel
theorem dX8_gathered_7 : decode cX8_gathered 7 = .ok (.istore 6, 2) := by decide +kernel
theorem dX8_gathered_9 : decode cX8_gathered 9 = .ok (.iload 6, 2) := by decide +kernel
theorem dX8_gathered_11 : decode cX8_gathered 11 = .ok (.iload_n 1, 1) := by decide +kernel
theorem dX8_gathered_12 : decode cX8_gathered 12 = .ok (.if_icmp .gt 242, 3) := by decide +kernel
theorem dX8_gathered_15 : decode cX8_gathered 15 = .ok (.aload_n 0, 1) := by decide +kernel
theorem dX8_gathered_16 : decode cX8_gathered 16 = .ok (.iload 6, 2) := by decide +kernel
theorem dX8_gathered_18 : decode cX8_gathered 18 = .ok (.iload_n 3, 1) := by decide +kernel
theorem dX8_gathered_19 : decode cX8_gathered 19 = .ok (.aload_n 0, 1) := by decide +kernel
theorem dX8_gathered_20 : decode cX8_gathered 20 = .ok (.getfield 26, 3) := by decide +kernel
theorem dX8_gathered_23 : decode cX8_gathered 23 = .ok (.iload_n 1, 1) := by decide +kernel
theorem dX8_gathered_24 : decode cX8_gathered 24 = .ok (.iaload, 1) := by decide +kernel
theorem dX8_gathered_25 : decode cX8_gathered 25 = .ok (.invokevirtual 136, 3) := by decide +kernel
theorem dX8_gathered_28 : decode cX8_gathered 28 = .ok (.ifCond .ne 6, 3) := by decide +kernel
theorem dX8_gathered_31 : decode cX8_gathered 31 = .ok (.goto 217, 3) := by decide +kernel
theorem dX8_gathered_34 : decode cX8_gathered 34 = .ok (.iload_n 2, 1) := by decide +kernel
theorem dX8_gathered_35 : decode cX8_gathered 35 = .ok (.bipush 105, 2) := by decide +kernel
theorem dX8_gathered_37 : decode cX8_gathered 37 = .ok (.if_icmp .ne 35, 3) := by decide +kernel
theorem dX8_gathered_40 : decode cX8_gathered 40 = .ok (.iload 4, 2) := by decide +kernel
theorem dX8_gathered_42 : decode cX8_gathered 42 = .ok (.aload_n 0, 1) := by decide +kernel
theorem dX8_gathered_43 : decode cX8_gathered 43 = .ok (.getfield 20, 3) := by decide +kernel
theorem dX8_gathered_46 : decode cX8_gathered 46 = .ok (.iload 6, 2) := by decide +kernel
theorem dX8_gathered_48 : decode cX8_gathered 48 = .ok (.iaload, 1) := by decide +kernel
theorem dX8_gathered_49 : decode cX8_gathered 49 = .ok (.aload_n 0, 1) := by decide +kernel
theorem dX8_gathered_50 : decode cX8_gathered 50 = .ok (.getfield 17, 3) := by decide +kernel
theorem dX8_gathered_53 : decode cX8_gathered 53 = .ok (.iload_n 1, 1) := by decide +kernel
theorem dX8_gathered_54 : decode cX8_gathered 54 = .ok (.iaload, 1) := by decide +kernel
theorem dX8_gathered_55 : decode cX8_gathered 55 = .ok (.if_icmp .ne 13, 3) := by decide +kernel
theorem dX8_gathered_58 : decode cX8_gathered 58 = .ok (.aload_n 0, 1) := by decide +kernel
theorem dX8_gathered_59 : decode cX8_gathered 59 = .ok (.getfield 23, 3) := by decide +kernel
theorem dX8_gathered_62 : decode cX8_gathered 62 = .ok (.iload 6, 2) := by decide +kernel
theorem dX8_gathered_64 : decode cX8_gathered 64 = .ok (.iaload, 1) := by decide +kernel
theorem dX8_gathered_65 : decode cX8_gathered 65 = .ok (.goto 4, 3) := by decide +kernel
theorem dX8_gathered_68 : decode cX8_gathered 68 = .ok (.iconst 0, 1) := by decide +kernel
theorem dX8_gathered_69 : decode cX8_gathered 69 = .ok (.iadd, 1) := by decide +kernel
theorem dX8_gathered_70 : decode cX8_gathered 70 = .ok (.istore 4, 2) := by decide +kernel
theorem dX8_gathered_72 : decode cX8_gathered 72 = .ok (.aload_n 0, 1) := by decide +kernel
theorem dX8_gathered_73 : decode cX8_gathered 73 = .ok (.getfield 17, 3) := by decide +kernel
theorem dX8_gathered_76 : decode cX8_gathered 76 = .ok (.iload 6, 2) := by decide +kernel
theorem dX8_gathered_78 : decode cX8_gathered 78 = .ok (.iaload, 1) := by decide +kernel
theorem dX8_gathered_79 : decode cX8_gathered 79 = .ok (.aload_n 0, 1) := by decide +kernel
theorem dX8_gathered_80 : decode cX8_gathered 80 = .ok (.getfield 17, 3) := by decide +kernel
theorem dX8_gathered_83 : decode cX8_gathered 83 = .ok (.iload_n 1, 1) := by decide +kernel
theorem dX8_gathered_84 : decode cX8_gathered 84 = .ok (.iaload, 1) := by decide +kernel
theorem dX8_gathered_85 : decode cX8_gathered 85 = .ok (.if_icmp .eq 6, 3) := by decide +kernel
theorem dX8_gathered_88 : decode cX8_gathered 88 = .ok (.goto 160, 3) := by decide +kernel
theorem dX8_gathered_91 : decode cX8_gathered 91 = .ok (.iload_n 2, 1) := by decide +kernel
theorem dX8_gathered_92 : decode cX8_gathered 92 = .ok (.bipush 114, 2) := by decide +kernel
theorem dX8_gathered_94 : decode cX8_gathered 94 = .ok (.if_icmp .ne 13, 3) := by decide +kernel
theorem dX8_gathered_97 : decode cX8_gathered 97 = .ok (.aload_n 0, 1) := by decide +kernel
theorem dX8_gathered_98 : decode cX8_gathered 98 = .ok (.getfield 20, 3) := by decide +kernel
theorem dX8_gathered_101 : decode cX8_gathered 101 = .ok (.iload 6, 2) := by decide +kernel
theorem dX8_gathered_103 : decode cX8_gathered 103 = .ok (.iaload, 1) := by decide +kernel
theorem dX8_gathered_104 : decode cX8_gathered 104 = .ok (.goto 18, 3) := by decide +kernel
theorem dX8_gathered_107 : decode cX8_gathered 107 = .ok (.aload_n 0, 1) := by decide +kernel
theorem dX8_gathered_108 : decode cX8_gathered 108 = .ok (.getfield 9, 3) := by decide +kernel
theorem dX8_gathered_111 : decode cX8_gathered 111 = .ok (.aload_n 0, 1) := by decide +kernel
theorem dX8_gathered_112 : decode cX8_gathered 112 = .ok (.getfield 20, 3) := by decide +kernel
theorem dX8_gathered_115 : decode cX8_gathered 115 = .ok (.iload 6, 2) := by decide +kernel
theorem dX8_gathered_117 : decode cX8_gathered 117 = .ok (.iaload, 1) := by decide +kernel
theorem dX8_gathered_118 : decode cX8_gathered 118 = .ok (.caload, 1) := by decide +kernel
theorem dX8_gathered_119 : decode cX8_gathered 119 = .ok (.bipush 97, 2) := by decide +kernel
theorem dX8_gathered_121 : decode cX8_gathered 121 = .ok (.isub, 1) := by decide +kernel
theorem dX8_gathered_122 : decode cX8_gathered 122 = .ok (.istore 7, 2) := by decide +kernel
theorem dX8_gathered_124 : decode cX8_gathered 124 = .ok (.iload_n 2, 1) := by decide +kernel
theorem dX8_gathered_125 : decode cX8_gathered 125 = .ok (.bipush 110, 2) := by decide +kernel
theorem dX8_gathered_127 : decode cX8_gathered 127 = .ok (.if_icmp .ne 6, 3) := by decide +kernel
theorem dX8_gathered_130 : decode cX8_gathered 130 = .ok (.iinc 4 1, 3) := by decide +kernel
theorem dX8_gathered_133 : decode cX8_gathered 133 = .ok (.iload_n 2, 1) := by decide +kernel
theorem dX8_gathered_134 : decode cX8_gathered 134 = .ok (.bipush 115, 2) := by decide +kernel
theorem dX8_gathered_136 : decode cX8_gathered 136 = .ok (.if_icmp .ne 15, 3) := by decide +kernel
theorem dX8_gathered_139 : decode cX8_gathered 139 = .ok (.iload 4, 2) := by decide +kernel
theorem dX8_gathered_141 : decode cX8_gathered 141 = .ok (.aload_n 0, 1) := by decide +kernel
theorem dX8_gathered_142 : decode cX8_gathered 142 = .ok (.getfield 23, 3) := by decide +kernel
theorem dX8_gathered_145 : decode cX8_gathered 145 = .ok (.iload 6, 2) := by decide +kernel
theorem dX8_gathered_147 : decode cX8_gathered 147 = .ok (.iaload, 1) := by decide +kernel
theorem dX8_gathered_148 : decode cX8_gathered 148 = .ok (.iadd, 1) := by decide +kernel
theorem dX8_gathered_149 : decode cX8_gathered 149 = .ok (.istore 4, 2) := by decide +kernel
theorem dX8_gathered_151 : decode cX8_gathered 151 = .ok (.iload_n 2, 1) := by decide +kernel
theorem dX8_gathered_152 : decode cX8_gathered 152 = .ok (.bipush 109, 2) := by decide +kernel
theorem dX8_gathered_154 : decode cX8_gathered 154 = .ok (.if_icmp .ne 17, 3) := by decide +kernel
theorem dX8_gathered_157 : decode cX8_gathered 157 = .ok (.iload 4, 2) := by decide +kernel
theorem dX8_gathered_159 : decode cX8_gathered 159 = .ok (.aload_n 0, 1) := by decide +kernel
theorem dX8_gathered_160 : decode cX8_gathered 160 = .ok (.getfield 23, 3) := by decide +kernel
theorem dX8_gathered_163 : decode cX8_gathered 163 = .ok (.iload 6, 2) := by decide +kernel
theorem dX8_gathered_165 : decode cX8_gathered 165 = .ok (.iaload, 1) := by decide +kernel
theorem dX8_gathered_166 : decode cX8_gathered 166 = .ok (.invokestatic 152, 3) := by decide +kernel
theorem dX8_gathered_169 : decode cX8_gathered 169 = .ok (.istore 4, 2) := by decide +kernel
theorem dX8_gathered_171 : decode cX8_gathered 171 = .ok (.iload_n 2, 1) := by decide +kernel
theorem dX8_gathered_172 : decode cX8_gathered 172 = .ok (.bipush 108, 2) := by decide +kernel
theorem dX8_gathered_174 : decode cX8_gathered 174 = .ok (.if_icmp .ne 32, 3) := by decide +kernel
theorem dX8_gathered_177 : decode cX8_gathered 177 = .ok (.iload 4, 2) := by decide +kernel
theorem dX8_gathered_179 : decode cX8_gathered 179 = .ok (.aload_n 0, 1) := by decide +kernel
theorem dX8_gathered_180 : decode cX8_gathered 180 = .ok (.getfield 23, 3) := by decide +kernel
theorem dX8_gathered_183 : decode cX8_gathered 183 = .ok (.iload 6, 2) := by decide +kernel
theorem dX8_gathered_185 : decode cX8_gathered 185 = .ok (.iaload, 1) := by decide +kernel
theorem dX8_gathered_186 : decode cX8_gathered 186 = .ok (.sipush 900, 3) := by decide +kernel
theorem dX8_gathered_189 : decode cX8_gathered 189 = .ok (.sipush 999, 3) := by decide +kernel
theorem dX8_gathered_192 : decode cX8_gathered 192 = .ok (.invokestatic 88, 3) := by decide +kernel
theorem dX8_gathered_195 : decode cX8_gathered 195 = .ok (.ifCond .eq 7, 3) := by decide +kernel
theorem dX8_gathered_198 : decode cX8_gathered 198 = .ok (.iconst 1, 1) := by decide +kernel
theorem dX8_gathered_199 : decode cX8_gathered 199 = .ok (.goto 4, 3) := by decide +kernel
theorem dX8_gathered_202 : decode cX8_gathered 202 = .ok (.iconst 0, 1) := by decide +kernel
theorem dX8_gathered_203 : decode cX8_gathered 203 = .ok (.iadd, 1) := by decide +kernel
theorem dX8_gathered_204 : decode cX8_gathered 204 = .ok (.istore 4, 2) := by decide +kernel
theorem dX8_gathered_206 : decode cX8_gathered 206 = .ok (.iload_n 2, 1) := by decide +kernel
theorem dX8_gathered_207 : decode cX8_gathered 207 = .ok (.bipush 114, 2) := by decide +kernel
theorem dX8_gathered_209 : decode cX8_gathered 209 = .ok (.if_icmp .eq 9, 3) := by decide +kernel
theorem dX8_gathered_212 : decode cX8_gathered 212 = .ok (.iload_n 2, 1) := by decide +kernel
theorem dX8_gathered_213 : decode cX8_gathered 213 = .ok (.bipush 99, 2) := by decide +kernel
theorem dX8_gathered_215 : decode cX8_gathered 215 = .ok (.if_icmp .ne 23, 3) := by decide +kernel
theorem dX8_gathered_218 : decode cX8_gathered 218 = .ok (.iload 4, 2) := by decide +kernel
theorem dX8_gathered_220 : decode cX8_gathered 220 = .ok (.iload 5, 2) := by decide +kernel
theorem dX8_gathered_222 : decode cX8_gathered 222 = .ok (.iload 7, 2) := by decide +kernel
theorem dX8_gathered_224 : decode cX8_gathered 224 = .ok (.invokestatic 109, 3) := by decide +kernel
theorem dX8_gathered_227 : decode cX8_gathered 227 = .ok (.ifCond .eq 7, 3) := by decide +kernel
theorem dX8_gathered_230 : decode cX8_gathered 230 = .ok (.iconst 0, 1) := by decide +kernel
theorem dX8_gathered_231 : decode cX8_gathered 231 = .ok (.goto 4, 3) := by decide +kernel
theorem dX8_gathered_234 : decode cX8_gathered 234 = .ok (.iconst 1, 1) := by decide +kernel
theorem dX8_gathered_235 : decode cX8_gathered 235 = .ok (.iadd, 1) := by decide +kernel
theorem dX8_gathered_236 : decode cX8_gathered 236 = .ok (.istore 4, 2) := by decide +kernel
theorem dX8_gathered_238 : decode cX8_gathered 238 = .ok (.iload 5, 2) := by decide +kernel
theorem dX8_gathered_240 : decode cX8_gathered 240 = .ok (.iload 7, 2) := by decide +kernel
theorem dX8_gathered_242 : decode cX8_gathered 242 = .ok (.iconst 1, 1) := by decide +kernel
theorem dX8_gathered_243 : decode cX8_gathered 243 = .ok (.invokestatic 113, 3) := by decide +kernel
theorem dX8_gathered_246 : decode cX8_gathered 246 = .ok (.istore 5, 2) := by decide +kernel
theorem dX8_gathered_248 : decode cX8_gathered 248 = .ok (.iinc 6 1, 3) := by decide +kernel
theorem dX8_gathered_251 : decode cX8_gathered 251 = .ok (.goto (-242), 3) := by decide +kernel
theorem dX8_gathered_254 : decode cX8_gathered 254 = .ok (.iload 4, 2) := by decide +kernel
theorem dX8_gathered_256 : decode cX8_gathered 256 = .ok (.ireturn, 1) := by decide +kernel
theorem dX8_valueBy_0 : decode cX8_valueBy 0 = .ok (.iload_n 2, 1) := by decide +kernel
theorem dX8_valueBy_1 : decode cX8_valueBy 1 = .ok (.bipush 103, 2) := by decide +kernel
theorem dX8_valueBy_3 : decode cX8_valueBy 3 = .ok (.if_icmp .ne 22, 3) := by decide +kernel
theorem dX8_valueBy_6 : decode cX8_valueBy 6 = .ok (.aload_n 0, 1) := by decide +kernel
theorem dX8_valueBy_7 : decode cX8_valueBy 7 = .ok (.aload_n 0, 1) := by decide +kernel
theorem dX8_valueBy_8 : decode cX8_valueBy 8 = .ok (.getfield 17, 3) := by decide +kernel
theorem dX8_valueBy_11 : decode cX8_valueBy 11 = .ok (.iload_n 1, 1) := by decide +kernel
theorem dX8_valueBy_12 : decode cX8_valueBy 12 = .ok (.iaload, 1) := by decide +kernel
theorem dX8_valueBy_13 : decode cX8_valueBy 13 = .ok (.iload_n 1, 1) := by decide +kernel
theorem dX8_valueBy_14 : decode cX8_valueBy 14 = .ok (.iload_n 3, 1) := by decide +kernel
theorem dX8_valueBy_15 : decode cX8_valueBy 15 = .ok (.aload_n 0, 1) := by decide +kernel
theorem dX8_valueBy_16 : decode cX8_valueBy 16 = .ok (.getfield 26, 3) := by decide +kernel
theorem dX8_valueBy_19 : decode cX8_valueBy 19 = .ok (.iload_n 1, 1) := by decide +kernel
theorem dX8_valueBy_20 : decode cX8_valueBy 20 = .ok (.iaload, 1) := by decide +kernel
theorem dX8_valueBy_21 : decode cX8_valueBy 21 = .ok (.invokevirtual 155, 3) := by decide +kernel
theorem dX8_valueBy_24 : decode cX8_valueBy 24 = .ok (.ireturn, 1) := by decide +kernel
theorem dX8_valueBy_25 : decode cX8_valueBy 25 = .ok (.iload_n 2, 1) := by decide +kernel
theorem dX8_valueBy_26 : decode cX8_valueBy 26 = .ok (.bipush 107, 2) := by decide +kernel
theorem dX8_valueBy_28 : decode cX8_valueBy 28 = .ok (.if_icmp .ne 10, 3) := by decide +kernel
theorem dX8_valueBy_31 : decode cX8_valueBy 31 = .ok (.aload_n 0, 1) := by decide +kernel
theorem dX8_valueBy_32 : decode cX8_valueBy 32 = .ok (.iload_n 1, 1) := by decide +kernel
theorem dX8_valueBy_33 : decode cX8_valueBy 33 = .ok (.iload_n 3, 1) := by decide +kernel
theorem dX8_valueBy_34 : decode cX8_valueBy 34 = .ok (.invokevirtual 159, 3) := by decide +kernel
theorem dX8_valueBy_37 : decode cX8_valueBy 37 = .ok (.ireturn, 1) := by decide +kernel
theorem dX8_valueBy_38 : decode cX8_valueBy 38 = .ok (.iload_n 2, 1) := by decide +kernel
theorem dX8_valueBy_39 : decode cX8_valueBy 39 = .ok (.bipush 100, 2) := by decide +kernel
theorem dX8_valueBy_41 : decode cX8_valueBy 41 = .ok (.if_icmp .ne 12, 3) := by decide +kernel
theorem dX8_valueBy_44 : decode cX8_valueBy 44 = .ok (.aload_n 0, 1) := by decide +kernel
theorem dX8_valueBy_45 : decode cX8_valueBy 45 = .ok (.iload_n 1, 1) := by decide +kernel
theorem dX8_valueBy_46 : decode cX8_valueBy 46 = .ok (.iload_n 3, 1) := by decide +kernel
theorem dX8_valueBy_47 : decode cX8_valueBy 47 = .ok (.iload 4, 2) := by decide +kernel
theorem dX8_valueBy_49 : decode cX8_valueBy 49 = .ok (.invokevirtual 162, 3) := by decide +kernel
theorem dX8_valueBy_52 : decode cX8_valueBy 52 = .ok (.ireturn, 1) := by decide +kernel
theorem dX8_valueBy_53 : decode cX8_valueBy 53 = .ok (.iload_n 2, 1) := by decide +kernel
theorem dX8_valueBy_54 : decode cX8_valueBy 54 = .ok (.bipush 97, 2) := by decide +kernel
theorem dX8_valueBy_56 : decode cX8_valueBy 56 = .ok (.if_icmp .ne 22, 3) := by decide +kernel
theorem dX8_valueBy_59 : decode cX8_valueBy 59 = .ok (.aload_n 0, 1) := by decide +kernel
theorem dX8_valueBy_60 : decode cX8_valueBy 60 = .ok (.getfield 26, 3) := by decide +kernel
theorem dX8_valueBy_63 : decode cX8_valueBy 63 = .ok (.iload_n 1, 1) := by decide +kernel
theorem dX8_valueBy_64 : decode cX8_valueBy 64 = .ok (.iaload, 1) := by decide +kernel
theorem dX8_valueBy_65 : decode cX8_valueBy 65 = .ok (.aload_n 0, 1) := by decide +kernel
theorem dX8_valueBy_66 : decode cX8_valueBy 66 = .ok (.getfield 13, 3) := by decide +kernel
theorem dX8_valueBy_69 : decode cX8_valueBy 69 = .ok (.aload_n 0, 1) := by decide +kernel
theorem dX8_valueBy_70 : decode cX8_valueBy 70 = .ok (.getfield 17, 3) := by decide +kernel
theorem dX8_valueBy_73 : decode cX8_valueBy 73 = .ok (.iload_n 1, 1) := by decide +kernel
theorem dX8_valueBy_74 : decode cX8_valueBy 74 = .ok (.iaload, 1) := by decide +kernel
theorem dX8_valueBy_75 : decode cX8_valueBy 75 = .ok (.iaload, 1) := by decide +kernel
theorem dX8_valueBy_76 : decode cX8_valueBy 76 = .ok (.isub, 1) := by decide +kernel
theorem dX8_valueBy_77 : decode cX8_valueBy 77 = .ok (.ireturn, 1) := by decide +kernel
theorem dX8_valueBy_78 : decode cX8_valueBy 78 = .ok (.iload_n 2, 1) := by decide +kernel
theorem dX8_valueBy_79 : decode cX8_valueBy 79 = .ok (.bipush 102, 2) := by decide +kernel
theorem dX8_valueBy_81 : decode cX8_valueBy 81 = .ok (.if_icmp .eq 17, 3) := by decide +kernel
theorem dX8_valueBy_84 : decode cX8_valueBy 84 = .ok (.iload_n 2, 1) := by decide +kernel
theorem dX8_valueBy_85 : decode cX8_valueBy 85 = .ok (.bipush 113, 2) := by decide +kernel
theorem dX8_valueBy_87 : decode cX8_valueBy 87 = .ok (.if_icmp .eq 11, 3) := by decide +kernel
theorem dX8_valueBy_90 : decode cX8_valueBy 90 = .ok (.aload_n 0, 1) := by decide +kernel
theorem dX8_valueBy_91 : decode cX8_valueBy 91 = .ok (.iload_n 1, 1) := by decide +kernel
theorem dX8_valueBy_92 : decode cX8_valueBy 92 = .ok (.iload_n 2, 1) := by decide +kernel
theorem dX8_valueBy_93 : decode cX8_valueBy 93 = .ok (.iload_n 3, 1) := by decide +kernel
theorem dX8_valueBy_94 : decode cX8_valueBy 94 = .ok (.invokevirtual 165, 3) := by decide +kernel
theorem dX8_valueBy_97 : decode cX8_valueBy 97 = .ok (.ireturn, 1) := by decide +kernel
theorem dX8_valueBy_98 : decode cX8_valueBy 98 = .ok (.iconst (-1), 1) := by decide +kernel
theorem dX8_valueBy_99 : decode cX8_valueBy 99 = .ok (.istore 5, 2) := by decide +kernel
theorem dX8_valueBy_101 : decode cX8_valueBy 101 = .ok (.iconst 1, 1) := by decide +kernel
theorem dX8_valueBy_102 : decode cX8_valueBy 102 = .ok (.istore 6, 2) := by decide +kernel
theorem dX8_valueBy_104 : decode cX8_valueBy 104 = .ok (.iconst 0, 1) := by decide +kernel
theorem dX8_valueBy_105 : decode cX8_valueBy 105 = .ok (.istore 7, 2) := by decide +kernel
theorem dX8_valueBy_107 : decode cX8_valueBy 107 = .ok (.iload 7, 2) := by decide +kernel
theorem dX8_valueBy_109 : decode cX8_valueBy 109 = .ok (.iload_n 1, 1) := by decide +kernel
theorem dX8_valueBy_110 : decode cX8_valueBy 110 = .ok (.if_icmp .ge 58, 3) := by decide +kernel
theorem dX8_valueBy_113 : decode cX8_valueBy 113 = .ok (.aload_n 0, 1) := by decide +kernel
theorem dX8_valueBy_114 : decode cX8_valueBy 114 = .ok (.getfield 17, 3) := by decide +kernel
theorem dX8_valueBy_117 : decode cX8_valueBy 117 = .ok (.iload 7, 2) := by decide +kernel
theorem dX8_valueBy_119 : decode cX8_valueBy 119 = .ok (.iaload, 1) := by decide +kernel
theorem dX8_valueBy_120 : decode cX8_valueBy 120 = .ok (.aload_n 0, 1) := by decide +kernel
theorem dX8_valueBy_121 : decode cX8_valueBy 121 = .ok (.getfield 17, 3) := by decide +kernel
theorem dX8_valueBy_124 : decode cX8_valueBy 124 = .ok (.iload_n 1, 1) := by decide +kernel
theorem dX8_valueBy_125 : decode cX8_valueBy 125 = .ok (.iaload, 1) := by decide +kernel
theorem dX8_valueBy_126 : decode cX8_valueBy 126 = .ok (.if_icmp .eq 6, 3) := by decide +kernel
theorem dX8_valueBy_129 : decode cX8_valueBy 129 = .ok (.goto 33, 3) := by decide +kernel
theorem dX8_valueBy_132 : decode cX8_valueBy 132 = .ok (.iload 7, 2) := by decide +kernel
theorem dX8_valueBy_134 : decode cX8_valueBy 134 = .ok (.istore 5, 2) := by decide +kernel
theorem dX8_valueBy_136 : decode cX8_valueBy 136 = .ok (.iload 6, 2) := by decide +kernel
theorem dX8_valueBy_138 : decode cX8_valueBy 138 = .ok (.aload_n 0, 1) := by decide +kernel
theorem dX8_valueBy_139 : decode cX8_valueBy 139 = .ok (.getfield 20, 3) := by decide +kernel
theorem dX8_valueBy_142 : decode cX8_valueBy 142 = .ok (.iload 7, 2) := by decide +kernel
theorem dX8_valueBy_144 : decode cX8_valueBy 144 = .ok (.iaload, 1) := by decide +kernel
theorem dX8_valueBy_145 : decode cX8_valueBy 145 = .ok (.aload_n 0, 1) := by decide +kernel
theorem dX8_valueBy_146 : decode cX8_valueBy 146 = .ok (.getfield 20, 3) := by decide +kernel
theorem dX8_valueBy_149 : decode cX8_valueBy 149 = .ok (.iload_n 1, 1) := by decide +kernel
theorem dX8_valueBy_150 : decode cX8_valueBy 150 = .ok (.iaload, 1) := by decide +kernel
theorem dX8_valueBy_151 : decode cX8_valueBy 151 = .ok (.if_icmp .eq 7, 3) := by decide +kernel
theorem dX8_valueBy_154 : decode cX8_valueBy 154 = .ok (.iconst 1, 1) := by decide +kernel
theorem dX8_valueBy_155 : decode cX8_valueBy 155 = .ok (.goto 4, 3) := by decide +kernel
theorem dX8_valueBy_158 : decode cX8_valueBy 158 = .ok (.iconst 0, 1) := by decide +kernel
theorem dX8_valueBy_159 : decode cX8_valueBy 159 = .ok (.iand, 1) := by decide +kernel
theorem dX8_valueBy_160 : decode cX8_valueBy 160 = .ok (.istore 6, 2) := by decide +kernel
theorem dX8_valueBy_162 : decode cX8_valueBy 162 = .ok (.iinc 7 1, 3) := by decide +kernel
theorem dX8_valueBy_165 : decode cX8_valueBy 165 = .ok (.goto (-58), 3) := by decide +kernel
theorem dX8_valueBy_168 : decode cX8_valueBy 168 = .ok (.iload_n 2, 1) := by decide +kernel
theorem dX8_valueBy_169 : decode cX8_valueBy 169 = .ok (.bipush 102, 2) := by decide +kernel
theorem dX8_valueBy_171 : decode cX8_valueBy 171 = .ok (.if_icmp .ne 14, 3) := by decide +kernel
theorem dX8_valueBy_174 : decode cX8_valueBy 174 = .ok (.iload 6, 2) := by decide +kernel
theorem dX8_valueBy_176 : decode cX8_valueBy 176 = .ok (.ifCond .eq 7, 3) := by decide +kernel
theorem dX8_valueBy_179 : decode cX8_valueBy 179 = .ok (.iconst 1, 1) := by decide +kernel
theorem dX8_valueBy_180 : decode cX8_valueBy 180 = .ok (.goto 4, 3) := by decide +kernel
theorem dX8_valueBy_183 : decode cX8_valueBy 183 = .ok (.iconst 0, 1) := by decide +kernel
theorem dX8_valueBy_184 : decode cX8_valueBy 184 = .ok (.ireturn, 1) := by decide +kernel
theorem dX8_valueBy_185 : decode cX8_valueBy 185 = .ok (.iload 5, 2) := by decide +kernel
theorem dX8_valueBy_187 : decode cX8_valueBy 187 = .ok (.ifCond .ge 8, 3) := by decide +kernel
theorem dX8_valueBy_190 : decode cX8_valueBy 190 = .ok (.ldc 168, 2) := by decide +kernel
theorem dX8_valueBy_192 : decode cX8_valueBy 192 = .ok (.goto 17, 3) := by decide +kernel
theorem dX8_valueBy_195 : decode cX8_valueBy 195 = .ok (.aload_n 0, 1) := by decide +kernel
theorem dX8_valueBy_196 : decode cX8_valueBy 196 = .ok (.getfield 26, 3) := by decide +kernel
theorem dX8_valueBy_199 : decode cX8_valueBy 199 = .ok (.iload_n 1, 1) := by decide +kernel
theorem dX8_valueBy_200 : decode cX8_valueBy 200 = .ok (.iaload, 1) := by decide +kernel
theorem dX8_valueBy_201 : decode cX8_valueBy 201 = .ok (.aload_n 0, 1) := by decide +kernel
theorem dX8_valueBy_202 : decode cX8_valueBy 202 = .ok (.getfield 26, 3) := by decide +kernel
theorem dX8_valueBy_205 : decode cX8_valueBy 205 = .ok (.iload 5, 2) := by decide +kernel
theorem dX8_valueBy_207 : decode cX8_valueBy 207 = .ok (.iaload, 1) := by decide +kernel
theorem dX8_valueBy_208 : decode cX8_valueBy 208 = .ok (.isub, 1) := by decide +kernel
theorem dX8_valueBy_209 : decode cX8_valueBy 209 = .ok (.ireturn, 1) := by decide +kernel
theorem dX8_valueOf_0 : decode cX8_valueOf 0 = .ok (.aload_n 0, 1) := by decide +kernel
theorem dX8_valueOf_1 : decode cX8_valueOf 1 = .ok (.iconst 0, 1) := by decide +kernel
theorem dX8_valueOf_2 : decode cX8_valueOf 2 = .ok (.putfield 82, 3) := by decide +kernel
theorem dX8_valueOf_5 : decode cX8_valueOf 5 = .ok (.aload_n 0, 1) := by decide +kernel
theorem dX8_valueOf_6 : decode cX8_valueOf 6 = .ok (.iload_n 1, 1) := by decide +kernel
theorem dX8_valueOf_7 : decode cX8_valueOf 7 = .ok (.invokevirtual 130, 3) := by decide +kernel
theorem dX8_valueOf_10 : decode cX8_valueOf 10 = .ok (.ifCond .ne 9, 3) := by decide +kernel
theorem dX8_valueOf_13 : decode cX8_valueOf 13 = .ok (.aload_n 0, 1) := by decide +kernel
theorem dX8_valueOf_14 : decode cX8_valueOf 14 = .ok (.iconst 1, 1) := by decide +kernel
theorem dX8_valueOf_15 : decode cX8_valueOf 15 = .ok (.invokevirtual 92, 3) := by decide +kernel
theorem dX8_valueOf_18 : decode cX8_valueOf 18 = .ok (.ireturn, 1) := by decide +kernel
theorem dX8_valueOf_19 : decode cX8_valueOf 19 = .ok (.iload_n 2, 1) := by decide +kernel
theorem dX8_valueOf_20 : decode cX8_valueOf 20 = .ok (.invokestatic 169, 3) := by decide +kernel
theorem dX8_valueOf_23 : decode cX8_valueOf 23 = .ok (.ifCond .eq 10, 3) := by decide +kernel
theorem dX8_valueOf_26 : decode cX8_valueOf 26 = .ok (.iload_n 3, 1) := by decide +kernel
theorem dX8_valueOf_27 : decode cX8_valueOf 27 = .ok (.invokestatic 133, 3) := by decide +kernel
theorem dX8_valueOf_30 : decode cX8_valueOf 30 = .ok (.ifCond .ne 9, 3) := by decide +kernel
theorem dX8_valueOf_33 : decode cX8_valueOf 33 = .ok (.aload_n 0, 1) := by decide +kernel
theorem dX8_valueOf_34 : decode cX8_valueOf 34 = .ok (.iconst 2, 1) := by decide +kernel
theorem dX8_valueOf_35 : decode cX8_valueOf 35 = .ok (.invokevirtual 92, 3) := by decide +kernel
theorem dX8_valueOf_38 : decode cX8_valueOf 38 = .ok (.ireturn, 1) := by decide +kernel
theorem dX8_valueOf_39 : decode cX8_valueOf 39 = .ok (.aload_n 0, 1) := by decide +kernel
theorem dX8_valueOf_40 : decode cX8_valueOf 40 = .ok (.iload_n 1, 1) := by decide +kernel
theorem dX8_valueOf_41 : decode cX8_valueOf 41 = .ok (.iload_n 2, 1) := by decide +kernel
theorem dX8_valueOf_42 : decode cX8_valueOf 42 = .ok (.iload_n 3, 1) := by decide +kernel
theorem dX8_valueOf_43 : decode cX8_valueOf 43 = .ok (.aload_n 0, 1) := by decide +kernel
theorem dX8_valueOf_44 : decode cX8_valueOf 44 = .ok (.getfield 106, 3) := by decide +kernel
theorem dX8_valueOf_47 : decode cX8_valueOf 47 = .ok (.invokevirtual 172, 3) := by decide +kernel
theorem dX8_valueOf_50 : decode cX8_valueOf 50 = .ok (.ireturn, 1) := by decide +kernel
theorem dX8_isCondition_0 : decode cX8_isCondition 0 = .ok (.iload_n 1, 1) := by decide +kernel
theorem dX8_isCondition_1 : decode cX8_isCondition 1 = .ok (.iconst 0, 1) := by decide +kernel
theorem dX8_isCondition_2 : decode cX8_isCondition 2 = .ok (.aload_n 0, 1) := by decide +kernel
theorem dX8_isCondition_3 : decode cX8_isCondition 3 = .ok (.getfield 175, 3) := by decide +kernel
theorem dX8_isCondition_6 : decode cX8_isCondition 6 = .ok (.iconst 1, 1) := by decide +kernel
theorem dX8_isCondition_7 : decode cX8_isCondition 7 = .ok (.isub, 1) := by decide +kernel
theorem dX8_isCondition_8 : decode cX8_isCondition 8 = .ok (.invokestatic 88, 3) := by decide +kernel
theorem dX8_isCondition_11 : decode cX8_isCondition 11 = .ok (.ireturn, 1) := by decide +kernel
theorem dX8_addTest_0 : decode cX8_addTest 0 = .ok (.aload_n 0, 1) := by decide +kernel
theorem dX8_addTest_1 : decode cX8_addTest 1 = .ok (.iconst 0, 1) := by decide +kernel
theorem dX8_addTest_2 : decode cX8_addTest 2 = .ok (.putfield 82, 3) := by decide +kernel
theorem dX8_addTest_5 : decode cX8_addTest 5 = .ok (.iload_n 1, 1) := by decide +kernel
theorem dX8_addTest_6 : decode cX8_addTest 6 = .ok (.invokestatic 169, 3) := by decide +kernel
theorem dX8_addTest_9 : decode cX8_addTest 9 = .ok (.ifCond .eq 21, 3) := by decide +kernel
theorem dX8_addTest_12 : decode cX8_addTest 12 = .ok (.iload_n 2, 1) := by decide +kernel
theorem dX8_addTest_13 : decode cX8_addTest 13 = .ok (.invokestatic 133, 3) := by decide +kernel
theorem dX8_addTest_16 : decode cX8_addTest 16 = .ok (.ifCond .eq 14, 3) := by decide +kernel
theorem dX8_addTest_19 : decode cX8_addTest 19 = .ok (.iload 4, 2) := by decide +kernel
theorem dX8_addTest_21 : decode cX8_addTest 21 = .ok (.iconst 0, 1) := by decide +kernel
theorem dX8_addTest_22 : decode cX8_addTest 22 = .ok (.ldc 168, 2) := by decide +kernel
theorem dX8_addTest_24 : decode cX8_addTest 24 = .ok (.invokestatic 88, 3) := by decide +kernel
theorem dX8_addTest_27 : decode cX8_addTest 27 = .ok (.ifCond .ne 9, 3) := by decide +kernel
theorem dX8_addTest_30 : decode cX8_addTest 30 = .ok (.aload_n 0, 1) := by decide +kernel
theorem dX8_addTest_31 : decode cX8_addTest 31 = .ok (.iconst 1, 1) := by decide +kernel
theorem dX8_addTest_32 : decode cX8_addTest 32 = .ok (.invokevirtual 92, 3) := by decide +kernel
theorem dX8_addTest_35 : decode cX8_addTest 35 = .ok (.ireturn, 1) := by decide +kernel
theorem dX8_addTest_36 : decode cX8_addTest 36 = .ok (.aload_n 0, 1) := by decide +kernel
theorem dX8_addTest_37 : decode cX8_addTest 37 = .ok (.getfield 175, 3) := by decide +kernel
theorem dX8_addTest_40 : decode cX8_addTest 40 = .ok (.bipush 30, 2) := by decide +kernel
theorem dX8_addTest_42 : decode cX8_addTest 42 = .ok (.if_icmp .ne 9, 3) := by decide +kernel
theorem dX8_addTest_45 : decode cX8_addTest 45 = .ok (.aload_n 0, 1) := by decide +kernel
theorem dX8_addTest_46 : decode cX8_addTest 46 = .ok (.iconst 2, 1) := by decide +kernel
theorem dX8_addTest_47 : decode cX8_addTest 47 = .ok (.invokevirtual 92, 3) := by decide +kernel
theorem dX8_addTest_50 : decode cX8_addTest 50 = .ok (.ireturn, 1) := by decide +kernel
theorem dX8_addTest_51 : decode cX8_addTest 51 = .ok (.aload_n 0, 1) := by decide +kernel
theorem dX8_addTest_52 : decode cX8_addTest 52 = .ok (.getfield 48, 3) := by decide +kernel
theorem dX8_addTest_55 : decode cX8_addTest 55 = .ok (.aload_n 0, 1) := by decide +kernel
theorem dX8_addTest_56 : decode cX8_addTest 56 = .ok (.getfield 175, 3) := by decide +kernel
theorem dX8_addTest_59 : decode cX8_addTest 59 = .ok (.iconst 0, 1) := by decide +kernel
theorem dX8_addTest_60 : decode cX8_addTest 60 = .ok (.iastore, 1) := by decide +kernel
theorem dX8_addTest_61 : decode cX8_addTest 61 = .ok (.aload_n 0, 1) := by decide +kernel
theorem dX8_addTest_62 : decode cX8_addTest 62 = .ok (.getfield 66, 3) := by decide +kernel
theorem dX8_addTest_65 : decode cX8_addTest 65 = .ok (.aload_n 0, 1) := by decide +kernel
theorem dX8_addTest_66 : decode cX8_addTest 66 = .ok (.getfield 175, 3) := by decide +kernel
theorem dX8_addTest_69 : decode cX8_addTest 69 = .ok (.iload_n 1, 1) := by decide +kernel
theorem dX8_addTest_70 : decode cX8_addTest 70 = .ok (.castore, 1) := by decide +kernel
theorem dX8_addTest_71 : decode cX8_addTest 71 = .ok (.aload_n 0, 1) := by decide +kernel
theorem dX8_addTest_72 : decode cX8_addTest 72 = .ok (.getfield 60, 3) := by decide +kernel
theorem dX8_addTest_75 : decode cX8_addTest 75 = .ok (.aload_n 0, 1) := by decide +kernel
theorem dX8_addTest_76 : decode cX8_addTest 76 = .ok (.getfield 175, 3) := by decide +kernel
theorem dX8_addTest_79 : decode cX8_addTest 79 = .ok (.iload_n 2, 1) := by decide +kernel
theorem dX8_addTest_80 : decode cX8_addTest 80 = .ok (.iastore, 1) := by decide +kernel
theorem dX8_addTest_81 : decode cX8_addTest 81 = .ok (.aload_n 0, 1) := by decide +kernel
theorem dX8_addTest_82 : decode cX8_addTest 82 = .ok (.getfield 69, 3) := by decide +kernel
theorem dX8_addTest_85 : decode cX8_addTest 85 = .ok (.aload_n 0, 1) := by decide +kernel
theorem dX8_addTest_86 : decode cX8_addTest 86 = .ok (.getfield 175, 3) := by decide +kernel
theorem dX8_addTest_89 : decode cX8_addTest 89 = .ok (.iload_n 3, 1) := by decide +kernel
theorem dX8_addTest_90 : decode cX8_addTest 90 = .ok (.bastore, 1) := by decide +kernel
theorem dX8_addTest_91 : decode cX8_addTest 91 = .ok (.aload_n 0, 1) := by decide +kernel
theorem dX8_addTest_92 : decode cX8_addTest 92 = .ok (.getfield 63, 3) := by decide +kernel
theorem dX8_addTest_95 : decode cX8_addTest 95 = .ok (.aload_n 0, 1) := by decide +kernel
theorem dX8_addTest_96 : decode cX8_addTest 96 = .ok (.getfield 175, 3) := by decide +kernel
theorem dX8_addTest_99 : decode cX8_addTest 99 = .ok (.iload 4, 2) := by decide +kernel
theorem dX8_addTest_101 : decode cX8_addTest 101 = .ok (.iastore, 1) := by decide +kernel
theorem dX8_addTest_102 : decode cX8_addTest 102 = .ok (.aload_n 0, 1) := by decide +kernel
theorem dX8_addTest_103 : decode cX8_addTest 103 = .ok (.getfield 57, 3) := by decide +kernel
theorem dX8_addTest_106 : decode cX8_addTest 106 = .ok (.aload_n 0, 1) := by decide +kernel
theorem dX8_addTest_107 : decode cX8_addTest 107 = .ok (.getfield 175, 3) := by decide +kernel
theorem dX8_addTest_110 : decode cX8_addTest 110 = .ok (.iconst 1, 1) := by decide +kernel
theorem dX8_addTest_111 : decode cX8_addTest 111 = .ok (.iastore, 1) := by decide +kernel
theorem dX8_addTest_112 : decode cX8_addTest 112 = .ok (.aload_n 0, 1) := by decide +kernel
theorem dX8_addTest_113 : decode cX8_addTest 113 = .ok (.dup, 1) := by decide +kernel
theorem dX8_addTest_114 : decode cX8_addTest 114 = .ok (.getfield 175, 3) := by decide +kernel
theorem dX8_addTest_117 : decode cX8_addTest 117 = .ok (.iconst 1, 1) := by decide +kernel
theorem dX8_addTest_118 : decode cX8_addTest 118 = .ok (.iadd, 1) := by decide +kernel
theorem dX8_addTest_119 : decode cX8_addTest 119 = .ok (.putfield 175, 3) := by decide +kernel
theorem dX8_addTest_122 : decode cX8_addTest 122 = .ok (.aload_n 0, 1) := by decide +kernel
theorem dX8_addTest_123 : decode cX8_addTest 123 = .ok (.getfield 175, 3) := by decide +kernel
theorem dX8_addTest_126 : decode cX8_addTest 126 = .ok (.iconst 1, 1) := by decide +kernel
theorem dX8_addTest_127 : decode cX8_addTest 127 = .ok (.isub, 1) := by decide +kernel
theorem dX8_addTest_128 : decode cX8_addTest 128 = .ok (.ireturn, 1) := by decide +kernel
theorem dX8_joins_0 : decode cX8_joins 0 = .ok (.aload_n 0, 1) := by decide +kernel
theorem dX8_joins_1 : decode cX8_joins 1 = .ok (.iconst 0, 1) := by decide +kernel
theorem dX8_joins_2 : decode cX8_joins 2 = .ok (.putfield 82, 3) := by decide +kernel
theorem dX8_joins_5 : decode cX8_joins 5 = .ok (.aload_n 0, 1) := by decide +kernel
theorem dX8_joins_6 : decode cX8_joins 6 = .ok (.iload_n 2, 1) := by decide +kernel
theorem dX8_joins_7 : decode cX8_joins 7 = .ok (.invokevirtual 178, 3) := by decide +kernel
theorem dX8_joins_10 : decode cX8_joins 10 = .ok (.ifCond .eq 11, 3) := by decide +kernel
theorem dX8_joins_13 : decode cX8_joins 13 = .ok (.aload_n 0, 1) := by decide +kernel
theorem dX8_joins_14 : decode cX8_joins 14 = .ok (.iload_n 3, 1) := by decide +kernel
theorem dX8_joins_15 : decode cX8_joins 15 = .ok (.invokevirtual 178, 3) := by decide +kernel
theorem dX8_joins_18 : decode cX8_joins 18 = .ok (.ifCond .ne 9, 3) := by decide +kernel
theorem dX8_joins_21 : decode cX8_joins 21 = .ok (.aload_n 0, 1) := by decide +kernel
theorem dX8_joins_22 : decode cX8_joins 22 = .ok (.iconst 1, 1) := by decide +kernel
theorem dX8_joins_23 : decode cX8_joins 23 = .ok (.invokevirtual 92, 3) := by decide +kernel
theorem dX8_joins_26 : decode cX8_joins 26 = .ok (.ireturn, 1) := by decide +kernel
theorem dX8_joins_27 : decode cX8_joins 27 = .ok (.iconst 1, 1) := by decide +kernel
theorem dX8_joins_28 : decode cX8_joins 28 = .ok (.aload_n 0, 1) := by decide +kernel
theorem dX8_joins_29 : decode cX8_joins 29 = .ok (.getfield 57, 3) := by decide +kernel
theorem dX8_joins_32 : decode cX8_joins 32 = .ok (.iload_n 2, 1) := by decide +kernel
theorem dX8_joins_33 : decode cX8_joins 33 = .ok (.iaload, 1) := by decide +kernel
theorem dX8_joins_34 : decode cX8_joins 34 = .ok (.iadd, 1) := by decide +kernel
theorem dX8_joins_35 : decode cX8_joins 35 = .ok (.iload_n 1, 1) := by decide +kernel
theorem dX8_joins_36 : decode cX8_joins 36 = .ok (.iconst 3, 1) := by decide +kernel
theorem dX8_joins_37 : decode cX8_joins 37 = .ok (.if_icmp .ne 7, 3) := by decide +kernel
theorem dX8_joins_40 : decode cX8_joins 40 = .ok (.iconst 0, 1) := by decide +kernel
theorem dX8_joins_41 : decode cX8_joins 41 = .ok (.goto 9, 3) := by decide +kernel
theorem dX8_joins_44 : decode cX8_joins 44 = .ok (.aload_n 0, 1) := by decide +kernel
theorem dX8_joins_45 : decode cX8_joins 45 = .ok (.getfield 57, 3) := by decide +kernel
theorem dX8_joins_48 : decode cX8_joins 48 = .ok (.iload_n 3, 1) := by decide +kernel
theorem dX8_joins_49 : decode cX8_joins 49 = .ok (.iaload, 1) := by decide +kernel
theorem dX8_joins_50 : decode cX8_joins 50 = .ok (.iadd, 1) := by decide +kernel
theorem dX8_joins_51 : decode cX8_joins 51 = .ok (.istore 4, 2) := by decide +kernel
theorem dX8_joins_53 : decode cX8_joins 53 = .ok (.iload 4, 2) := by decide +kernel
theorem dX8_joins_55 : decode cX8_joins 55 = .ok (.bipush 15, 2) := by decide +kernel
theorem dX8_joins_57 : decode cX8_joins 57 = .ok (.if_icmp .le 9, 3) := by decide +kernel
theorem dX8_joins_60 : decode cX8_joins 60 = .ok (.aload_n 0, 1) := by decide +kernel
theorem dX8_joins_61 : decode cX8_joins 61 = .ok (.iconst 2, 1) := by decide +kernel
theorem dX8_joins_62 : decode cX8_joins 62 = .ok (.invokevirtual 92, 3) := by decide +kernel
theorem dX8_joins_65 : decode cX8_joins 65 = .ok (.ireturn, 1) := by decide +kernel
theorem dX8_joins_66 : decode cX8_joins 66 = .ok (.aload_n 0, 1) := by decide +kernel
theorem dX8_joins_67 : decode cX8_joins 67 = .ok (.getfield 175, 3) := by decide +kernel
theorem dX8_joins_70 : decode cX8_joins 70 = .ok (.bipush 30, 2) := by decide +kernel
theorem dX8_joins_72 : decode cX8_joins 72 = .ok (.if_icmp .ne 9, 3) := by decide +kernel
theorem dX8_joins_75 : decode cX8_joins 75 = .ok (.aload_n 0, 1) := by decide +kernel
theorem dX8_joins_76 : decode cX8_joins 76 = .ok (.iconst 3, 1) := by decide +kernel
theorem dX8_joins_77 : decode cX8_joins 77 = .ok (.invokevirtual 92, 3) := by decide +kernel
theorem dX8_joins_80 : decode cX8_joins 80 = .ok (.ireturn, 1) := by decide +kernel
theorem dX8_joins_81 : decode cX8_joins 81 = .ok (.aload_n 0, 1) := by decide +kernel
theorem dX8_joins_82 : decode cX8_joins 82 = .ok (.getfield 48, 3) := by decide +kernel
theorem dX8_joins_85 : decode cX8_joins 85 = .ok (.aload_n 0, 1) := by decide +kernel
theorem dX8_joins_86 : decode cX8_joins 86 = .ok (.getfield 175, 3) := by decide +kernel
theorem dX8_joins_89 : decode cX8_joins 89 = .ok (.iload_n 1, 1) := by decide +kernel
theorem dX8_joins_90 : decode cX8_joins 90 = .ok (.iastore, 1) := by decide +kernel
theorem dX8_joins_91 : decode cX8_joins 91 = .ok (.aload_n 0, 1) := by decide +kernel
theorem dX8_joins_92 : decode cX8_joins 92 = .ok (.getfield 51, 3) := by decide +kernel
theorem dX8_joins_95 : decode cX8_joins 95 = .ok (.aload_n 0, 1) := by decide +kernel
theorem dX8_joins_96 : decode cX8_joins 96 = .ok (.getfield 175, 3) := by decide +kernel
theorem dX8_joins_99 : decode cX8_joins 99 = .ok (.iload_n 2, 1) := by decide +kernel
theorem dX8_joins_100 : decode cX8_joins 100 = .ok (.iastore, 1) := by decide +kernel
theorem dX8_joins_101 : decode cX8_joins 101 = .ok (.aload_n 0, 1) := by decide +kernel
theorem dX8_joins_102 : decode cX8_joins 102 = .ok (.getfield 54, 3) := by decide +kernel
theorem dX8_joins_105 : decode cX8_joins 105 = .ok (.aload_n 0, 1) := by decide +kernel
theorem dX8_joins_106 : decode cX8_joins 106 = .ok (.getfield 175, 3) := by decide +kernel
theorem dX8_joins_109 : decode cX8_joins 109 = .ok (.iload_n 3, 1) := by decide +kernel
theorem dX8_joins_110 : decode cX8_joins 110 = .ok (.iastore, 1) := by decide +kernel
theorem dX8_joins_111 : decode cX8_joins 111 = .ok (.aload_n 0, 1) := by decide +kernel
theorem dX8_joins_112 : decode cX8_joins 112 = .ok (.getfield 57, 3) := by decide +kernel
theorem dX8_joins_115 : decode cX8_joins 115 = .ok (.aload_n 0, 1) := by decide +kernel
theorem dX8_joins_116 : decode cX8_joins 116 = .ok (.getfield 175, 3) := by decide +kernel
theorem dX8_joins_119 : decode cX8_joins 119 = .ok (.iload 4, 2) := by decide +kernel
theorem dX8_joins_121 : decode cX8_joins 121 = .ok (.iastore, 1) := by decide +kernel
theorem dX8_joins_122 : decode cX8_joins 122 = .ok (.aload_n 0, 1) := by decide +kernel
theorem dX8_joins_123 : decode cX8_joins 123 = .ok (.dup, 1) := by decide +kernel
theorem dX8_joins_124 : decode cX8_joins 124 = .ok (.getfield 175, 3) := by decide +kernel
theorem dX8_joins_127 : decode cX8_joins 127 = .ok (.iconst 1, 1) := by decide +kernel
theorem dX8_joins_128 : decode cX8_joins 128 = .ok (.iadd, 1) := by decide +kernel
theorem dX8_joins_129 : decode cX8_joins 129 = .ok (.putfield 175, 3) := by decide +kernel
theorem dX8_joins_132 : decode cX8_joins 132 = .ok (.aload_n 0, 1) := by decide +kernel
theorem dX8_joins_133 : decode cX8_joins 133 = .ok (.getfield 175, 3) := by decide +kernel
theorem dX8_joins_136 : decode cX8_joins 136 = .ok (.iconst 1, 1) := by decide +kernel
