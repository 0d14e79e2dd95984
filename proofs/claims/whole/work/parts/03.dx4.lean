theorem dX8_joins_137 : decode cX8_joins 137 = .ok (.isub, 1) := by decide +kernel
theorem dX8_joins_138 : decode cX8_joins 138 = .ok (.ireturn, 1) := by decide +kernel
theorem dX8_addBoth_0 : decode cX8_addBoth 0 = .ok (.aload_n 0, 1) := by decide +kernel
theorem dX8_addBoth_1 : decode cX8_addBoth 1 = .ok (.iconst 1, 1) := by decide +kernel
theorem dX8_addBoth_2 : decode cX8_addBoth 2 = .ok (.iload_n 1, 1) := by decide +kernel
theorem dX8_addBoth_3 : decode cX8_addBoth 3 = .ok (.iload_n 2, 1) := by decide +kernel
theorem dX8_addBoth_4 : decode cX8_addBoth 4 = .ok (.invokevirtual 181, 3) := by decide +kernel
theorem dX8_addBoth_7 : decode cX8_addBoth 7 = .ok (.ireturn, 1) := by decide +kernel
theorem dX8_addEither_0 : decode cX8_addEither 0 = .ok (.aload_n 0, 1) := by decide +kernel
theorem dX8_addEither_1 : decode cX8_addEither 1 = .ok (.iconst 2, 1) := by decide +kernel
theorem dX8_addEither_2 : decode cX8_addEither 2 = .ok (.iload_n 1, 1) := by decide +kernel
theorem dX8_addEither_3 : decode cX8_addEither 3 = .ok (.iload_n 2, 1) := by decide +kernel
theorem dX8_addEither_4 : decode cX8_addEither 4 = .ok (.invokevirtual 181, 3) := by decide +kernel
theorem dX8_addEither_7 : decode cX8_addEither 7 = .ok (.ireturn, 1) := by decide +kernel
theorem dX8_addNot_0 : decode cX8_addNot 0 = .ok (.aload_n 0, 1) := by decide +kernel
theorem dX8_addNot_1 : decode cX8_addNot 1 = .ok (.iconst 3, 1) := by decide +kernel
theorem dX8_addNot_2 : decode cX8_addNot 2 = .ok (.iload_n 1, 1) := by decide +kernel
theorem dX8_addNot_3 : decode cX8_addNot 3 = .ok (.iload_n 1, 1) := by decide +kernel
theorem dX8_addNot_4 : decode cX8_addNot 4 = .ok (.invokevirtual 181, 3) := by decide +kernel
theorem dX8_addNot_7 : decode cX8_addNot 7 = .ok (.ireturn, 1) := by decide +kernel
theorem dX8_isTrue_0 : decode cX8_isTrue 0 = .ok (.aload_n 0, 1) := by decide +kernel
theorem dX8_isTrue_1 : decode cX8_isTrue 1 = .ok (.getfield 48, 3) := by decide +kernel
theorem dX8_isTrue_4 : decode cX8_isTrue 4 = .ok (.iload_n 1, 1) := by decide +kernel
theorem dX8_isTrue_5 : decode cX8_isTrue 5 = .ok (.iaload, 1) := by decide +kernel
theorem dX8_isTrue_6 : decode cX8_isTrue 6 = .ok (.iconst 3, 1) := by decide +kernel
theorem dX8_isTrue_7 : decode cX8_isTrue 7 = .ok (.if_icmp .ne 24, 3) := by decide +kernel
theorem dX8_isTrue_10 : decode cX8_isTrue 10 = .ok (.aload_n 0, 1) := by decide +kernel
theorem dX8_isTrue_11 : decode cX8_isTrue 11 = .ok (.aload_n 0, 1) := by decide +kernel
theorem dX8_isTrue_12 : decode cX8_isTrue 12 = .ok (.getfield 51, 3) := by decide +kernel
theorem dX8_isTrue_15 : decode cX8_isTrue 15 = .ok (.iload_n 1, 1) := by decide +kernel
theorem dX8_isTrue_16 : decode cX8_isTrue 16 = .ok (.iaload, 1) := by decide +kernel
theorem dX8_isTrue_17 : decode cX8_isTrue 17 = .ok (.iload_n 2, 1) := by decide +kernel
theorem dX8_isTrue_18 : decode cX8_isTrue 18 = .ok (.iload_n 3, 1) := by decide +kernel
theorem dX8_isTrue_19 : decode cX8_isTrue 19 = .ok (.invokevirtual 184, 3) := by decide +kernel
theorem dX8_isTrue_22 : decode cX8_isTrue 22 = .ok (.ifCond .ne 7, 3) := by decide +kernel
theorem dX8_isTrue_25 : decode cX8_isTrue 25 = .ok (.iconst 1, 1) := by decide +kernel
theorem dX8_isTrue_26 : decode cX8_isTrue 26 = .ok (.goto 4, 3) := by decide +kernel
theorem dX8_isTrue_29 : decode cX8_isTrue 29 = .ok (.iconst 0, 1) := by decide +kernel
theorem dX8_isTrue_30 : decode cX8_isTrue 30 = .ok (.ireturn, 1) := by decide +kernel
theorem dX8_isTrue_31 : decode cX8_isTrue 31 = .ok (.aload_n 0, 1) := by decide +kernel
theorem dX8_isTrue_32 : decode cX8_isTrue 32 = .ok (.getfield 48, 3) := by decide +kernel
theorem dX8_isTrue_35 : decode cX8_isTrue 35 = .ok (.iload_n 1, 1) := by decide +kernel
theorem dX8_isTrue_36 : decode cX8_isTrue 36 = .ok (.iaload, 1) := by decide +kernel
theorem dX8_isTrue_37 : decode cX8_isTrue 37 = .ok (.iconst 1, 1) := by decide +kernel
theorem dX8_isTrue_38 : decode cX8_isTrue 38 = .ok (.if_icmp .ne 39, 3) := by decide +kernel
theorem dX8_isTrue_41 : decode cX8_isTrue 41 = .ok (.aload_n 0, 1) := by decide +kernel
theorem dX8_isTrue_42 : decode cX8_isTrue 42 = .ok (.aload_n 0, 1) := by decide +kernel
theorem dX8_isTrue_43 : decode cX8_isTrue 43 = .ok (.getfield 51, 3) := by decide +kernel
theorem dX8_isTrue_46 : decode cX8_isTrue 46 = .ok (.iload_n 1, 1) := by decide +kernel
theorem dX8_isTrue_47 : decode cX8_isTrue 47 = .ok (.iaload, 1) := by decide +kernel
theorem dX8_isTrue_48 : decode cX8_isTrue 48 = .ok (.iload_n 2, 1) := by decide +kernel
theorem dX8_isTrue_49 : decode cX8_isTrue 49 = .ok (.iload_n 3, 1) := by decide +kernel
theorem dX8_isTrue_50 : decode cX8_isTrue 50 = .ok (.invokevirtual 184, 3) := by decide +kernel
theorem dX8_isTrue_53 : decode cX8_isTrue 53 = .ok (.ifCond .eq 22, 3) := by decide +kernel
theorem dX8_isTrue_56 : decode cX8_isTrue 56 = .ok (.aload_n 0, 1) := by decide +kernel
theorem dX8_isTrue_57 : decode cX8_isTrue 57 = .ok (.aload_n 0, 1) := by decide +kernel
theorem dX8_isTrue_58 : decode cX8_isTrue 58 = .ok (.getfield 54, 3) := by decide +kernel
theorem dX8_isTrue_61 : decode cX8_isTrue 61 = .ok (.iload_n 1, 1) := by decide +kernel
theorem dX8_isTrue_62 : decode cX8_isTrue 62 = .ok (.iaload, 1) := by decide +kernel
theorem dX8_isTrue_63 : decode cX8_isTrue 63 = .ok (.iload_n 2, 1) := by decide +kernel
theorem dX8_isTrue_64 : decode cX8_isTrue 64 = .ok (.iload_n 3, 1) := by decide +kernel
theorem dX8_isTrue_65 : decode cX8_isTrue 65 = .ok (.invokevirtual 184, 3) := by decide +kernel
theorem dX8_isTrue_68 : decode cX8_isTrue 68 = .ok (.ifCond .eq 7, 3) := by decide +kernel
theorem dX8_isTrue_71 : decode cX8_isTrue 71 = .ok (.iconst 1, 1) := by decide +kernel
theorem dX8_isTrue_72 : decode cX8_isTrue 72 = .ok (.goto 4, 3) := by decide +kernel
theorem dX8_isTrue_75 : decode cX8_isTrue 75 = .ok (.iconst 0, 1) := by decide +kernel
theorem dX8_isTrue_76 : decode cX8_isTrue 76 = .ok (.ireturn, 1) := by decide +kernel
theorem dX8_isTrue_77 : decode cX8_isTrue 77 = .ok (.aload_n 0, 1) := by decide +kernel
theorem dX8_isTrue_78 : decode cX8_isTrue 78 = .ok (.getfield 48, 3) := by decide +kernel
theorem dX8_isTrue_81 : decode cX8_isTrue 81 = .ok (.iload_n 1, 1) := by decide +kernel
theorem dX8_isTrue_82 : decode cX8_isTrue 82 = .ok (.iaload, 1) := by decide +kernel
theorem dX8_isTrue_83 : decode cX8_isTrue 83 = .ok (.iconst 2, 1) := by decide +kernel
theorem dX8_isTrue_84 : decode cX8_isTrue 84 = .ok (.if_icmp .ne 39, 3) := by decide +kernel
theorem dX8_isTrue_87 : decode cX8_isTrue 87 = .ok (.aload_n 0, 1) := by decide +kernel
theorem dX8_isTrue_88 : decode cX8_isTrue 88 = .ok (.aload_n 0, 1) := by decide +kernel
theorem dX8_isTrue_89 : decode cX8_isTrue 89 = .ok (.getfield 51, 3) := by decide +kernel
theorem dX8_isTrue_92 : decode cX8_isTrue 92 = .ok (.iload_n 1, 1) := by decide +kernel
theorem dX8_isTrue_93 : decode cX8_isTrue 93 = .ok (.iaload, 1) := by decide +kernel
theorem dX8_isTrue_94 : decode cX8_isTrue 94 = .ok (.iload_n 2, 1) := by decide +kernel
theorem dX8_isTrue_95 : decode cX8_isTrue 95 = .ok (.iload_n 3, 1) := by decide +kernel
theorem dX8_isTrue_96 : decode cX8_isTrue 96 = .ok (.invokevirtual 184, 3) := by decide +kernel
theorem dX8_isTrue_99 : decode cX8_isTrue 99 = .ok (.ifCond .ne 18, 3) := by decide +kernel
theorem dX8_isTrue_102 : decode cX8_isTrue 102 = .ok (.aload_n 0, 1) := by decide +kernel
theorem dX8_isTrue_103 : decode cX8_isTrue 103 = .ok (.aload_n 0, 1) := by decide +kernel
theorem dX8_isTrue_104 : decode cX8_isTrue 104 = .ok (.getfield 54, 3) := by decide +kernel
theorem dX8_isTrue_107 : decode cX8_isTrue 107 = .ok (.iload_n 1, 1) := by decide +kernel
theorem dX8_isTrue_108 : decode cX8_isTrue 108 = .ok (.iaload, 1) := by decide +kernel
theorem dX8_isTrue_109 : decode cX8_isTrue 109 = .ok (.iload_n 2, 1) := by decide +kernel
theorem dX8_isTrue_110 : decode cX8_isTrue 110 = .ok (.iload_n 3, 1) := by decide +kernel
theorem dX8_isTrue_111 : decode cX8_isTrue 111 = .ok (.invokevirtual 184, 3) := by decide +kernel
theorem dX8_isTrue_114 : decode cX8_isTrue 114 = .ok (.ifCond .eq 7, 3) := by decide +kernel
theorem dX8_isTrue_117 : decode cX8_isTrue 117 = .ok (.iconst 1, 1) := by decide +kernel
theorem dX8_isTrue_118 : decode cX8_isTrue 118 = .ok (.goto 4, 3) := by decide +kernel
theorem dX8_isTrue_121 : decode cX8_isTrue 121 = .ok (.iconst 0, 1) := by decide +kernel
theorem dX8_isTrue_122 : decode cX8_isTrue 122 = .ok (.ireturn, 1) := by decide +kernel
theorem dX8_isTrue_123 : decode cX8_isTrue 123 = .ok (.aload_n 0, 1) := by decide +kernel
theorem dX8_isTrue_124 : decode cX8_isTrue 124 = .ok (.iload_n 2, 1) := by decide +kernel
theorem dX8_isTrue_125 : decode cX8_isTrue 125 = .ok (.aload_n 0, 1) := by decide +kernel
theorem dX8_isTrue_126 : decode cX8_isTrue 126 = .ok (.getfield 66, 3) := by decide +kernel
theorem dX8_isTrue_129 : decode cX8_isTrue 129 = .ok (.iload_n 1, 1) := by decide +kernel
theorem dX8_isTrue_130 : decode cX8_isTrue 130 = .ok (.caload, 1) := by decide +kernel
theorem dX8_isTrue_131 : decode cX8_isTrue 131 = .ok (.aload_n 0, 1) := by decide +kernel
theorem dX8_isTrue_132 : decode cX8_isTrue 132 = .ok (.getfield 60, 3) := by decide +kernel
theorem dX8_isTrue_135 : decode cX8_isTrue 135 = .ok (.iload_n 1, 1) := by decide +kernel
theorem dX8_isTrue_136 : decode cX8_isTrue 136 = .ok (.iaload, 1) := by decide +kernel
theorem dX8_isTrue_137 : decode cX8_isTrue 137 = .ok (.iload_n 3, 1) := by decide +kernel
theorem dX8_isTrue_138 : decode cX8_isTrue 138 = .ok (.invokevirtual 172, 3) := by decide +kernel
theorem dX8_isTrue_141 : decode cX8_isTrue 141 = .ok (.istore 4, 2) := by decide +kernel
theorem dX8_isTrue_143 : decode cX8_isTrue 143 = .ok (.aload_n 0, 1) := by decide +kernel
theorem dX8_isTrue_144 : decode cX8_isTrue 144 = .ok (.getfield 69, 3) := by decide +kernel
theorem dX8_isTrue_147 : decode cX8_isTrue 147 = .ok (.iload_n 1, 1) := by decide +kernel
theorem dX8_isTrue_148 : decode cX8_isTrue 148 = .ok (.baload, 1) := by decide +kernel
theorem dX8_isTrue_149 : decode cX8_isTrue 149 = .ok (.ifCond .eq 22, 3) := by decide +kernel
theorem dX8_isTrue_152 : decode cX8_isTrue 152 = .ok (.iload 4, 2) := by decide +kernel
theorem dX8_isTrue_154 : decode cX8_isTrue 154 = .ok (.aload_n 0, 1) := by decide +kernel
theorem dX8_isTrue_155 : decode cX8_isTrue 155 = .ok (.getfield 63, 3) := by decide +kernel
theorem dX8_isTrue_158 : decode cX8_isTrue 158 = .ok (.iload_n 1, 1) := by decide +kernel
theorem dX8_isTrue_159 : decode cX8_isTrue 159 = .ok (.iaload, 1) := by decide +kernel
theorem dX8_isTrue_160 : decode cX8_isTrue 160 = .ok (.if_icmp .lt 7, 3) := by decide +kernel
theorem dX8_isTrue_163 : decode cX8_isTrue 163 = .ok (.iconst 1, 1) := by decide +kernel
theorem dX8_isTrue_164 : decode cX8_isTrue 164 = .ok (.goto 23, 3) := by decide +kernel
theorem dX8_isTrue_167 : decode cX8_isTrue 167 = .ok (.iconst 0, 1) := by decide +kernel
theorem dX8_isTrue_168 : decode cX8_isTrue 168 = .ok (.goto 19, 3) := by decide +kernel
theorem dX8_isTrue_171 : decode cX8_isTrue 171 = .ok (.iload 4, 2) := by decide +kernel
theorem dX8_isTrue_173 : decode cX8_isTrue 173 = .ok (.aload_n 0, 1) := by decide +kernel
theorem dX8_isTrue_174 : decode cX8_isTrue 174 = .ok (.getfield 63, 3) := by decide +kernel
theorem dX8_isTrue_177 : decode cX8_isTrue 177 = .ok (.iload_n 1, 1) := by decide +kernel
theorem dX8_isTrue_178 : decode cX8_isTrue 178 = .ok (.iaload, 1) := by decide +kernel
theorem dX8_isTrue_179 : decode cX8_isTrue 179 = .ok (.if_icmp .gt 7, 3) := by decide +kernel
theorem dX8_isTrue_182 : decode cX8_isTrue 182 = .ok (.iconst 1, 1) := by decide +kernel
theorem dX8_isTrue_183 : decode cX8_isTrue 183 = .ok (.goto 4, 3) := by decide +kernel
theorem dX8_isTrue_186 : decode cX8_isTrue 186 = .ok (.iconst 0, 1) := by decide +kernel
theorem dX8_isTrue_187 : decode cX8_isTrue 187 = .ok (.ireturn, 1) := by decide +kernel
theorem dX8_holds_0 : decode cX8_holds 0 = .ok (.aload_n 0, 1) := by decide +kernel
theorem dX8_holds_1 : decode cX8_holds 1 = .ok (.iconst 0, 1) := by decide +kernel
theorem dX8_holds_2 : decode cX8_holds 2 = .ok (.putfield 82, 3) := by decide +kernel
theorem dX8_holds_5 : decode cX8_holds 5 = .ok (.aload_n 0, 1) := by decide +kernel
theorem dX8_holds_6 : decode cX8_holds 6 = .ok (.iload_n 1, 1) := by decide +kernel
theorem dX8_holds_7 : decode cX8_holds 7 = .ok (.invokevirtual 178, 3) := by decide +kernel
theorem dX8_holds_10 : decode cX8_holds 10 = .ok (.ifCond .ne 9, 3) := by decide +kernel
theorem dX8_holds_13 : decode cX8_holds 13 = .ok (.aload_n 0, 1) := by decide +kernel
theorem dX8_holds_14 : decode cX8_holds 14 = .ok (.iconst 1, 1) := by decide +kernel
theorem dX8_holds_15 : decode cX8_holds 15 = .ok (.invokevirtual 103, 3) := by decide +kernel
theorem dX8_holds_18 : decode cX8_holds 18 = .ok (.ireturn, 1) := by decide +kernel
theorem dX8_holds_19 : decode cX8_holds 19 = .ok (.aload_n 0, 1) := by decide +kernel
theorem dX8_holds_20 : decode cX8_holds 20 = .ok (.iload_n 2, 1) := by decide +kernel
theorem dX8_holds_21 : decode cX8_holds 21 = .ok (.invokevirtual 130, 3) := by decide +kernel
theorem dX8_holds_24 : decode cX8_holds 24 = .ok (.ifCond .ne 9, 3) := by decide +kernel
theorem dX8_holds_27 : decode cX8_holds 27 = .ok (.aload_n 0, 1) := by decide +kernel
theorem dX8_holds_28 : decode cX8_holds 28 = .ok (.iconst 2, 1) := by decide +kernel
theorem dX8_holds_29 : decode cX8_holds 29 = .ok (.invokevirtual 103, 3) := by decide +kernel
theorem dX8_holds_32 : decode cX8_holds 32 = .ok (.ireturn, 1) := by decide +kernel
theorem dX8_holds_33 : decode cX8_holds 33 = .ok (.aload_n 0, 1) := by decide +kernel
theorem dX8_holds_34 : decode cX8_holds 34 = .ok (.iload_n 1, 1) := by decide +kernel
theorem dX8_holds_35 : decode cX8_holds 35 = .ok (.iload_n 2, 1) := by decide +kernel
theorem dX8_holds_36 : decode cX8_holds 36 = .ok (.aload_n 0, 1) := by decide +kernel
theorem dX8_holds_37 : decode cX8_holds 37 = .ok (.getfield 106, 3) := by decide +kernel
theorem dX8_holds_40 : decode cX8_holds 40 = .ok (.invokevirtual 184, 3) := by decide +kernel
theorem dX8_holds_43 : decode cX8_holds 43 = .ok (.ireturn, 1) := by decide +kernel
theorem dX8_sizeOf_0 : decode cX8_sizeOf 0 = .ok (.aload_n 0, 1) := by decide +kernel
theorem dX8_sizeOf_1 : decode cX8_sizeOf 1 = .ok (.iconst 0, 1) := by decide +kernel
theorem dX8_sizeOf_2 : decode cX8_sizeOf 2 = .ok (.putfield 82, 3) := by decide +kernel
theorem dX8_sizeOf_5 : decode cX8_sizeOf 5 = .ok (.aload_n 0, 1) := by decide +kernel
theorem dX8_sizeOf_6 : decode cX8_sizeOf 6 = .ok (.iload_n 1, 1) := by decide +kernel
theorem dX8_sizeOf_7 : decode cX8_sizeOf 7 = .ok (.invokevirtual 178, 3) := by decide +kernel
theorem dX8_sizeOf_10 : decode cX8_sizeOf 10 = .ok (.ifCond .eq 12, 3) := by decide +kernel
theorem dX8_sizeOf_13 : decode cX8_sizeOf 13 = .ok (.aload_n 0, 1) := by decide +kernel
theorem dX8_sizeOf_14 : decode cX8_sizeOf 14 = .ok (.getfield 57, 3) := by decide +kernel
theorem dX8_sizeOf_17 : decode cX8_sizeOf 17 = .ok (.iload_n 1, 1) := by decide +kernel
theorem dX8_sizeOf_18 : decode cX8_sizeOf 18 = .ok (.iaload, 1) := by decide +kernel
theorem dX8_sizeOf_19 : decode cX8_sizeOf 19 = .ok (.goto 8, 3) := by decide +kernel
theorem dX8_sizeOf_22 : decode cX8_sizeOf 22 = .ok (.aload_n 0, 1) := by decide +kernel
theorem dX8_sizeOf_23 : decode cX8_sizeOf 23 = .ok (.iconst 1, 1) := by decide +kernel
theorem dX8_sizeOf_24 : decode cX8_sizeOf 24 = .ok (.invokevirtual 92, 3) := by decide +kernel
theorem dX8_sizeOf_27 : decode cX8_sizeOf 27 = .ok (.ireturn, 1) := by decide +kernel
theorem dX8_isRule_0 : decode cX8_isRule 0 = .ok (.iload_n 1, 1) := by decide +kernel
theorem dX8_isRule_1 : decode cX8_isRule 1 = .ok (.iconst 0, 1) := by decide +kernel
theorem dX8_isRule_2 : decode cX8_isRule 2 = .ok (.aload_n 0, 1) := by decide +kernel
theorem dX8_isRule_3 : decode cX8_isRule 3 = .ok (.getfield 187, 3) := by decide +kernel
theorem dX8_isRule_6 : decode cX8_isRule 6 = .ok (.iconst 1, 1) := by decide +kernel
theorem dX8_isRule_7 : decode cX8_isRule 7 = .ok (.isub, 1) := by decide +kernel
theorem dX8_isRule_8 : decode cX8_isRule 8 = .ok (.invokestatic 88, 3) := by decide +kernel
theorem dX8_isRule_11 : decode cX8_isRule 11 = .ok (.ireturn, 1) := by decide +kernel
theorem dX8_addRule_0 : decode cX8_addRule 0 = .ok (.aload_n 0, 1) := by decide +kernel
theorem dX8_addRule_1 : decode cX8_addRule 1 = .ok (.iconst 0, 1) := by decide +kernel
theorem dX8_addRule_2 : decode cX8_addRule 2 = .ok (.putfield 82, 3) := by decide +kernel
theorem dX8_addRule_5 : decode cX8_addRule 5 = .ok (.aload_n 0, 1) := by decide +kernel
theorem dX8_addRule_6 : decode cX8_addRule 6 = .ok (.iload_n 1, 1) := by decide +kernel
theorem dX8_addRule_7 : decode cX8_addRule 7 = .ok (.invokevirtual 178, 3) := by decide +kernel
theorem dX8_addRule_10 : decode cX8_addRule 10 = .ok (.ifCond .ne 9, 3) := by decide +kernel
theorem dX8_addRule_13 : decode cX8_addRule 13 = .ok (.aload_n 0, 1) := by decide +kernel
theorem dX8_addRule_14 : decode cX8_addRule 14 = .ok (.iconst 1, 1) := by decide +kernel
theorem dX8_addRule_15 : decode cX8_addRule 15 = .ok (.invokevirtual 92, 3) := by decide +kernel
theorem dX8_addRule_18 : decode cX8_addRule 18 = .ok (.ireturn, 1) := by decide +kernel
theorem dX8_addRule_19 : decode cX8_addRule 19 = .ok (.iload_n 2, 1) := by decide +kernel
theorem dX8_addRule_20 : decode cX8_addRule 20 = .ok (.iconst 1, 1) := by decide +kernel
theorem dX8_addRule_21 : decode cX8_addRule 21 = .ok (.bipush 100, 2) := by decide +kernel
theorem dX8_addRule_23 : decode cX8_addRule 23 = .ok (.invokestatic 88, 3) := by decide +kernel
theorem dX8_addRule_26 : decode cX8_addRule 26 = .ok (.ifCond .ne 9, 3) := by decide +kernel
theorem dX8_addRule_29 : decode cX8_addRule 29 = .ok (.aload_n 0, 1) := by decide +kernel
theorem dX8_addRule_30 : decode cX8_addRule 30 = .ok (.iconst 2, 1) := by decide +kernel
theorem dX8_addRule_31 : decode cX8_addRule 31 = .ok (.invokevirtual 92, 3) := by decide +kernel
theorem dX8_addRule_34 : decode cX8_addRule 34 = .ok (.ireturn, 1) := by decide +kernel
theorem dX8_addRule_35 : decode cX8_addRule 35 = .ok (.aload_n 0, 1) := by decide +kernel
theorem dX8_addRule_36 : decode cX8_addRule 36 = .ok (.getfield 187, 3) := by decide +kernel
theorem dX8_addRule_39 : decode cX8_addRule 39 = .ok (.bipush 12, 2) := by decide +kernel
theorem dX8_addRule_41 : decode cX8_addRule 41 = .ok (.if_icmp .ne 9, 3) := by decide +kernel
theorem dX8_addRule_44 : decode cX8_addRule 44 = .ok (.aload_n 0, 1) := by decide +kernel
theorem dX8_addRule_45 : decode cX8_addRule 45 = .ok (.iconst 3, 1) := by decide +kernel
theorem dX8_addRule_46 : decode cX8_addRule 46 = .ok (.invokevirtual 92, 3) := by decide +kernel
theorem dX8_addRule_49 : decode cX8_addRule 49 = .ok (.ireturn, 1) := by decide +kernel
theorem dX8_addRule_50 : decode cX8_addRule 50 = .ok (.aload_n 0, 1) := by decide +kernel
theorem dX8_addRule_51 : decode cX8_addRule 51 = .ok (.getfield 73, 3) := by decide +kernel
theorem dX8_addRule_54 : decode cX8_addRule 54 = .ok (.aload_n 0, 1) := by decide +kernel
theorem dX8_addRule_55 : decode cX8_addRule 55 = .ok (.getfield 187, 3) := by decide +kernel
theorem dX8_addRule_58 : decode cX8_addRule 58 = .ok (.iload_n 1, 1) := by decide +kernel
theorem dX8_addRule_59 : decode cX8_addRule 59 = .ok (.iastore, 1) := by decide +kernel
theorem dX8_addRule_60 : decode cX8_addRule 60 = .ok (.aload_n 0, 1) := by decide +kernel
theorem dX8_addRule_61 : decode cX8_addRule 61 = .ok (.getfield 76, 3) := by decide +kernel
theorem dX8_addRule_64 : decode cX8_addRule 64 = .ok (.aload_n 0, 1) := by decide +kernel
theorem dX8_addRule_65 : decode cX8_addRule 65 = .ok (.getfield 187, 3) := by decide +kernel
theorem dX8_addRule_68 : decode cX8_addRule 68 = .ok (.iload_n 2, 1) := by decide +kernel
theorem dX8_addRule_69 : decode cX8_addRule 69 = .ok (.iastore, 1) := by decide +kernel
theorem dX8_addRule_70 : decode cX8_addRule 70 = .ok (.aload_n 0, 1) := by decide +kernel
theorem dX8_addRule_71 : decode cX8_addRule 71 = .ok (.aload_n 0, 1) := by decide +kernel
theorem dX8_addRule_72 : decode cX8_addRule 72 = .ok (.getfield 123, 3) := by decide +kernel
theorem dX8_addRule_75 : decode cX8_addRule 75 = .ok (.aload_n 0, 1) := by decide +kernel
theorem dX8_addRule_76 : decode cX8_addRule 76 = .ok (.getfield 187, 3) := by decide +kernel
theorem dX8_addRule_79 : decode cX8_addRule 79 = .ok (.iconst 1, 1) := by decide +kernel
theorem dX8_addRule_80 : decode cX8_addRule 80 = .ok (.invokestatic 113, 3) := by decide +kernel
theorem dX8_addRule_83 : decode cX8_addRule 83 = .ok (.putfield 123, 3) := by decide +kernel
theorem dX8_addRule_86 : decode cX8_addRule 86 = .ok (.aload_n 0, 1) := by decide +kernel
theorem dX8_addRule_87 : decode cX8_addRule 87 = .ok (.dup, 1) := by decide +kernel
theorem dX8_addRule_88 : decode cX8_addRule 88 = .ok (.getfield 187, 3) := by decide +kernel
theorem dX8_addRule_91 : decode cX8_addRule 91 = .ok (.iconst 1, 1) := by decide +kernel
theorem dX8_addRule_92 : decode cX8_addRule 92 = .ok (.iadd, 1) := by decide +kernel
theorem dX8_addRule_93 : decode cX8_addRule 93 = .ok (.putfield 187, 3) := by decide +kernel
theorem dX8_addRule_96 : decode cX8_addRule 96 = .ok (.aload_n 0, 1) := by decide +kernel
theorem dX8_addRule_97 : decode cX8_addRule 97 = .ok (.getfield 187, 3) := by decide +kernel
theorem dX8_addRule_100 : decode cX8_addRule 100 = .ok (.iconst 1, 1) := by decide +kernel
theorem dX8_addRule_101 : decode cX8_addRule 101 = .ok (.isub, 1) := by decide +kernel
theorem dX8_addRule_102 : decode cX8_addRule 102 = .ok (.ireturn, 1) := by decide +kernel
theorem dX8_setRule_0 : decode cX8_setRule 0 = .ok (.aload_n 0, 1) := by decide +kernel
theorem dX8_setRule_1 : decode cX8_setRule 1 = .ok (.iconst 0, 1) := by decide +kernel
theorem dX8_setRule_2 : decode cX8_setRule 2 = .ok (.putfield 82, 3) := by decide +kernel
theorem dX8_setRule_5 : decode cX8_setRule 5 = .ok (.aload_n 0, 1) := by decide +kernel
theorem dX8_setRule_6 : decode cX8_setRule 6 = .ok (.iload_n 1, 1) := by decide +kernel
theorem dX8_setRule_7 : decode cX8_setRule 7 = .ok (.invokevirtual 190, 3) := by decide +kernel
theorem dX8_setRule_10 : decode cX8_setRule 10 = .ok (.ifCond .ne 9, 3) := by decide +kernel
theorem dX8_setRule_13 : decode cX8_setRule 13 = .ok (.aload_n 0, 1) := by decide +kernel
theorem dX8_setRule_14 : decode cX8_setRule 14 = .ok (.iconst 1, 1) := by decide +kernel
theorem dX8_setRule_15 : decode cX8_setRule 15 = .ok (.invokevirtual 103, 3) := by decide +kernel
theorem dX8_setRule_18 : decode cX8_setRule 18 = .ok (.ireturn, 1) := by decide +kernel
theorem dX8_setRule_19 : decode cX8_setRule 19 = .ok (.aload_n 0, 1) := by decide +kernel
theorem dX8_setRule_20 : decode cX8_setRule 20 = .ok (.getfield 123, 3) := by decide +kernel
theorem dX8_setRule_23 : decode cX8_setRule 23 = .ok (.iload_n 1, 1) := by decide +kernel
theorem dX8_setRule_24 : decode cX8_setRule 24 = .ok (.invokestatic 109, 3) := by decide +kernel
theorem dX8_setRule_27 : decode cX8_setRule 27 = .ok (.istore_n 3, 1) := by decide +kernel
theorem dX8_setRule_28 : decode cX8_setRule 28 = .ok (.aload_n 0, 1) := by decide +kernel
theorem dX8_setRule_29 : decode cX8_setRule 29 = .ok (.aload_n 0, 1) := by decide +kernel
theorem dX8_setRule_30 : decode cX8_setRule 30 = .ok (.getfield 123, 3) := by decide +kernel
theorem dX8_setRule_33 : decode cX8_setRule 33 = .ok (.iload_n 1, 1) := by decide +kernel
theorem dX8_setRule_34 : decode cX8_setRule 34 = .ok (.iload_n 2, 1) := by decide +kernel
theorem dX8_setRule_35 : decode cX8_setRule 35 = .ok (.invokestatic 113, 3) := by decide +kernel
theorem dX8_setRule_38 : decode cX8_setRule 38 = .ok (.putfield 123, 3) := by decide +kernel
theorem dX8_setRule_41 : decode cX8_setRule 41 = .ok (.iload_n 3, 1) := by decide +kernel
theorem dX8_setRule_42 : decode cX8_setRule 42 = .ok (.ireturn, 1) := by decide +kernel
theorem dX8_setThreshold_0 : decode cX8_setThreshold 0 = .ok (.aload_n 0, 1) := by decide +kernel
theorem dX8_setThreshold_1 : decode cX8_setThreshold 1 = .ok (.iconst 0, 1) := by decide +kernel
theorem dX8_setThreshold_2 : decode cX8_setThreshold 2 = .ok (.putfield 82, 3) := by decide +kernel
theorem dX8_setThreshold_5 : decode cX8_setThreshold 5 = .ok (.iload_n 1, 1) := by decide +kernel
theorem dX8_setThreshold_6 : decode cX8_setThreshold 6 = .ok (.iconst 1, 1) := by decide +kernel
theorem dX8_setThreshold_7 : decode cX8_setThreshold 7 = .ok (.sipush 1201, 3) := by decide +kernel
theorem dX8_setThreshold_10 : decode cX8_setThreshold 10 = .ok (.invokestatic 88, 3) := by decide +kernel
theorem dX8_setThreshold_13 : decode cX8_setThreshold 13 = .ok (.ifCond .ne 9, 3) := by decide +kernel
theorem dX8_setThreshold_16 : decode cX8_setThreshold 16 = .ok (.aload_n 0, 1) := by decide +kernel
theorem dX8_setThreshold_17 : decode cX8_setThreshold 17 = .ok (.iconst 1, 1) := by decide +kernel
theorem dX8_setThreshold_18 : decode cX8_setThreshold 18 = .ok (.invokevirtual 92, 3) := by decide +kernel
theorem dX8_setThreshold_21 : decode cX8_setThreshold 21 = .ok (.ireturn, 1) := by decide +kernel
theorem dX8_setThreshold_22 : decode cX8_setThreshold 22 = .ok (.aload_n 0, 1) := by decide +kernel
theorem dX8_setThreshold_23 : decode cX8_setThreshold 23 = .ok (.getfield 41, 3) := by decide +kernel
theorem dX8_setThreshold_26 : decode cX8_setThreshold 26 = .ok (.istore_n 2, 1) := by decide +kernel
theorem dX8_setThreshold_27 : decode cX8_setThreshold 27 = .ok (.aload_n 0, 1) := by decide +kernel
theorem dX8_setThreshold_28 : decode cX8_setThreshold 28 = .ok (.iload_n 1, 1) := by decide +kernel
theorem dX8_setThreshold_29 : decode cX8_setThreshold 29 = .ok (.putfield 41, 3) := by decide +kernel
theorem dX8_setThreshold_32 : decode cX8_setThreshold 32 = .ok (.iload_n 2, 1) := by decide +kernel
theorem dX8_setThreshold_33 : decode cX8_setThreshold 33 = .ok (.ireturn, 1) := by decide +kernel
theorem dX8_isReason_0 : decode cX8_isReason 0 = .ok (.iload_n 3, 1) := by decide +kernel
theorem dX8_isReason_1 : decode cX8_isReason 1 = .ok (.iload_n 1, 1) := by decide +kernel
theorem dX8_isReason_2 : decode cX8_isReason 2 = .ok (.invokestatic 109, 3) := by decide +kernel
theorem dX8_isReason_5 : decode cX8_isReason 5 = .ok (.ifCond .eq 23, 3) := by decide +kernel
theorem dX8_isReason_8 : decode cX8_isReason 8 = .ok (.aload_n 0, 1) := by decide +kernel
theorem dX8_isReason_9 : decode cX8_isReason 9 = .ok (.aload_n 0, 1) := by decide +kernel
theorem dX8_isReason_10 : decode cX8_isReason 10 = .ok (.getfield 73, 3) := by decide +kernel
theorem dX8_isReason_13 : decode cX8_isReason 13 = .ok (.iload_n 1, 1) := by decide +kernel
theorem dX8_isReason_14 : decode cX8_isReason 14 = .ok (.iaload, 1) := by decide +kernel
theorem dX8_isReason_15 : decode cX8_isReason 15 = .ok (.iload_n 2, 1) := by decide +kernel
theorem dX8_isReason_16 : decode cX8_isReason 16 = .ok (.iload 4, 2) := by decide +kernel
theorem dX8_isReason_18 : decode cX8_isReason 18 = .ok (.invokevirtual 184, 3) := by decide +kernel
theorem dX8_isReason_21 : decode cX8_isReason 21 = .ok (.ifCond .eq 7, 3) := by decide +kernel
theorem dX8_isReason_24 : decode cX8_isReason 24 = .ok (.iconst 1, 1) := by decide +kernel
theorem dX8_isReason_25 : decode cX8_isReason 25 = .ok (.goto 4, 3) := by decide +kernel
theorem dX8_isReason_28 : decode cX8_isReason 28 = .ok (.iconst 0, 1) := by decide +kernel
theorem dX8_isReason_29 : decode cX8_isReason 29 = .ok (.ireturn, 1) := by decide +kernel
theorem dX8_scoreBy_0 : decode cX8_scoreBy 0 = .ok (.iconst 0, 1) := by decide +kernel
theorem dX8_scoreBy_1 : decode cX8_scoreBy 1 = .ok (.istore 4, 2) := by decide +kernel
theorem dX8_scoreBy_3 : decode cX8_scoreBy 3 = .ok (.iconst 0, 1) := by decide +kernel
theorem dX8_scoreBy_4 : decode cX8_scoreBy 4 = .ok (.istore 5, 2) := by decide +kernel
theorem dX8_scoreBy_6 : decode cX8_scoreBy 6 = .ok (.iload 5, 2) := by decide +kernel
theorem dX8_scoreBy_8 : decode cX8_scoreBy 8 = .ok (.aload_n 0, 1) := by decide +kernel
theorem dX8_scoreBy_9 : decode cX8_scoreBy 9 = .ok (.getfield 187, 3) := by decide +kernel
theorem dX8_scoreBy_12 : decode cX8_scoreBy 12 = .ok (.if_icmp .ge 37, 3) := by decide +kernel
theorem dX8_scoreBy_15 : decode cX8_scoreBy 15 = .ok (.iload 4, 2) := by decide +kernel
theorem dX8_scoreBy_17 : decode cX8_scoreBy 17 = .ok (.aload_n 0, 1) := by decide +kernel
theorem dX8_scoreBy_18 : decode cX8_scoreBy 18 = .ok (.iload 5, 2) := by decide +kernel
theorem dX8_scoreBy_20 : decode cX8_scoreBy 20 = .ok (.iload_n 1, 1) := by decide +kernel
theorem dX8_scoreBy_21 : decode cX8_scoreBy 21 = .ok (.iload_n 2, 1) := by decide +kernel
theorem dX8_scoreBy_22 : decode cX8_scoreBy 22 = .ok (.iload_n 3, 1) := by decide +kernel
theorem dX8_scoreBy_23 : decode cX8_scoreBy 23 = .ok (.invokevirtual 193, 3) := by decide +kernel
theorem dX8_scoreBy_26 : decode cX8_scoreBy 26 = .ok (.ifCond .eq 13, 3) := by decide +kernel
theorem dX8_scoreBy_29 : decode cX8_scoreBy 29 = .ok (.aload_n 0, 1) := by decide +kernel
theorem dX8_scoreBy_30 : decode cX8_scoreBy 30 = .ok (.getfield 76, 3) := by decide +kernel
theorem dX8_scoreBy_33 : decode cX8_scoreBy 33 = .ok (.iload 5, 2) := by decide +kernel
theorem dX8_scoreBy_35 : decode cX8_scoreBy 35 = .ok (.iaload, 1) := by decide +kernel
theorem dX8_scoreBy_36 : decode cX8_scoreBy 36 = .ok (.goto 4, 3) := by decide +kernel
theorem dX8_scoreBy_39 : decode cX8_scoreBy 39 = .ok (.iconst 0, 1) := by decide +kernel
theorem dX8_scoreBy_40 : decode cX8_scoreBy 40 = .ok (.iadd, 1) := by decide +kernel
theorem dX8_scoreBy_41 : decode cX8_scoreBy 41 = .ok (.istore 4, 2) := by decide +kernel
theorem dX8_scoreBy_43 : decode cX8_scoreBy 43 = .ok (.iinc 5 1, 3) := by decide +kernel
theorem dX8_scoreBy_46 : decode cX8_scoreBy 46 = .ok (.goto (-40), 3) := by decide +kernel
theorem dX8_scoreBy_49 : decode cX8_scoreBy 49 = .ok (.iload 4, 2) := by decide +kernel
theorem dX8_scoreBy_51 : decode cX8_scoreBy 51 = .ok (.ireturn, 1) := by decide +kernel
theorem dX8_score_0 : decode cX8_score 0 = .ok (.aload_n 0, 1) := by decide +kernel
theorem dX8_score_1 : decode cX8_score 1 = .ok (.iconst 0, 1) := by decide +kernel
theorem dX8_score_2 : decode cX8_score 2 = .ok (.putfield 82, 3) := by decide +kernel
theorem dX8_score_5 : decode cX8_score 5 = .ok (.aload_n 0, 1) := by decide +kernel
theorem dX8_score_6 : decode cX8_score 6 = .ok (.iload_n 1, 1) := by decide +kernel
theorem dX8_score_7 : decode cX8_score 7 = .ok (.invokevirtual 130, 3) := by decide +kernel
theorem dX8_score_10 : decode cX8_score 10 = .ok (.ifCond .eq 12, 3) := by decide +kernel
theorem dX8_score_13 : decode cX8_score 13 = .ok (.aload_n 0, 1) := by decide +kernel
theorem dX8_score_14 : decode cX8_score 14 = .ok (.getfield 35, 3) := by decide +kernel
theorem dX8_score_17 : decode cX8_score 17 = .ok (.iload_n 1, 1) := by decide +kernel
theorem dX8_score_18 : decode cX8_score 18 = .ok (.iaload, 1) := by decide +kernel
theorem dX8_score_19 : decode cX8_score 19 = .ok (.goto 8, 3) := by decide +kernel
theorem dX8_score_22 : decode cX8_score 22 = .ok (.aload_n 0, 1) := by decide +kernel
theorem dX8_score_23 : decode cX8_score 23 = .ok (.iconst 1, 1) := by decide +kernel
theorem dX8_score_24 : decode cX8_score 24 = .ok (.invokevirtual 92, 3) := by decide +kernel
theorem dX8_score_27 : decode cX8_score 27 = .ok (.ireturn, 1) := by decide +kernel
theorem dX8_scoreNow_0 : decode cX8_scoreNow 0 = .ok (.aload_n 0, 1) := by decide +kernel
theorem dX8_scoreNow_1 : decode cX8_scoreNow 1 = .ok (.iconst 0, 1) := by decide +kernel
theorem dX8_scoreNow_2 : decode cX8_scoreNow 2 = .ok (.putfield 82, 3) := by decide +kernel
theorem dX8_scoreNow_5 : decode cX8_scoreNow 5 = .ok (.aload_n 0, 1) := by decide +kernel
theorem dX8_scoreNow_6 : decode cX8_scoreNow 6 = .ok (.iload_n 1, 1) := by decide +kernel
theorem dX8_scoreNow_7 : decode cX8_scoreNow 7 = .ok (.invokevirtual 130, 3) := by decide +kernel
theorem dX8_scoreNow_10 : decode cX8_scoreNow 10 = .ok (.ifCond .eq 19, 3) := by decide +kernel
theorem dX8_scoreNow_13 : decode cX8_scoreNow 13 = .ok (.aload_n 0, 1) := by decide +kernel
theorem dX8_scoreNow_14 : decode cX8_scoreNow 14 = .ok (.iload_n 1, 1) := by decide +kernel
theorem dX8_scoreNow_15 : decode cX8_scoreNow 15 = .ok (.aload_n 0, 1) := by decide +kernel
theorem dX8_scoreNow_16 : decode cX8_scoreNow 16 = .ok (.getfield 123, 3) := by decide +kernel
theorem dX8_scoreNow_19 : decode cX8_scoreNow 19 = .ok (.aload_n 0, 1) := by decide +kernel
theorem dX8_scoreNow_20 : decode cX8_scoreNow 20 = .ok (.getfield 106, 3) := by decide +kernel
theorem dX8_scoreNow_23 : decode cX8_scoreNow 23 = .ok (.invokevirtual 126, 3) := by decide +kernel
theorem dX8_scoreNow_26 : decode cX8_scoreNow 26 = .ok (.goto 8, 3) := by decide +kernel
theorem dX8_scoreNow_29 : decode cX8_scoreNow 29 = .ok (.aload_n 0, 1) := by decide +kernel
theorem dX8_scoreNow_30 : decode cX8_scoreNow 30 = .ok (.iconst 1, 1) := by decide +kernel
theorem dX8_scoreNow_31 : decode cX8_scoreNow 31 = .ok (.invokevirtual 92, 3) := by decide +kernel
theorem dX8_scoreNow_34 : decode cX8_scoreNow 34 = .ok (.ireturn, 1) := by decide +kernel
theorem dX8_wasReason_0 : decode cX8_wasReason 0 = .ok (.aload_n 0, 1) := by decide +kernel
theorem dX8_wasReason_1 : decode cX8_wasReason 1 = .ok (.iload_n 1, 1) := by decide +kernel
theorem dX8_wasReason_2 : decode cX8_wasReason 2 = .ok (.iload_n 2, 1) := by decide +kernel
theorem dX8_wasReason_3 : decode cX8_wasReason 3 = .ok (.aload_n 0, 1) := by decide +kernel
theorem dX8_wasReason_4 : decode cX8_wasReason 4 = .ok (.getfield 32, 3) := by decide +kernel
theorem dX8_wasReason_7 : decode cX8_wasReason 7 = .ok (.iload_n 2, 1) := by decide +kernel
theorem dX8_wasReason_8 : decode cX8_wasReason 8 = .ok (.iaload, 1) := by decide +kernel
theorem dX8_wasReason_9 : decode cX8_wasReason 9 = .ok (.aload_n 0, 1) := by decide +kernel
theorem dX8_wasReason_10 : decode cX8_wasReason 10 = .ok (.getfield 29, 3) := by decide +kernel
theorem dX8_wasReason_13 : decode cX8_wasReason 13 = .ok (.iload_n 2, 1) := by decide +kernel
theorem dX8_wasReason_14 : decode cX8_wasReason 14 = .ok (.iaload, 1) := by decide +kernel
theorem dX8_wasReason_15 : decode cX8_wasReason 15 = .ok (.invokevirtual 193, 3) := by decide +kernel
theorem dX8_wasReason_18 : decode cX8_wasReason 18 = .ok (.ireturn, 1) := by decide +kernel
theorem dX8_reasonMany_0 : decode cX8_reasonMany 0 = .ok (.iconst 0, 1) := by decide +kernel
theorem dX8_reasonMany_1 : decode cX8_reasonMany 1 = .ok (.istore_n 2, 1) := by decide +kernel
theorem dX8_reasonMany_2 : decode cX8_reasonMany 2 = .ok (.iconst 0, 1) := by decide +kernel
theorem dX8_reasonMany_3 : decode cX8_reasonMany 3 = .ok (.istore_n 3, 1) := by decide +kernel
theorem dX8_reasonMany_4 : decode cX8_reasonMany 4 = .ok (.iload_n 3, 1) := by decide +kernel
theorem dX8_reasonMany_5 : decode cX8_reasonMany 5 = .ok (.aload_n 0, 1) := by decide +kernel
theorem dX8_reasonMany_6 : decode cX8_reasonMany 6 = .ok (.getfield 187, 3) := by decide +kernel
theorem dX8_reasonMany_9 : decode cX8_reasonMany 9 = .ok (.if_icmp .ge 26, 3) := by decide +kernel
theorem dX8_reasonMany_12 : decode cX8_reasonMany 12 = .ok (.iload_n 2, 1) := by decide +kernel
theorem dX8_reasonMany_13 : decode cX8_reasonMany 13 = .ok (.aload_n 0, 1) := by decide +kernel
theorem dX8_reasonMany_14 : decode cX8_reasonMany 14 = .ok (.iload_n 3, 1) := by decide +kernel
theorem dX8_reasonMany_15 : decode cX8_reasonMany 15 = .ok (.iload_n 1, 1) := by decide +kernel
theorem dX8_reasonMany_16 : decode cX8_reasonMany 16 = .ok (.invokevirtual 197, 3) := by decide +kernel
theorem dX8_reasonMany_19 : decode cX8_reasonMany 19 = .ok (.ifCond .eq 7, 3) := by decide +kernel
theorem dX8_reasonMany_22 : decode cX8_reasonMany 22 = .ok (.iconst 1, 1) := by decide +kernel
theorem dX8_reasonMany_23 : decode cX8_reasonMany 23 = .ok (.goto 4, 3) := by decide +kernel
theorem dX8_reasonMany_26 : decode cX8_reasonMany 26 = .ok (.iconst 0, 1) := by decide +kernel
theorem dX8_reasonMany_27 : decode cX8_reasonMany 27 = .ok (.iadd, 1) := by decide +kernel
theorem dX8_reasonMany_28 : decode cX8_reasonMany 28 = .ok (.istore_n 2, 1) := by decide +kernel
theorem dX8_reasonMany_29 : decode cX8_reasonMany 29 = .ok (.iinc 3 1, 3) := by decide +kernel
theorem dX8_reasonMany_32 : decode cX8_reasonMany 32 = .ok (.goto (-28), 3) := by decide +kernel
theorem dX8_reasonMany_35 : decode cX8_reasonMany 35 = .ok (.iload_n 2, 1) := by decide +kernel
theorem dX8_reasonMany_36 : decode cX8_reasonMany 36 = .ok (.ireturn, 1) := by decide +kernel
theorem dX8_reasons_0 : decode cX8_reasons 0 = .ok (.aload_n 0, 1) := by decide +kernel
theorem dX8_reasons_1 : decode cX8_reasons 1 = .ok (.iconst 0, 1) := by decide +kernel
theorem dX8_reasons_2 : decode cX8_reasons 2 = .ok (.putfield 82, 3) := by decide +kernel
theorem dX8_reasons_5 : decode cX8_reasons 5 = .ok (.aload_n 0, 1) := by decide +kernel
theorem dX8_reasons_6 : decode cX8_reasons 6 = .ok (.iload_n 1, 1) := by decide +kernel
theorem dX8_reasons_7 : decode cX8_reasons 7 = .ok (.invokevirtual 130, 3) := by decide +kernel
theorem dX8_reasons_10 : decode cX8_reasons 10 = .ok (.ifCond .eq 11, 3) := by decide +kernel
theorem dX8_reasons_13 : decode cX8_reasons 13 = .ok (.aload_n 0, 1) := by decide +kernel
theorem dX8_reasons_14 : decode cX8_reasons 14 = .ok (.iload_n 1, 1) := by decide +kernel
theorem dX8_reasons_15 : decode cX8_reasons 15 = .ok (.invokevirtual 200, 3) := by decide +kernel
theorem dX8_reasons_18 : decode cX8_reasons 18 = .ok (.goto 8, 3) := by decide +kernel
theorem dX8_reasons_21 : decode cX8_reasons 21 = .ok (.aload_n 0, 1) := by decide +kernel
theorem dX8_reasons_22 : decode cX8_reasons 22 = .ok (.iconst 1, 1) := by decide +kernel
theorem dX8_reasons_23 : decode cX8_reasons 23 = .ok (.invokevirtual 92, 3) := by decide +kernel
theorem dX8_reasons_26 : decode cX8_reasons 26 = .ok (.ireturn, 1) := by decide +kernel
theorem dX8_ruleOf_0 : decode cX8_ruleOf 0 = .ok (.iload_n 2, 1) := by decide +kernel
theorem dX8_ruleOf_1 : decode cX8_ruleOf 1 = .ok (.istore_n 3, 1) := by decide +kernel
theorem dX8_ruleOf_2 : decode cX8_ruleOf 2 = .ok (.iconst 0, 1) := by decide +kernel
theorem dX8_ruleOf_3 : decode cX8_ruleOf 3 = .ok (.istore 4, 2) := by decide +kernel
theorem dX8_ruleOf_5 : decode cX8_ruleOf 5 = .ok (.iload 4, 2) := by decide +kernel
theorem dX8_ruleOf_7 : decode cX8_ruleOf 7 = .ok (.aload_n 0, 1) := by decide +kernel
theorem dX8_ruleOf_8 : decode cX8_ruleOf 8 = .ok (.getfield 187, 3) := by decide +kernel
theorem dX8_ruleOf_11 : decode cX8_ruleOf 11 = .ok (.if_icmp .ge 32, 3) := by decide +kernel
theorem dX8_ruleOf_14 : decode cX8_ruleOf 14 = .ok (.aload_n 0, 1) := by decide +kernel
theorem dX8_ruleOf_15 : decode cX8_ruleOf 15 = .ok (.iload 4, 2) := by decide +kernel
theorem dX8_ruleOf_17 : decode cX8_ruleOf 17 = .ok (.iload_n 1, 1) := by decide +kernel
theorem dX8_ruleOf_18 : decode cX8_ruleOf 18 = .ok (.invokevirtual 197, 3) := by decide +kernel
theorem dX8_ruleOf_21 : decode cX8_ruleOf 21 = .ok (.ifCond .ne 6, 3) := by decide +kernel
theorem dX8_ruleOf_24 : decode cX8_ruleOf 24 = .ok (.goto 13, 3) := by decide +kernel
theorem dX8_ruleOf_27 : decode cX8_ruleOf 27 = .ok (.iload_n 3, 1) := by decide +kernel
theorem dX8_ruleOf_28 : decode cX8_ruleOf 28 = .ok (.ifCond .ne 6, 3) := by decide +kernel
theorem dX8_ruleOf_31 : decode cX8_ruleOf 31 = .ok (.iload 4, 2) := by decide +kernel
theorem dX8_ruleOf_33 : decode cX8_ruleOf 33 = .ok (.ireturn, 1) := by decide +kernel
theorem dX8_ruleOf_34 : decode cX8_ruleOf 34 = .ok (.iinc 3 (-1), 3) := by decide +kernel
theorem dX8_ruleOf_37 : decode cX8_ruleOf 37 = .ok (.iinc 4 1, 3) := by decide +kernel
theorem dX8_ruleOf_40 : decode cX8_ruleOf 40 = .ok (.goto (-35), 3) := by decide +kernel
theorem dX8_ruleOf_43 : decode cX8_ruleOf 43 = .ok (.iconst (-1), 1) := by decide +kernel
theorem dX8_ruleOf_44 : decode cX8_ruleOf 44 = .ok (.ireturn, 1) := by decide +kernel
theorem dX8_reasonRule_0 : decode cX8_reasonRule 0 = .ok (.aload_n 0, 1) := by decide +kernel
theorem dX8_reasonRule_1 : decode cX8_reasonRule 1 = .ok (.iconst 0, 1) := by decide +kernel
theorem dX8_reasonRule_2 : decode cX8_reasonRule 2 = .ok (.putfield 82, 3) := by decide +kernel
theorem dX8_reasonRule_5 : decode cX8_reasonRule 5 = .ok (.aload_n 0, 1) := by decide +kernel
theorem dX8_reasonRule_6 : decode cX8_reasonRule 6 = .ok (.iload_n 1, 1) := by decide +kernel
theorem dX8_reasonRule_7 : decode cX8_reasonRule 7 = .ok (.invokevirtual 130, 3) := by decide +kernel
theorem dX8_reasonRule_10 : decode cX8_reasonRule 10 = .ok (.ifCond .ne 9, 3) := by decide +kernel
theorem dX8_reasonRule_13 : decode cX8_reasonRule 13 = .ok (.aload_n 0, 1) := by decide +kernel
theorem dX8_reasonRule_14 : decode cX8_reasonRule 14 = .ok (.iconst 1, 1) := by decide +kernel
theorem dX8_reasonRule_15 : decode cX8_reasonRule 15 = .ok (.invokevirtual 92, 3) := by decide +kernel
theorem dX8_reasonRule_18 : decode cX8_reasonRule 18 = .ok (.ireturn, 1) := by decide +kernel
theorem dX8_reasonRule_19 : decode cX8_reasonRule 19 = .ok (.aload_n 0, 1) := by decide +kernel
theorem dX8_reasonRule_20 : decode cX8_reasonRule 20 = .ok (.iload_n 1, 1) := by decide +kernel
theorem dX8_reasonRule_21 : decode cX8_reasonRule 21 = .ok (.iload_n 2, 1) := by decide +kernel
theorem dX8_reasonRule_22 : decode cX8_reasonRule 22 = .ok (.invokevirtual 203, 3) := by decide +kernel
theorem dX8_reasonRule_25 : decode cX8_reasonRule 25 = .ok (.istore_n 3, 1) := by decide +kernel
theorem dX8_reasonRule_26 : decode cX8_reasonRule 26 = .ok (.iload_n 3, 1) := by decide +kernel
theorem dX8_reasonRule_27 : decode cX8_reasonRule 27 = .ok (.ifCond .ge 11, 3) := by decide +kernel
theorem dX8_reasonRule_30 : decode cX8_reasonRule 30 = .ok (.aload_n 0, 1) := by decide +kernel
theorem dX8_reasonRule_31 : decode cX8_reasonRule 31 = .ok (.iconst 2, 1) := by decide +kernel
theorem dX8_reasonRule_32 : decode cX8_reasonRule 32 = .ok (.invokevirtual 92, 3) := by decide +kernel
theorem dX8_reasonRule_35 : decode cX8_reasonRule 35 = .ok (.goto 4, 3) := by decide +kernel
theorem dX8_reasonRule_38 : decode cX8_reasonRule 38 = .ok (.iload_n 3, 1) := by decide +kernel
theorem dX8_reasonRule_39 : decode cX8_reasonRule 39 = .ok (.ireturn, 1) := by decide +kernel
theorem dX8_gathers_0 : decode cX8_gathers 0 = .ok (.aload_n 0, 1) := by decide +kernel
theorem dX8_gathers_1 : decode cX8_gathers 1 = .ok (.getfield 48, 3) := by decide +kernel
theorem dX8_gathers_4 : decode cX8_gathers 4 = .ok (.iload_n 1, 1) := by decide +kernel
theorem dX8_gathers_5 : decode cX8_gathers 5 = .ok (.iaload, 1) := by decide +kernel
theorem dX8_gathers_6 : decode cX8_gathers 6 = .ok (.iconst 3, 1) := by decide +kernel
theorem dX8_gathers_7 : decode cX8_gathers 7 = .ok (.if_icmp .ne 4, 3) := by decide +kernel
theorem dX8_gathers_10 : decode cX8_gathers 10 = .ok (.return_, 1) := by decide +kernel
theorem dX8_gathers_11 : decode cX8_gathers 11 = .ok (.aload_n 0, 1) := by decide +kernel
theorem dX8_gathers_12 : decode cX8_gathers 12 = .ok (.getfield 48, 3) := by decide +kernel
theorem dX8_gathers_15 : decode cX8_gathers 15 = .ok (.iload_n 1, 1) := by decide +kernel
theorem dX8_gathers_16 : decode cX8_gathers 16 = .ok (.iaload, 1) := by decide +kernel
theorem dX8_gathers_17 : decode cX8_gathers 17 = .ok (.iconst 1, 1) := by decide +kernel
theorem dX8_gathers_18 : decode cX8_gathers 18 = .ok (.if_icmp .eq 13, 3) := by decide +kernel
theorem dX8_gathers_21 : decode cX8_gathers 21 = .ok (.aload_n 0, 1) := by decide +kernel
theorem dX8_gathers_22 : decode cX8_gathers 22 = .ok (.getfield 48, 3) := by decide +kernel
theorem dX8_gathers_25 : decode cX8_gathers 25 = .ok (.iload_n 1, 1) := by decide +kernel
theorem dX8_gathers_26 : decode cX8_gathers 26 = .ok (.iaload, 1) := by decide +kernel
theorem dX8_gathers_27 : decode cX8_gathers 27 = .ok (.iconst 2, 1) := by decide +kernel
theorem dX8_gathers_28 : decode cX8_gathers 28 = .ok (.if_icmp .ne 28, 3) := by decide +kernel
theorem dX8_gathers_31 : decode cX8_gathers 31 = .ok (.aload_n 0, 1) := by decide +kernel
theorem dX8_gathers_32 : decode cX8_gathers 32 = .ok (.aload_n 0, 1) := by decide +kernel
theorem dX8_gathers_33 : decode cX8_gathers 33 = .ok (.getfield 51, 3) := by decide +kernel
theorem dX8_gathers_36 : decode cX8_gathers 36 = .ok (.iload_n 1, 1) := by decide +kernel
theorem dX8_gathers_37 : decode cX8_gathers 37 = .ok (.iaload, 1) := by decide +kernel
theorem dX8_gathers_38 : decode cX8_gathers 38 = .ok (.iload_n 2, 1) := by decide +kernel
theorem dX8_gathers_39 : decode cX8_gathers 39 = .ok (.invokevirtual 206, 3) := by decide +kernel
theorem dX8_gathers_42 : decode cX8_gathers 42 = .ok (.aload_n 0, 1) := by decide +kernel
theorem dX8_gathers_43 : decode cX8_gathers 43 = .ok (.aload_n 0, 1) := by decide +kernel
theorem dX8_gathers_44 : decode cX8_gathers 44 = .ok (.getfield 54, 3) := by decide +kernel
theorem dX8_gathers_47 : decode cX8_gathers 47 = .ok (.iload_n 1, 1) := by decide +kernel
theorem dX8_gathers_48 : decode cX8_gathers 48 = .ok (.iaload, 1) := by decide +kernel
theorem dX8_gathers_49 : decode cX8_gathers 49 = .ok (.iload_n 2, 1) := by decide +kernel
theorem dX8_gathers_50 : decode cX8_gathers 50 = .ok (.invokevirtual 206, 3) := by decide +kernel
theorem dX8_gathers_53 : decode cX8_gathers 53 = .ok (.goto 38, 3) := by decide +kernel
theorem dX8_gathers_56 : decode cX8_gathers 56 = .ok (.aload_n 0, 1) := by decide +kernel
theorem dX8_gathers_57 : decode cX8_gathers 57 = .ok (.iload_n 1, 1) := by decide +kernel
theorem dX8_gathers_58 : decode cX8_gathers 58 = .ok (.iload_n 2, 1) := by decide +kernel
theorem dX8_gathers_59 : decode cX8_gathers 59 = .ok (.aload_n 0, 1) := by decide +kernel
theorem dX8_gathers_60 : decode cX8_gathers 60 = .ok (.getfield 29, 3) := by decide +kernel
theorem dX8_gathers_63 : decode cX8_gathers 63 = .ok (.iload_n 2, 1) := by decide +kernel
theorem dX8_gathers_64 : decode cX8_gathers 64 = .ok (.iaload, 1) := by decide +kernel
theorem dX8_gathers_65 : decode cX8_gathers 65 = .ok (.invokevirtual 184, 3) := by decide +kernel
theorem dX8_gathers_68 : decode cX8_gathers 68 = .ok (.ifCond .eq 23, 3) := by decide +kernel
theorem dX8_gathers_71 : decode cX8_gathers 71 = .ok (.aload_n 0, 1) := by decide +kernel
theorem dX8_gathers_72 : decode cX8_gathers 72 = .ok (.getfield 79, 3) := by decide +kernel
theorem dX8_gathers_75 : decode cX8_gathers 75 = .ok (.aload_n 0, 1) := by decide +kernel
theorem dX8_gathers_76 : decode cX8_gathers 76 = .ok (.getfield 210, 3) := by decide +kernel
theorem dX8_gathers_79 : decode cX8_gathers 79 = .ok (.iload_n 1, 1) := by decide +kernel
theorem dX8_gathers_80 : decode cX8_gathers 80 = .ok (.iastore, 1) := by decide +kernel
theorem dX8_gathers_81 : decode cX8_gathers 81 = .ok (.aload_n 0, 1) := by decide +kernel
theorem dX8_gathers_82 : decode cX8_gathers 82 = .ok (.dup, 1) := by decide +kernel
theorem dX8_gathers_83 : decode cX8_gathers 83 = .ok (.getfield 210, 3) := by decide +kernel
theorem dX8_gathers_86 : decode cX8_gathers 86 = .ok (.iconst 1, 1) := by decide +kernel
theorem dX8_gathers_87 : decode cX8_gathers 87 = .ok (.iadd, 1) := by decide +kernel
theorem dX8_gathers_88 : decode cX8_gathers 88 = .ok (.putfield 210, 3) := by decide +kernel
theorem dX8_gathers_91 : decode cX8_gathers 91 = .ok (.return_, 1) := by decide +kernel
theorem dX8_isNone_0 : decode cX8_isNone 0 = .ok (.aload_n 0, 1) := by decide +kernel
theorem dX8_isNone_1 : decode cX8_isNone 1 = .ok (.iconst 0, 1) := by decide +kernel
theorem dX8_isNone_2 : decode cX8_isNone 2 = .ok (.putfield 82, 3) := by decide +kernel
theorem dX8_isNone_5 : decode cX8_isNone 5 = .ok (.aload_n 0, 1) := by decide +kernel
theorem dX8_isNone_6 : decode cX8_isNone 6 = .ok (.iload_n 1, 1) := by decide +kernel
theorem dX8_isNone_7 : decode cX8_isNone 7 = .ok (.invokevirtual 130, 3) := by decide +kernel
theorem dX8_isNone_10 : decode cX8_isNone 10 = .ok (.ifCond .ne 11, 3) := by decide +kernel
theorem dX8_isNone_13 : decode cX8_isNone 13 = .ok (.aload_n 0, 1) := by decide +kernel
theorem dX8_isNone_14 : decode cX8_isNone 14 = .ok (.iconst 1, 1) := by decide +kernel
theorem dX8_isNone_15 : decode cX8_isNone 15 = .ok (.invokevirtual 92, 3) := by decide +kernel
theorem dX8_isNone_18 : decode cX8_isNone 18 = .ok (.pop, 1) := by decide +kernel
theorem dX8_isNone_19 : decode cX8_isNone 19 = .ok (.iconst 1, 1) := by decide +kernel
theorem dX8_isNone_20 : decode cX8_isNone 20 = .ok (.ireturn, 1) := by decide +kernel
theorem dX8_isNone_21 : decode cX8_isNone 21 = .ok (.aload_n 0, 1) := by decide +kernel
theorem dX8_isNone_22 : decode cX8_isNone 22 = .ok (.iload_n 1, 1) := by decide +kernel
theorem dX8_isNone_23 : decode cX8_isNone 23 = .ok (.iload_n 2, 1) := by decide +kernel
theorem dX8_isNone_24 : decode cX8_isNone 24 = .ok (.invokevirtual 203, 3) := by decide +kernel
theorem dX8_isNone_27 : decode cX8_isNone 27 = .ok (.istore_n 3, 1) := by decide +kernel
theorem dX8_isNone_28 : decode cX8_isNone 28 = .ok (.aload_n 0, 1) := by decide +kernel
theorem dX8_isNone_29 : decode cX8_isNone 29 = .ok (.iconst 0, 1) := by decide +kernel
theorem dX8_isNone_30 : decode cX8_isNone 30 = .ok (.putfield 210, 3) := by decide +kernel
theorem dX8_isNone_33 : decode cX8_isNone 33 = .ok (.iload_n 3, 1) := by decide +kernel
theorem dX8_isNone_34 : decode cX8_isNone 34 = .ok (.ifCond .ge 12, 3) := by decide +kernel
theorem dX8_isNone_37 : decode cX8_isNone 37 = .ok (.aload_n 0, 1) := by decide +kernel
theorem dX8_isNone_38 : decode cX8_isNone 38 = .ok (.iconst 2, 1) := by decide +kernel
theorem dX8_isNone_39 : decode cX8_isNone 39 = .ok (.invokevirtual 92, 3) := by decide +kernel
theorem dX8_isNone_42 : decode cX8_isNone 42 = .ok (.pop, 1) := by decide +kernel
theorem dX8_isNone_43 : decode cX8_isNone 43 = .ok (.goto 14, 3) := by decide +kernel
theorem dX8_isNone_46 : decode cX8_isNone 46 = .ok (.aload_n 0, 1) := by decide +kernel
theorem dX8_isNone_47 : decode cX8_isNone 47 = .ok (.aload_n 0, 1) := by decide +kernel
theorem dX8_isNone_48 : decode cX8_isNone 48 = .ok (.getfield 73, 3) := by decide +kernel
theorem dX8_isNone_51 : decode cX8_isNone 51 = .ok (.iload_n 3, 1) := by decide +kernel
theorem dX8_isNone_52 : decode cX8_isNone 52 = .ok (.iaload, 1) := by decide +kernel
theorem dX8_isNone_53 : decode cX8_isNone 53 = .ok (.iload_n 1, 1) := by decide +kernel
theorem dX8_isNone_54 : decode cX8_isNone 54 = .ok (.invokevirtual 206, 3) := by decide +kernel
theorem dX8_isNone_57 : decode cX8_isNone 57 = .ok (.aload_n 0, 1) := by decide +kernel
theorem dX8_isNone_58 : decode cX8_isNone 58 = .ok (.getfield 82, 3) := by decide +kernel
theorem dX8_isNone_61 : decode cX8_isNone 61 = .ok (.ifCond .le 7, 3) := by decide +kernel
theorem dX8_isNone_64 : decode cX8_isNone 64 = .ok (.iconst 1, 1) := by decide +kernel
theorem dX8_isNone_65 : decode cX8_isNone 65 = .ok (.goto 4, 3) := by decide +kernel
theorem dX8_isNone_68 : decode cX8_isNone 68 = .ok (.iconst 0, 1) := by decide +kernel
theorem dX8_isNone_69 : decode cX8_isNone 69 = .ok (.ireturn, 1) := by decide +kernel
theorem dX8_reasonTests_0 : decode cX8_reasonTests 0 = .ok (.aload_n 0, 1) := by decide +kernel
theorem dX8_reasonTests_1 : decode cX8_reasonTests 1 = .ok (.iload_n 1, 1) := by decide +kernel
theorem dX8_reasonTests_2 : decode cX8_reasonTests 2 = .ok (.iload_n 2, 1) := by decide +kernel
theorem dX8_reasonTests_3 : decode cX8_reasonTests 3 = .ok (.invokevirtual 213, 3) := by decide +kernel
theorem dX8_reasonTests_6 : decode cX8_reasonTests 6 = .ok (.ifCond .eq 7, 3) := by decide +kernel
theorem dX8_reasonTests_9 : decode cX8_reasonTests 9 = .ok (.iconst 0, 1) := by decide +kernel
theorem dX8_reasonTests_10 : decode cX8_reasonTests 10 = .ok (.goto 7, 3) := by decide +kernel
theorem dX8_reasonTests_13 : decode cX8_reasonTests 13 = .ok (.aload_n 0, 1) := by decide +kernel
theorem dX8_reasonTests_14 : decode cX8_reasonTests 14 = .ok (.getfield 210, 3) := by decide +kernel
theorem dX8_reasonTests_17 : decode cX8_reasonTests 17 = .ok (.ireturn, 1) := by decide +kernel
theorem dX8_isNoTest_0 : decode cX8_isNoTest 0 = .ok (.aload_n 0, 1) := by decide +kernel
theorem dX8_isNoTest_1 : decode cX8_isNoTest 1 = .ok (.iload_n 1, 1) := by decide +kernel
theorem dX8_isNoTest_2 : decode cX8_isNoTest 2 = .ok (.iload_n 2, 1) := by decide +kernel
theorem dX8_isNoTest_3 : decode cX8_isNoTest 3 = .ok (.invokevirtual 213, 3) := by decide +kernel
theorem dX8_isNoTest_6 : decode cX8_isNoTest 6 = .ok (.ifCond .ne 23, 3) := by decide +kernel
theorem dX8_isNoTest_9 : decode cX8_isNoTest 9 = .ok (.iload_n 3, 1) := by decide +kernel
theorem dX8_isNoTest_10 : decode cX8_isNoTest 10 = .ok (.iconst 0, 1) := by decide +kernel
theorem dX8_isNoTest_11 : decode cX8_isNoTest 11 = .ok (.aload_n 0, 1) := by decide +kernel
theorem dX8_isNoTest_12 : decode cX8_isNoTest 12 = .ok (.getfield 210, 3) := by decide +kernel
theorem dX8_isNoTest_15 : decode cX8_isNoTest 15 = .ok (.iconst 1, 1) := by decide +kernel
theorem dX8_isNoTest_16 : decode cX8_isNoTest 16 = .ok (.isub, 1) := by decide +kernel
theorem dX8_isNoTest_17 : decode cX8_isNoTest 17 = .ok (.invokestatic 88, 3) := by decide +kernel
theorem dX8_isNoTest_20 : decode cX8_isNoTest 20 = .ok (.ifCond .ne 9, 3) := by decide +kernel
theorem dX8_isNoTest_23 : decode cX8_isNoTest 23 = .ok (.aload_n 0, 1) := by decide +kernel
theorem dX8_isNoTest_24 : decode cX8_isNoTest 24 = .ok (.iconst 2, 1) := by decide +kernel
theorem dX8_isNoTest_25 : decode cX8_isNoTest 25 = .ok (.invokevirtual 92, 3) := by decide +kernel
theorem dX8_isNoTest_28 : decode cX8_isNoTest 28 = .ok (.pop, 1) := by decide +kernel
theorem dX8_isNoTest_29 : decode cX8_isNoTest 29 = .ok (.aload_n 0, 1) := by decide +kernel
theorem dX8_isNoTest_30 : decode cX8_isNoTest 30 = .ok (.getfield 82, 3) := by decide +kernel
theorem dX8_isNoTest_33 : decode cX8_isNoTest 33 = .ok (.ifCond .le 7, 3) := by decide +kernel
theorem dX8_isNoTest_36 : decode cX8_isNoTest 36 = .ok (.iconst 1, 1) := by decide +kernel
theorem dX8_isNoTest_37 : decode cX8_isNoTest 37 = .ok (.goto 4, 3) := by decide +kernel
theorem dX8_isNoTest_40 : decode cX8_isNoTest 40 = .ok (.iconst 0, 1) := by decide +kernel
theorem dX8_isNoTest_41 : decode cX8_isNoTest 41 = .ok (.ireturn, 1) := by decide +kernel
theorem dX8_reasonFeature_0 : decode cX8_reasonFeature 0 = .ok (.aload_n 0, 1) := by decide +kernel
theorem dX8_reasonFeature_1 : decode cX8_reasonFeature 1 = .ok (.iload_n 1, 1) := by decide +kernel
theorem dX8_reasonFeature_2 : decode cX8_reasonFeature 2 = .ok (.iload_n 2, 1) := by decide +kernel
theorem dX8_reasonFeature_3 : decode cX8_reasonFeature 3 = .ok (.iload_n 3, 1) := by decide +kernel
theorem dX8_reasonFeature_4 : decode cX8_reasonFeature 4 = .ok (.invokevirtual 216, 3) := by decide +kernel
theorem dX8_reasonFeature_7 : decode cX8_reasonFeature 7 = .ok (.ifCond .eq 7, 3) := by decide +kernel
theorem dX8_reasonFeature_10 : decode cX8_reasonFeature 10 = .ok (.iconst 0, 1) := by decide +kernel
theorem dX8_reasonFeature_11 : decode cX8_reasonFeature 11 = .ok (.goto 14, 3) := by decide +kernel
theorem dX8_reasonFeature_14 : decode cX8_reasonFeature 14 = .ok (.aload_n 0, 1) := by decide +kernel
theorem dX8_reasonFeature_15 : decode cX8_reasonFeature 15 = .ok (.getfield 66, 3) := by decide +kernel
theorem dX8_reasonFeature_18 : decode cX8_reasonFeature 18 = .ok (.aload_n 0, 1) := by decide +kernel
theorem dX8_reasonFeature_19 : decode cX8_reasonFeature 19 = .ok (.getfield 79, 3) := by decide +kernel
theorem dX8_reasonFeature_22 : decode cX8_reasonFeature 22 = .ok (.iload_n 3, 1) := by decide +kernel
theorem dX8_reasonFeature_23 : decode cX8_reasonFeature 23 = .ok (.iaload, 1) := by decide +kernel
theorem dX8_reasonFeature_24 : decode cX8_reasonFeature 24 = .ok (.caload, 1) := by decide +kernel
theorem dX8_reasonFeature_25 : decode cX8_reasonFeature 25 = .ok (.ireturn, 1) := by decide +kernel
theorem dX8_reasonValue_0 : decode cX8_reasonValue 0 = .ok (.aload_n 0, 1) := by decide +kernel
theorem dX8_reasonValue_1 : decode cX8_reasonValue 1 = .ok (.iload_n 1, 1) := by decide +kernel
theorem dX8_reasonValue_2 : decode cX8_reasonValue 2 = .ok (.iload_n 2, 1) := by decide +kernel
theorem dX8_reasonValue_3 : decode cX8_reasonValue 3 = .ok (.iload_n 3, 1) := by decide +kernel
theorem dX8_reasonValue_4 : decode cX8_reasonValue 4 = .ok (.invokevirtual 216, 3) := by decide +kernel
theorem dX8_reasonValue_7 : decode cX8_reasonValue 7 = .ok (.ifCond .eq 5, 3) := by decide +kernel
theorem dX8_reasonValue_10 : decode cX8_reasonValue 10 = .ok (.iconst 0, 1) := by decide +kernel
theorem dX8_reasonValue_11 : decode cX8_reasonValue 11 = .ok (.ireturn, 1) := by decide +kernel
theorem dX8_reasonValue_12 : decode cX8_reasonValue 12 = .ok (.aload_n 0, 1) := by decide +kernel
theorem dX8_reasonValue_13 : decode cX8_reasonValue 13 = .ok (.iload_n 1, 1) := by decide +kernel
theorem dX8_reasonValue_14 : decode cX8_reasonValue 14 = .ok (.aload_n 0, 1) := by decide +kernel
theorem dX8_reasonValue_15 : decode cX8_reasonValue 15 = .ok (.getfield 66, 3) := by decide +kernel
theorem dX8_reasonValue_18 : decode cX8_reasonValue 18 = .ok (.aload_n 0, 1) := by decide +kernel
theorem dX8_reasonValue_19 : decode cX8_reasonValue 19 = .ok (.getfield 79, 3) := by decide +kernel
theorem dX8_reasonValue_22 : decode cX8_reasonValue 22 = .ok (.iload_n 3, 1) := by decide +kernel
theorem dX8_reasonValue_23 : decode cX8_reasonValue 23 = .ok (.iaload, 1) := by decide +kernel
theorem dX8_reasonValue_24 : decode cX8_reasonValue 24 = .ok (.caload, 1) := by decide +kernel
theorem dX8_reasonValue_25 : decode cX8_reasonValue 25 = .ok (.aload_n 0, 1) := by decide +kernel
theorem dX8_reasonValue_26 : decode cX8_reasonValue 26 = .ok (.getfield 60, 3) := by decide +kernel
theorem dX8_reasonValue_29 : decode cX8_reasonValue 29 = .ok (.aload_n 0, 1) := by decide +kernel
theorem dX8_reasonValue_30 : decode cX8_reasonValue 30 = .ok (.getfield 79, 3) := by decide +kernel
theorem dX8_reasonValue_33 : decode cX8_reasonValue 33 = .ok (.iload_n 3, 1) := by decide +kernel
theorem dX8_reasonValue_34 : decode cX8_reasonValue 34 = .ok (.iaload, 1) := by decide +kernel
theorem dX8_reasonValue_35 : decode cX8_reasonValue 35 = .ok (.iaload, 1) := by decide +kernel
theorem dX8_reasonValue_36 : decode cX8_reasonValue 36 = .ok (.aload_n 0, 1) := by decide +kernel
theorem dX8_reasonValue_37 : decode cX8_reasonValue 37 = .ok (.getfield 29, 3) := by decide +kernel
theorem dX8_reasonValue_40 : decode cX8_reasonValue 40 = .ok (.iload_n 1, 1) := by decide +kernel
theorem dX8_reasonValue_41 : decode cX8_reasonValue 41 = .ok (.iaload, 1) := by decide +kernel
theorem dX8_reasonValue_42 : decode cX8_reasonValue 42 = .ok (.invokevirtual 172, 3) := by decide +kernel
theorem dX8_reasonValue_45 : decode cX8_reasonValue 45 = .ok (.ireturn, 1) := by decide +kernel
theorem dX8_many_0 : decode cX8_many 0 = .ok (.iconst 0, 1) := by decide +kernel
theorem dX8_many_1 : decode cX8_many 1 = .ok (.istore_n 2, 1) := by decide +kernel
theorem dX8_many_2 : decode cX8_many 2 = .ok (.iconst 0, 1) := by decide +kernel
theorem dX8_many_3 : decode cX8_many 3 = .ok (.istore_n 3, 1) := by decide +kernel
theorem dX8_many_4 : decode cX8_many 4 = .ok (.iload_n 3, 1) := by decide +kernel
theorem dX8_many_5 : decode cX8_many 5 = .ok (.aload_n 0, 1) := by decide +kernel
theorem dX8_many_6 : decode cX8_many 6 = .ok (.getfield 120, 3) := by decide +kernel
theorem dX8_many_9 : decode cX8_many 9 = .ok (.if_icmp .ge 27, 3) := by decide +kernel
theorem dX8_many_12 : decode cX8_many 12 = .ok (.iload_n 2, 1) := by decide +kernel
theorem dX8_many_13 : decode cX8_many 13 = .ok (.aload_n 0, 1) := by decide +kernel
theorem dX8_many_14 : decode cX8_many 14 = .ok (.getfield 38, 3) := by decide +kernel
theorem dX8_many_17 : decode cX8_many 17 = .ok (.iload_n 3, 1) := by decide +kernel
theorem dX8_many_18 : decode cX8_many 18 = .ok (.caload, 1) := by decide +kernel
theorem dX8_many_19 : decode cX8_many 19 = .ok (.iload_n 1, 1) := by decide +kernel
theorem dX8_many_20 : decode cX8_many 20 = .ok (.if_icmp .ne 7, 3) := by decide +kernel
theorem dX8_many_23 : decode cX8_many 23 = .ok (.iconst 1, 1) := by decide +kernel
theorem dX8_many_24 : decode cX8_many 24 = .ok (.goto 4, 3) := by decide +kernel
theorem dX8_many_27 : decode cX8_many 27 = .ok (.iconst 0, 1) := by decide +kernel
theorem dX8_many_28 : decode cX8_many 28 = .ok (.iadd, 1) := by decide +kernel
theorem dX8_many_29 : decode cX8_many 29 = .ok (.istore_n 2, 1) := by decide +kernel
theorem dX8_many_30 : decode cX8_many 30 = .ok (.iinc 3 1, 3) := by decide +kernel
theorem dX8_many_33 : decode cX8_many 33 = .ok (.goto (-29), 3) := by decide +kernel
theorem dX8_many_36 : decode cX8_many 36 = .ok (.iload_n 2, 1) := by decide +kernel
theorem dX8_many_37 : decode cX8_many 37 = .ok (.ireturn, 1) := by decide +kernel
theorem dX8_ranked_0 : decode cX8_ranked 0 = .ok (.iconst 0, 1) := by decide +kernel
theorem dX8_ranked_1 : decode cX8_ranked 1 = .ok (.istore_n 2, 1) := by decide +kernel
theorem dX8_ranked_2 : decode cX8_ranked 2 = .ok (.iload_n 2, 1) := by decide +kernel
theorem dX8_ranked_3 : decode cX8_ranked 3 = .ok (.aload_n 0, 1) := by decide +kernel
theorem dX8_ranked_4 : decode cX8_ranked 4 = .ok (.getfield 120, 3) := by decide +kernel
theorem dX8_ranked_7 : decode cX8_ranked 7 = .ok (.if_icmp .ge 108, 3) := by decide +kernel
theorem dX8_ranked_10 : decode cX8_ranked 10 = .ok (.aload_n 0, 1) := by decide +kernel
theorem dX8_ranked_11 : decode cX8_ranked 11 = .ok (.getfield 38, 3) := by decide +kernel
theorem dX8_ranked_14 : decode cX8_ranked 14 = .ok (.iload_n 2, 1) := by decide +kernel
theorem dX8_ranked_15 : decode cX8_ranked 15 = .ok (.caload, 1) := by decide +kernel
theorem dX8_ranked_16 : decode cX8_ranked 16 = .ok (.bipush 111, 2) := by decide +kernel
theorem dX8_ranked_18 : decode cX8_ranked 18 = .ok (.if_icmp .eq 6, 3) := by decide +kernel
theorem dX8_ranked_21 : decode cX8_ranked 21 = .ok (.goto 88, 3) := by decide +kernel
theorem dX8_ranked_24 : decode cX8_ranked 24 = .ok (.iconst 0, 1) := by decide +kernel
theorem dX8_ranked_25 : decode cX8_ranked 25 = .ok (.istore_n 3, 1) := by decide +kernel
theorem dX8_ranked_26 : decode cX8_ranked 26 = .ok (.iconst 0, 1) := by decide +kernel
theorem dX8_ranked_27 : decode cX8_ranked 27 = .ok (.istore 4, 2) := by decide +kernel
theorem dX8_ranked_29 : decode cX8_ranked 29 = .ok (.iload 4, 2) := by decide +kernel
theorem dX8_ranked_31 : decode cX8_ranked 31 = .ok (.aload_n 0, 1) := by decide +kernel
theorem dX8_ranked_32 : decode cX8_ranked 32 = .ok (.getfield 120, 3) := by decide +kernel
theorem dX8_ranked_35 : decode cX8_ranked 35 = .ok (.if_icmp .ge 67, 3) := by decide +kernel
theorem dX8_ranked_38 : decode cX8_ranked 38 = .ok (.iload_n 3, 1) := by decide +kernel
theorem dX8_ranked_39 : decode cX8_ranked 39 = .ok (.aload_n 0, 1) := by decide +kernel
theorem dX8_ranked_40 : decode cX8_ranked 40 = .ok (.getfield 38, 3) := by decide +kernel
theorem dX8_ranked_43 : decode cX8_ranked 43 = .ok (.iload 4, 2) := by decide +kernel
theorem dX8_ranked_45 : decode cX8_ranked 45 = .ok (.caload, 1) := by decide +kernel
theorem dX8_ranked_46 : decode cX8_ranked 46 = .ok (.bipush 111, 2) := by decide +kernel
theorem dX8_ranked_48 : decode cX8_ranked 48 = .ok (.if_icmp .ne 45, 3) := by decide +kernel
theorem dX8_ranked_51 : decode cX8_ranked 51 = .ok (.aload_n 0, 1) := by decide +kernel
theorem dX8_ranked_52 : decode cX8_ranked 52 = .ok (.getfield 35, 3) := by decide +kernel
theorem dX8_ranked_55 : decode cX8_ranked 55 = .ok (.iload 4, 2) := by decide +kernel
theorem dX8_ranked_57 : decode cX8_ranked 57 = .ok (.iaload, 1) := by decide +kernel
theorem dX8_ranked_58 : decode cX8_ranked 58 = .ok (.aload_n 0, 1) := by decide +kernel
theorem dX8_ranked_59 : decode cX8_ranked 59 = .ok (.getfield 35, 3) := by decide +kernel
theorem dX8_ranked_62 : decode cX8_ranked 62 = .ok (.iload_n 2, 1) := by decide +kernel
theorem dX8_ranked_63 : decode cX8_ranked 63 = .ok (.iaload, 1) := by decide +kernel
theorem dX8_ranked_64 : decode cX8_ranked 64 = .ok (.if_icmp .gt 25, 3) := by decide +kernel
theorem dX8_ranked_67 : decode cX8_ranked 67 = .ok (.aload_n 0, 1) := by decide +kernel
theorem dX8_ranked_68 : decode cX8_ranked 68 = .ok (.getfield 35, 3) := by decide +kernel
theorem dX8_ranked_71 : decode cX8_ranked 71 = .ok (.iload 4, 2) := by decide +kernel
theorem dX8_ranked_73 : decode cX8_ranked 73 = .ok (.iaload, 1) := by decide +kernel
theorem dX8_ranked_74 : decode cX8_ranked 74 = .ok (.aload_n 0, 1) := by decide +kernel
theorem dX8_ranked_75 : decode cX8_ranked 75 = .ok (.getfield 35, 3) := by decide +kernel
theorem dX8_ranked_78 : decode cX8_ranked 78 = .ok (.iload_n 2, 1) := by decide +kernel
theorem dX8_ranked_79 : decode cX8_ranked 79 = .ok (.iaload, 1) := by decide +kernel
theorem dX8_ranked_80 : decode cX8_ranked 80 = .ok (.if_icmp .ne 13, 3) := by decide +kernel
theorem dX8_ranked_83 : decode cX8_ranked 83 = .ok (.iload 4, 2) := by decide +kernel
theorem dX8_ranked_85 : decode cX8_ranked 85 = .ok (.iload_n 2, 1) := by decide +kernel
theorem dX8_ranked_86 : decode cX8_ranked 86 = .ok (.if_icmp .ge 7, 3) := by decide +kernel
theorem dX8_ranked_89 : decode cX8_ranked 89 = .ok (.iconst 1, 1) := by decide +kernel
theorem dX8_ranked_90 : decode cX8_ranked 90 = .ok (.goto 4, 3) := by decide +kernel
theorem dX8_ranked_93 : decode cX8_ranked 93 = .ok (.iconst 0, 1) := by decide +kernel
theorem dX8_ranked_94 : decode cX8_ranked 94 = .ok (.iadd, 1) := by decide +kernel
theorem dX8_ranked_95 : decode cX8_ranked 95 = .ok (.istore_n 3, 1) := by decide +kernel
theorem dX8_ranked_96 : decode cX8_ranked 96 = .ok (.iinc 4 1, 3) := by decide +kernel
theorem dX8_ranked_99 : decode cX8_ranked 99 = .ok (.goto (-70), 3) := by decide +kernel
theorem dX8_ranked_102 : decode cX8_ranked 102 = .ok (.iload_n 3, 1) := by decide +kernel
theorem dX8_ranked_103 : decode cX8_ranked 103 = .ok (.iload_n 1, 1) := by decide +kernel
theorem dX8_ranked_104 : decode cX8_ranked 104 = .ok (.if_icmp .ne 5, 3) := by decide +kernel
theorem dX8_ranked_107 : decode cX8_ranked 107 = .ok (.iload_n 2, 1) := by decide +kernel
theorem dX8_ranked_108 : decode cX8_ranked 108 = .ok (.ireturn, 1) := by decide +kernel
theorem dX8_ranked_109 : decode cX8_ranked 109 = .ok (.iinc 2 1, 3) := by decide +kernel
theorem dX8_ranked_112 : decode cX8_ranked 112 = .ok (.goto (-110), 3) := by decide +kernel
theorem dX8_ranked_115 : decode cX8_ranked 115 = .ok (.iconst (-1), 1) := by decide +kernel
theorem dX8_ranked_116 : decode cX8_ranked 116 = .ok (.ireturn, 1) := by decide +kernel
theorem dX8_nextAlert_0 : decode cX8_nextAlert 0 = .ok (.aload_n 0, 1) := by decide +kernel
theorem dX8_nextAlert_1 : decode cX8_nextAlert 1 = .ok (.iconst 0, 1) := by decide +kernel
theorem dX8_nextAlert_2 : decode cX8_nextAlert 2 = .ok (.invokevirtual 219, 3) := by decide +kernel
theorem dX8_nextAlert_5 : decode cX8_nextAlert 5 = .ok (.ireturn, 1) := by decide +kernel
theorem dX8_alertAt_0 : decode cX8_alertAt 0 = .ok (.aload_n 0, 1) := by decide +kernel
theorem dX8_alertAt_1 : decode cX8_alertAt 1 = .ok (.iconst 0, 1) := by decide +kernel
theorem dX8_alertAt_2 : decode cX8_alertAt 2 = .ok (.putfield 82, 3) := by decide +kernel
theorem dX8_alertAt_5 : decode cX8_alertAt 5 = .ok (.aload_n 0, 1) := by decide +kernel
theorem dX8_alertAt_6 : decode cX8_alertAt 6 = .ok (.iload_n 1, 1) := by decide +kernel
theorem dX8_alertAt_7 : decode cX8_alertAt 7 = .ok (.invokevirtual 222, 3) := by decide +kernel
theorem dX8_alertAt_10 : decode cX8_alertAt 10 = .ok (.istore_n 2, 1) := by decide +kernel
theorem dX8_alertAt_11 : decode cX8_alertAt 11 = .ok (.iload_n 2, 1) := by decide +kernel
theorem dX8_alertAt_12 : decode cX8_alertAt 12 = .ok (.ifCond .ge 11, 3) := by decide +kernel
theorem dX8_alertAt_15 : decode cX8_alertAt 15 = .ok (.aload_n 0, 1) := by decide +kernel
theorem dX8_alertAt_16 : decode cX8_alertAt 16 = .ok (.iconst 1, 1) := by decide +kernel
theorem dX8_alertAt_17 : decode cX8_alertAt 17 = .ok (.invokevirtual 92, 3) := by decide +kernel
theorem dX8_alertAt_20 : decode cX8_alertAt 20 = .ok (.goto 4, 3) := by decide +kernel
theorem dX8_alertAt_23 : decode cX8_alertAt 23 = .ok (.iload_n 2, 1) := by decide +kernel
theorem dX8_alertAt_24 : decode cX8_alertAt 24 = .ok (.ireturn, 1) := by decide +kernel
theorem dX8_openAlerts_0 : decode cX8_openAlerts 0 = .ok (.aload_n 0, 1) := by decide +kernel
theorem dX8_openAlerts_1 : decode cX8_openAlerts 1 = .ok (.iconst 0, 1) := by decide +kernel
theorem dX8_openAlerts_2 : decode cX8_openAlerts 2 = .ok (.putfield 82, 3) := by decide +kernel
theorem dX8_openAlerts_5 : decode cX8_openAlerts 5 = .ok (.aload_n 0, 1) := by decide +kernel
theorem dX8_openAlerts_6 : decode cX8_openAlerts 6 = .ok (.bipush 111, 2) := by decide +kernel
theorem dX8_openAlerts_8 : decode cX8_openAlerts 8 = .ok (.invokevirtual 225, 3) := by decide +kernel
theorem dX8_openAlerts_11 : decode cX8_openAlerts 11 = .ok (.ireturn, 1) := by decide +kernel
theorem dX8_decide_0 : decode cX8_decide 0 = .ok (.aload_n 0, 1) := by decide +kernel
theorem dX8_decide_1 : decode cX8_decide 1 = .ok (.iconst 0, 1) := by decide +kernel
theorem dX8_decide_2 : decode cX8_decide 2 = .ok (.putfield 82, 3) := by decide +kernel
theorem dX8_decide_5 : decode cX8_decide 5 = .ok (.aload_n 0, 1) := by decide +kernel
theorem dX8_decide_6 : decode cX8_decide 6 = .ok (.iload_n 1, 1) := by decide +kernel
theorem dX8_decide_7 : decode cX8_decide 7 = .ok (.invokevirtual 130, 3) := by decide +kernel
theorem dX8_decide_10 : decode cX8_decide 10 = .ok (.ifCond .ne 9, 3) := by decide +kernel
theorem dX8_decide_13 : decode cX8_decide 13 = .ok (.aload_n 0, 1) := by decide +kernel
theorem dX8_decide_14 : decode cX8_decide 14 = .ok (.iconst 1, 1) := by decide +kernel
theorem dX8_decide_15 : decode cX8_decide 15 = .ok (.invokevirtual 92, 3) := by decide +kernel
theorem dX8_decide_18 : decode cX8_decide 18 = .ok (.ireturn, 1) := by decide +kernel
theorem dX8_decide_19 : decode cX8_decide 19 = .ok (.aload_n 0, 1) := by decide +kernel
theorem dX8_decide_20 : decode cX8_decide 20 = .ok (.getfield 38, 3) := by decide +kernel
theorem dX8_decide_23 : decode cX8_decide 23 = .ok (.iload_n 1, 1) := by decide +kernel
theorem dX8_decide_24 : decode cX8_decide 24 = .ok (.caload, 1) := by decide +kernel
theorem dX8_decide_25 : decode cX8_decide 25 = .ok (.bipush 111, 2) := by decide +kernel
theorem dX8_decide_27 : decode cX8_decide 27 = .ok (.if_icmp .eq 9, 3) := by decide +kernel
theorem dX8_decide_30 : decode cX8_decide 30 = .ok (.aload_n 0, 1) := by decide +kernel
theorem dX8_decide_31 : decode cX8_decide 31 = .ok (.iconst 2, 1) := by decide +kernel
theorem dX8_decide_32 : decode cX8_decide 32 = .ok (.invokevirtual 92, 3) := by decide +kernel
theorem dX8_decide_35 : decode cX8_decide 35 = .ok (.ireturn, 1) := by decide +kernel
theorem dX8_decide_36 : decode cX8_decide 36 = .ok (.aload_n 0, 1) := by decide +kernel
theorem dX8_decide_37 : decode cX8_decide 37 = .ok (.getfield 38, 3) := by decide +kernel
theorem dX8_decide_40 : decode cX8_decide 40 = .ok (.iload_n 1, 1) := by decide +kernel
theorem dX8_decide_41 : decode cX8_decide 41 = .ok (.iload_n 2, 1) := by decide +kernel
theorem dX8_decide_42 : decode cX8_decide 42 = .ok (.ifCond .eq 8, 3) := by decide +kernel
theorem dX8_decide_45 : decode cX8_decide 45 = .ok (.bipush 102, 2) := by decide +kernel
theorem dX8_decide_47 : decode cX8_decide 47 = .ok (.goto 5, 3) := by decide +kernel
theorem dX8_decide_50 : decode cX8_decide 50 = .ok (.bipush 99, 2) := by decide +kernel
theorem dX8_decide_52 : decode cX8_decide 52 = .ok (.castore, 1) := by decide +kernel
theorem dX8_decide_53 : decode cX8_decide 53 = .ok (.iload_n 2, 1) := by decide +kernel
theorem dX8_decide_54 : decode cX8_decide 54 = .ok (.ifCond .eq 21, 3) := by decide +kernel
theorem dX8_decide_57 : decode cX8_decide 57 = .ok (.aload_n 0, 1) := by decide +kernel
theorem dX8_decide_58 : decode cX8_decide 58 = .ok (.aload_n 0, 1) := by decide +kernel
theorem dX8_decide_59 : decode cX8_decide 59 = .ok (.getfield 106, 3) := by decide +kernel
theorem dX8_decide_62 : decode cX8_decide 62 = .ok (.aload_n 0, 1) := by decide +kernel
theorem dX8_decide_63 : decode cX8_decide 63 = .ok (.getfield 20, 3) := by decide +kernel
theorem dX8_decide_66 : decode cX8_decide 66 = .ok (.iload_n 1, 1) := by decide +kernel
theorem dX8_decide_67 : decode cX8_decide 67 = .ok (.iaload, 1) := by decide +kernel
theorem dX8_decide_68 : decode cX8_decide 68 = .ok (.iconst 1, 1) := by decide +kernel
theorem dX8_decide_69 : decode cX8_decide 69 = .ok (.invokestatic 113, 3) := by decide +kernel
theorem dX8_decide_72 : decode cX8_decide 72 = .ok (.putfield 106, 3) := by decide +kernel
theorem dX8_decide_75 : decode cX8_decide 75 = .ok (.aload_n 0, 1) := by decide +kernel
theorem dX8_decide_76 : decode cX8_decide 76 = .ok (.bipush 111, 2) := by decide +kernel
theorem dX8_decide_78 : decode cX8_decide 78 = .ok (.invokevirtual 225, 3) := by decide +kernel
theorem dX8_decide_81 : decode cX8_decide 81 = .ok (.ireturn, 1) := by decide +kernel
theorem dX8_alertOf_0 : decode cX8_alertOf 0 = .ok (.aload_n 0, 1) := by decide +kernel
theorem dX8_alertOf_1 : decode cX8_alertOf 1 = .ok (.iconst 0, 1) := by decide +kernel
theorem dX8_alertOf_2 : decode cX8_alertOf 2 = .ok (.putfield 82, 3) := by decide +kernel
theorem dX8_alertOf_5 : decode cX8_alertOf 5 = .ok (.aload_n 0, 1) := by decide +kernel
theorem dX8_alertOf_6 : decode cX8_alertOf 6 = .ok (.iload_n 1, 1) := by decide +kernel
theorem dX8_alertOf_7 : decode cX8_alertOf 7 = .ok (.invokevirtual 130, 3) := by decide +kernel
theorem dX8_alertOf_10 : decode cX8_alertOf 10 = .ok (.ifCond .eq 12, 3) := by decide +kernel
theorem dX8_alertOf_13 : decode cX8_alertOf 13 = .ok (.aload_n 0, 1) := by decide +kernel
theorem dX8_alertOf_14 : decode cX8_alertOf 14 = .ok (.getfield 38, 3) := by decide +kernel
theorem dX8_alertOf_17 : decode cX8_alertOf 17 = .ok (.iload_n 1, 1) := by decide +kernel
theorem dX8_alertOf_18 : decode cX8_alertOf 18 = .ok (.caload, 1) := by decide +kernel
theorem dX8_alertOf_19 : decode cX8_alertOf 19 = .ok (.goto 9, 3) := by decide +kernel
theorem dX8_alertOf_22 : decode cX8_alertOf 22 = .ok (.aload_n 0, 1) := by decide +kernel
theorem dX8_alertOf_23 : decode cX8_alertOf 23 = .ok (.iconst 1, 1) := by decide +kernel
theorem dX8_alertOf_24 : decode cX8_alertOf 24 = .ok (.invokevirtual 92, 3) := by decide +kernel
theorem dX8_alertOf_27 : decode cX8_alertOf 27 = .ok (.i2c, 1) := by decide +kernel
theorem dX8_alertOf_28 : decode cX8_alertOf 28 = .ok (.ireturn, 1) := by decide +kernel
theorem dX8_isUnfit_0 : decode cX8_isUnfit 0 = .ok (.aload_n 0, 1) := by decide +kernel
theorem dX8_isUnfit_1 : decode cX8_isUnfit 1 = .ok (.iconst 0, 1) := by decide +kernel
theorem dX8_isUnfit_2 : decode cX8_isUnfit 2 = .ok (.putfield 82, 3) := by decide +kernel
theorem dX8_isUnfit_5 : decode cX8_isUnfit 5 = .ok (.aload_n 0, 1) := by decide +kernel
theorem dX8_isUnfit_6 : decode cX8_isUnfit 6 = .ok (.iload_n 1, 1) := by decide +kernel
theorem dX8_isUnfit_7 : decode cX8_isUnfit 7 = .ok (.invokevirtual 99, 3) := by decide +kernel
theorem dX8_isUnfit_10 : decode cX8_isUnfit 10 = .ok (.ifCond .ne 12, 3) := by decide +kernel
theorem dX8_isUnfit_13 : decode cX8_isUnfit 13 = .ok (.aload_n 0, 1) := by decide +kernel
theorem dX8_isUnfit_14 : decode cX8_isUnfit 14 = .ok (.iconst 1, 1) := by decide +kernel
theorem dX8_isUnfit_15 : decode cX8_isUnfit 15 = .ok (.invokevirtual 92, 3) := by decide +kernel
theorem dX8_isUnfit_18 : decode cX8_isUnfit 18 = .ok (.pop, 1) := by decide +kernel
theorem dX8_isUnfit_19 : decode cX8_isUnfit 19 = .ok (.goto 16, 3) := by decide +kernel
theorem dX8_isUnfit_22 : decode cX8_isUnfit 22 = .ok (.iload_n 2, 1) := by decide +kernel
theorem dX8_isUnfit_23 : decode cX8_isUnfit 23 = .ok (.invokestatic 133, 3) := by decide +kernel
theorem dX8_isUnfit_26 : decode cX8_isUnfit 26 = .ok (.ifCond .ne 9, 3) := by decide +kernel
theorem dX8_isUnfit_29 : decode cX8_isUnfit 29 = .ok (.aload_n 0, 1) := by decide +kernel
theorem dX8_isUnfit_30 : decode cX8_isUnfit 30 = .ok (.iconst 2, 1) := by decide +kernel
theorem dX8_isUnfit_31 : decode cX8_isUnfit 31 = .ok (.invokevirtual 92, 3) := by decide +kernel
theorem dX8_isUnfit_34 : decode cX8_isUnfit 34 = .ok (.pop, 1) := by decide +kernel
theorem dX8_isUnfit_35 : decode cX8_isUnfit 35 = .ok (.aload_n 0, 1) := by decide +kernel
theorem dX8_isUnfit_36 : decode cX8_isUnfit 36 = .ok (.getfield 82, 3) := by decide +kernel
theorem dX8_isUnfit_39 : decode cX8_isUnfit 39 = .ok (.ifCond .le 7, 3) := by decide +kernel
theorem dX8_isUnfit_42 : decode cX8_isUnfit 42 = .ok (.iconst 1, 1) := by decide +kernel
theorem dX8_isUnfit_43 : decode cX8_isUnfit 43 = .ok (.goto 4, 3) := by decide +kernel
theorem dX8_isUnfit_46 : decode cX8_isUnfit 46 = .ok (.iconst 0, 1) := by decide +kernel
theorem dX8_isUnfit_47 : decode cX8_isUnfit 47 = .ok (.ireturn, 1) := by decide +kernel
theorem dX8_ring_0 : decode cX8_ring 0 = .ok (.aload_n 0, 1) := by decide +kernel
theorem dX8_ring_1 : decode cX8_ring 1 = .ok (.iload_n 1, 1) := by decide +kernel
theorem dX8_ring_2 : decode cX8_ring 2 = .ok (.iload_n 2, 1) := by decide +kernel
theorem dX8_ring_3 : decode cX8_ring 3 = .ok (.invokevirtual 229, 3) := by decide +kernel
theorem dX8_ring_6 : decode cX8_ring 6 = .ok (.ifCond .eq 5, 3) := by decide +kernel
theorem dX8_ring_9 : decode cX8_ring 9 = .ok (.iconst 0, 1) := by decide +kernel
theorem dX8_ring_10 : decode cX8_ring 10 = .ok (.ireturn, 1) := by decide +kernel
theorem dX8_ring_11 : decode cX8_ring 11 = .ok (.aload_n 0, 1) := by decide +kernel
theorem dX8_ring_12 : decode cX8_ring 12 = .ok (.iload_n 1, 1) := by decide +kernel
theorem dX8_ring_13 : decode cX8_ring 13 = .ok (.aload_n 0, 1) := by decide +kernel
theorem dX8_ring_14 : decode cX8_ring 14 = .ok (.getfield 120, 3) := by decide +kernel
theorem dX8_ring_17 : decode cX8_ring 17 = .ok (.iconst 1, 1) := by decide +kernel
theorem dX8_ring_18 : decode cX8_ring 18 = .ok (.isub, 1) := by decide +kernel
theorem dX8_ring_19 : decode cX8_ring 19 = .ok (.iload_n 2, 1) := by decide +kernel
theorem dX8_ring_20 : decode cX8_ring 20 = .ok (.aload_n 0, 1) := by decide +kernel
theorem dX8_ring_21 : decode cX8_ring 21 = .ok (.getfield 96, 3) := by decide +kernel
theorem dX8_ring_24 : decode cX8_ring 24 = .ok (.iconst 0, 1) := by decide +kernel
theorem dX8_ring_25 : decode cX8_ring 25 = .ok (.invokevirtual 143, 3) := by decide +kernel
theorem dX8_ring_28 : decode cX8_ring 28 = .ok (.bipush 99, 2) := by decide +kernel
theorem dX8_ring_30 : decode cX8_ring 30 = .ok (.istore_n 3, 1) := by decide +kernel
theorem dX8_ring_31 : decode cX8_ring 31 = .ok (.iconst 0, 1) := by decide +kernel
theorem dX8_ring_32 : decode cX8_ring 32 = .ok (.istore 4, 2) := by decide +kernel
theorem dX8_ring_34 : decode cX8_ring 34 = .ok (.iload 4, 2) := by decide +kernel
theorem dX8_ring_36 : decode cX8_ring 36 = .ok (.aload_n 0, 1) := by decide +kernel
theorem dX8_ring_37 : decode cX8_ring 37 = .ok (.getfield 120, 3) := by decide +kernel
theorem dX8_ring_40 : decode cX8_ring 40 = .ok (.if_icmp .ge 53, 3) := by decide +kernel
theorem dX8_ring_43 : decode cX8_ring 43 = .ok (.aload_n 0, 1) := by decide +kernel
theorem dX8_ring_44 : decode cX8_ring 44 = .ok (.getfield 20, 3) := by decide +kernel
theorem dX8_ring_47 : decode cX8_ring 47 = .ok (.iload 4, 2) := by decide +kernel
theorem dX8_ring_49 : decode cX8_ring 49 = .ok (.iaload, 1) := by decide +kernel
theorem dX8_ring_50 : decode cX8_ring 50 = .ok (.iload_n 1, 1) := by decide +kernel
theorem dX8_ring_51 : decode cX8_ring 51 = .ok (.if_icmp .ne 36, 3) := by decide +kernel
theorem dX8_ring_54 : decode cX8_ring 54 = .ok (.aload_n 0, 1) := by decide +kernel
theorem dX8_ring_55 : decode cX8_ring 55 = .ok (.iload 4, 2) := by decide +kernel
theorem dX8_ring_57 : decode cX8_ring 57 = .ok (.iload_n 2, 1) := by decide +kernel
theorem dX8_ring_58 : decode cX8_ring 58 = .ok (.aload_n 0, 1) := by decide +kernel
theorem dX8_ring_59 : decode cX8_ring 59 = .ok (.getfield 96, 3) := by decide +kernel
theorem dX8_ring_62 : decode cX8_ring 62 = .ok (.invokevirtual 136, 3) := by decide +kernel
theorem dX8_ring_65 : decode cX8_ring 65 = .ok (.ifCond .eq 22, 3) := by decide +kernel
theorem dX8_ring_68 : decode cX8_ring 68 = .ok (.iload_n 3, 1) := by decide +kernel
theorem dX8_ring_69 : decode cX8_ring 69 = .ok (.aload_n 0, 1) := by decide +kernel
theorem dX8_ring_70 : decode cX8_ring 70 = .ok (.getfield 45, 3) := by decide +kernel
theorem dX8_ring_73 : decode cX8_ring 73 = .ok (.aload_n 0, 1) := by decide +kernel
theorem dX8_ring_74 : decode cX8_ring 74 = .ok (.getfield 17, 3) := by decide +kernel
theorem dX8_ring_77 : decode cX8_ring 77 = .ok (.iload 4, 2) := by decide +kernel
theorem dX8_ring_79 : decode cX8_ring 79 = .ok (.iaload, 1) := by decide +kernel
theorem dX8_ring_80 : decode cX8_ring 80 = .ok (.iaload, 1) := by decide +kernel
theorem dX8_ring_81 : decode cX8_ring 81 = .ok (.iconst 1, 1) := by decide +kernel
theorem dX8_ring_82 : decode cX8_ring 82 = .ok (.iadd, 1) := by decide +kernel
theorem dX8_ring_83 : decode cX8_ring 83 = .ok (.invokestatic 147, 3) := by decide +kernel
theorem dX8_ring_86 : decode cX8_ring 86 = .ok (.istore_n 3, 1) := by decide +kernel
theorem dX8_ring_87 : decode cX8_ring 87 = .ok (.iinc 4 1, 3) := by decide +kernel
theorem dX8_ring_90 : decode cX8_ring 90 = .ok (.goto (-56), 3) := by decide +kernel
theorem dX8_ring_93 : decode cX8_ring 93 = .ok (.iload_n 3, 1) := by decide +kernel
theorem dX8_ring_94 : decode cX8_ring 94 = .ok (.bipush 99, 2) := by decide +kernel
theorem dX8_ring_96 : decode cX8_ring 96 = .ok (.if_icmp .lt 11, 3) := by decide +kernel
theorem dX8_ring_99 : decode cX8_ring 99 = .ok (.aload_n 0, 1) := by decide +kernel
theorem dX8_ring_100 : decode cX8_ring 100 = .ok (.iconst 3, 1) := by decide +kernel
theorem dX8_ring_101 : decode cX8_ring 101 = .ok (.invokevirtual 92, 3) := by decide +kernel
theorem dX8_ring_104 : decode cX8_ring 104 = .ok (.goto 4, 3) := by decide +kernel
theorem dX8_ring_107 : decode cX8_ring 107 = .ok (.iload_n 3, 1) := by decide +kernel
theorem dX8_ring_108 : decode cX8_ring 108 = .ok (.ireturn, 1) := by decide +kernel
theorem dX8_ringByTrying_0 : decode cX8_ringByTrying 0 = .ok (.aload_n 0, 1) := by decide +kernel
theorem dX8_ringByTrying_1 : decode cX8_ringByTrying 1 = .ok (.iload_n 1, 1) := by decide +kernel
theorem dX8_ringByTrying_2 : decode cX8_ringByTrying 2 = .ok (.iload_n 2, 1) := by decide +kernel
theorem dX8_ringByTrying_3 : decode cX8_ringByTrying 3 = .ok (.invokevirtual 232, 3) := by decide +kernel
theorem dX8_ringByTrying_6 : decode cX8_ringByTrying 6 = .ok (.ireturn, 1) := by decide +kernel
theorem dX8_group_0 : decode cX8_group 0 = .ok (.aload_n 0, 1) := by decide +kernel
theorem dX8_group_1 : decode cX8_group 1 = .ok (.iload_n 1, 1) := by decide +kernel
theorem dX8_group_2 : decode cX8_group 2 = .ok (.iload_n 2, 1) := by decide +kernel
theorem dX8_group_3 : decode cX8_group 3 = .ok (.invokevirtual 229, 3) := by decide +kernel
theorem dX8_group_6 : decode cX8_group 6 = .ok (.ifCond .eq 7, 3) := by decide +kernel
theorem dX8_group_9 : decode cX8_group 9 = .ok (.iconst 0, 1) := by decide +kernel
theorem dX8_group_10 : decode cX8_group 10 = .ok (.goto 19, 3) := by decide +kernel
theorem dX8_group_13 : decode cX8_group 13 = .ok (.aload_n 0, 1) := by decide +kernel
theorem dX8_group_14 : decode cX8_group 14 = .ok (.iload_n 1, 1) := by decide +kernel
theorem dX8_group_15 : decode cX8_group 15 = .ok (.aload_n 0, 1) := by decide +kernel
theorem dX8_group_16 : decode cX8_group 16 = .ok (.getfield 120, 3) := by decide +kernel
theorem dX8_group_19 : decode cX8_group 19 = .ok (.iconst 1, 1) := by decide +kernel
theorem dX8_group_20 : decode cX8_group 20 = .ok (.isub, 1) := by decide +kernel
theorem dX8_group_21 : decode cX8_group 21 = .ok (.iload_n 2, 1) := by decide +kernel
theorem dX8_group_22 : decode cX8_group 22 = .ok (.aload_n 0, 1) := by decide +kernel
theorem dX8_group_23 : decode cX8_group 23 = .ok (.getfield 96, 3) := by decide +kernel
theorem dX8_group_26 : decode cX8_group 26 = .ok (.invokevirtual 155, 3) := by decide +kernel
theorem dX8_group_29 : decode cX8_group 29 = .ok (.ireturn, 1) := by decide +kernel
theorem dX8_decided_0 : decode cX8_decided 0 = .ok (.iconst 0, 1) := by decide +kernel
theorem dX8_decided_1 : decode cX8_decided 1 = .ok (.istore_n 3, 1) := by decide +kernel
theorem dX8_decided_2 : decode cX8_decided 2 = .ok (.iconst 0, 1) := by decide +kernel
theorem dX8_decided_3 : decode cX8_decided 3 = .ok (.istore 4, 2) := by decide +kernel
theorem dX8_decided_5 : decode cX8_decided 5 = .ok (.iload 4, 2) := by decide +kernel
theorem dX8_decided_7 : decode cX8_decided 7 = .ok (.aload_n 0, 1) := by decide +kernel
theorem dX8_decided_8 : decode cX8_decided 8 = .ok (.getfield 120, 3) := by decide +kernel
theorem dX8_decided_11 : decode cX8_decided 11 = .ok (.if_icmp .ge 39, 3) := by decide +kernel
theorem dX8_decided_14 : decode cX8_decided 14 = .ok (.iload_n 3, 1) := by decide +kernel
theorem dX8_decided_15 : decode cX8_decided 15 = .ok (.aload_n 0, 1) := by decide +kernel
theorem dX8_decided_16 : decode cX8_decided 16 = .ok (.getfield 38, 3) := by decide +kernel
theorem dX8_decided_19 : decode cX8_decided 19 = .ok (.iload 4, 2) := by decide +kernel
theorem dX8_decided_21 : decode cX8_decided 21 = .ok (.caload, 1) := by decide +kernel
theorem dX8_decided_22 : decode cX8_decided 22 = .ok (.iload_n 1, 1) := by decide +kernel
theorem dX8_decided_23 : decode cX8_decided 23 = .ok (.if_icmp .ne 18, 3) := by decide +kernel
theorem dX8_decided_26 : decode cX8_decided 26 = .ok (.aload_n 0, 1) := by decide +kernel
theorem dX8_decided_27 : decode cX8_decided 27 = .ok (.getfield 35, 3) := by decide +kernel
theorem dX8_decided_30 : decode cX8_decided 30 = .ok (.iload 4, 2) := by decide +kernel
theorem dX8_decided_32 : decode cX8_decided 32 = .ok (.iaload, 1) := by decide +kernel
theorem dX8_decided_33 : decode cX8_decided 33 = .ok (.iload_n 2, 1) := by decide +kernel
theorem dX8_decided_34 : decode cX8_decided 34 = .ok (.if_icmp .lt 7, 3) := by decide +kernel
theorem dX8_decided_37 : decode cX8_decided 37 = .ok (.iconst 1, 1) := by decide +kernel
theorem dX8_decided_38 : decode cX8_decided 38 = .ok (.goto 4, 3) := by decide +kernel
theorem dX8_decided_41 : decode cX8_decided 41 = .ok (.iconst 0, 1) := by decide +kernel
theorem dX8_decided_42 : decode cX8_decided 42 = .ok (.iadd, 1) := by decide +kernel
theorem dX8_decided_43 : decode cX8_decided 43 = .ok (.istore_n 3, 1) := by decide +kernel
theorem dX8_decided_44 : decode cX8_decided 44 = .ok (.iinc 4 1, 3) := by decide +kernel
theorem dX8_decided_47 : decode cX8_decided 47 = .ok (.goto (-42), 3) := by decide +kernel
theorem dX8_decided_50 : decode cX8_decided 50 = .ok (.iload_n 3, 1) := by decide +kernel
theorem dX8_decided_51 : decode cX8_decided 51 = .ok (.ireturn, 1) := by decide +kernel
theorem dX8_caught_0 : decode cX8_caught 0 = .ok (.aload_n 0, 1) := by decide +kernel
theorem dX8_caught_1 : decode cX8_caught 1 = .ok (.iconst 0, 1) := by decide +kernel
theorem dX8_caught_2 : decode cX8_caught 2 = .ok (.putfield 82, 3) := by decide +kernel
theorem dX8_caught_5 : decode cX8_caught 5 = .ok (.iload_n 1, 1) := by decide +kernel
theorem dX8_caught_6 : decode cX8_caught 6 = .ok (.iconst 1, 1) := by decide +kernel
theorem dX8_caught_7 : decode cX8_caught 7 = .ok (.sipush 1201, 3) := by decide +kernel
theorem dX8_caught_10 : decode cX8_caught 10 = .ok (.invokestatic 88, 3) := by decide +kernel
theorem dX8_caught_13 : decode cX8_caught 13 = .ok (.ifCond .eq 13, 3) := by decide +kernel
theorem dX8_caught_16 : decode cX8_caught 16 = .ok (.aload_n 0, 1) := by decide +kernel
theorem dX8_caught_17 : decode cX8_caught 17 = .ok (.bipush 102, 2) := by decide +kernel
theorem dX8_caught_19 : decode cX8_caught 19 = .ok (.iload_n 1, 1) := by decide +kernel
theorem dX8_caught_20 : decode cX8_caught 20 = .ok (.invokevirtual 235, 3) := by decide +kernel
theorem dX8_caught_23 : decode cX8_caught 23 = .ok (.goto 8, 3) := by decide +kernel
theorem dX8_caught_26 : decode cX8_caught 26 = .ok (.aload_n 0, 1) := by decide +kernel
theorem dX8_caught_27 : decode cX8_caught 27 = .ok (.iconst 1, 1) := by decide +kernel
theorem dX8_caught_28 : decode cX8_caught 28 = .ok (.invokevirtual 92, 3) := by decide +kernel
theorem dX8_caught_31 : decode cX8_caught 31 = .ok (.ireturn, 1) := by decide +kernel
theorem dX8_bestThreshold_0 : decode cX8_bestThreshold 0 = .ok (.aload_n 0, 1) := by decide +kernel
theorem dX8_bestThreshold_1 : decode cX8_bestThreshold 1 = .ok (.iconst 0, 1) := by decide +kernel
theorem dX8_bestThreshold_2 : decode cX8_bestThreshold 2 = .ok (.putfield 82, 3) := by decide +kernel
theorem dX8_bestThreshold_5 : decode cX8_bestThreshold 5 = .ok (.iload_n 1, 1) := by decide +kernel
theorem dX8_bestThreshold_6 : decode cX8_bestThreshold 6 = .ok (.iconst 0, 1) := by decide +kernel
theorem dX8_bestThreshold_7 : decode cX8_bestThreshold 7 = .ok (.sipush 200, 3) := by decide +kernel
theorem dX8_bestThreshold_10 : decode cX8_bestThreshold 10 = .ok (.invokestatic 88, 3) := by decide +kernel
theorem dX8_bestThreshold_13 : decode cX8_bestThreshold 13 = .ok (.ifCond .ne 9, 3) := by decide +kernel
theorem dX8_bestThreshold_16 : decode cX8_bestThreshold 16 = .ok (.aload_n 0, 1) := by decide +kernel
theorem dX8_bestThreshold_17 : decode cX8_bestThreshold 17 = .ok (.iconst 1, 1) := by decide +kernel
theorem dX8_bestThreshold_18 : decode cX8_bestThreshold 18 = .ok (.invokevirtual 92, 3) := by decide +kernel
theorem dX8_bestThreshold_21 : decode cX8_bestThreshold 21 = .ok (.ireturn, 1) := by decide +kernel
theorem dX8_bestThreshold_22 : decode cX8_bestThreshold 22 = .ok (.iconst 1, 1) := by decide +kernel
theorem dX8_bestThreshold_23 : decode cX8_bestThreshold 23 = .ok (.istore_n 2, 1) := by decide +kernel
theorem dX8_bestThreshold_24 : decode cX8_bestThreshold 24 = .ok (.aload_n 0, 1) := by decide +kernel
theorem dX8_bestThreshold_25 : decode cX8_bestThreshold 25 = .ok (.bipush 99, 2) := by decide +kernel
theorem dX8_bestThreshold_27 : decode cX8_bestThreshold 27 = .ok (.iload_n 2, 1) := by decide +kernel
theorem dX8_bestThreshold_28 : decode cX8_bestThreshold 28 = .ok (.invokevirtual 235, 3) := by decide +kernel
theorem dX8_bestThreshold_31 : decode cX8_bestThreshold 31 = .ok (.iload_n 1, 1) := by decide +kernel
theorem dX8_bestThreshold_32 : decode cX8_bestThreshold 32 = .ok (.if_icmp .le 9, 3) := by decide +kernel
theorem dX8_bestThreshold_35 : decode cX8_bestThreshold 35 = .ok (.iinc 2 1, 3) := by decide +kernel
theorem dX8_bestThreshold_38 : decode cX8_bestThreshold 38 = .ok (.goto (-14), 3) := by decide +kernel
theorem dX8_bestThreshold_41 : decode cX8_bestThreshold 41 = .ok (.iload_n 2, 1) := by decide +kernel
theorem dX8_bestThreshold_42 : decode cX8_bestThreshold 42 = .ok (.ireturn, 1) := by decide +kernel
theorem dX8_bestThresholdByTrying_0 : decode cX8_bestThresholdByTrying 0 = .ok (.aload_n 0, 1) := by decide +kernel
theorem dX8_bestThresholdByTrying_1 : decode cX8_bestThresholdByTrying 1 = .ok (.iload_n 1, 1) := by decide +kernel
theorem dX8_bestThresholdByTrying_2 : decode cX8_bestThresholdByTrying 2 = .ok (.invokevirtual 239, 3) := by decide +kernel
theorem dX8_bestThresholdByTrying_5 : decode cX8_bestThresholdByTrying 5 = .ok (.ireturn, 1) := by decide +kernel
theorem dX8_precision_0 : decode cX8_precision 0 = .ok (.aload_n 0, 1) := by decide +kernel
theorem dX8_precision_1 : decode cX8_precision 1 = .ok (.iconst 0, 1) := by decide +kernel
theorem dX8_precision_2 : decode cX8_precision 2 = .ok (.putfield 82, 3) := by decide +kernel
theorem dX8_precision_5 : decode cX8_precision 5 = .ok (.aload_n 0, 1) := by decide +kernel
theorem dX8_precision_6 : decode cX8_precision 6 = .ok (.iload_n 1, 1) := by decide +kernel
theorem dX8_precision_7 : decode cX8_precision 7 = .ok (.invokevirtual 190, 3) := by decide +kernel
theorem dX8_precision_10 : decode cX8_precision 10 = .ok (.ifCond .ne 10, 3) := by decide +kernel
theorem dX8_precision_13 : decode cX8_precision 13 = .ok (.aload_n 0, 1) := by decide +kernel
theorem dX8_precision_14 : decode cX8_precision 14 = .ok (.iconst 1, 1) := by decide +kernel
theorem dX8_precision_15 : decode cX8_precision 15 = .ok (.invokevirtual 92, 3) := by decide +kernel
theorem dX8_precision_18 : decode cX8_precision 18 = .ok (.i2f, 1) := by decide +kernel
theorem dX8_precision_19 : decode cX8_precision 19 = .ok (.freturn, 1) := by decide +kernel
theorem dX8_precision_20 : decode cX8_precision 20 = .ok (.iconst 0, 1) := by decide +kernel
theorem dX8_precision_21 : decode cX8_precision 21 = .ok (.istore_n 2, 1) := by decide +kernel
theorem dX8_precision_22 : decode cX8_precision 22 = .ok (.iconst 0, 1) := by decide +kernel
theorem dX8_precision_23 : decode cX8_precision 23 = .ok (.istore_n 3, 1) := by decide +kernel
theorem dX8_precision_24 : decode cX8_precision 24 = .ok (.iconst 0, 1) := by decide +kernel
theorem dX8_precision_25 : decode cX8_precision 25 = .ok (.istore 4, 2) := by decide +kernel
theorem dX8_precision_27 : decode cX8_precision 27 = .ok (.iload 4, 2) := by decide +kernel
theorem dX8_precision_29 : decode cX8_precision 29 = .ok (.aload_n 0, 1) := by decide +kernel
theorem dX8_precision_30 : decode cX8_precision 30 = .ok (.getfield 120, 3) := by decide +kernel
theorem dX8_precision_33 : decode cX8_precision 33 = .ok (.if_icmp .ge 69, 3) := by decide +kernel
theorem dX8_precision_36 : decode cX8_precision 36 = .ok (.aload_n 0, 1) := by decide +kernel
theorem dX8_precision_37 : decode cX8_precision 37 = .ok (.getfield 38, 3) := by decide +kernel
theorem dX8_precision_40 : decode cX8_precision 40 = .ok (.iload 4, 2) := by decide +kernel
theorem dX8_precision_42 : decode cX8_precision 42 = .ok (.caload, 1) := by decide +kernel
theorem dX8_precision_43 : decode cX8_precision 43 = .ok (.bipush 102, 2) := by decide +kernel
theorem dX8_precision_45 : decode cX8_precision 45 = .ok (.if_icmp .eq 15, 3) := by decide +kernel
theorem dX8_precision_48 : decode cX8_precision 48 = .ok (.aload_n 0, 1) := by decide +kernel
theorem dX8_precision_49 : decode cX8_precision 49 = .ok (.getfield 38, 3) := by decide +kernel
theorem dX8_precision_52 : decode cX8_precision 52 = .ok (.iload 4, 2) := by decide +kernel
theorem dX8_precision_54 : decode cX8_precision 54 = .ok (.caload, 1) := by decide +kernel
theorem dX8_precision_55 : decode cX8_precision 55 = .ok (.bipush 99, 2) := by decide +kernel
theorem dX8_precision_57 : decode cX8_precision 57 = .ok (.if_icmp .ne 39, 3) := by decide +kernel
theorem dX8_precision_60 : decode cX8_precision 60 = .ok (.aload_n 0, 1) := by decide +kernel
theorem dX8_precision_61 : decode cX8_precision 61 = .ok (.iload_n 1, 1) := by decide +kernel
theorem dX8_precision_62 : decode cX8_precision 62 = .ok (.iload 4, 2) := by decide +kernel
theorem dX8_precision_64 : decode cX8_precision 64 = .ok (.invokevirtual 197, 3) := by decide +kernel
theorem dX8_precision_67 : decode cX8_precision 67 = .ok (.ifCond .ne 6, 3) := by decide +kernel
theorem dX8_precision_70 : decode cX8_precision 70 = .ok (.goto 26, 3) := by decide +kernel
theorem dX8_precision_73 : decode cX8_precision 73 = .ok (.iinc 3 1, 3) := by decide +kernel
theorem dX8_precision_76 : decode cX8_precision 76 = .ok (.iload_n 2, 1) := by decide +kernel
theorem dX8_precision_77 : decode cX8_precision 77 = .ok (.aload_n 0, 1) := by decide +kernel
theorem dX8_precision_78 : decode cX8_precision 78 = .ok (.getfield 38, 3) := by decide +kernel
theorem dX8_precision_81 : decode cX8_precision 81 = .ok (.iload 4, 2) := by decide +kernel
theorem dX8_precision_83 : decode cX8_precision 83 = .ok (.caload, 1) := by decide +kernel
theorem dX8_precision_84 : decode cX8_precision 84 = .ok (.bipush 102, 2) := by decide +kernel
theorem dX8_precision_86 : decode cX8_precision 86 = .ok (.if_icmp .ne 7, 3) := by decide +kernel
theorem dX8_precision_89 : decode cX8_precision 89 = .ok (.iconst 1, 1) := by decide +kernel
theorem dX8_precision_90 : decode cX8_precision 90 = .ok (.goto 4, 3) := by decide +kernel
theorem dX8_precision_93 : decode cX8_precision 93 = .ok (.iconst 0, 1) := by decide +kernel
theorem dX8_precision_94 : decode cX8_precision 94 = .ok (.iadd, 1) := by decide +kernel
theorem dX8_precision_95 : decode cX8_precision 95 = .ok (.istore_n 2, 1) := by decide +kernel
theorem dX8_precision_96 : decode cX8_precision 96 = .ok (.iinc 4 1, 3) := by decide +kernel
theorem dX8_precision_99 : decode cX8_precision 99 = .ok (.goto (-72), 3) := by decide +kernel
theorem dX8_precision_102 : decode cX8_precision 102 = .ok (.iload_n 3, 1) := by decide +kernel
theorem dX8_precision_103 : decode cX8_precision 103 = .ok (.ifCond .ne 12, 3) := by decide +kernel
theorem dX8_precision_106 : decode cX8_precision 106 = .ok (.aload_n 0, 1) := by decide +kernel
theorem dX8_precision_107 : decode cX8_precision 107 = .ok (.iconst 2, 1) := by decide +kernel
theorem dX8_precision_108 : decode cX8_precision 108 = .ok (.invokevirtual 92, 3) := by decide +kernel
theorem dX8_precision_111 : decode cX8_precision 111 = .ok (.i2f, 1) := by decide +kernel
theorem dX8_precision_112 : decode cX8_precision 112 = .ok (.goto 8, 3) := by decide +kernel
theorem dX8_precision_115 : decode cX8_precision 115 = .ok (.iload_n 2, 1) := by decide +kernel
theorem dX8_precision_116 : decode cX8_precision 116 = .ok (.i2f, 1) := by decide +kernel
theorem dX8_precision_117 : decode cX8_precision 117 = .ok (.iload_n 3, 1) := by decide +kernel
theorem dX8_precision_118 : decode cX8_precision 118 = .ok (.i2f, 1) := by decide +kernel
theorem dX8_precision_119 : decode cX8_precision 119 = .ok (.fdiv, 1) := by decide +kernel
theorem dX8_precision_120 : decode cX8_precision 120 = .ok (.freturn, 1) := by decide +kernel
theorem dX8_meanScore_0 : decode cX8_meanScore 0 = .ok (.aload_n 0, 1) := by decide +kernel
theorem dX8_meanScore_1 : decode cX8_meanScore 1 = .ok (.iconst 0, 1) := by decide +kernel
theorem dX8_meanScore_2 : decode cX8_meanScore 2 = .ok (.putfield 82, 3) := by decide +kernel
theorem dX8_meanScore_5 : decode cX8_meanScore 5 = .ok (.aload_n 0, 1) := by decide +kernel
theorem dX8_meanScore_6 : decode cX8_meanScore 6 = .ok (.getfield 120, 3) := by decide +kernel
theorem dX8_meanScore_9 : decode cX8_meanScore 9 = .ok (.ifCond .ne 10, 3) := by decide +kernel
theorem dX8_meanScore_12 : decode cX8_meanScore 12 = .ok (.aload_n 0, 1) := by decide +kernel
theorem dX8_meanScore_13 : decode cX8_meanScore 13 = .ok (.iconst 1, 1) := by decide +kernel
theorem dX8_meanScore_14 : decode cX8_meanScore 14 = .ok (.invokevirtual 92, 3) := by decide +kernel
theorem dX8_meanScore_17 : decode cX8_meanScore 17 = .ok (.i2d, 1) := by decide +kernel
theorem dX8_meanScore_18 : decode cX8_meanScore 18 = .ok (.dreturn, 1) := by decide +kernel
theorem dX8_meanScore_19 : decode cX8_meanScore 19 = .ok (.iconst 0, 1) := by decide +kernel
theorem dX8_meanScore_20 : decode cX8_meanScore 20 = .ok (.istore_n 1, 1) := by decide +kernel
theorem dX8_meanScore_21 : decode cX8_meanScore 21 = .ok (.iconst 0, 1) := by decide +kernel
theorem dX8_meanScore_22 : decode cX8_meanScore 22 = .ok (.istore_n 2, 1) := by decide +kernel
theorem dX8_meanScore_23 : decode cX8_meanScore 23 = .ok (.iload_n 2, 1) := by decide +kernel
theorem dX8_meanScore_24 : decode cX8_meanScore 24 = .ok (.aload_n 0, 1) := by decide +kernel
theorem dX8_meanScore_25 : decode cX8_meanScore 25 = .ok (.getfield 120, 3) := by decide +kernel
theorem dX8_meanScore_28 : decode cX8_meanScore 28 = .ok (.if_icmp .ge 18, 3) := by decide +kernel
theorem dX8_meanScore_31 : decode cX8_meanScore 31 = .ok (.iload_n 1, 1) := by decide +kernel
theorem dX8_meanScore_32 : decode cX8_meanScore 32 = .ok (.aload_n 0, 1) := by decide +kernel
theorem dX8_meanScore_33 : decode cX8_meanScore 33 = .ok (.getfield 35, 3) := by decide +kernel
theorem dX8_meanScore_36 : decode cX8_meanScore 36 = .ok (.iload_n 2, 1) := by decide +kernel
theorem dX8_meanScore_37 : decode cX8_meanScore 37 = .ok (.iaload, 1) := by decide +kernel
theorem dX8_meanScore_38 : decode cX8_meanScore 38 = .ok (.iadd, 1) := by decide +kernel
theorem dX8_meanScore_39 : decode cX8_meanScore 39 = .ok (.istore_n 1, 1) := by decide +kernel
theorem dX8_meanScore_40 : decode cX8_meanScore 40 = .ok (.iinc 2 1, 3) := by decide +kernel
theorem dX8_meanScore_43 : decode cX8_meanScore 43 = .ok (.goto (-20), 3) := by decide +kernel
theorem dX8_meanScore_46 : decode cX8_meanScore 46 = .ok (.iload_n 1, 1) := by decide +kernel
theorem dX8_meanScore_47 : decode cX8_meanScore 47 = .ok (.i2d, 1) := by decide +kernel
theorem dX8_meanScore_48 : decode cX8_meanScore 48 = .ok (.aload_n 0, 1) := by decide +kernel
theorem dX8_meanScore_49 : decode cX8_meanScore 49 = .ok (.getfield 120, 3) := by decide +kernel
theorem dX8_meanScore_52 : decode cX8_meanScore 52 = .ok (.i2d, 1) := by decide +kernel
theorem dX8_meanScore_53 : decode cX8_meanScore 53 = .ok (.ddiv, 1) := by decide +kernel
theorem dX8_meanScore_54 : decode cX8_meanScore 54 = .ok (.dreturn, 1) := by decide +kernel
theorem dX8_turnover_0 : decode cX8_turnover 0 = .ok (.aload_n 0, 1) := by decide +kernel
theorem dX8_turnover_1 : decode cX8_turnover 1 = .ok (.iconst 0, 1) := by decide +kernel
theorem dX8_turnover_2 : decode cX8_turnover 2 = .ok (.putfield 82, 3) := by decide +kernel
theorem dX8_turnover_5 : decode cX8_turnover 5 = .ok (.lconst 0, 1) := by decide +kernel
theorem dX8_turnover_6 : decode cX8_turnover 6 = .ok (.lstore_n 1, 1) := by decide +kernel
theorem dX8_turnover_7 : decode cX8_turnover 7 = .ok (.iconst 0, 1) := by decide +kernel
theorem dX8_turnover_8 : decode cX8_turnover 8 = .ok (.istore_n 3, 1) := by decide +kernel
theorem dX8_turnover_9 : decode cX8_turnover 9 = .ok (.iload_n 3, 1) := by decide +kernel
theorem dX8_turnover_10 : decode cX8_turnover 10 = .ok (.aload_n 0, 1) := by decide +kernel
theorem dX8_turnover_11 : decode cX8_turnover 11 = .ok (.getfield 120, 3) := by decide +kernel
theorem dX8_turnover_14 : decode cX8_turnover 14 = .ok (.if_icmp .ge 19, 3) := by decide +kernel
theorem dX8_turnover_17 : decode cX8_turnover 17 = .ok (.lload_n 1, 1) := by decide +kernel
theorem dX8_turnover_18 : decode cX8_turnover 18 = .ok (.aload_n 0, 1) := by decide +kernel
theorem dX8_turnover_19 : decode cX8_turnover 19 = .ok (.getfield 23, 3) := by decide +kernel
theorem dX8_turnover_22 : decode cX8_turnover 22 = .ok (.iload_n 3, 1) := by decide +kernel
theorem dX8_turnover_23 : decode cX8_turnover 23 = .ok (.iaload, 1) := by decide +kernel
theorem dX8_turnover_24 : decode cX8_turnover 24 = .ok (.i2l, 1) := by decide +kernel
theorem dX8_turnover_25 : decode cX8_turnover 25 = .ok (.ladd, 1) := by decide +kernel
theorem dX8_turnover_26 : decode cX8_turnover 26 = .ok (.lstore_n 1, 1) := by decide +kernel
theorem dX8_turnover_27 : decode cX8_turnover 27 = .ok (.iinc 3 1, 3) := by decide +kernel
theorem dX8_turnover_30 : decode cX8_turnover 30 = .ok (.goto (-21), 3) := by decide +kernel
theorem dX8_turnover_33 : decode cX8_turnover 33 = .ok (.lload_n 1, 1) := by decide +kernel
theorem dX8_turnover_34 : decode cX8_turnover 34 = .ok (.lreturn, 1) := by decide +kernel
theorem dX8_isSound_0 : decode cX8_isSound 0 = .ok (.aload_n 0, 1) := by decide +kernel
theorem dX8_isSound_1 : decode cX8_isSound 1 = .ok (.iconst 0, 1) := by decide +kernel
theorem dX8_isSound_2 : decode cX8_isSound 2 = .ok (.putfield 82, 3) := by decide +kernel
theorem dX8_isSound_5 : decode cX8_isSound 5 = .ok (.iconst 1, 1) := by decide +kernel
theorem dX8_isSound_6 : decode cX8_isSound 6 = .ok (.ireturn, 1) := by decide +kernel
theorem dJx00060_init_a7421_0 : decode cJx00060_init_a7421 0 = .ok (.aload_n 0, 1) := by decide +kernel
theorem dJx00060_init_a7421_1 : decode cJx00060_init_a7421 1 = .ok (.aload_n 1, 1) := by decide +kernel
theorem dJx00060_init_a7421_2 : decode cJx00060_init_a7421 2 = .ok (.invokespecial 7, 3) := by decide +kernel
theorem dJx00060_init_a7421_5 : decode cJx00060_init_a7421 5 = .ok (.return_, 1) := by decide +kernel
theorem dJ6_bitCount_0f7a4_0 : decode cJ6_bitCount_0f7a4 0 = .ok (.iload_n 0, 1) := by decide +kernel
theorem dJ6_bitCount_0f7a4_1 : decode cJ6_bitCount_0f7a4 1 = .ok (.iload_n 0, 1) := by decide +kernel
theorem dJ6_bitCount_0f7a4_2 : decode cJ6_bitCount_0f7a4 2 = .ok (.iconst 1, 1) := by decide +kernel
theorem dJ6_bitCount_0f7a4_3 : decode cJ6_bitCount_0f7a4 3 = .ok (.iushr, 1) := by decide +kernel
theorem dJ6_bitCount_0f7a4_4 : decode cJ6_bitCount_0f7a4 4 = .ok (.ldc_w 265, 3) := by decide +kernel
theorem dJ6_bitCount_0f7a4_7 : decode cJ6_bitCount_0f7a4 7 = .ok (.iand, 1) := by decide +kernel
theorem dJ6_bitCount_0f7a4_8 : decode cJ6_bitCount_0f7a4 8 = .ok (.isub, 1) := by decide +kernel
theorem dJ6_bitCount_0f7a4_9 : decode cJ6_bitCount_0f7a4 9 = .ok (.istore_n 0, 1) := by decide +kernel
theorem dJ6_bitCount_0f7a4_10 : decode cJ6_bitCount_0f7a4 10 = .ok (.iload_n 0, 1) := by decide +kernel
theorem dJ6_bitCount_0f7a4_11 : decode cJ6_bitCount_0f7a4 11 = .ok (.ldc_w 266, 3) := by decide +kernel
theorem dJ6_bitCount_0f7a4_14 : decode cJ6_bitCount_0f7a4 14 = .ok (.iand, 1) := by decide +kernel
theorem dJ6_bitCount_0f7a4_15 : decode cJ6_bitCount_0f7a4 15 = .ok (.iload_n 0, 1) := by decide +kernel
theorem dJ6_bitCount_0f7a4_16 : decode cJ6_bitCount_0f7a4 16 = .ok (.iconst 2, 1) := by decide +kernel
theorem dJ6_bitCount_0f7a4_17 : decode cJ6_bitCount_0f7a4 17 = .ok (.iushr, 1) := by decide +kernel
theorem dJ6_bitCount_0f7a4_18 : decode cJ6_bitCount_0f7a4 18 = .ok (.ldc_w 266, 3) := by decide +kernel
theorem dJ6_bitCount_0f7a4_21 : decode cJ6_bitCount_0f7a4 21 = .ok (.iand, 1) := by decide +kernel
theorem dJ6_bitCount_0f7a4_22 : decode cJ6_bitCount_0f7a4 22 = .ok (.iadd, 1) := by decide +kernel
theorem dJ6_bitCount_0f7a4_23 : decode cJ6_bitCount_0f7a4 23 = .ok (.istore_n 0, 1) := by decide +kernel
theorem dJ6_bitCount_0f7a4_24 : decode cJ6_bitCount_0f7a4 24 = .ok (.iload_n 0, 1) := by decide +kernel
theorem dJ6_bitCount_0f7a4_25 : decode cJ6_bitCount_0f7a4 25 = .ok (.iload_n 0, 1) := by decide +kernel
theorem dJ6_bitCount_0f7a4_26 : decode cJ6_bitCount_0f7a4 26 = .ok (.iconst 4, 1) := by decide +kernel
theorem dJ6_bitCount_0f7a4_27 : decode cJ6_bitCount_0f7a4 27 = .ok (.iushr, 1) := by decide +kernel
theorem dJ6_bitCount_0f7a4_28 : decode cJ6_bitCount_0f7a4 28 = .ok (.iadd, 1) := by decide +kernel
theorem dJ6_bitCount_0f7a4_29 : decode cJ6_bitCount_0f7a4 29 = .ok (.ldc_w 267, 3) := by decide +kernel
theorem dJ6_bitCount_0f7a4_32 : decode cJ6_bitCount_0f7a4 32 = .ok (.iand, 1) := by decide +kernel
theorem dJ6_bitCount_0f7a4_33 : decode cJ6_bitCount_0f7a4 33 = .ok (.istore_n 0, 1) := by decide +kernel
theorem dJ6_bitCount_0f7a4_34 : decode cJ6_bitCount_0f7a4 34 = .ok (.iload_n 0, 1) := by decide +kernel
theorem dJ6_bitCount_0f7a4_35 : decode cJ6_bitCount_0f7a4 35 = .ok (.iload_n 0, 1) := by decide +kernel
theorem dJ6_bitCount_0f7a4_36 : decode cJ6_bitCount_0f7a4 36 = .ok (.bipush 8, 2) := by decide +kernel
theorem dJ6_bitCount_0f7a4_38 : decode cJ6_bitCount_0f7a4 38 = .ok (.iushr, 1) := by decide +kernel
theorem dJ6_bitCount_0f7a4_39 : decode cJ6_bitCount_0f7a4 39 = .ok (.iadd, 1) := by decide +kernel
theorem dJ6_bitCount_0f7a4_40 : decode cJ6_bitCount_0f7a4 40 = .ok (.istore_n 0, 1) := by decide +kernel
theorem dJ6_bitCount_0f7a4_41 : decode cJ6_bitCount_0f7a4 41 = .ok (.iload_n 0, 1) := by decide +kernel
theorem dJ6_bitCount_0f7a4_42 : decode cJ6_bitCount_0f7a4 42 = .ok (.iload_n 0, 1) := by decide +kernel
theorem dJ6_bitCount_0f7a4_43 : decode cJ6_bitCount_0f7a4 43 = .ok (.bipush 16, 2) := by decide +kernel
theorem dJ6_bitCount_0f7a4_45 : decode cJ6_bitCount_0f7a4 45 = .ok (.iushr, 1) := by decide +kernel
theorem dJ6_bitCount_0f7a4_46 : decode cJ6_bitCount_0f7a4 46 = .ok (.iadd, 1) := by decide +kernel
theorem dJ6_bitCount_0f7a4_47 : decode cJ6_bitCount_0f7a4 47 = .ok (.istore_n 0, 1) := by decide +kernel
theorem dJ6_bitCount_0f7a4_48 : decode cJ6_bitCount_0f7a4 48 = .ok (.iload_n 0, 1) := by decide +kernel
theorem dJ6_bitCount_0f7a4_49 : decode cJ6_bitCount_0f7a4 49 = .ok (.bipush 63, 2) := by decide +kernel
theorem dJ6_bitCount_0f7a4_51 : decode cJ6_bitCount_0f7a4 51 = .ok (.iand, 1) := by decide +kernel
theorem dJ6_bitCount_0f7a4_52 : decode cJ6_bitCount_0f7a4 52 = .ok (.ireturn, 1) := by decide +kernel
theorem dJ9_max_7cf53_0 : decode cJ9_max_7cf53 0 = .ok (.iload_n 0, 1) := by decide +kernel
theorem dJ9_max_7cf53_1 : decode cJ9_max_7cf53 1 = .ok (.iload_n 1, 1) := by decide +kernel
theorem dJ9_max_7cf53_2 : decode cJ9_max_7cf53 2 = .ok (.if_icmp .lt 7, 3) := by decide +kernel
theorem dJ9_max_7cf53_5 : decode cJ9_max_7cf53 5 = .ok (.iload_n 0, 1) := by decide +kernel
theorem dJ9_max_7cf53_6 : decode cJ9_max_7cf53 6 = .ok (.goto 4, 3) := by decide +kernel
theorem dJ9_max_7cf53_9 : decode cJ9_max_7cf53 9 = .ok (.iload_n 1, 1) := by decide +kernel
theorem dJ9_max_7cf53_10 : decode cJ9_max_7cf53 10 = .ok (.ireturn, 1) := by decide +kernel
theorem dJ9_min_7cf53_0 : decode cJ9_min_7cf53 0 = .ok (.iload_n 0, 1) := by decide +kernel
theorem dJ9_min_7cf53_1 : decode cJ9_min_7cf53 1 = .ok (.iload_n 1, 1) := by decide +kernel
theorem dJ9_min_7cf53_2 : decode cJ9_min_7cf53 2 = .ok (.if_icmp .gt 7, 3) := by decide +kernel
theorem dJ9_min_7cf53_5 : decode cJ9_min_7cf53 5 = .ok (.iload_n 0, 1) := by decide +kernel
theorem dJ9_min_7cf53_6 : decode cJ9_min_7cf53 6 = .ok (.goto 4, 3) := by decide +kernel
theorem dJ9_min_7cf53_9 : decode cJ9_min_7cf53 9 = .ok (.iload_n 1, 1) := by decide +kernel
theorem dJ9_min_7cf53_10 : decode cJ9_min_7cf53 10 = .ok (.ireturn, 1) := by decide +kernel
