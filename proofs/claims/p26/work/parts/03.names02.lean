theorem dL_above_13 : decode cL_above 13 = .ok (.bipush 18, 2) := by decide +kernel
theorem dL_above_15 : decode cL_above 15 = .ok (.iload_n 0, 1) := by decide +kernel
theorem dL_above_16 : decode cL_above 16 = .ok (.iadd, 1) := by decide +kernel
theorem dL_above_17 : decode cL_above 17 = .ok (.iaload, 1) := by decide +kernel
theorem dL_above_18 : decode cL_above 18 = .ok (.iconst 1, 1) := by decide +kernel
theorem dL_above_19 : decode cL_above 19 = .ok (.if_icmp .le 5, 3) := by decide +kernel
theorem dL_above_22 : decode cL_above 22 = .ok (.lconst 0, 1) := by decide +kernel
theorem dL_above_23 : decode cL_above 23 = .ok (.lreturn, 1) := by decide +kernel
theorem dL_above_24 : decode cL_above 24 = .ok (.bipush 32, 2) := by decide +kernel
theorem dL_above_26 : decode cL_above 26 = .ok (.newarray .long, 2) := by decide +kernel
theorem dL_above_28 : decode cL_above 28 = .ok (.astore 6, 2) := by decide +kernel
theorem dL_above_30 : decode cL_above 30 = .ok (.iconst 0, 1) := by decide +kernel
theorem dL_above_31 : decode cL_above 31 = .ok (.istore 7, 2) := by decide +kernel
theorem dL_above_33 : decode cL_above 33 = .ok (.iload 7, 2) := by decide +kernel
theorem dL_above_35 : decode cL_above 35 = .ok (.iconst 1, 1) := by decide +kernel
theorem dL_above_36 : decode cL_above 36 = .ok (.iload 5, 2) := by decide +kernel
theorem dL_above_38 : decode cL_above 38 = .ok (.ishl, 1) := by decide +kernel
theorem dL_above_39 : decode cL_above 39 = .ok (.if_icmp .ge 30, 3) := by decide +kernel
theorem dL_above_42 : decode cL_above 42 = .ok (.aload 6, 2) := by decide +kernel
theorem dL_above_44 : decode cL_above 44 = .ok (.iload 7, 2) := by decide +kernel
theorem dL_above_46 : decode cL_above 46 = .ok (.iload_n 0, 1) := by decide +kernel
theorem dL_above_47 : decode cL_above 47 = .ok (.iload_n 1, 1) := by decide +kernel
theorem dL_above_48 : decode cL_above 48 = .ok (.iload 7, 2) := by decide +kernel
theorem dL_above_50 : decode cL_above 50 = .ok (.iload 5, 2) := by decide +kernel
theorem dL_above_52 : decode cL_above 52 = .ok (.aload_n 3, 1) := by decide +kernel
theorem dL_above_53 : decode cL_above 53 = .ok (.aload 4, 2) := by decide +kernel
theorem dL_above_55 : decode cL_above 55 = .ok (.invokestatic 94, 3) := by decide +kernel
theorem dL_above_58 : decode cL_above 58 = .ok (.aload_n 2, 1) := by decide +kernel
theorem dL_above_59 : decode cL_above 59 = .ok (.invokestatic 100, 3) := by decide +kernel
theorem dL_above_62 : decode cL_above 62 = .ok (.lastore, 1) := by decide +kernel
theorem dL_above_63 : decode cL_above 63 = .ok (.iinc 7 1, 3) := by decide +kernel
theorem dL_above_66 : decode cL_above 66 = .ok (.goto (-33), 3) := by decide +kernel
theorem dL_above_69 : decode cL_above 69 = .ok (.lconst 1, 1) := by decide +kernel
theorem dL_above_70 : decode cL_above 70 = .ok (.lstore 7, 2) := by decide +kernel
theorem dL_above_72 : decode cL_above 72 = .ok (.iload 5, 2) := by decide +kernel
theorem dL_above_74 : decode cL_above 74 = .ok (.iconst 1, 1) := by decide +kernel
theorem dL_above_75 : decode cL_above 75 = .ok (.isub, 1) := by decide +kernel
theorem dL_above_76 : decode cL_above 76 = .ok (.istore 9, 2) := by decide +kernel
theorem dL_above_78 : decode cL_above 78 = .ok (.iload 9, 2) := by decide +kernel
theorem dL_above_80 : decode cL_above 80 = .ok (.ifCond .lt 125, 3) := by decide +kernel
theorem dL_above_83 : decode cL_above 83 = .ok (.lload 7, 2) := by decide +kernel
theorem dL_above_85 : decode cL_above 85 = .ok (.aload_n 3, 1) := by decide +kernel
theorem dL_above_86 : decode cL_above 86 = .ok (.iconst 2, 1) := by decide +kernel
theorem dL_above_87 : decode cL_above 87 = .ok (.iaload, 1) := by decide +kernel
theorem dL_above_88 : decode cL_above 88 = .ok (.aload_n 3, 1) := by decide +kernel
theorem dL_above_89 : decode cL_above 89 = .ok (.iconst 3, 1) := by decide +kernel
theorem dL_above_90 : decode cL_above 90 = .ok (.iaload, 1) := by decide +kernel
theorem dL_above_91 : decode cL_above 91 = .ok (.iadd, 1) := by decide +kernel
theorem dL_above_92 : decode cL_above 92 = .ok (.i2l, 1) := by decide +kernel
theorem dL_above_93 : decode cL_above 93 = .ok (.lmul, 1) := by decide +kernel
theorem dL_above_94 : decode cL_above 94 = .ok (.lstore 7, 2) := by decide +kernel
theorem dL_above_96 : decode cL_above 96 = .ok (.iconst 0, 1) := by decide +kernel
theorem dL_above_97 : decode cL_above 97 = .ok (.istore 10, 2) := by decide +kernel
theorem dL_above_99 : decode cL_above 99 = .ok (.iload 10, 2) := by decide +kernel
theorem dL_above_101 : decode cL_above 101 = .ok (.iconst 1, 1) := by decide +kernel
theorem dL_above_102 : decode cL_above 102 = .ok (.iload 9, 2) := by decide +kernel
theorem dL_above_104 : decode cL_above 104 = .ok (.ishl, 1) := by decide +kernel
theorem dL_above_105 : decode cL_above 105 = .ok (.if_icmp .ge 94, 3) := by decide +kernel
theorem dL_above_108 : decode cL_above 108 = .ok (.aload_n 3, 1) := by decide +kernel
theorem dL_above_109 : decode cL_above 109 = .ok (.iconst 2, 1) := by decide +kernel
theorem dL_above_110 : decode cL_above 110 = .ok (.iaload, 1) := by decide +kernel
theorem dL_above_111 : decode cL_above 111 = .ok (.i2l, 1) := by decide +kernel
theorem dL_above_112 : decode cL_above 112 = .ok (.aload 6, 2) := by decide +kernel
theorem dL_above_114 : decode cL_above 114 = .ok (.iload 10, 2) := by decide +kernel
theorem dL_above_116 : decode cL_above 116 = .ok (.laload, 1) := by decide +kernel
theorem dL_above_117 : decode cL_above 117 = .ok (.lmul, 1) := by decide +kernel
theorem dL_above_118 : decode cL_above 118 = .ok (.aload_n 3, 1) := by decide +kernel
theorem dL_above_119 : decode cL_above 119 = .ok (.iconst 3, 1) := by decide +kernel
theorem dL_above_120 : decode cL_above 120 = .ok (.iaload, 1) := by decide +kernel
theorem dL_above_121 : decode cL_above 121 = .ok (.i2l, 1) := by decide +kernel
theorem dL_above_122 : decode cL_above 122 = .ok (.aload 6, 2) := by decide +kernel
theorem dL_above_124 : decode cL_above 124 = .ok (.iload 10, 2) := by decide +kernel
theorem dL_above_126 : decode cL_above 126 = .ok (.iconst 1, 1) := by decide +kernel
theorem dL_above_127 : decode cL_above 127 = .ok (.iload 9, 2) := by decide +kernel
theorem dL_above_129 : decode cL_above 129 = .ok (.ishl, 1) := by decide +kernel
theorem dL_above_130 : decode cL_above 130 = .ok (.iadd, 1) := by decide +kernel
theorem dL_above_131 : decode cL_above 131 = .ok (.laload, 1) := by decide +kernel
theorem dL_above_132 : decode cL_above 132 = .ok (.lmul, 1) := by decide +kernel
theorem dL_above_133 : decode cL_above 133 = .ok (.ladd, 1) := by decide +kernel
theorem dL_above_134 : decode cL_above 134 = .ok (.lstore 11, 2) := by decide +kernel
theorem dL_above_136 : decode cL_above 136 = .ok (.aload_n 2, 1) := by decide +kernel
theorem dL_above_137 : decode cL_above 137 = .ok (.bipush 18, 2) := by decide +kernel
theorem dL_above_139 : decode cL_above 139 = .ok (.iload_n 0, 1) := by decide +kernel
theorem dL_above_140 : decode cL_above 140 = .ok (.iadd, 1) := by decide +kernel
theorem dL_above_141 : decode cL_above 141 = .ok (.iaload, 1) := by decide +kernel
theorem dL_above_142 : decode cL_above 142 = .ok (.iconst 1, 1) := by decide +kernel
theorem dL_above_143 : decode cL_above 143 = .ok (.iand, 1) := by decide +kernel
theorem dL_above_144 : decode cL_above 144 = .ok (.iconst 1, 1) := by decide +kernel
theorem dL_above_145 : decode cL_above 145 = .ok (.if_icmp .ne 25, 3) := by decide +kernel
theorem dL_above_148 : decode cL_above 148 = .ok (.lload 7, 2) := by decide +kernel
theorem dL_above_150 : decode cL_above 150 = .ok (.iload_n 0, 1) := by decide +kernel
theorem dL_above_151 : decode cL_above 151 = .ok (.iload_n 1, 1) := by decide +kernel
theorem dL_above_152 : decode cL_above 152 = .ok (.iload 10, 2) := by decide +kernel
theorem dL_above_154 : decode cL_above 154 = .ok (.iload 9, 2) := by decide +kernel
theorem dL_above_156 : decode cL_above 156 = .ok (.aload_n 3, 1) := by decide +kernel
theorem dL_above_157 : decode cL_above 157 = .ok (.aload 4, 2) := by decide +kernel
theorem dL_above_159 : decode cL_above 159 = .ok (.invokestatic 94, 3) := by decide +kernel
theorem dL_above_162 : decode cL_above 162 = .ok (.aload_n 2, 1) := by decide +kernel
theorem dL_above_163 : decode cL_above 163 = .ok (.invokestatic 100, 3) := by decide +kernel
theorem dL_above_166 : decode cL_above 166 = .ok (.lmul, 1) := by decide +kernel
theorem dL_above_167 : decode cL_above 167 = .ok (.goto 4, 3) := by decide +kernel
theorem dL_above_170 : decode cL_above 170 = .ok (.lconst 0, 1) := by decide +kernel
theorem dL_above_171 : decode cL_above 171 = .ok (.lstore 13, 2) := by decide +kernel
theorem dL_above_173 : decode cL_above 173 = .ok (.aload 6, 2) := by decide +kernel
theorem dL_above_175 : decode cL_above 175 = .ok (.iload 10, 2) := by decide +kernel
theorem dL_above_177 : decode cL_above 177 = .ok (.lload 13, 2) := by decide +kernel
theorem dL_above_179 : decode cL_above 179 = .ok (.lload 11, 2) := by decide +kernel
theorem dL_above_181 : decode cL_above 181 = .ok (.lcmp, 1) := by decide +kernel
theorem dL_above_182 : decode cL_above 182 = .ok (.ifCond .le 8, 3) := by decide +kernel
theorem dL_above_185 : decode cL_above 185 = .ok (.lload 13, 2) := by decide +kernel
theorem dL_above_187 : decode cL_above 187 = .ok (.goto 5, 3) := by decide +kernel
theorem dL_above_190 : decode cL_above 190 = .ok (.lload 11, 2) := by decide +kernel
theorem dL_above_192 : decode cL_above 192 = .ok (.lastore, 1) := by decide +kernel
theorem dL_above_193 : decode cL_above 193 = .ok (.iinc 10 1, 3) := by decide +kernel
theorem dL_above_196 : decode cL_above 196 = .ok (.goto (-97), 3) := by decide +kernel
theorem dL_above_199 : decode cL_above 199 = .ok (.iinc 9 (-1), 3) := by decide +kernel
theorem dL_above_202 : decode cL_above 202 = .ok (.goto (-124), 3) := by decide +kernel
theorem dL_above_205 : decode cL_above 205 = .ok (.aload 6, 2) := by decide +kernel
theorem dL_above_207 : decode cL_above 207 = .ok (.iconst 0, 1) := by decide +kernel
theorem dL_above_208 : decode cL_above 208 = .ok (.laload, 1) := by decide +kernel
theorem dL_above_209 : decode cL_above 209 = .ok (.lreturn, 1) := by decide +kernel
theorem dL_at_0 : decode cL_at 0 = .ok (.iload_n 0, 1) := by decide +kernel
theorem dL_at_1 : decode cL_at 1 = .ok (.i2l, 1) := by decide +kernel
theorem dL_at_2 : decode cL_at 2 = .ok (.lstore 5, 2) := by decide +kernel
theorem dL_at_4 : decode cL_at 4 = .ok (.iconst 0, 1) := by decide +kernel
theorem dL_at_5 : decode cL_at 5 = .ok (.istore 7, 2) := by decide +kernel
theorem dL_at_7 : decode cL_at 7 = .ok (.iload 7, 2) := by decide +kernel
theorem dL_at_9 : decode cL_at 9 = .ok (.iload_n 2, 1) := by decide +kernel
theorem dL_at_10 : decode cL_at 10 = .ok (.if_icmp .ge 52, 3) := by decide +kernel
theorem dL_at_13 : decode cL_at 13 = .ok (.lload 5, 2) := by decide +kernel
theorem dL_at_15 : decode cL_at 15 = .ok (.iload_n 1, 1) := by decide +kernel
theorem dL_at_16 : decode cL_at 16 = .ok (.iload 7, 2) := by decide +kernel
theorem dL_at_18 : decode cL_at 18 = .ok (.ishr, 1) := by decide +kernel
theorem dL_at_19 : decode cL_at 19 = .ok (.iconst 1, 1) := by decide +kernel
theorem dL_at_20 : decode cL_at 20 = .ok (.iand, 1) := by decide +kernel
theorem dL_at_21 : decode cL_at 21 = .ok (.iconst 1, 1) := by decide +kernel
theorem dL_at_22 : decode cL_at 22 = .ok (.if_icmp .ne 12, 3) := by decide +kernel
theorem dL_at_25 : decode cL_at 25 = .ok (.bipush 10, 2) := by decide +kernel
theorem dL_at_27 : decode cL_at 27 = .ok (.aload_n 3, 1) := by decide +kernel
theorem dL_at_28 : decode cL_at 28 = .ok (.iconst 2, 1) := by decide +kernel
theorem dL_at_29 : decode cL_at 29 = .ok (.iaload, 1) := by decide +kernel
theorem dL_at_30 : decode cL_at 30 = .ok (.imul, 1) := by decide +kernel
theorem dL_at_31 : decode cL_at 31 = .ok (.goto 9, 3) := by decide +kernel
theorem dL_at_34 : decode cL_at 34 = .ok (.bipush (-10), 2) := by decide +kernel
theorem dL_at_36 : decode cL_at 36 = .ok (.aload_n 3, 1) := by decide +kernel
theorem dL_at_37 : decode cL_at 37 = .ok (.iconst 3, 1) := by decide +kernel
theorem dL_at_38 : decode cL_at 38 = .ok (.iaload, 1) := by decide +kernel
theorem dL_at_39 : decode cL_at 39 = .ok (.imul, 1) := by decide +kernel
theorem dL_at_40 : decode cL_at 40 = .ok (.aload 4, 2) := by decide +kernel
theorem dL_at_42 : decode cL_at 42 = .ok (.aload_n 3, 1) := by decide +kernel
theorem dL_at_43 : decode cL_at 43 = .ok (.iconst 0, 1) := by decide +kernel
theorem dL_at_44 : decode cL_at 44 = .ok (.iaload, 1) := by decide +kernel
theorem dL_at_45 : decode cL_at 45 = .ok (.iload 7, 2) := by decide +kernel
theorem dL_at_47 : decode cL_at 47 = .ok (.iadd, 1) := by decide +kernel
theorem dL_at_48 : decode cL_at 48 = .ok (.iconst 1, 1) := by decide +kernel
theorem dL_at_49 : decode cL_at 49 = .ok (.iadd, 1) := by decide +kernel
theorem dL_at_50 : decode cL_at 50 = .ok (.iaload, 1) := by decide +kernel
theorem dL_at_51 : decode cL_at 51 = .ok (.isub, 1) := by decide +kernel
theorem dL_at_52 : decode cL_at 52 = .ok (.i2l, 1) := by decide +kernel
theorem dL_at_53 : decode cL_at 53 = .ok (.ladd, 1) := by decide +kernel
theorem dL_at_54 : decode cL_at 54 = .ok (.lstore 5, 2) := by decide +kernel
theorem dL_at_56 : decode cL_at 56 = .ok (.iinc 7 1, 3) := by decide +kernel
theorem dL_at_59 : decode cL_at 59 = .ok (.goto (-52), 3) := by decide +kernel
theorem dL_at_62 : decode cL_at 62 = .ok (.lload 5, 2) := by decide +kernel
theorem dL_at_64 : decode cL_at 64 = .ok (.lreturn, 1) := by decide +kernel
theorem dL_below_0 : decode cL_below 0 = .ok (.lconst 1, 1) := by decide +kernel
theorem dL_below_1 : decode cL_below 1 = .ok (.lstore_n 3, 1) := by decide +kernel
theorem dL_below_2 : decode cL_below 2 = .ok (.aload_n 2, 1) := by decide +kernel
theorem dL_below_3 : decode cL_below 3 = .ok (.iconst 0, 1) := by decide +kernel
theorem dL_below_4 : decode cL_below 4 = .ok (.iaload, 1) := by decide +kernel
theorem dL_below_5 : decode cL_below 5 = .ok (.istore 5, 2) := by decide +kernel
theorem dL_below_7 : decode cL_below 7 = .ok (.iload 5, 2) := by decide +kernel
theorem dL_below_9 : decode cL_below 9 = .ok (.aload_n 1, 1) := by decide +kernel
theorem dL_below_10 : decode cL_below 10 = .ok (.bipush 12, 2) := by decide +kernel
theorem dL_below_12 : decode cL_below 12 = .ok (.iload_n 0, 1) := by decide +kernel
theorem dL_below_13 : decode cL_below 13 = .ok (.iadd, 1) := by decide +kernel
theorem dL_below_14 : decode cL_below 14 = .ok (.iaload, 1) := by decide +kernel
theorem dL_below_15 : decode cL_below 15 = .ok (.if_icmp .ge 30, 3) := by decide +kernel
theorem dL_below_18 : decode cL_below 18 = .ok (.aload_n 1, 1) := by decide +kernel
theorem dL_below_19 : decode cL_below 19 = .ok (.bipush 18, 2) := by decide +kernel
theorem dL_below_21 : decode cL_below 21 = .ok (.iload_n 0, 1) := by decide +kernel
theorem dL_below_22 : decode cL_below 22 = .ok (.iadd, 1) := by decide +kernel
theorem dL_below_23 : decode cL_below 23 = .ok (.iaload, 1) := by decide +kernel
theorem dL_below_24 : decode cL_below 24 = .ok (.iconst 2, 1) := by decide +kernel
theorem dL_below_25 : decode cL_below 25 = .ok (.if_icmp .ge 20, 3) := by decide +kernel
theorem dL_below_28 : decode cL_below 28 = .ok (.lload_n 3, 1) := by decide +kernel
theorem dL_below_29 : decode cL_below 29 = .ok (.aload_n 2, 1) := by decide +kernel
theorem dL_below_30 : decode cL_below 30 = .ok (.iconst 2, 1) := by decide +kernel
theorem dL_below_31 : decode cL_below 31 = .ok (.iaload, 1) := by decide +kernel
theorem dL_below_32 : decode cL_below 32 = .ok (.aload_n 2, 1) := by decide +kernel
theorem dL_below_33 : decode cL_below 33 = .ok (.iconst 3, 1) := by decide +kernel
theorem dL_below_34 : decode cL_below 34 = .ok (.iaload, 1) := by decide +kernel
theorem dL_below_35 : decode cL_below 35 = .ok (.iadd, 1) := by decide +kernel
theorem dL_below_36 : decode cL_below 36 = .ok (.i2l, 1) := by decide +kernel
theorem dL_below_37 : decode cL_below 37 = .ok (.lmul, 1) := by decide +kernel
theorem dL_below_38 : decode cL_below 38 = .ok (.lstore_n 3, 1) := by decide +kernel
theorem dL_below_39 : decode cL_below 39 = .ok (.iinc 5 1, 3) := by decide +kernel
theorem dL_below_42 : decode cL_below 42 = .ok (.goto (-35), 3) := by decide +kernel
theorem dL_below_45 : decode cL_below 45 = .ok (.lload_n 3, 1) := by decide +kernel
theorem dL_below_46 : decode cL_below 46 = .ok (.lreturn, 1) := by decide +kernel
theorem dL_markOf_0 : decode cL_markOf 0 = .ok (.ldc2_w 104, 3) := by decide +kernel
theorem dL_markOf_3 : decode cL_markOf 3 = .ok (.iload_n 0, 1) := by decide +kernel
theorem dL_markOf_4 : decode cL_markOf 4 = .ok (.iload_n 1, 1) := by decide +kernel
theorem dL_markOf_5 : decode cL_markOf 5 = .ok (.aload_n 2, 1) := by decide +kernel
theorem dL_markOf_6 : decode cL_markOf 6 = .ok (.aload_n 3, 1) := by decide +kernel
theorem dL_markOf_7 : decode cL_markOf 7 = .ok (.aload 4, 2) := by decide +kernel
theorem dL_markOf_9 : decode cL_markOf 9 = .ok (.invokestatic 106, 3) := by decide +kernel
theorem dL_markOf_12 : decode cL_markOf 12 = .ok (.lmul, 1) := by decide +kernel
theorem dL_markOf_13 : decode cL_markOf 13 = .ok (.iload_n 0, 1) := by decide +kernel
theorem dL_markOf_14 : decode cL_markOf 14 = .ok (.aload_n 2, 1) := by decide +kernel
theorem dL_markOf_15 : decode cL_markOf 15 = .ok (.aload_n 3, 1) := by decide +kernel
theorem dL_markOf_16 : decode cL_markOf 16 = .ok (.invokestatic 110, 3) := by decide +kernel
theorem dL_markOf_19 : decode cL_markOf 19 = .ok (.ldiv, 1) := by decide +kernel
theorem dL_markOf_20 : decode cL_markOf 20 = .ok (.lreturn, 1) := by decide +kernel
theorem dL_worth_0 : decode cL_worth 0 = .ok (.aload 5, 2) := by decide +kernel
theorem dL_worth_2 : decode cL_worth 2 = .ok (.bipush 6, 2) := by decide +kernel
theorem dL_worth_4 : decode cL_worth 4 = .ok (.laload, 1) := by decide +kernel
theorem dL_worth_5 : decode cL_worth 5 = .ok (.ldc2_w 104, 3) := by decide +kernel
theorem dL_worth_8 : decode cL_worth 8 = .ok (.iload_n 0, 1) := by decide +kernel
theorem dL_worth_9 : decode cL_worth 9 = .ok (.i2l, 1) := by decide +kernel
theorem dL_worth_10 : decode cL_worth 10 = .ok (.lmul, 1) := by decide +kernel
theorem dL_worth_11 : decode cL_worth 11 = .ok (.aload_n 3, 1) := by decide +kernel
theorem dL_worth_12 : decode cL_worth 12 = .ok (.iconst 5, 1) := by decide +kernel
theorem dL_worth_13 : decode cL_worth 13 = .ok (.iaload, 1) := by decide +kernel
theorem dL_worth_14 : decode cL_worth 14 = .ok (.i2l, 1) := by decide +kernel
theorem dL_worth_15 : decode cL_worth 15 = .ok (.lmul, 1) := by decide +kernel
theorem dL_worth_16 : decode cL_worth 16 = .ok (.ladd, 1) := by decide +kernel
theorem dL_worth_17 : decode cL_worth 17 = .ok (.lstore 6, 2) := by decide +kernel
theorem dL_worth_19 : decode cL_worth 19 = .ok (.iconst 0, 1) := by decide +kernel
theorem dL_worth_20 : decode cL_worth 20 = .ok (.istore 8, 2) := by decide +kernel
theorem dL_worth_22 : decode cL_worth 22 = .ok (.iload 8, 2) := by decide +kernel
theorem dL_worth_24 : decode cL_worth 24 = .ok (.aload_n 3, 1) := by decide +kernel
theorem dL_worth_25 : decode cL_worth 25 = .ok (.bipush 7, 2) := by decide +kernel
theorem dL_worth_27 : decode cL_worth 27 = .ok (.iaload, 1) := by decide +kernel
theorem dL_worth_28 : decode cL_worth 28 = .ok (.if_icmp .ge 49, 3) := by decide +kernel
theorem dL_worth_31 : decode cL_worth 31 = .ok (.aload_n 2, 1) := by decide +kernel
theorem dL_worth_32 : decode cL_worth 32 = .ok (.bipush 10, 2) := by decide +kernel
theorem dL_worth_34 : decode cL_worth 34 = .ok (.iload 8, 2) := by decide +kernel
theorem dL_worth_36 : decode cL_worth 36 = .ok (.imul, 1) := by decide +kernel
theorem dL_worth_37 : decode cL_worth 37 = .ok (.bipush 6, 2) := by decide +kernel
theorem dL_worth_39 : decode cL_worth 39 = .ok (.iadd, 1) := by decide +kernel
theorem dL_worth_40 : decode cL_worth 40 = .ok (.iaload, 1) := by decide +kernel
theorem dL_worth_41 : decode cL_worth 41 = .ok (.ifCond .eq 30, 3) := by decide +kernel
theorem dL_worth_44 : decode cL_worth 44 = .ok (.lload 6, 2) := by decide +kernel
theorem dL_worth_46 : decode cL_worth 46 = .ok (.aload_n 2, 1) := by decide +kernel
theorem dL_worth_47 : decode cL_worth 47 = .ok (.bipush 10, 2) := by decide +kernel
theorem dL_worth_49 : decode cL_worth 49 = .ok (.iload 8, 2) := by decide +kernel
theorem dL_worth_51 : decode cL_worth 51 = .ok (.imul, 1) := by decide +kernel
theorem dL_worth_52 : decode cL_worth 52 = .ok (.bipush 6, 2) := by decide +kernel
theorem dL_worth_54 : decode cL_worth 54 = .ok (.iadd, 1) := by decide +kernel
theorem dL_worth_55 : decode cL_worth 55 = .ok (.iaload, 1) := by decide +kernel
theorem dL_worth_56 : decode cL_worth 56 = .ok (.i2l, 1) := by decide +kernel
theorem dL_worth_57 : decode cL_worth 57 = .ok (.iload 8, 2) := by decide +kernel
theorem dL_worth_59 : decode cL_worth 59 = .ok (.iload_n 0, 1) := by decide +kernel
theorem dL_worth_60 : decode cL_worth 60 = .ok (.aload_n 1, 1) := by decide +kernel
theorem dL_worth_61 : decode cL_worth 61 = .ok (.aload_n 3, 1) := by decide +kernel
theorem dL_worth_62 : decode cL_worth 62 = .ok (.aload 4, 2) := by decide +kernel
theorem dL_worth_64 : decode cL_worth 64 = .ok (.invokestatic 114, 3) := by decide +kernel
theorem dL_worth_67 : decode cL_worth 67 = .ok (.lmul, 1) := by decide +kernel
theorem dL_worth_68 : decode cL_worth 68 = .ok (.ladd, 1) := by decide +kernel
theorem dL_worth_69 : decode cL_worth 69 = .ok (.lstore 6, 2) := by decide +kernel
theorem dL_worth_71 : decode cL_worth 71 = .ok (.iinc 8 1, 3) := by decide +kernel
theorem dL_worth_74 : decode cL_worth 74 = .ok (.goto (-52), 3) := by decide +kernel
theorem dL_worth_77 : decode cL_worth 77 = .ok (.lload 6, 2) := by decide +kernel
theorem dL_worth_79 : decode cL_worth 79 = .ok (.lreturn, 1) := by decide +kernel
theorem dL_faultOf_0 : decode cL_faultOf 0 = .ok (.bipush 9, 2) := by decide +kernel
theorem dL_faultOf_2 : decode cL_faultOf 2 = .ok (.istore_n 3, 1) := by decide +kernel
theorem dL_faultOf_3 : decode cL_faultOf 3 = .ok (.iconst 0, 1) := by decide +kernel
theorem dL_faultOf_4 : decode cL_faultOf 4 = .ok (.istore 4, 2) := by decide +kernel
theorem dL_faultOf_6 : decode cL_faultOf 6 = .ok (.iload 4, 2) := by decide +kernel
theorem dL_faultOf_8 : decode cL_faultOf 8 = .ok (.aload_n 2, 1) := by decide +kernel
theorem dL_faultOf_9 : decode cL_faultOf 9 = .ok (.bipush 7, 2) := by decide +kernel
theorem dL_faultOf_11 : decode cL_faultOf 11 = .ok (.iaload, 1) := by decide +kernel
theorem dL_faultOf_12 : decode cL_faultOf 12 = .ok (.if_icmp .ge 412, 3) := by decide +kernel
theorem dL_faultOf_15 : decode cL_faultOf 15 = .ok (.iconst 0, 1) := by decide +kernel
theorem dL_faultOf_16 : decode cL_faultOf 16 = .ok (.istore 5, 2) := by decide +kernel
theorem dL_faultOf_18 : decode cL_faultOf 18 = .ok (.iload 5, 2) := by decide +kernel
theorem dL_faultOf_20 : decode cL_faultOf 20 = .ok (.aload_n 2, 1) := by decide +kernel
theorem dL_faultOf_21 : decode cL_faultOf 21 = .ok (.bipush 7, 2) := by decide +kernel
theorem dL_faultOf_23 : decode cL_faultOf 23 = .ok (.iaload, 1) := by decide +kernel
theorem dL_faultOf_24 : decode cL_faultOf 24 = .ok (.if_icmp .ge 394, 3) := by decide +kernel
theorem dL_faultOf_27 : decode cL_faultOf 27 = .ok (.aload_n 1, 1) := by decide +kernel
theorem dL_faultOf_28 : decode cL_faultOf 28 = .ok (.bipush 12, 2) := by decide +kernel
theorem dL_faultOf_30 : decode cL_faultOf 30 = .ok (.iload 4, 2) := by decide +kernel
theorem dL_faultOf_32 : decode cL_faultOf 32 = .ok (.iadd, 1) := by decide +kernel
theorem dL_faultOf_33 : decode cL_faultOf 33 = .ok (.iaload, 1) := by decide +kernel
theorem dL_faultOf_34 : decode cL_faultOf 34 = .ok (.ifCond .eq 378, 3) := by decide +kernel
theorem dL_faultOf_37 : decode cL_faultOf 37 = .ok (.aload_n 1, 1) := by decide +kernel
theorem dL_faultOf_38 : decode cL_faultOf 38 = .ok (.bipush 18, 2) := by decide +kernel
theorem dL_faultOf_40 : decode cL_faultOf 40 = .ok (.iload 4, 2) := by decide +kernel
theorem dL_faultOf_42 : decode cL_faultOf 42 = .ok (.iadd, 1) := by decide +kernel
theorem dL_faultOf_43 : decode cL_faultOf 43 = .ok (.iaload, 1) := by decide +kernel
theorem dL_faultOf_44 : decode cL_faultOf 44 = .ok (.ifCond .eq 368, 3) := by decide +kernel
theorem dL_faultOf_47 : decode cL_faultOf 47 = .ok (.aload_n 1, 1) := by decide +kernel
theorem dL_faultOf_48 : decode cL_faultOf 48 = .ok (.bipush 12, 2) := by decide +kernel
theorem dL_faultOf_50 : decode cL_faultOf 50 = .ok (.iload 5, 2) := by decide +kernel
theorem dL_faultOf_52 : decode cL_faultOf 52 = .ok (.iadd, 1) := by decide +kernel
theorem dL_faultOf_53 : decode cL_faultOf 53 = .ok (.iaload, 1) := by decide +kernel
theorem dL_faultOf_54 : decode cL_faultOf 54 = .ok (.ifCond .eq 358, 3) := by decide +kernel
theorem dL_faultOf_57 : decode cL_faultOf 57 = .ok (.aload_n 1, 1) := by decide +kernel
theorem dL_faultOf_58 : decode cL_faultOf 58 = .ok (.bipush 18, 2) := by decide +kernel
theorem dL_faultOf_60 : decode cL_faultOf 60 = .ok (.iload 5, 2) := by decide +kernel
theorem dL_faultOf_62 : decode cL_faultOf 62 = .ok (.iadd, 1) := by decide +kernel
theorem dL_faultOf_63 : decode cL_faultOf 63 = .ok (.iaload, 1) := by decide +kernel
theorem dL_faultOf_64 : decode cL_faultOf 64 = .ok (.ifCond .eq 348, 3) := by decide +kernel
theorem dL_faultOf_67 : decode cL_faultOf 67 = .ok (.aload_n 0, 1) := by decide +kernel
theorem dL_faultOf_68 : decode cL_faultOf 68 = .ok (.iload 4, 2) := by decide +kernel
theorem dL_faultOf_70 : decode cL_faultOf 70 = .ok (.iaload, 1) := by decide +kernel
theorem dL_faultOf_71 : decode cL_faultOf 71 = .ok (.aload_n 0, 1) := by decide +kernel
theorem dL_faultOf_72 : decode cL_faultOf 72 = .ok (.iload 5, 2) := by decide +kernel
theorem dL_faultOf_74 : decode cL_faultOf 74 = .ok (.iaload, 1) := by decide +kernel
theorem dL_faultOf_75 : decode cL_faultOf 75 = .ok (.if_icmp .ne 337, 3) := by decide +kernel
theorem dL_faultOf_78 : decode cL_faultOf 78 = .ok (.aload_n 0, 1) := by decide +kernel
theorem dL_faultOf_79 : decode cL_faultOf 79 = .ok (.bipush 18, 2) := by decide +kernel
theorem dL_faultOf_81 : decode cL_faultOf 81 = .ok (.iload 4, 2) := by decide +kernel
theorem dL_faultOf_83 : decode cL_faultOf 83 = .ok (.iadd, 1) := by decide +kernel
theorem dL_faultOf_84 : decode cL_faultOf 84 = .ok (.iaload, 1) := by decide +kernel
theorem dL_faultOf_85 : decode cL_faultOf 85 = .ok (.aload_n 0, 1) := by decide +kernel
theorem dL_faultOf_86 : decode cL_faultOf 86 = .ok (.bipush 18, 2) := by decide +kernel
theorem dL_faultOf_88 : decode cL_faultOf 88 = .ok (.iload 5, 2) := by decide +kernel
theorem dL_faultOf_90 : decode cL_faultOf 90 = .ok (.iadd, 1) := by decide +kernel
theorem dL_faultOf_91 : decode cL_faultOf 91 = .ok (.iaload, 1) := by decide +kernel
theorem dL_faultOf_92 : decode cL_faultOf 92 = .ok (.if_icmp .eq 6, 3) := by decide +kernel
theorem dL_faultOf_95 : decode cL_faultOf 95 = .ok (.goto 317, 3) := by decide +kernel
theorem dL_faultOf_98 : decode cL_faultOf 98 = .ok (.aload_n 1, 1) := by decide +kernel
theorem dL_faultOf_99 : decode cL_faultOf 99 = .ok (.iload 4, 2) := by decide +kernel
theorem dL_faultOf_101 : decode cL_faultOf 101 = .ok (.iaload, 1) := by decide +kernel
theorem dL_faultOf_102 : decode cL_faultOf 102 = .ok (.aload_n 1, 1) := by decide +kernel
theorem dL_faultOf_103 : decode cL_faultOf 103 = .ok (.bipush 6, 2) := by decide +kernel
theorem dL_faultOf_105 : decode cL_faultOf 105 = .ok (.iload 5, 2) := by decide +kernel
theorem dL_faultOf_107 : decode cL_faultOf 107 = .ok (.iadd, 1) := by decide +kernel
theorem dL_faultOf_108 : decode cL_faultOf 108 = .ok (.iaload, 1) := by decide +kernel
theorem dL_faultOf_109 : decode cL_faultOf 109 = .ok (.isub, 1) := by decide +kernel
theorem dL_faultOf_110 : decode cL_faultOf 110 = .ok (.istore 6, 2) := by decide +kernel
theorem dL_faultOf_112 : decode cL_faultOf 112 = .ok (.aload_n 0, 1) := by decide +kernel
theorem dL_faultOf_113 : decode cL_faultOf 113 = .ok (.bipush 6, 2) := by decide +kernel
theorem dL_faultOf_115 : decode cL_faultOf 115 = .ok (.iload 4, 2) := by decide +kernel
theorem dL_faultOf_117 : decode cL_faultOf 117 = .ok (.iadd, 1) := by decide +kernel
theorem dL_faultOf_118 : decode cL_faultOf 118 = .ok (.iaload, 1) := by decide +kernel
theorem dL_faultOf_119 : decode cL_faultOf 119 = .ok (.aload_n 0, 1) := by decide +kernel
theorem dL_faultOf_120 : decode cL_faultOf 120 = .ok (.bipush 6, 2) := by decide +kernel
theorem dL_faultOf_122 : decode cL_faultOf 122 = .ok (.iload 5, 2) := by decide +kernel
theorem dL_faultOf_124 : decode cL_faultOf 124 = .ok (.iadd, 1) := by decide +kernel
theorem dL_faultOf_125 : decode cL_faultOf 125 = .ok (.iaload, 1) := by decide +kernel
theorem dL_faultOf_126 : decode cL_faultOf 126 = .ok (.isub, 1) := by decide +kernel
theorem dL_faultOf_127 : decode cL_faultOf 127 = .ok (.istore 7, 2) := by decide +kernel
theorem dL_faultOf_129 : decode cL_faultOf 129 = .ok (.iload 4, 2) := by decide +kernel
theorem dL_faultOf_131 : decode cL_faultOf 131 = .ok (.iload 5, 2) := by decide +kernel
theorem dL_faultOf_133 : decode cL_faultOf 133 = .ok (.if_icmp .ne 10, 3) := by decide +kernel
theorem dL_faultOf_136 : decode cL_faultOf 136 = .ok (.iload 6, 2) := by decide +kernel
theorem dL_faultOf_138 : decode cL_faultOf 138 = .ok (.ifCond .lt 5, 3) := by decide +kernel
theorem dL_faultOf_141 : decode cL_faultOf 141 = .ok (.iconst 1, 1) := by decide +kernel
theorem dL_faultOf_142 : decode cL_faultOf 142 = .ok (.istore_n 3, 1) := by decide +kernel
theorem dL_faultOf_143 : decode cL_faultOf 143 = .ok (.iload 4, 2) := by decide +kernel
theorem dL_faultOf_145 : decode cL_faultOf 145 = .ok (.iload 5, 2) := by decide +kernel
theorem dL_faultOf_147 : decode cL_faultOf 147 = .ok (.if_icmp .eq 56, 3) := by decide +kernel
theorem dL_faultOf_150 : decode cL_faultOf 150 = .ok (.aload_n 0, 1) := by decide +kernel
theorem dL_faultOf_151 : decode cL_faultOf 151 = .ok (.bipush 12, 2) := by decide +kernel
theorem dL_faultOf_153 : decode cL_faultOf 153 = .ok (.iload 4, 2) := by decide +kernel
theorem dL_faultOf_155 : decode cL_faultOf 155 = .ok (.iadd, 1) := by decide +kernel
theorem dL_faultOf_156 : decode cL_faultOf 156 = .ok (.iaload, 1) := by decide +kernel
theorem dL_faultOf_157 : decode cL_faultOf 157 = .ok (.aload_n 0, 1) := by decide +kernel
theorem dL_faultOf_158 : decode cL_faultOf 158 = .ok (.bipush 12, 2) := by decide +kernel
theorem dL_faultOf_160 : decode cL_faultOf 160 = .ok (.iload 5, 2) := by decide +kernel
theorem dL_faultOf_162 : decode cL_faultOf 162 = .ok (.iadd, 1) := by decide +kernel
theorem dL_faultOf_163 : decode cL_faultOf 163 = .ok (.iaload, 1) := by decide +kernel
theorem dL_faultOf_164 : decode cL_faultOf 164 = .ok (.if_icmp .ne 39, 3) := by decide +kernel
theorem dL_faultOf_167 : decode cL_faultOf 167 = .ok (.iload 6, 2) := by decide +kernel
theorem dL_faultOf_169 : decode cL_faultOf 169 = .ok (.ifCond .le 34, 3) := by decide +kernel
theorem dL_faultOf_172 : decode cL_faultOf 172 = .ok (.aload_n 0, 1) := by decide +kernel
theorem dL_faultOf_173 : decode cL_faultOf 173 = .ok (.iload 4, 2) := by decide +kernel
theorem dL_faultOf_175 : decode cL_faultOf 175 = .ok (.iaload, 1) := by decide +kernel
theorem dL_faultOf_176 : decode cL_faultOf 176 = .ok (.ifCond .ne 11, 3) := by decide +kernel
theorem dL_faultOf_179 : decode cL_faultOf 179 = .ok (.iload 7, 2) := by decide +kernel
theorem dL_faultOf_181 : decode cL_faultOf 181 = .ok (.ifCond .le 22, 3) := by decide +kernel
theorem dL_faultOf_184 : decode cL_faultOf 184 = .ok (.goto 8, 3) := by decide +kernel
theorem dL_faultOf_187 : decode cL_faultOf 187 = .ok (.iload 7, 2) := by decide +kernel
theorem dL_faultOf_189 : decode cL_faultOf 189 = .ok (.ifCond .ge 14, 3) := by decide +kernel
theorem dL_faultOf_192 : decode cL_faultOf 192 = .ok (.iload_n 3, 1) := by decide +kernel
theorem dL_faultOf_193 : decode cL_faultOf 193 = .ok (.iconst 2, 1) := by decide +kernel
theorem dL_faultOf_194 : decode cL_faultOf 194 = .ok (.if_icmp .ge 7, 3) := by decide +kernel
theorem dL_faultOf_197 : decode cL_faultOf 197 = .ok (.iload_n 3, 1) := by decide +kernel
theorem dL_faultOf_198 : decode cL_faultOf 198 = .ok (.goto 4, 3) := by decide +kernel
theorem dL_faultOf_201 : decode cL_faultOf 201 = .ok (.iconst 2, 1) := by decide +kernel
theorem dL_faultOf_202 : decode cL_faultOf 202 = .ok (.istore_n 3, 1) := by decide +kernel
theorem dL_faultOf_203 : decode cL_faultOf 203 = .ok (.aload_n 0, 1) := by decide +kernel
theorem dL_faultOf_204 : decode cL_faultOf 204 = .ok (.bipush 18, 2) := by decide +kernel
theorem dL_faultOf_206 : decode cL_faultOf 206 = .ok (.iload 4, 2) := by decide +kernel
theorem dL_faultOf_208 : decode cL_faultOf 208 = .ok (.iadd, 1) := by decide +kernel
theorem dL_faultOf_209 : decode cL_faultOf 209 = .ok (.iaload, 1) := by decide +kernel
theorem dL_faultOf_210 : decode cL_faultOf 210 = .ok (.iconst 1, 1) := by decide +kernel
theorem dL_faultOf_211 : decode cL_faultOf 211 = .ok (.if_icmp .ne 41, 3) := by decide +kernel
theorem dL_faultOf_214 : decode cL_faultOf 214 = .ok (.iload 7, 2) := by decide +kernel
theorem dL_faultOf_216 : decode cL_faultOf 216 = .ok (.ifCond .ne 36, 3) := by decide +kernel
theorem dL_faultOf_219 : decode cL_faultOf 219 = .ok (.aload_n 0, 1) := by decide +kernel
theorem dL_faultOf_220 : decode cL_faultOf 220 = .ok (.bipush 12, 2) := by decide +kernel
theorem dL_faultOf_222 : decode cL_faultOf 222 = .ok (.iload 4, 2) := by decide +kernel
theorem dL_faultOf_224 : decode cL_faultOf 224 = .ok (.iadd, 1) := by decide +kernel
theorem dL_faultOf_225 : decode cL_faultOf 225 = .ok (.iaload, 1) := by decide +kernel
theorem dL_faultOf_226 : decode cL_faultOf 226 = .ok (.aload_n 0, 1) := by decide +kernel
theorem dL_faultOf_227 : decode cL_faultOf 227 = .ok (.bipush 12, 2) := by decide +kernel
theorem dL_faultOf_229 : decode cL_faultOf 229 = .ok (.iload 5, 2) := by decide +kernel
theorem dL_faultOf_231 : decode cL_faultOf 231 = .ok (.iadd, 1) := by decide +kernel
theorem dL_faultOf_232 : decode cL_faultOf 232 = .ok (.iaload, 1) := by decide +kernel
theorem dL_faultOf_233 : decode cL_faultOf 233 = .ok (.if_icmp .ge 19, 3) := by decide +kernel
theorem dL_faultOf_236 : decode cL_faultOf 236 = .ok (.iload 6, 2) := by decide +kernel
theorem dL_faultOf_238 : decode cL_faultOf 238 = .ok (.ifCond .le 14, 3) := by decide +kernel
theorem dL_faultOf_241 : decode cL_faultOf 241 = .ok (.iload_n 3, 1) := by decide +kernel
theorem dL_faultOf_242 : decode cL_faultOf 242 = .ok (.iconst 4, 1) := by decide +kernel
theorem dL_faultOf_243 : decode cL_faultOf 243 = .ok (.if_icmp .ge 7, 3) := by decide +kernel
theorem dL_faultOf_246 : decode cL_faultOf 246 = .ok (.iload_n 3, 1) := by decide +kernel
theorem dL_faultOf_247 : decode cL_faultOf 247 = .ok (.goto 4, 3) := by decide +kernel
theorem dL_faultOf_250 : decode cL_faultOf 250 = .ok (.iconst 4, 1) := by decide +kernel
theorem dL_faultOf_251 : decode cL_faultOf 251 = .ok (.istore_n 3, 1) := by decide +kernel
theorem dL_faultOf_252 : decode cL_faultOf 252 = .ok (.iconst 0, 1) := by decide +kernel
theorem dL_faultOf_253 : decode cL_faultOf 253 = .ok (.istore 8, 2) := by decide +kernel
theorem dL_faultOf_255 : decode cL_faultOf 255 = .ok (.iload 8, 2) := by decide +kernel
theorem dL_faultOf_257 : decode cL_faultOf 257 = .ok (.aload_n 2, 1) := by decide +kernel
theorem dL_faultOf_258 : decode cL_faultOf 258 = .ok (.bipush 7, 2) := by decide +kernel
theorem dL_faultOf_260 : decode cL_faultOf 260 = .ok (.iaload, 1) := by decide +kernel
theorem dL_faultOf_261 : decode cL_faultOf 261 = .ok (.if_icmp .ge 151, 3) := by decide +kernel
theorem dL_faultOf_264 : decode cL_faultOf 264 = .ok (.aload_n 1, 1) := by decide +kernel
theorem dL_faultOf_265 : decode cL_faultOf 265 = .ok (.bipush 12, 2) := by decide +kernel
theorem dL_faultOf_267 : decode cL_faultOf 267 = .ok (.iload 8, 2) := by decide +kernel
theorem dL_faultOf_269 : decode cL_faultOf 269 = .ok (.iadd, 1) := by decide +kernel
theorem dL_faultOf_270 : decode cL_faultOf 270 = .ok (.iaload, 1) := by decide +kernel
theorem dL_faultOf_271 : decode cL_faultOf 271 = .ok (.ifCond .le 135, 3) := by decide +kernel
theorem dL_faultOf_274 : decode cL_faultOf 274 = .ok (.aload_n 1, 1) := by decide +kernel
theorem dL_faultOf_275 : decode cL_faultOf 275 = .ok (.bipush 18, 2) := by decide +kernel
theorem dL_faultOf_277 : decode cL_faultOf 277 = .ok (.iload 8, 2) := by decide +kernel
theorem dL_faultOf_279 : decode cL_faultOf 279 = .ok (.iadd, 1) := by decide +kernel
theorem dL_faultOf_280 : decode cL_faultOf 280 = .ok (.iaload, 1) := by decide +kernel
theorem dL_faultOf_281 : decode cL_faultOf 281 = .ok (.ifCond .le 125, 3) := by decide +kernel
theorem dL_faultOf_284 : decode cL_faultOf 284 = .ok (.aload_n 0, 1) := by decide +kernel
theorem dL_faultOf_285 : decode cL_faultOf 285 = .ok (.iload 8, 2) := by decide +kernel
theorem dL_faultOf_287 : decode cL_faultOf 287 = .ok (.iaload, 1) := by decide +kernel
theorem dL_faultOf_288 : decode cL_faultOf 288 = .ok (.aload_n 0, 1) := by decide +kernel
theorem dL_faultOf_289 : decode cL_faultOf 289 = .ok (.iload 4, 2) := by decide +kernel
theorem dL_faultOf_291 : decode cL_faultOf 291 = .ok (.iaload, 1) := by decide +kernel
theorem dL_faultOf_292 : decode cL_faultOf 292 = .ok (.if_icmp .ne 114, 3) := by decide +kernel
theorem dL_faultOf_295 : decode cL_faultOf 295 = .ok (.aload_n 0, 1) := by decide +kernel
theorem dL_faultOf_296 : decode cL_faultOf 296 = .ok (.bipush 18, 2) := by decide +kernel
theorem dL_faultOf_298 : decode cL_faultOf 298 = .ok (.iload 8, 2) := by decide +kernel
theorem dL_faultOf_300 : decode cL_faultOf 300 = .ok (.iadd, 1) := by decide +kernel
theorem dL_faultOf_301 : decode cL_faultOf 301 = .ok (.iaload, 1) := by decide +kernel
theorem dL_faultOf_302 : decode cL_faultOf 302 = .ok (.aload_n 0, 1) := by decide +kernel
theorem dL_faultOf_303 : decode cL_faultOf 303 = .ok (.bipush 18, 2) := by decide +kernel
theorem dL_faultOf_305 : decode cL_faultOf 305 = .ok (.iload 4, 2) := by decide +kernel
theorem dL_faultOf_307 : decode cL_faultOf 307 = .ok (.iadd, 1) := by decide +kernel
theorem dL_faultOf_308 : decode cL_faultOf 308 = .ok (.iaload, 1) := by decide +kernel
theorem dL_faultOf_309 : decode cL_faultOf 309 = .ok (.if_icmp .ne 97, 3) := by decide +kernel
theorem dL_faultOf_312 : decode cL_faultOf 312 = .ok (.aload_n 0, 1) := by decide +kernel
theorem dL_faultOf_313 : decode cL_faultOf 313 = .ok (.bipush 12, 2) := by decide +kernel
theorem dL_faultOf_315 : decode cL_faultOf 315 = .ok (.iload 8, 2) := by decide +kernel
theorem dL_faultOf_317 : decode cL_faultOf 317 = .ok (.iadd, 1) := by decide +kernel
theorem dL_faultOf_318 : decode cL_faultOf 318 = .ok (.iaload, 1) := by decide +kernel
theorem dL_faultOf_319 : decode cL_faultOf 319 = .ok (.aload_n 0, 1) := by decide +kernel
theorem dL_faultOf_320 : decode cL_faultOf 320 = .ok (.bipush 12, 2) := by decide +kernel
theorem dL_faultOf_322 : decode cL_faultOf 322 = .ok (.iload 4, 2) := by decide +kernel
theorem dL_faultOf_324 : decode cL_faultOf 324 = .ok (.iadd, 1) := by decide +kernel
theorem dL_faultOf_325 : decode cL_faultOf 325 = .ok (.iaload, 1) := by decide +kernel
theorem dL_faultOf_326 : decode cL_faultOf 326 = .ok (.if_icmp .ne 80, 3) := by decide +kernel
theorem dL_faultOf_329 : decode cL_faultOf 329 = .ok (.aload_n 0, 1) := by decide +kernel
theorem dL_faultOf_330 : decode cL_faultOf 330 = .ok (.bipush 12, 2) := by decide +kernel
theorem dL_faultOf_332 : decode cL_faultOf 332 = .ok (.iload 5, 2) := by decide +kernel
theorem dL_faultOf_334 : decode cL_faultOf 334 = .ok (.iadd, 1) := by decide +kernel
theorem dL_faultOf_335 : decode cL_faultOf 335 = .ok (.iaload, 1) := by decide +kernel
theorem dL_faultOf_336 : decode cL_faultOf 336 = .ok (.aload_n 0, 1) := by decide +kernel
theorem dL_faultOf_337 : decode cL_faultOf 337 = .ok (.bipush 12, 2) := by decide +kernel
theorem dL_faultOf_339 : decode cL_faultOf 339 = .ok (.iload 4, 2) := by decide +kernel
theorem dL_faultOf_341 : decode cL_faultOf 341 = .ok (.iadd, 1) := by decide +kernel
theorem dL_faultOf_342 : decode cL_faultOf 342 = .ok (.iaload, 1) := by decide +kernel
theorem dL_faultOf_343 : decode cL_faultOf 343 = .ok (.if_icmp .ne 63, 3) := by decide +kernel
theorem dL_faultOf_346 : decode cL_faultOf 346 = .ok (.iload 7, 2) := by decide +kernel
theorem dL_faultOf_348 : decode cL_faultOf 348 = .ok (.ifCond .le 58, 3) := by decide +kernel
theorem dL_faultOf_351 : decode cL_faultOf 351 = .ok (.aload_n 0, 1) := by decide +kernel
theorem dL_faultOf_352 : decode cL_faultOf 352 = .ok (.bipush 6, 2) := by decide +kernel
theorem dL_faultOf_354 : decode cL_faultOf 354 = .ok (.iload 8, 2) := by decide +kernel
theorem dL_faultOf_356 : decode cL_faultOf 356 = .ok (.iadd, 1) := by decide +kernel
theorem dL_faultOf_357 : decode cL_faultOf 357 = .ok (.iaload, 1) := by decide +kernel
theorem dL_faultOf_358 : decode cL_faultOf 358 = .ok (.aload_n 0, 1) := by decide +kernel
theorem dL_faultOf_359 : decode cL_faultOf 359 = .ok (.bipush 6, 2) := by decide +kernel
theorem dL_faultOf_361 : decode cL_faultOf 361 = .ok (.iload 4, 2) := by decide +kernel
theorem dL_faultOf_363 : decode cL_faultOf 363 = .ok (.iadd, 1) := by decide +kernel
theorem dL_faultOf_364 : decode cL_faultOf 364 = .ok (.iaload, 1) := by decide +kernel
theorem dL_faultOf_365 : decode cL_faultOf 365 = .ok (.isub, 1) := by decide +kernel
theorem dL_faultOf_366 : decode cL_faultOf 366 = .ok (.iload 7, 2) := by decide +kernel
theorem dL_faultOf_368 : decode cL_faultOf 368 = .ok (.if_icmp .ne 38, 3) := by decide +kernel
theorem dL_faultOf_371 : decode cL_faultOf 371 = .ok (.iconst 2, 1) := by decide +kernel
theorem dL_faultOf_372 : decode cL_faultOf 372 = .ok (.aload_n 1, 1) := by decide +kernel
theorem dL_faultOf_373 : decode cL_faultOf 373 = .ok (.iload 4, 2) := by decide +kernel
theorem dL_faultOf_375 : decode cL_faultOf 375 = .ok (.iaload, 1) := by decide +kernel
theorem dL_faultOf_376 : decode cL_faultOf 376 = .ok (.imul, 1) := by decide +kernel
theorem dL_faultOf_377 : decode cL_faultOf 377 = .ok (.aload_n 1, 1) := by decide +kernel
theorem dL_faultOf_378 : decode cL_faultOf 378 = .ok (.bipush 6, 2) := by decide +kernel
theorem dL_faultOf_380 : decode cL_faultOf 380 = .ok (.iload 5, 2) := by decide +kernel
theorem dL_faultOf_382 : decode cL_faultOf 382 = .ok (.iadd, 1) := by decide +kernel
theorem dL_faultOf_383 : decode cL_faultOf 383 = .ok (.iaload, 1) := by decide +kernel
theorem dL_faultOf_384 : decode cL_faultOf 384 = .ok (.aload_n 1, 1) := by decide +kernel
theorem dL_faultOf_385 : decode cL_faultOf 385 = .ok (.bipush 6, 2) := by decide +kernel
theorem dL_faultOf_387 : decode cL_faultOf 387 = .ok (.iload 8, 2) := by decide +kernel
theorem dL_faultOf_389 : decode cL_faultOf 389 = .ok (.iadd, 1) := by decide +kernel
theorem dL_faultOf_390 : decode cL_faultOf 390 = .ok (.iaload, 1) := by decide +kernel
theorem dL_faultOf_391 : decode cL_faultOf 391 = .ok (.iadd, 1) := by decide +kernel
theorem dL_faultOf_392 : decode cL_faultOf 392 = .ok (.if_icmp .le 14, 3) := by decide +kernel
theorem dL_faultOf_395 : decode cL_faultOf 395 = .ok (.iload_n 3, 1) := by decide +kernel
theorem dL_faultOf_396 : decode cL_faultOf 396 = .ok (.iconst 3, 1) := by decide +kernel
theorem dL_faultOf_397 : decode cL_faultOf 397 = .ok (.if_icmp .ge 7, 3) := by decide +kernel
theorem dL_faultOf_400 : decode cL_faultOf 400 = .ok (.iload_n 3, 1) := by decide +kernel
theorem dL_faultOf_401 : decode cL_faultOf 401 = .ok (.goto 4, 3) := by decide +kernel
theorem dL_faultOf_404 : decode cL_faultOf 404 = .ok (.iconst 3, 1) := by decide +kernel
theorem dL_faultOf_405 : decode cL_faultOf 405 = .ok (.istore_n 3, 1) := by decide +kernel
theorem dL_faultOf_406 : decode cL_faultOf 406 = .ok (.iinc 8 1, 3) := by decide +kernel
theorem dL_faultOf_409 : decode cL_faultOf 409 = .ok (.goto (-154), 3) := by decide +kernel
theorem dL_faultOf_412 : decode cL_faultOf 412 = .ok (.iinc 5 1, 3) := by decide +kernel
theorem dL_faultOf_415 : decode cL_faultOf 415 = .ok (.goto (-397), 3) := by decide +kernel
theorem dL_faultOf_418 : decode cL_faultOf 418 = .ok (.iinc 4 1, 3) := by decide +kernel
theorem dL_faultOf_421 : decode cL_faultOf 421 = .ok (.goto (-415), 3) := by decide +kernel
theorem dL_faultOf_424 : decode cL_faultOf 424 = .ok (.iload_n 3, 1) := by decide +kernel
theorem dL_faultOf_425 : decode cL_faultOf 425 = .ok (.bipush 9, 2) := by decide +kernel
theorem dL_faultOf_427 : decode cL_faultOf 427 = .ok (.if_icmp .ne 7, 3) := by decide +kernel
theorem dL_faultOf_430 : decode cL_faultOf 430 = .ok (.iconst 0, 1) := by decide +kernel
theorem dL_faultOf_431 : decode cL_faultOf 431 = .ok (.goto 4, 3) := by decide +kernel
theorem dL_faultOf_434 : decode cL_faultOf 434 = .ok (.iload_n 3, 1) := by decide +kernel
theorem dL_faultOf_435 : decode cL_faultOf 435 = .ok (.ireturn, 1) := by decide +kernel
theorem dL_exercises_0 : decode cL_exercises 0 = .ok (.iconst 0, 1) := by decide +kernel
theorem dL_exercises_1 : decode cL_exercises 1 = .ok (.istore 6, 2) := by decide +kernel
theorem dL_exercises_3 : decode cL_exercises 3 = .ok (.iconst 0, 1) := by decide +kernel
theorem dL_exercises_4 : decode cL_exercises 4 = .ok (.istore 7, 2) := by decide +kernel
theorem dL_exercises_6 : decode cL_exercises 6 = .ok (.iload 7, 2) := by decide +kernel
theorem dL_exercises_8 : decode cL_exercises 8 = .ok (.bipush 7, 2) := by decide +kernel
theorem dL_exercises_10 : decode cL_exercises 10 = .ok (.if_icmp .ge 42, 3) := by decide +kernel
theorem dL_exercises_13 : decode cL_exercises 13 = .ok (.iload 6, 2) := by decide +kernel
theorem dL_exercises_15 : decode cL_exercises 15 = .ok (.aload 4, 2) := by decide +kernel
theorem dL_exercises_17 : decode cL_exercises 17 = .ok (.bipush 10, 2) := by decide +kernel
theorem dL_exercises_19 : decode cL_exercises 19 = .ok (.iload_n 1, 1) := by decide +kernel
theorem dL_exercises_20 : decode cL_exercises 20 = .ok (.imul, 1) := by decide +kernel
theorem dL_exercises_21 : decode cL_exercises 21 = .ok (.iload 7, 2) := by decide +kernel
theorem dL_exercises_23 : decode cL_exercises 23 = .ok (.iadd, 1) := by decide +kernel
theorem dL_exercises_24 : decode cL_exercises 24 = .ok (.iaload, 1) := by decide +kernel
theorem dL_exercises_25 : decode cL_exercises 25 = .ok (.ifCond .ge 17, 3) := by decide +kernel
theorem dL_exercises_28 : decode cL_exercises 28 = .ok (.aload 4, 2) := by decide +kernel
theorem dL_exercises_30 : decode cL_exercises 30 = .ok (.bipush 10, 2) := by decide +kernel
theorem dL_exercises_32 : decode cL_exercises 32 = .ok (.iload_n 1, 1) := by decide +kernel
theorem dL_exercises_33 : decode cL_exercises 33 = .ok (.imul, 1) := by decide +kernel
theorem dL_exercises_34 : decode cL_exercises 34 = .ok (.iload 7, 2) := by decide +kernel
theorem dL_exercises_36 : decode cL_exercises 36 = .ok (.iadd, 1) := by decide +kernel
theorem dL_exercises_37 : decode cL_exercises 37 = .ok (.iaload, 1) := by decide +kernel
theorem dL_exercises_38 : decode cL_exercises 38 = .ok (.ineg, 1) := by decide +kernel
theorem dL_exercises_39 : decode cL_exercises 39 = .ok (.goto 4, 3) := by decide +kernel
theorem dL_exercises_42 : decode cL_exercises 42 = .ok (.iconst 0, 1) := by decide +kernel
theorem dL_exercises_43 : decode cL_exercises 43 = .ok (.iadd, 1) := by decide +kernel
theorem dL_exercises_44 : decode cL_exercises 44 = .ok (.istore 6, 2) := by decide +kernel
theorem dL_exercises_46 : decode cL_exercises 46 = .ok (.iinc 7 1, 3) := by decide +kernel
theorem dL_exercises_49 : decode cL_exercises 49 = .ok (.goto (-43), 3) := by decide +kernel
theorem dL_exercises_52 : decode cL_exercises 52 = .ok (.aload 5, 2) := by decide +kernel
theorem dL_exercises_54 : decode cL_exercises 54 = .ok (.bipush 7, 2) := by decide +kernel
theorem dL_exercises_56 : decode cL_exercises 56 = .ok (.ldc2_w 117, 3) := by decide +kernel
theorem dL_exercises_59 : decode cL_exercises 59 = .ok (.aload 5, 2) := by decide +kernel
theorem dL_exercises_61 : decode cL_exercises 61 = .ok (.bipush 7, 2) := by decide +kernel
theorem dL_exercises_63 : decode cL_exercises 63 = .ok (.laload, 1) := by decide +kernel
theorem dL_exercises_64 : decode cL_exercises 64 = .ok (.lmul, 1) := by decide +kernel
theorem dL_exercises_65 : decode cL_exercises 65 = .ok (.ldc2_w 119, 3) := by decide +kernel
theorem dL_exercises_68 : decode cL_exercises 68 = .ok (.ladd, 1) := by decide +kernel
theorem dL_exercises_69 : decode cL_exercises 69 = .ok (.ldc2_w 121, 3) := by decide +kernel
theorem dL_exercises_72 : decode cL_exercises 72 = .ok (.land, 1) := by decide +kernel
theorem dL_exercises_73 : decode cL_exercises 73 = .ok (.lastore, 1) := by decide +kernel
theorem dL_exercises_74 : decode cL_exercises 74 = .ok (.aload 5, 2) := by decide +kernel
theorem dL_exercises_76 : decode cL_exercises 76 = .ok (.bipush 7, 2) := by decide +kernel
theorem dL_exercises_78 : decode cL_exercises 78 = .ok (.laload, 1) := by decide +kernel
theorem dL_exercises_79 : decode cL_exercises 79 = .ok (.bipush 16, 2) := by decide +kernel
theorem dL_exercises_81 : decode cL_exercises 81 = .ok (.lshr, 1) := by decide +kernel
theorem dL_exercises_82 : decode cL_exercises 82 = .ok (.iload 6, 2) := by decide +kernel
theorem dL_exercises_84 : decode cL_exercises 84 = .ok (.i2l, 1) := by decide +kernel
theorem dL_exercises_85 : decode cL_exercises 85 = .ok (.lrem, 1) := by decide +kernel
theorem dL_exercises_86 : decode cL_exercises 86 = .ok (.lstore 7, 2) := by decide +kernel
theorem dL_exercises_88 : decode cL_exercises 88 = .ok (.iconst 0, 1) := by decide +kernel
theorem dL_exercises_89 : decode cL_exercises 89 = .ok (.istore 9, 2) := by decide +kernel
theorem dL_exercises_91 : decode cL_exercises 91 = .ok (.bipush 6, 2) := by decide +kernel
theorem dL_exercises_93 : decode cL_exercises 93 = .ok (.istore 10, 2) := by decide +kernel
theorem dL_exercises_95 : decode cL_exercises 95 = .ok (.iload 10, 2) := by decide +kernel
theorem dL_exercises_97 : decode cL_exercises 97 = .ok (.ifCond .lt 67, 3) := by decide +kernel
theorem dL_exercises_100 : decode cL_exercises 100 = .ok (.aload 4, 2) := by decide +kernel
theorem dL_exercises_102 : decode cL_exercises 102 = .ok (.bipush 10, 2) := by decide +kernel
theorem dL_exercises_104 : decode cL_exercises 104 = .ok (.iload_n 1, 1) := by decide +kernel
theorem dL_exercises_105 : decode cL_exercises 105 = .ok (.imul, 1) := by decide +kernel
theorem dL_exercises_106 : decode cL_exercises 106 = .ok (.iload 10, 2) := by decide +kernel
theorem dL_exercises_108 : decode cL_exercises 108 = .ok (.iadd, 1) := by decide +kernel
theorem dL_exercises_109 : decode cL_exercises 109 = .ok (.iaload, 1) := by decide +kernel
theorem dL_exercises_110 : decode cL_exercises 110 = .ok (.ifCond .ge 17, 3) := by decide +kernel
theorem dL_exercises_113 : decode cL_exercises 113 = .ok (.aload 4, 2) := by decide +kernel
theorem dL_exercises_115 : decode cL_exercises 115 = .ok (.bipush 10, 2) := by decide +kernel
theorem dL_exercises_117 : decode cL_exercises 117 = .ok (.iload_n 1, 1) := by decide +kernel
theorem dL_exercises_118 : decode cL_exercises 118 = .ok (.imul, 1) := by decide +kernel
theorem dL_exercises_119 : decode cL_exercises 119 = .ok (.iload 10, 2) := by decide +kernel
theorem dL_exercises_121 : decode cL_exercises 121 = .ok (.iadd, 1) := by decide +kernel
theorem dL_exercises_122 : decode cL_exercises 122 = .ok (.iaload, 1) := by decide +kernel
theorem dL_exercises_123 : decode cL_exercises 123 = .ok (.ineg, 1) := by decide +kernel
theorem dL_exercises_124 : decode cL_exercises 124 = .ok (.goto 4, 3) := by decide +kernel
theorem dL_exercises_127 : decode cL_exercises 127 = .ok (.iconst 0, 1) := by decide +kernel
theorem dL_exercises_128 : decode cL_exercises 128 = .ok (.istore 11, 2) := by decide +kernel
theorem dL_exercises_130 : decode cL_exercises 130 = .ok (.iload 6, 2) := by decide +kernel
theorem dL_exercises_132 : decode cL_exercises 132 = .ok (.iload 11, 2) := by decide +kernel
theorem dL_exercises_134 : decode cL_exercises 134 = .ok (.isub, 1) := by decide +kernel
theorem dL_exercises_135 : decode cL_exercises 135 = .ok (.istore 6, 2) := by decide +kernel
theorem dL_exercises_137 : decode cL_exercises 137 = .ok (.iload 11, 2) := by decide +kernel
theorem dL_exercises_139 : decode cL_exercises 139 = .ok (.ifCond .le 19, 3) := by decide +kernel
theorem dL_exercises_142 : decode cL_exercises 142 = .ok (.lload 7, 2) := by decide +kernel
theorem dL_exercises_144 : decode cL_exercises 144 = .ok (.iload 6, 2) := by decide +kernel
theorem dL_exercises_146 : decode cL_exercises 146 = .ok (.i2l, 1) := by decide +kernel
theorem dL_exercises_147 : decode cL_exercises 147 = .ok (.lcmp, 1) := by decide +kernel
theorem dL_exercises_148 : decode cL_exercises 148 = .ok (.ifCond .lt 10, 3) := by decide +kernel
theorem dL_exercises_151 : decode cL_exercises 151 = .ok (.iload 10, 2) := by decide +kernel
theorem dL_exercises_153 : decode cL_exercises 153 = .ok (.istore 9, 2) := by decide +kernel
theorem dL_exercises_155 : decode cL_exercises 155 = .ok (.goto 9, 3) := by decide +kernel
theorem dL_exercises_158 : decode cL_exercises 158 = .ok (.iinc 10 (-1), 3) := by decide +kernel
theorem dL_exercises_161 : decode cL_exercises 161 = .ok (.goto (-66), 3) := by decide +kernel
theorem dL_exercises_164 : decode cL_exercises 164 = .ok (.aload 4, 2) := by decide +kernel
theorem dL_exercises_166 : decode cL_exercises 166 = .ok (.bipush 10, 2) := by decide +kernel
theorem dL_exercises_168 : decode cL_exercises 168 = .ok (.iload_n 1, 1) := by decide +kernel
theorem dL_exercises_169 : decode cL_exercises 169 = .ok (.imul, 1) := by decide +kernel
theorem dL_exercises_170 : decode cL_exercises 170 = .ok (.iload 9, 2) := by decide +kernel
theorem dL_exercises_172 : decode cL_exercises 172 = .ok (.iadd, 1) := by decide +kernel
theorem dL_exercises_173 : decode cL_exercises 173 = .ok (.dup2, 1) := by decide +kernel
theorem dL_exercises_174 : decode cL_exercises 174 = .ok (.iaload, 1) := by decide +kernel
theorem dL_exercises_175 : decode cL_exercises 175 = .ok (.iconst 1, 1) := by decide +kernel
theorem dL_exercises_176 : decode cL_exercises 176 = .ok (.iadd, 1) := by decide +kernel
theorem dL_exercises_177 : decode cL_exercises 177 = .ok (.iastore, 1) := by decide +kernel
theorem dL_exercises_178 : decode cL_exercises 178 = .ok (.aload 4, 2) := by decide +kernel
theorem dL_exercises_180 : decode cL_exercises 180 = .ok (.bipush 10, 2) := by decide +kernel
theorem dL_exercises_182 : decode cL_exercises 182 = .ok (.iload_n 1, 1) := by decide +kernel
theorem dL_exercises_183 : decode cL_exercises 183 = .ok (.imul, 1) := by decide +kernel
theorem dL_exercises_184 : decode cL_exercises 184 = .ok (.iload_n 0, 1) := by decide +kernel
theorem dL_exercises_185 : decode cL_exercises 185 = .ok (.iadd, 1) := by decide +kernel
theorem dL_exercises_186 : decode cL_exercises 186 = .ok (.dup2, 1) := by decide +kernel
theorem dL_exercises_187 : decode cL_exercises 187 = .ok (.iaload, 1) := by decide +kernel
theorem dL_exercises_188 : decode cL_exercises 188 = .ok (.iconst 1, 1) := by decide +kernel
theorem dL_exercises_189 : decode cL_exercises 189 = .ok (.isub, 1) := by decide +kernel
theorem dL_exercises_190 : decode cL_exercises 190 = .ok (.iastore, 1) := by decide +kernel
theorem dL_exercises_191 : decode cL_exercises 191 = .ok (.aload 5, 2) := by decide +kernel
theorem dL_exercises_193 : decode cL_exercises 193 = .ok (.iload 9, 2) := by decide +kernel
theorem dL_exercises_195 : decode cL_exercises 195 = .ok (.dup2, 1) := by decide +kernel
theorem dL_exercises_196 : decode cL_exercises 196 = .ok (.laload, 1) := by decide +kernel
theorem dL_exercises_197 : decode cL_exercises 197 = .ok (.ldc2_w 104, 3) := by decide +kernel
theorem dL_exercises_200 : decode cL_exercises 200 = .ok (.lload_n 2, 1) := by decide +kernel
theorem dL_exercises_201 : decode cL_exercises 201 = .ok (.lmul, 1) := by decide +kernel
theorem dL_exercises_202 : decode cL_exercises 202 = .ok (.lsub, 1) := by decide +kernel
theorem dL_exercises_203 : decode cL_exercises 203 = .ok (.lastore, 1) := by decide +kernel
theorem dL_exercises_204 : decode cL_exercises 204 = .ok (.aload 5, 2) := by decide +kernel
theorem dL_exercises_206 : decode cL_exercises 206 = .ok (.iload_n 0, 1) := by decide +kernel
theorem dL_exercises_207 : decode cL_exercises 207 = .ok (.dup2, 1) := by decide +kernel
theorem dL_exercises_208 : decode cL_exercises 208 = .ok (.laload, 1) := by decide +kernel
theorem dL_exercises_209 : decode cL_exercises 209 = .ok (.ldc2_w 104, 3) := by decide +kernel
theorem dL_exercises_212 : decode cL_exercises 212 = .ok (.lload_n 2, 1) := by decide +kernel
theorem dL_exercises_213 : decode cL_exercises 213 = .ok (.lmul, 1) := by decide +kernel
theorem dL_exercises_214 : decode cL_exercises 214 = .ok (.ladd, 1) := by decide +kernel
theorem dL_exercises_215 : decode cL_exercises 215 = .ok (.lastore, 1) := by decide +kernel
theorem dL_exercises_216 : decode cL_exercises 216 = .ok (.return_, 1) := by decide +kernel
theorem dL_isTold_0 : decode cL_isTold 0 = .ok (.iconst 0, 1) := by decide +kernel
theorem dL_isTold_1 : decode cL_isTold 1 = .ok (.istore 8, 2) := by decide +kernel
theorem dL_isTold_3 : decode cL_isTold 3 = .ok (.iload 8, 2) := by decide +kernel
theorem dL_isTold_5 : decode cL_isTold 5 = .ok (.aload 5, 2) := by decide +kernel
theorem dL_isTold_7 : decode cL_isTold 7 = .ok (.bipush 7, 2) := by decide +kernel
theorem dL_isTold_9 : decode cL_isTold 9 = .ok (.iaload, 1) := by decide +kernel
theorem dL_isTold_10 : decode cL_isTold 10 = .ok (.if_icmp .ge 244, 3) := by decide +kernel
theorem dL_isTold_13 : decode cL_isTold 13 = .ok (.iload 8, 2) := by decide +kernel
theorem dL_isTold_15 : decode cL_isTold 15 = .ok (.aload 5, 2) := by decide +kernel
theorem dL_isTold_17 : decode cL_isTold 17 = .ok (.iconst 1, 1) := by decide +kernel
theorem dL_isTold_18 : decode cL_isTold 18 = .ok (.iaload, 1) := by decide +kernel
theorem dL_isTold_19 : decode cL_isTold 19 = .ok (.aload_n 2, 1) := by decide +kernel
theorem dL_isTold_20 : decode cL_isTold 20 = .ok (.aload 5, 2) := by decide +kernel
theorem dL_isTold_22 : decode cL_isTold 22 = .ok (.aload 6, 2) := by decide +kernel
theorem dL_isTold_24 : decode cL_isTold 24 = .ok (.invokestatic 106, 3) := by decide +kernel
theorem dL_isTold_27 : decode cL_isTold 27 = .ok (.lstore 9, 2) := by decide +kernel
theorem dL_isTold_29 : decode cL_isTold 29 = .ok (.iload 8, 2) := by decide +kernel
theorem dL_isTold_31 : decode cL_isTold 31 = .ok (.aload_n 2, 1) := by decide +kernel
theorem dL_isTold_32 : decode cL_isTold 32 = .ok (.aload 5, 2) := by decide +kernel
theorem dL_isTold_34 : decode cL_isTold 34 = .ok (.invokestatic 110, 3) := by decide +kernel
theorem dL_isTold_37 : decode cL_isTold 37 = .ok (.lstore 11, 2) := by decide +kernel
theorem dL_isTold_39 : decode cL_isTold 39 = .ok (.aload 4, 2) := by decide +kernel
theorem dL_isTold_41 : decode cL_isTold 41 = .ok (.bipush 12, 2) := by decide +kernel
theorem dL_isTold_43 : decode cL_isTold 43 = .ok (.iload 8, 2) := by decide +kernel
theorem dL_isTold_45 : decode cL_isTold 45 = .ok (.iadd, 1) := by decide +kernel
theorem dL_isTold_46 : decode cL_isTold 46 = .ok (.iaload, 1) := by decide +kernel
theorem dL_isTold_47 : decode cL_isTold 47 = .ok (.aload 4, 2) := by decide +kernel
theorem dL_isTold_49 : decode cL_isTold 49 = .ok (.bipush 18, 2) := by decide +kernel
theorem dL_isTold_51 : decode cL_isTold 51 = .ok (.iload 8, 2) := by decide +kernel
theorem dL_isTold_53 : decode cL_isTold 53 = .ok (.iadd, 1) := by decide +kernel
theorem dL_isTold_54 : decode cL_isTold 54 = .ok (.iaload, 1) := by decide +kernel
theorem dL_isTold_55 : decode cL_isTold 55 = .ok (.iadd, 1) := by decide +kernel
theorem dL_isTold_56 : decode cL_isTold 56 = .ok (.ifCond .le 7, 3) := by decide +kernel
theorem dL_isTold_59 : decode cL_isTold 59 = .ok (.iconst 1, 1) := by decide +kernel
theorem dL_isTold_60 : decode cL_isTold 60 = .ok (.goto 4, 3) := by decide +kernel
theorem dL_isTold_63 : decode cL_isTold 63 = .ok (.iconst 0, 1) := by decide +kernel
theorem dL_isTold_64 : decode cL_isTold 64 = .ok (.istore 13, 2) := by decide +kernel
theorem dL_isTold_66 : decode cL_isTold 66 = .ok (.iconst 0, 1) := by decide +kernel
theorem dL_isTold_67 : decode cL_isTold 67 = .ok (.istore 14, 2) := by decide +kernel
theorem dL_isTold_69 : decode cL_isTold 69 = .ok (.iload 14, 2) := by decide +kernel
theorem dL_isTold_71 : decode cL_isTold 71 = .ok (.iconst 4, 1) := by decide +kernel
theorem dL_isTold_72 : decode cL_isTold 72 = .ok (.if_icmp .ge 42, 3) := by decide +kernel
theorem dL_isTold_75 : decode cL_isTold 75 = .ok (.aload_n 0, 1) := by decide +kernel
theorem dL_isTold_76 : decode cL_isTold 76 = .ok (.iload 8, 2) := by decide +kernel
theorem dL_isTold_78 : decode cL_isTold 78 = .ok (.iload 14, 2) := by decide +kernel
theorem dL_isTold_80 : decode cL_isTold 80 = .ok (.invokestatic 123, 3) := by decide +kernel
theorem dL_isTold_83 : decode cL_isTold 83 = .ok (.iload 13, 2) := by decide +kernel
theorem dL_isTold_85 : decode cL_isTold 85 = .ok (.ifCond .eq 17, 3) := by decide +kernel
theorem dL_isTold_88 : decode cL_isTold 88 = .ok (.aload 4, 2) := by decide +kernel
theorem dL_isTold_90 : decode cL_isTold 90 = .ok (.bipush 6, 2) := by decide +kernel
theorem dL_isTold_92 : decode cL_isTold 92 = .ok (.iload 14, 2) := by decide +kernel
theorem dL_isTold_94 : decode cL_isTold 94 = .ok (.imul, 1) := by decide +kernel
theorem dL_isTold_95 : decode cL_isTold 95 = .ok (.iload 8, 2) := by decide +kernel
theorem dL_isTold_97 : decode cL_isTold 97 = .ok (.iadd, 1) := by decide +kernel
theorem dL_isTold_98 : decode cL_isTold 98 = .ok (.iaload, 1) := by decide +kernel
theorem dL_isTold_99 : decode cL_isTold 99 = .ok (.goto 4, 3) := by decide +kernel
theorem dL_isTold_102 : decode cL_isTold 102 = .ok (.iconst 0, 1) := by decide +kernel
theorem dL_isTold_103 : decode cL_isTold 103 = .ok (.if_icmp .eq 5, 3) := by decide +kernel
theorem dL_isTold_106 : decode cL_isTold 106 = .ok (.iconst 0, 1) := by decide +kernel
theorem dL_isTold_107 : decode cL_isTold 107 = .ok (.ireturn, 1) := by decide +kernel
theorem dL_isTold_108 : decode cL_isTold 108 = .ok (.iinc 14 1, 3) := by decide +kernel
theorem dL_isTold_111 : decode cL_isTold 111 = .ok (.goto (-42), 3) := by decide +kernel
theorem dL_isTold_114 : decode cL_isTold 114 = .ok (.iconst 0, 1) := by decide +kernel
theorem dL_isTold_115 : decode cL_isTold 115 = .ok (.istore 14, 2) := by decide +kernel
theorem dL_isTold_117 : decode cL_isTold 117 = .ok (.iload 14, 2) := by decide +kernel
theorem dL_isTold_119 : decode cL_isTold 119 = .ok (.bipush 7, 2) := by decide +kernel
theorem dL_isTold_121 : decode cL_isTold 121 = .ok (.if_icmp .ge 43, 3) := by decide +kernel
theorem dL_isTold_124 : decode cL_isTold 124 = .ok (.aload_n 0, 1) := by decide +kernel
theorem dL_isTold_125 : decode cL_isTold 125 = .ok (.iload 14, 2) := by decide +kernel
theorem dL_isTold_127 : decode cL_isTold 127 = .ok (.bipush 6, 2) := by decide +kernel
theorem dL_isTold_129 : decode cL_isTold 129 = .ok (.if_icmp .ne 7, 3) := by decide +kernel
theorem dL_isTold_132 : decode cL_isTold 132 = .ok (.iconst (-1), 1) := by decide +kernel
theorem dL_isTold_133 : decode cL_isTold 133 = .ok (.goto 5, 3) := by decide +kernel
theorem dL_isTold_136 : decode cL_isTold 136 = .ok (.iload 14, 2) := by decide +kernel
theorem dL_isTold_138 : decode cL_isTold 138 = .ok (.iload 8, 2) := by decide +kernel
theorem dL_isTold_140 : decode cL_isTold 140 = .ok (.invokestatic 126, 3) := by decide +kernel
theorem dL_isTold_143 : decode cL_isTold 143 = .ok (.aload_n 3, 1) := by decide +kernel
theorem dL_isTold_144 : decode cL_isTold 144 = .ok (.bipush 10, 2) := by decide +kernel
theorem dL_isTold_146 : decode cL_isTold 146 = .ok (.iload 8, 2) := by decide +kernel
theorem dL_isTold_148 : decode cL_isTold 148 = .ok (.imul, 1) := by decide +kernel
theorem dL_isTold_149 : decode cL_isTold 149 = .ok (.iload 14, 2) := by decide +kernel
theorem dL_isTold_151 : decode cL_isTold 151 = .ok (.iadd, 1) := by decide +kernel
theorem dL_isTold_152 : decode cL_isTold 152 = .ok (.iaload, 1) := by decide +kernel
theorem dL_isTold_153 : decode cL_isTold 153 = .ok (.if_icmp .eq 5, 3) := by decide +kernel
theorem dL_isTold_156 : decode cL_isTold 156 = .ok (.iconst 0, 1) := by decide +kernel
theorem dL_isTold_157 : decode cL_isTold 157 = .ok (.ireturn, 1) := by decide +kernel
theorem dL_isTold_158 : decode cL_isTold 158 = .ok (.iinc 14 1, 3) := by decide +kernel
theorem dL_isTold_161 : decode cL_isTold 161 = .ok (.goto (-44), 3) := by decide +kernel
theorem dL_isTold_164 : decode cL_isTold 164 = .ok (.iload_n 1, 1) := by decide +kernel
theorem dL_isTold_165 : decode cL_isTold 165 = .ok (.iload 8, 2) := by decide +kernel
theorem dL_isTold_167 : decode cL_isTold 167 = .ok (.iadd, 1) := by decide +kernel
theorem dL_isTold_168 : decode cL_isTold 168 = .ok (.iconst 3, 1) := by decide +kernel
theorem dL_isTold_169 : decode cL_isTold 169 = .ok (.irem, 1) := by decide +kernel
theorem dL_isTold_170 : decode cL_isTold 170 = .ok (.ifCond .le 6, 3) := by decide +kernel
theorem dL_isTold_173 : decode cL_isTold 173 = .ok (.goto 75, 3) := by decide +kernel
theorem dL_isTold_176 : decode cL_isTold 176 = .ok (.aload_n 0, 1) := by decide +kernel
theorem dL_isTold_177 : decode cL_isTold 177 = .ok (.iload 8, 2) := by decide +kernel
theorem dL_isTold_179 : decode cL_isTold 179 = .ok (.iconst 1, 1) := by decide +kernel
theorem dL_isTold_180 : decode cL_isTold 180 = .ok (.invokestatic 128, 3) := by decide +kernel
theorem dL_isTold_183 : decode cL_isTold 183 = .ok (.lstore 14, 2) := by decide +kernel
theorem dL_isTold_185 : decode cL_isTold 185 = .ok (.aload_n 0, 1) := by decide +kernel
theorem dL_isTold_186 : decode cL_isTold 186 = .ok (.iload 8, 2) := by decide +kernel
theorem dL_isTold_188 : decode cL_isTold 188 = .ok (.iconst 0, 1) := by decide +kernel
theorem dL_isTold_189 : decode cL_isTold 189 = .ok (.invokestatic 128, 3) := by decide +kernel
theorem dL_isTold_192 : decode cL_isTold 192 = .ok (.lload 11, 2) := by decide +kernel
theorem dL_isTold_194 : decode cL_isTold 194 = .ok (.lmul, 1) := by decide +kernel
theorem dL_isTold_195 : decode cL_isTold 195 = .ok (.lload 9, 2) := by decide +kernel
theorem dL_isTold_197 : decode cL_isTold 197 = .ok (.lload 14, 2) := by decide +kernel
theorem dL_isTold_199 : decode cL_isTold 199 = .ok (.lmul, 1) := by decide +kernel
theorem dL_isTold_200 : decode cL_isTold 200 = .ok (.lcmp, 1) := by decide +kernel
theorem dL_isTold_201 : decode cL_isTold 201 = .ok (.ifCond .ne 45, 3) := by decide +kernel
theorem dL_isTold_204 : decode cL_isTold 204 = .ok (.lload 14, 2) := by decide +kernel
theorem dL_isTold_206 : decode cL_isTold 206 = .ok (.lconst 1, 1) := by decide +kernel
theorem dL_isTold_207 : decode cL_isTold 207 = .ok (.lcmp, 1) := by decide +kernel
theorem dL_isTold_208 : decode cL_isTold 208 = .ok (.ifCond .lt 38, 3) := by decide +kernel
theorem dL_isTold_211 : decode cL_isTold 211 = .ok (.lload 11, 2) := by decide +kernel
theorem dL_isTold_213 : decode cL_isTold 213 = .ok (.lload 14, 2) := by decide +kernel
theorem dL_isTold_215 : decode cL_isTold 215 = .ok (.lrem, 1) := by decide +kernel
theorem dL_isTold_216 : decode cL_isTold 216 = .ok (.lconst 0, 1) := by decide +kernel
theorem dL_isTold_217 : decode cL_isTold 217 = .ok (.lcmp, 1) := by decide +kernel
theorem dL_isTold_218 : decode cL_isTold 218 = .ok (.ifCond .ne 28, 3) := by decide +kernel
theorem dL_isTold_221 : decode cL_isTold 221 = .ok (.aload_n 0, 1) := by decide +kernel
theorem dL_isTold_222 : decode cL_isTold 222 = .ok (.iload 8, 2) := by decide +kernel
theorem dL_isTold_224 : decode cL_isTold 224 = .ok (.invokestatic 131, 3) := by decide +kernel
theorem dL_isTold_227 : decode cL_isTold 227 = .ok (.i2l, 1) := by decide +kernel
theorem dL_isTold_228 : decode cL_isTold 228 = .ok (.iload 8, 2) := by decide +kernel
theorem dL_isTold_230 : decode cL_isTold 230 = .ok (.aload 5, 2) := by decide +kernel
theorem dL_isTold_232 : decode cL_isTold 232 = .ok (.iconst 1, 1) := by decide +kernel
theorem dL_isTold_233 : decode cL_isTold 233 = .ok (.iaload, 1) := by decide +kernel
theorem dL_isTold_234 : decode cL_isTold 234 = .ok (.aload_n 2, 1) := by decide +kernel
theorem dL_isTold_235 : decode cL_isTold 235 = .ok (.aload 5, 2) := by decide +kernel
theorem dL_isTold_237 : decode cL_isTold 237 = .ok (.aload 6, 2) := by decide +kernel
theorem dL_isTold_239 : decode cL_isTold 239 = .ok (.invokestatic 114, 3) := by decide +kernel
theorem dL_isTold_242 : decode cL_isTold 242 = .ok (.lcmp, 1) := by decide +kernel
theorem dL_isTold_243 : decode cL_isTold 243 = .ok (.ifCond .eq 5, 3) := by decide +kernel
theorem dL_isTold_246 : decode cL_isTold 246 = .ok (.iconst 0, 1) := by decide +kernel
theorem dL_isTold_247 : decode cL_isTold 247 = .ok (.ireturn, 1) := by decide +kernel
theorem dL_isTold_248 : decode cL_isTold 248 = .ok (.iinc 8 1, 3) := by decide +kernel
theorem dL_isTold_251 : decode cL_isTold 251 = .ok (.goto (-248), 3) := by decide +kernel
theorem dL_isTold_254 : decode cL_isTold 254 = .ok (.lconst 0, 1) := by decide +kernel
theorem dL_isTold_255 : decode cL_isTold 255 = .ok (.lstore 8, 2) := by decide +kernel
theorem dL_isTold_257 : decode cL_isTold 257 = .ok (.iconst 0, 1) := by decide +kernel
theorem dL_isTold_258 : decode cL_isTold 258 = .ok (.istore 10, 2) := by decide +kernel
theorem dL_isTold_260 : decode cL_isTold 260 = .ok (.iload 10, 2) := by decide +kernel
theorem dL_isTold_262 : decode cL_isTold 262 = .ok (.bipush 7, 2) := by decide +kernel
theorem dL_isTold_264 : decode cL_isTold 264 = .ok (.if_icmp .ge 76, 3) := by decide +kernel
theorem dL_isTold_267 : decode cL_isTold 267 = .ok (.aload_n 0, 1) := by decide +kernel
theorem dL_isTold_268 : decode cL_isTold 268 = .ok (.iload 10, 2) := by decide +kernel
theorem dL_isTold_270 : decode cL_isTold 270 = .ok (.bipush 6, 2) := by decide +kernel
theorem dL_isTold_272 : decode cL_isTold 272 = .ok (.if_icmp .ne 7, 3) := by decide +kernel
theorem dL_isTold_275 : decode cL_isTold 275 = .ok (.iconst (-1), 1) := by decide +kernel
theorem dL_isTold_276 : decode cL_isTold 276 = .ok (.goto 5, 3) := by decide +kernel
theorem dL_isTold_279 : decode cL_isTold 279 = .ok (.iload 10, 2) := by decide +kernel
theorem dL_isTold_281 : decode cL_isTold 281 = .ok (.invokestatic 134, 3) := by decide +kernel
theorem dL_isTold_284 : decode cL_isTold 284 = .ok (.aload 7, 2) := by decide +kernel
theorem dL_isTold_286 : decode cL_isTold 286 = .ok (.iload 10, 2) := by decide +kernel
theorem dL_isTold_288 : decode cL_isTold 288 = .ok (.laload, 1) := by decide +kernel
theorem dL_isTold_289 : decode cL_isTold 289 = .ok (.lcmp, 1) := by decide +kernel
theorem dL_isTold_290 : decode cL_isTold 290 = .ok (.ifCond .eq 5, 3) := by decide +kernel
theorem dL_isTold_293 : decode cL_isTold 293 = .ok (.iconst 0, 1) := by decide +kernel
theorem dL_isTold_294 : decode cL_isTold 294 = .ok (.ireturn, 1) := by decide +kernel
theorem dL_isTold_295 : decode cL_isTold 295 = .ok (.lload 8, 2) := by decide +kernel
theorem dL_isTold_297 : decode cL_isTold 297 = .ok (.iload 10, 2) := by decide +kernel
theorem dL_isTold_299 : decode cL_isTold 299 = .ok (.bipush 6, 2) := by decide +kernel
theorem dL_isTold_301 : decode cL_isTold 301 = .ok (.if_icmp .ge 29, 3) := by decide +kernel
theorem dL_isTold_304 : decode cL_isTold 304 = .ok (.aload_n 0, 1) := by decide +kernel
theorem dL_isTold_305 : decode cL_isTold 305 = .ok (.iload 10, 2) := by decide +kernel
theorem dL_isTold_307 : decode cL_isTold 307 = .ok (.invokestatic 137, 3) := by decide +kernel
theorem dL_isTold_310 : decode cL_isTold 310 = .ok (.aload 7, 2) := by decide +kernel
theorem dL_isTold_312 : decode cL_isTold 312 = .ok (.bipush 8, 2) := by decide +kernel
theorem dL_isTold_314 : decode cL_isTold 314 = .ok (.iload 10, 2) := by decide +kernel
theorem dL_isTold_316 : decode cL_isTold 316 = .ok (.iadd, 1) := by decide +kernel
theorem dL_isTold_317 : decode cL_isTold 317 = .ok (.laload, 1) := by decide +kernel
theorem dL_isTold_318 : decode cL_isTold 318 = .ok (.lcmp, 1) := by decide +kernel
theorem dL_isTold_319 : decode cL_isTold 319 = .ok (.ifCond .ne 7, 3) := by decide +kernel
theorem dL_isTold_322 : decode cL_isTold 322 = .ok (.lconst 0, 1) := by decide +kernel
theorem dL_isTold_323 : decode cL_isTold 323 = .ok (.goto 8, 3) := by decide +kernel
theorem dL_isTold_326 : decode cL_isTold 326 = .ok (.lconst 1, 1) := by decide +kernel
theorem dL_isTold_327 : decode cL_isTold 327 = .ok (.goto 4, 3) := by decide +kernel
theorem dL_isTold_330 : decode cL_isTold 330 = .ok (.lconst 0, 1) := by decide +kernel
theorem dL_isTold_331 : decode cL_isTold 331 = .ok (.ladd, 1) := by decide +kernel
theorem dL_isTold_332 : decode cL_isTold 332 = .ok (.lstore 8, 2) := by decide +kernel
theorem dL_isTold_334 : decode cL_isTold 334 = .ok (.iinc 10 1, 3) := by decide +kernel
theorem dL_isTold_337 : decode cL_isTold 337 = .ok (.goto (-77), 3) := by decide +kernel
theorem dL_isTold_340 : decode cL_isTold 340 = .ok (.lload 8, 2) := by decide +kernel
theorem dL_isTold_342 : decode cL_isTold 342 = .ok (.lconst 0, 1) := by decide +kernel
theorem dL_isTold_343 : decode cL_isTold 343 = .ok (.lcmp, 1) := by decide +kernel
theorem dL_isTold_344 : decode cL_isTold 344 = .ok (.ifCond .ne 45, 3) := by decide +kernel
theorem dL_isTold_347 : decode cL_isTold 347 = .ok (.aload_n 0, 1) := by decide +kernel
theorem dL_isTold_348 : decode cL_isTold 348 = .ok (.invokevirtual 139, 3) := by decide +kernel
theorem dL_isTold_351 : decode cL_isTold 351 = .ok (.aload 5, 2) := by decide +kernel
theorem dL_isTold_353 : decode cL_isTold 353 = .ok (.iconst 1, 1) := by decide +kernel
theorem dL_isTold_354 : decode cL_isTold 354 = .ok (.iaload, 1) := by decide +kernel
theorem dL_isTold_355 : decode cL_isTold 355 = .ok (.aload_n 2, 1) := by decide +kernel
theorem dL_isTold_356 : decode cL_isTold 356 = .ok (.aload_n 3, 1) := by decide +kernel
theorem dL_isTold_357 : decode cL_isTold 357 = .ok (.aload 5, 2) := by decide +kernel
theorem dL_isTold_359 : decode cL_isTold 359 = .ok (.aload 6, 2) := by decide +kernel
theorem dL_isTold_361 : decode cL_isTold 361 = .ok (.aload 7, 2) := by decide +kernel
theorem dL_isTold_363 : decode cL_isTold 363 = .ok (.invokestatic 143, 3) := by decide +kernel
theorem dL_isTold_366 : decode cL_isTold 366 = .ok (.lcmp, 1) := by decide +kernel
theorem dL_isTold_367 : decode cL_isTold 367 = .ok (.ifCond .ne 22, 3) := by decide +kernel
theorem dL_isTold_370 : decode cL_isTold 370 = .ok (.aload_n 0, 1) := by decide +kernel
theorem dL_isTold_371 : decode cL_isTold 371 = .ok (.invokevirtual 146, 3) := by decide +kernel
theorem dL_isTold_374 : decode cL_isTold 374 = .ok (.aload_n 2, 1) := by decide +kernel
theorem dL_isTold_375 : decode cL_isTold 375 = .ok (.aload 4, 2) := by decide +kernel
theorem dL_isTold_377 : decode cL_isTold 377 = .ok (.aload 5, 2) := by decide +kernel
theorem dL_isTold_379 : decode cL_isTold 379 = .ok (.invokestatic 149, 3) := by decide +kernel
theorem dL_isTold_382 : decode cL_isTold 382 = .ok (.if_icmp .ne 7, 3) := by decide +kernel
theorem dL_isTold_385 : decode cL_isTold 385 = .ok (.iconst 1, 1) := by decide +kernel
theorem dL_isTold_386 : decode cL_isTold 386 = .ok (.goto 4, 3) := by decide +kernel
theorem dL_isTold_389 : decode cL_isTold 389 = .ok (.iconst 0, 1) := by decide +kernel
theorem dL_isTold_390 : decode cL_isTold 390 = .ok (.ireturn, 1) := by decide +kernel
theorem dL_law_0 : decode cL_law 0 = .ok (.new 9, 3) := by decide +kernel
theorem dL_law_3 : decode cL_law 3 = .ok (.dup, 1) := by decide +kernel
theorem dL_law_4 : decode cL_law 4 = .ok (.invokespecial 153, 3) := by decide +kernel
theorem dL_law_7 : decode cL_law 7 = .ok (.astore_n 1, 1) := by decide +kernel
theorem dL_law_8 : decode cL_law 8 = .ok (.bipush 24, 2) := by decide +kernel
theorem dL_law_10 : decode cL_law 10 = .ok (.newarray .int, 2) := by decide +kernel
theorem dL_law_12 : decode cL_law 12 = .ok (.astore_n 2, 1) := by decide +kernel
theorem dL_law_13 : decode cL_law 13 = .ok (.bipush 60, 2) := by decide +kernel
theorem dL_law_15 : decode cL_law 15 = .ok (.newarray .int, 2) := by decide +kernel
theorem dL_law_17 : decode cL_law 17 = .ok (.astore_n 3, 1) := by decide +kernel
theorem dL_law_18 : decode cL_law 18 = .ok (.bipush 6, 2) := by decide +kernel
theorem dL_law_20 : decode cL_law 20 = .ok (.newarray .int, 2) := by decide +kernel
theorem dL_law_22 : decode cL_law 22 = .ok (.astore 4, 2) := by decide +kernel
theorem dL_law_24 : decode cL_law 24 = .ok (.bipush 24, 2) := by decide +kernel
theorem dL_law_26 : decode cL_law 26 = .ok (.newarray .int, 2) := by decide +kernel
theorem dL_law_28 : decode cL_law 28 = .ok (.astore 5, 2) := by decide +kernel
theorem dL_law_30 : decode cL_law 30 = .ok (.bipush 8, 2) := by decide +kernel
theorem dL_law_32 : decode cL_law 32 = .ok (.newarray .int, 2) := by decide +kernel
theorem dL_law_34 : decode cL_law 34 = .ok (.astore 6, 2) := by decide +kernel
theorem dL_law_36 : decode cL_law 36 = .ok (.bipush 60, 2) := by decide +kernel
theorem dL_law_38 : decode cL_law 38 = .ok (.newarray .int, 2) := by decide +kernel
theorem dL_law_40 : decode cL_law 40 = .ok (.astore 7, 2) := by decide +kernel
theorem dL_law_42 : decode cL_law 42 = .ok (.bipush 14, 2) := by decide +kernel
theorem dL_law_44 : decode cL_law 44 = .ok (.newarray .long, 2) := by decide +kernel
theorem dL_law_46 : decode cL_law 46 = .ok (.astore 8, 2) := by decide +kernel
theorem dL_law_48 : decode cL_law 48 = .ok (.aload 6, 2) := by decide +kernel
theorem dL_law_50 : decode cL_law 50 = .ok (.iconst 1, 1) := by decide +kernel
theorem dL_law_51 : decode cL_law 51 = .ok (.sipush 10000, 3) := by decide +kernel
theorem dL_law_54 : decode cL_law 54 = .ok (.iastore, 1) := by decide +kernel
theorem dL_law_55 : decode cL_law 55 = .ok (.aload 6, 2) := by decide +kernel
theorem dL_law_57 : decode cL_law 57 = .ok (.iconst 2, 1) := by decide +kernel
theorem dL_law_58 : decode cL_law 58 = .ok (.bipush 10, 2) := by decide +kernel
theorem dL_law_60 : decode cL_law 60 = .ok (.iastore, 1) := by decide +kernel
theorem dL_law_61 : decode cL_law 61 = .ok (.aload 6, 2) := by decide +kernel
theorem dL_law_63 : decode cL_law 63 = .ok (.iconst 3, 1) := by decide +kernel
theorem dL_law_64 : decode cL_law 64 = .ok (.bipush 10, 2) := by decide +kernel
theorem dL_law_66 : decode cL_law 66 = .ok (.iastore, 1) := by decide +kernel
theorem dL_law_67 : decode cL_law 67 = .ok (.aload 6, 2) := by decide +kernel
theorem dL_law_69 : decode cL_law 69 = .ok (.iconst 4, 1) := by decide +kernel
theorem dL_law_70 : decode cL_law 70 = .ok (.bipush 100, 2) := by decide +kernel
theorem dL_law_72 : decode cL_law 72 = .ok (.iastore, 1) := by decide +kernel
theorem dL_law_73 : decode cL_law 73 = .ok (.aload 6, 2) := by decide +kernel
theorem dL_law_75 : decode cL_law 75 = .ok (.bipush 6, 2) := by decide +kernel
theorem dL_law_77 : decode cL_law 77 = .ok (.sipush 500, 3) := by decide +kernel
theorem dL_law_80 : decode cL_law 80 = .ok (.iastore, 1) := by decide +kernel
theorem dL_law_81 : decode cL_law 81 = .ok (.iconst 0, 1) := by decide +kernel
theorem dL_law_82 : decode cL_law 82 = .ok (.istore 9, 2) := by decide +kernel
theorem dL_law_84 : decode cL_law 84 = .ok (.iload 9, 2) := by decide +kernel
theorem dL_law_86 : decode cL_law 86 = .ok (.bipush 90, 2) := by decide +kernel
theorem dL_law_88 : decode cL_law 88 = .ok (.if_icmp .ge 2155, 3) := by decide +kernel
theorem dL_law_91 : decode cL_law 91 = .ok (.aload_n 0, 1) := by decide +kernel
theorem dL_law_92 : decode cL_law 92 = .ok (.iconst 2, 1) := by decide +kernel
theorem dL_law_93 : decode cL_law 93 = .ok (.iload 9, 2) := by decide +kernel
theorem dL_law_95 : decode cL_law 95 = .ok (.imul, 1) := by decide +kernel
theorem dL_law_96 : decode cL_law 96 = .ok (.invokestatic 154, 3) := by decide +kernel
theorem dL_law_99 : decode cL_law 99 = .ok (.istore 10, 2) := by decide +kernel
theorem dL_law_101 : decode cL_law 101 = .ok (.aload_n 0, 1) := by decide +kernel
theorem dL_law_102 : decode cL_law 102 = .ok (.iconst 2, 1) := by decide +kernel
theorem dL_law_103 : decode cL_law 103 = .ok (.iload 9, 2) := by decide +kernel
theorem dL_law_105 : decode cL_law 105 = .ok (.imul, 1) := by decide +kernel
theorem dL_law_106 : decode cL_law 106 = .ok (.iconst 1, 1) := by decide +kernel
theorem dL_law_107 : decode cL_law 107 = .ok (.iadd, 1) := by decide +kernel
theorem dL_law_108 : decode cL_law 108 = .ok (.invokestatic 154, 3) := by decide +kernel
theorem dL_law_111 : decode cL_law 111 = .ok (.istore 11, 2) := by decide +kernel
theorem dL_law_113 : decode cL_law 113 = .ok (.aload 6, 2) := by decide +kernel
theorem dL_law_115 : decode cL_law 115 = .ok (.bipush 7, 2) := by decide +kernel
theorem dL_law_117 : decode cL_law 117 = .ok (.iaload, 1) := by decide +kernel
theorem dL_law_118 : decode cL_law 118 = .ok (.ifCond .ne 7, 3) := by decide +kernel
theorem dL_law_121 : decode cL_law 121 = .ok (.iconst 0, 1) := by decide +kernel
theorem dL_law_122 : decode cL_law 122 = .ok (.goto 15, 3) := by decide +kernel
theorem dL_law_125 : decode cL_law 125 = .ok (.iload 10, 2) := by decide +kernel
theorem dL_law_127 : decode cL_law 127 = .ok (.iconst 5, 1) := by decide +kernel
theorem dL_law_128 : decode cL_law 128 = .ok (.ishr, 1) := by decide +kernel
theorem dL_law_129 : decode cL_law 129 = .ok (.aload 6, 2) := by decide +kernel
theorem dL_law_131 : decode cL_law 131 = .ok (.bipush 7, 2) := by decide +kernel
theorem dL_law_133 : decode cL_law 133 = .ok (.iaload, 1) := by decide +kernel
theorem dL_law_134 : decode cL_law 134 = .ok (.invokestatic 158, 3) := by decide +kernel
theorem dL_law_137 : decode cL_law 137 = .ok (.istore 12, 2) := by decide +kernel
theorem dL_law_139 : decode cL_law 139 = .ok (.iload 10, 2) := by decide +kernel
theorem dL_law_141 : decode cL_law 141 = .ok (.bipush 8, 2) := by decide +kernel
theorem dL_law_143 : decode cL_law 143 = .ok (.ishr, 1) := by decide +kernel
theorem dL_law_144 : decode cL_law 144 = .ok (.bipush 7, 2) := by decide +kernel
theorem dL_law_146 : decode cL_law 146 = .ok (.invokestatic 158, 3) := by decide +kernel
theorem dL_law_149 : decode cL_law 149 = .ok (.istore 13, 2) := by decide +kernel
theorem dL_law_151 : decode cL_law 151 = .ok (.aload 6, 2) := by decide +kernel
theorem dL_law_153 : decode cL_law 153 = .ok (.iconst 1, 1) := by decide +kernel
theorem dL_law_154 : decode cL_law 154 = .ok (.iaload, 1) := by decide +kernel
theorem dL_law_155 : decode cL_law 155 = .ok (.aload_n 2, 1) := by decide +kernel
theorem dL_law_156 : decode cL_law 156 = .ok (.aload_n 3, 1) := by decide +kernel
theorem dL_law_157 : decode cL_law 157 = .ok (.aload 6, 2) := by decide +kernel
theorem dL_law_159 : decode cL_law 159 = .ok (.aload 7, 2) := by decide +kernel
theorem dL_law_161 : decode cL_law 161 = .ok (.aload 8, 2) := by decide +kernel
theorem dL_law_163 : decode cL_law 163 = .ok (.invokestatic 143, 3) := by decide +kernel
theorem dL_law_166 : decode cL_law 166 = .ok (.lstore 14, 2) := by decide +kernel
theorem dL_law_168 : decode cL_law 168 = .ok (.aload 6, 2) := by decide +kernel
theorem dL_law_170 : decode cL_law 170 = .ok (.bipush 7, 2) := by decide +kernel
theorem dL_law_172 : decode cL_law 172 = .ok (.iaload, 1) := by decide +kernel
theorem dL_law_173 : decode cL_law 173 = .ok (.ifCond .eq 14, 3) := by decide +kernel
theorem dL_law_176 : decode cL_law 176 = .ok (.aload_n 2, 1) := by decide +kernel
theorem dL_law_177 : decode cL_law 177 = .ok (.bipush 18, 2) := by decide +kernel
theorem dL_law_179 : decode cL_law 179 = .ok (.iload 12, 2) := by decide +kernel
theorem dL_law_181 : decode cL_law 181 = .ok (.iadd, 1) := by decide +kernel
theorem dL_law_182 : decode cL_law 182 = .ok (.iaload, 1) := by decide +kernel
theorem dL_law_183 : decode cL_law 183 = .ok (.iconst 1, 1) := by decide +kernel
theorem dL_law_184 : decode cL_law 184 = .ok (.if_icmp .le 7, 3) := by decide +kernel
theorem dL_law_187 : decode cL_law 187 = .ok (.iconst 1, 1) := by decide +kernel
theorem dL_law_188 : decode cL_law 188 = .ok (.goto 4, 3) := by decide +kernel
theorem dL_law_191 : decode cL_law 191 = .ok (.iconst 0, 1) := by decide +kernel
theorem dL_law_192 : decode cL_law 192 = .ok (.istore 16, 2) := by decide +kernel
theorem dL_law_194 : decode cL_law 194 = .ok (.iconst 1, 1) := by decide +kernel
theorem dL_law_195 : decode cL_law 195 = .ok (.istore 17, 2) := by decide +kernel
theorem dL_law_197 : decode cL_law 197 = .ok (.iconst (-1), 1) := by decide +kernel
theorem dL_law_198 : decode cL_law 198 = .ok (.istore 18, 2) := by decide +kernel
theorem dL_law_200 : decode cL_law 200 = .ok (.iload 9, 2) := by decide +kernel
theorem dL_law_202 : decode cL_law 202 = .ok (.iconst 3, 1) := by decide +kernel
theorem dL_law_203 : decode cL_law 203 = .ok (.if_icmp .ge 7, 3) := by decide +kernel
theorem dL_law_206 : decode cL_law 206 = .ok (.iconst 0, 1) := by decide +kernel
theorem dL_law_207 : decode cL_law 207 = .ok (.goto 10, 3) := by decide +kernel
theorem dL_law_210 : decode cL_law 210 = .ok (.iload 10, 2) := by decide +kernel
theorem dL_law_212 : decode cL_law 212 = .ok (.bipush 16, 2) := by decide +kernel
theorem dL_law_214 : decode cL_law 214 = .ok (.invokestatic 158, 3) := by decide +kernel
theorem dL_law_217 : decode cL_law 217 = .ok (.tableswitch 1567 0 14 #[75, 75, 258, 314, 314, 405, 482, 482, 482, 641, 641, 641, 1100, 1212, 1439], 75) := by decide +kernel
theorem dL_law_292 : decode cL_law 292 = .ok (.aload 6, 2) := by decide +kernel
theorem dL_law_294 : decode cL_law 294 = .ok (.bipush 7, 2) := by decide +kernel
theorem dL_law_296 : decode cL_law 296 = .ok (.iaload, 1) := by decide +kernel
theorem dL_law_297 : decode cL_law 297 = .ok (.bipush 6, 2) := by decide +kernel
theorem dL_law_299 : decode cL_law 299 = .ok (.if_icmp .ne 6, 3) := by decide +kernel
theorem dL_law_302 : decode cL_law 302 = .ok (.goto 1737, 3) := by decide +kernel
theorem dL_law_305 : decode cL_law 305 = .ok (.iload 10, 2) := by decide +kernel
theorem dL_law_307 : decode cL_law 307 = .ok (.bipush 11, 2) := by decide +kernel
theorem dL_law_309 : decode cL_law 309 = .ok (.ishr, 1) := by decide +kernel
theorem dL_law_310 : decode cL_law 310 = .ok (.iconst 2, 1) := by decide +kernel
theorem dL_law_311 : decode cL_law 311 = .ok (.invokestatic 158, 3) := by decide +kernel
theorem dL_law_314 : decode cL_law 314 = .ok (.istore 19, 2) := by decide +kernel
theorem dL_law_316 : decode cL_law 316 = .ok (.aload 6, 2) := by decide +kernel
theorem dL_law_318 : decode cL_law 318 = .ok (.iconst 1, 1) := by decide +kernel
theorem dL_law_319 : decode cL_law 319 = .ok (.iaload, 1) := by decide +kernel
theorem dL_law_320 : decode cL_law 320 = .ok (.bipush 100, 2) := by decide +kernel
theorem dL_law_322 : decode cL_law 322 = .ok (.isub, 1) := by decide +kernel
theorem dL_law_323 : decode cL_law 323 = .ok (.bipush 50, 2) := by decide +kernel
theorem dL_law_325 : decode cL_law 325 = .ok (.iload 11, 2) := by decide +kernel
theorem dL_law_327 : decode cL_law 327 = .ok (.iconst 5, 1) := by decide +kernel
theorem dL_law_328 : decode cL_law 328 = .ok (.invokestatic 158, 3) := by decide +kernel
theorem dL_law_331 : decode cL_law 331 = .ok (.imul, 1) := by decide +kernel
theorem dL_law_332 : decode cL_law 332 = .ok (.iadd, 1) := by decide +kernel
theorem dL_law_333 : decode cL_law 333 = .ok (.istore 20, 2) := by decide +kernel
theorem dL_law_335 : decode cL_law 335 = .ok (.aload 6, 2) := by decide +kernel
theorem dL_law_337 : decode cL_law 337 = .ok (.iconst 0, 1) := by decide +kernel
theorem dL_law_338 : decode cL_law 338 = .ok (.iaload, 1) := by decide +kernel
theorem dL_law_339 : decode cL_law 339 = .ok (.iload 11, 2) := by decide +kernel
theorem dL_law_341 : decode cL_law 341 = .ok (.iconst 4, 1) := by decide +kernel
theorem dL_law_342 : decode cL_law 342 = .ok (.ishr, 1) := by decide +kernel
theorem dL_law_343 : decode cL_law 343 = .ok (.bipush 6, 2) := by decide +kernel
theorem dL_law_345 : decode cL_law 345 = .ok (.invokestatic 158, 3) := by decide +kernel
theorem dL_law_348 : decode cL_law 348 = .ok (.iadd, 1) := by decide +kernel
theorem dL_law_349 : decode cL_law 349 = .ok (.istore 21, 2) := by decide +kernel
theorem dL_law_351 : decode cL_law 351 = .ok (.iload 11, 2) := by decide +kernel
theorem dL_law_353 : decode cL_law 353 = .ok (.sipush 512, 3) := by decide +kernel
theorem dL_law_356 : decode cL_law 356 = .ok (.iand, 1) := by decide +kernel
theorem dL_law_357 : decode cL_law 357 = .ok (.ifCond .ne 7, 3) := by decide +kernel
theorem dL_law_360 : decode cL_law 360 = .ok (.iconst 1, 1) := by decide +kernel
theorem dL_law_361 : decode cL_law 361 = .ok (.goto 4, 3) := by decide +kernel
theorem dL_law_364 : decode cL_law 364 = .ok (.iconst 0, 1) := by decide +kernel
theorem dL_law_365 : decode cL_law 365 = .ok (.istore 22, 2) := by decide +kernel
theorem dL_law_367 : decode cL_law 367 = .ok (.iload 20, 2) := by decide +kernel
theorem dL_law_369 : decode cL_law 369 = .ok (.ifCond .lt 1670, 3) := by decide +kernel
theorem dL_law_372 : decode cL_law 372 = .ok (.iload 20, 2) := by decide +kernel
theorem dL_law_374 : decode cL_law 374 = .ok (.sipush 20000, 3) := by decide +kernel
theorem dL_law_377 : decode cL_law 377 = .ok (.if_icmp .le 6, 3) := by decide +kernel
theorem dL_law_380 : decode cL_law 380 = .ok (.goto 1659, 3) := by decide +kernel
theorem dL_law_383 : decode cL_law 383 = .ok (.aload_n 2, 1) := by decide +kernel
theorem dL_law_384 : decode cL_law 384 = .ok (.aload 6, 2) := by decide +kernel
theorem dL_law_386 : decode cL_law 386 = .ok (.bipush 7, 2) := by decide +kernel
theorem dL_law_388 : decode cL_law 388 = .ok (.iaload, 1) := by decide +kernel
theorem dL_law_389 : decode cL_law 389 = .ok (.iload 19, 2) := by decide +kernel
theorem dL_law_391 : decode cL_law 391 = .ok (.iastore, 1) := by decide +kernel
theorem dL_law_392 : decode cL_law 392 = .ok (.aload_n 2, 1) := by decide +kernel
theorem dL_law_393 : decode cL_law 393 = .ok (.bipush 6, 2) := by decide +kernel
theorem dL_law_395 : decode cL_law 395 = .ok (.aload 6, 2) := by decide +kernel
theorem dL_law_397 : decode cL_law 397 = .ok (.bipush 7, 2) := by decide +kernel
theorem dL_law_399 : decode cL_law 399 = .ok (.iaload, 1) := by decide +kernel
theorem dL_law_400 : decode cL_law 400 = .ok (.iadd, 1) := by decide +kernel
theorem dL_law_401 : decode cL_law 401 = .ok (.iload 20, 2) := by decide +kernel
theorem dL_law_403 : decode cL_law 403 = .ok (.iastore, 1) := by decide +kernel
theorem dL_law_404 : decode cL_law 404 = .ok (.aload_n 2, 1) := by decide +kernel
theorem dL_law_405 : decode cL_law 405 = .ok (.bipush 12, 2) := by decide +kernel
theorem dL_law_407 : decode cL_law 407 = .ok (.aload 6, 2) := by decide +kernel
theorem dL_law_409 : decode cL_law 409 = .ok (.bipush 7, 2) := by decide +kernel
theorem dL_law_411 : decode cL_law 411 = .ok (.iaload, 1) := by decide +kernel
theorem dL_law_412 : decode cL_law 412 = .ok (.iadd, 1) := by decide +kernel
theorem dL_law_413 : decode cL_law 413 = .ok (.iload 21, 2) := by decide +kernel
theorem dL_law_415 : decode cL_law 415 = .ok (.iastore, 1) := by decide +kernel
theorem dL_law_416 : decode cL_law 416 = .ok (.aload_n 2, 1) := by decide +kernel
theorem dL_law_417 : decode cL_law 417 = .ok (.bipush 18, 2) := by decide +kernel
theorem dL_law_419 : decode cL_law 419 = .ok (.aload 6, 2) := by decide +kernel
theorem dL_law_421 : decode cL_law 421 = .ok (.bipush 7, 2) := by decide +kernel
theorem dL_law_423 : decode cL_law 423 = .ok (.iaload, 1) := by decide +kernel
theorem dL_law_424 : decode cL_law 424 = .ok (.iadd, 1) := by decide +kernel
theorem dL_law_425 : decode cL_law 425 = .ok (.iload 22, 2) := by decide +kernel
theorem dL_law_427 : decode cL_law 427 = .ok (.ifCond .eq 7, 3) := by decide +kernel
theorem dL_law_430 : decode cL_law 430 = .ok (.iconst 1, 1) := by decide +kernel
theorem dL_law_431 : decode cL_law 431 = .ok (.goto 4, 3) := by decide +kernel
theorem dL_law_434 : decode cL_law 434 = .ok (.iconst 0, 1) := by decide +kernel
theorem dL_law_435 : decode cL_law 435 = .ok (.iastore, 1) := by decide +kernel
theorem dL_law_436 : decode cL_law 436 = .ok (.aload_n 1, 1) := by decide +kernel
theorem dL_law_437 : decode cL_law 437 = .ok (.iload 19, 2) := by decide +kernel
theorem dL_law_439 : decode cL_law 439 = .ok (.iload 20, 2) := by decide +kernel
theorem dL_law_441 : decode cL_law 441 = .ok (.iload 21, 2) := by decide +kernel
theorem dL_law_443 : decode cL_law 443 = .ok (.iload 22, 2) := by decide +kernel
theorem dL_law_445 : decode cL_law 445 = .ok (.invokestatic 161, 3) := by decide +kernel
theorem dL_law_448 : decode cL_law 448 = .ok (.aload 6, 2) := by decide +kernel
theorem dL_law_450 : decode cL_law 450 = .ok (.bipush 7, 2) := by decide +kernel
theorem dL_law_452 : decode cL_law 452 = .ok (.iaload, 1) := by decide +kernel
theorem dL_law_453 : decode cL_law 453 = .ok (.if_icmp .ne 7, 3) := by decide +kernel
theorem dL_law_456 : decode cL_law 456 = .ok (.iconst 1, 1) := by decide +kernel
theorem dL_law_457 : decode cL_law 457 = .ok (.goto 4, 3) := by decide +kernel
theorem dL_law_460 : decode cL_law 460 = .ok (.iconst 0, 1) := by decide +kernel
theorem dL_law_461 : decode cL_law 461 = .ok (.istore 17, 2) := by decide +kernel
theorem dL_law_463 : decode cL_law 463 = .ok (.aload 6, 2) := by decide +kernel
theorem dL_law_465 : decode cL_law 465 = .ok (.bipush 7, 2) := by decide +kernel
theorem dL_law_467 : decode cL_law 467 = .ok (.dup2, 1) := by decide +kernel
theorem dL_law_468 : decode cL_law 468 = .ok (.iaload, 1) := by decide +kernel
theorem dL_law_469 : decode cL_law 469 = .ok (.iconst 1, 1) := by decide +kernel
theorem dL_law_470 : decode cL_law 470 = .ok (.iadd, 1) := by decide +kernel
theorem dL_law_471 : decode cL_law 471 = .ok (.iastore, 1) := by decide +kernel
theorem dL_law_472 : decode cL_law 472 = .ok (.goto 1567, 3) := by decide +kernel
theorem dL_law_475 : decode cL_law 475 = .ok (.aload 6, 2) := by decide +kernel
theorem dL_law_477 : decode cL_law 477 = .ok (.iconst 2, 1) := by decide +kernel
theorem dL_law_478 : decode cL_law 478 = .ok (.iconst 1, 1) := by decide +kernel
theorem dL_law_479 : decode cL_law 479 = .ok (.iload 11, 2) := by decide +kernel
theorem dL_law_481 : decode cL_law 481 = .ok (.bipush 10, 2) := by decide +kernel
theorem dL_law_483 : decode cL_law 483 = .ok (.invokestatic 158, 3) := by decide +kernel
theorem dL_law_486 : decode cL_law 486 = .ok (.iadd, 1) := by decide +kernel
theorem dL_law_487 : decode cL_law 487 = .ok (.iastore, 1) := by decide +kernel
theorem dL_law_488 : decode cL_law 488 = .ok (.aload 6, 2) := by decide +kernel
theorem dL_law_490 : decode cL_law 490 = .ok (.iconst 3, 1) := by decide +kernel
theorem dL_law_491 : decode cL_law 491 = .ok (.iconst 1, 1) := by decide +kernel
theorem dL_law_492 : decode cL_law 492 = .ok (.iload 11, 2) := by decide +kernel
theorem dL_law_494 : decode cL_law 494 = .ok (.iconst 5, 1) := by decide +kernel
theorem dL_law_495 : decode cL_law 495 = .ok (.ishr, 1) := by decide +kernel
theorem dL_law_496 : decode cL_law 496 = .ok (.bipush 10, 2) := by decide +kernel
theorem dL_law_498 : decode cL_law 498 = .ok (.invokestatic 158, 3) := by decide +kernel
theorem dL_law_501 : decode cL_law 501 = .ok (.iadd, 1) := by decide +kernel
theorem dL_law_502 : decode cL_law 502 = .ok (.iastore, 1) := by decide +kernel
theorem dL_law_503 : decode cL_law 503 = .ok (.aload_n 1, 1) := by decide +kernel
theorem dL_law_504 : decode cL_law 504 = .ok (.aload 6, 2) := by decide +kernel
theorem dL_law_506 : decode cL_law 506 = .ok (.iconst 2, 1) := by decide +kernel
theorem dL_law_507 : decode cL_law 507 = .ok (.iaload, 1) := by decide +kernel
theorem dL_law_508 : decode cL_law 508 = .ok (.aload 6, 2) := by decide +kernel
theorem dL_law_510 : decode cL_law 510 = .ok (.iconst 3, 1) := by decide +kernel
theorem dL_law_511 : decode cL_law 511 = .ok (.iaload, 1) := by decide +kernel
theorem dL_law_512 : decode cL_law 512 = .ok (.invokestatic 164, 3) := by decide +kernel
theorem dL_law_515 : decode cL_law 515 = .ok (.ifCond .ne 7, 3) := by decide +kernel
theorem dL_law_518 : decode cL_law 518 = .ok (.iconst 1, 1) := by decide +kernel
theorem dL_law_519 : decode cL_law 519 = .ok (.goto 4, 3) := by decide +kernel
theorem dL_law_522 : decode cL_law 522 = .ok (.iconst 0, 1) := by decide +kernel
theorem dL_law_523 : decode cL_law 523 = .ok (.istore 17, 2) := by decide +kernel
theorem dL_law_525 : decode cL_law 525 = .ok (.iconst 5, 1) := by decide +kernel
theorem dL_law_526 : decode cL_law 526 = .ok (.istore 18, 2) := by decide +kernel
theorem dL_law_528 : decode cL_law 528 = .ok (.goto 1511, 3) := by decide +kernel
theorem dL_law_531 : decode cL_law 531 = .ok (.aload 6, 2) := by decide +kernel
theorem dL_law_533 : decode cL_law 533 = .ok (.iconst 1, 1) := by decide +kernel
theorem dL_law_534 : decode cL_law 534 = .ok (.iaload, 1) := by decide +kernel
theorem dL_law_535 : decode cL_law 535 = .ok (.bipush 10, 2) := by decide +kernel
theorem dL_law_537 : decode cL_law 537 = .ok (.iload 11, 2) := by decide +kernel
theorem dL_law_539 : decode cL_law 539 = .ok (.bipush 41, 2) := by decide +kernel
theorem dL_law_541 : decode cL_law 541 = .ok (.invokestatic 158, 3) := by decide +kernel
theorem dL_law_544 : decode cL_law 544 = .ok (.bipush 20, 2) := by decide +kernel
theorem dL_law_546 : decode cL_law 546 = .ok (.isub, 1) := by decide +kernel
theorem dL_law_547 : decode cL_law 547 = .ok (.imul, 1) := by decide +kernel
theorem dL_law_548 : decode cL_law 548 = .ok (.iadd, 1) := by decide +kernel
theorem dL_law_549 : decode cL_law 549 = .ok (.iload 11, 2) := by decide +kernel
theorem dL_law_551 : decode cL_law 551 = .ok (.bipush 7, 2) := by decide +kernel
theorem dL_law_553 : decode cL_law 553 = .ok (.ishr, 1) := by decide +kernel
theorem dL_law_554 : decode cL_law 554 = .ok (.iconst 3, 1) := by decide +kernel
theorem dL_law_555 : decode cL_law 555 = .ok (.invokestatic 158, 3) := by decide +kernel
theorem dL_law_558 : decode cL_law 558 = .ok (.iadd, 1) := by decide +kernel
theorem dL_law_559 : decode cL_law 559 = .ok (.istore 23, 2) := by decide +kernel
theorem dL_law_561 : decode cL_law 561 = .ok (.iload 23, 2) := by decide +kernel
theorem dL_law_563 : decode cL_law 563 = .ok (.ifCond .lt 1476, 3) := by decide +kernel
theorem dL_law_566 : decode cL_law 566 = .ok (.iload 23, 2) := by decide +kernel
theorem dL_law_568 : decode cL_law 568 = .ok (.sipush 20000, 3) := by decide +kernel
theorem dL_law_571 : decode cL_law 571 = .ok (.if_icmp .le 6, 3) := by decide +kernel
theorem dL_law_574 : decode cL_law 574 = .ok (.goto 1465, 3) := by decide +kernel
theorem dL_law_577 : decode cL_law 577 = .ok (.aload 6, 2) := by decide +kernel
theorem dL_law_579 : decode cL_law 579 = .ok (.iconst 1, 1) := by decide +kernel
theorem dL_law_580 : decode cL_law 580 = .ok (.iload 23, 2) := by decide +kernel
theorem dL_law_582 : decode cL_law 582 = .ok (.iastore, 1) := by decide +kernel
theorem dL_law_583 : decode cL_law 583 = .ok (.aload_n 1, 1) := by decide +kernel
theorem dL_law_584 : decode cL_law 584 = .ok (.iload 23, 2) := by decide +kernel
theorem dL_law_586 : decode cL_law 586 = .ok (.invokestatic 166, 3) := by decide +kernel
theorem dL_law_589 : decode cL_law 589 = .ok (.iload 23, 2) := by decide +kernel
theorem dL_law_591 : decode cL_law 591 = .ok (.aload_n 2, 1) := by decide +kernel
theorem dL_law_592 : decode cL_law 592 = .ok (.aload_n 3, 1) := by decide +kernel
theorem dL_law_593 : decode cL_law 593 = .ok (.aload 6, 2) := by decide +kernel
theorem dL_law_595 : decode cL_law 595 = .ok (.aload 7, 2) := by decide +kernel
theorem dL_law_597 : decode cL_law 597 = .ok (.aload 8, 2) := by decide +kernel
theorem dL_law_599 : decode cL_law 599 = .ok (.invokestatic 143, 3) := by decide +kernel
theorem dL_law_602 : decode cL_law 602 = .ok (.lload 14, 2) := by decide +kernel
theorem dL_law_604 : decode cL_law 604 = .ok (.lsub, 1) := by decide +kernel
theorem dL_law_605 : decode cL_law 605 = .ok (.lcmp, 1) := by decide +kernel
theorem dL_law_606 : decode cL_law 606 = .ok (.ifCond .ne 7, 3) := by decide +kernel
theorem dL_law_609 : decode cL_law 609 = .ok (.iconst 1, 1) := by decide +kernel
theorem dL_law_610 : decode cL_law 610 = .ok (.goto 4, 3) := by decide +kernel
theorem dL_law_613 : decode cL_law 613 = .ok (.iconst 0, 1) := by decide +kernel
theorem dL_law_614 : decode cL_law 614 = .ok (.istore 17, 2) := by decide +kernel
theorem dL_law_616 : decode cL_law 616 = .ok (.iconst 1, 1) := by decide +kernel
theorem dL_law_617 : decode cL_law 617 = .ok (.istore 18, 2) := by decide +kernel
theorem dL_law_619 : decode cL_law 619 = .ok (.goto 1420, 3) := by decide +kernel
theorem dL_law_622 : decode cL_law 622 = .ok (.aload 6, 2) := by decide +kernel
theorem dL_law_624 : decode cL_law 624 = .ok (.iconst 0, 1) := by decide +kernel
theorem dL_law_625 : decode cL_law 625 = .ok (.iaload, 1) := by decide +kernel
theorem dL_law_626 : decode cL_law 626 = .ok (.iconst 1, 1) := by decide +kernel
theorem dL_law_627 : decode cL_law 627 = .ok (.iadd, 1) := by decide +kernel
theorem dL_law_628 : decode cL_law 628 = .ok (.iload 11, 2) := by decide +kernel
theorem dL_law_630 : decode cL_law 630 = .ok (.bipush 6, 2) := by decide +kernel
theorem dL_law_632 : decode cL_law 632 = .ok (.invokestatic 158, 3) := by decide +kernel
theorem dL_law_635 : decode cL_law 635 = .ok (.iadd, 1) := by decide +kernel
theorem dL_law_636 : decode cL_law 636 = .ok (.istore 24, 2) := by decide +kernel
theorem dL_law_638 : decode cL_law 638 = .ok (.iload 11, 2) := by decide +kernel
theorem dL_law_640 : decode cL_law 640 = .ok (.bipush 64, 2) := by decide +kernel
theorem dL_law_642 : decode cL_law 642 = .ok (.iand, 1) := by decide +kernel
theorem dL_law_643 : decode cL_law 643 = .ok (.ifCond .ne 7, 3) := by decide +kernel
theorem dL_law_646 : decode cL_law 646 = .ok (.iconst 0, 1) := by decide +kernel
theorem dL_law_647 : decode cL_law 647 = .ok (.goto 14, 3) := by decide +kernel
theorem dL_law_650 : decode cL_law 650 = .ok (.iload 11, 2) := by decide +kernel
theorem dL_law_652 : decode cL_law 652 = .ok (.bipush 7, 2) := by decide +kernel
theorem dL_law_654 : decode cL_law 654 = .ok (.ishr, 1) := by decide +kernel
theorem dL_law_655 : decode cL_law 655 = .ok (.sipush 200, 3) := by decide +kernel
theorem dL_law_658 : decode cL_law 658 = .ok (.invokestatic 158, 3) := by decide +kernel
theorem dL_law_661 : decode cL_law 661 = .ok (.istore 25, 2) := by decide +kernel
theorem dL_law_663 : decode cL_law 663 = .ok (.aload_n 1, 1) := by decide +kernel
theorem dL_law_664 : decode cL_law 664 = .ok (.iload 24, 2) := by decide +kernel
theorem dL_law_666 : decode cL_law 666 = .ok (.iload 25, 2) := by decide +kernel
theorem dL_law_668 : decode cL_law 668 = .ok (.invokestatic 168, 3) := by decide +kernel
theorem dL_law_671 : decode cL_law 671 = .ok (.aload 7, 2) := by decide +kernel
theorem dL_law_673 : decode cL_law 673 = .ok (.iload 24, 2) := by decide +kernel
theorem dL_law_675 : decode cL_law 675 = .ok (.iaload, 1) := by decide +kernel
theorem dL_law_676 : decode cL_law 676 = .ok (.if_icmp .ne 7, 3) := by decide +kernel
theorem dL_law_679 : decode cL_law 679 = .ok (.iconst 1, 1) := by decide +kernel
theorem dL_law_680 : decode cL_law 680 = .ok (.goto 4, 3) := by decide +kernel
theorem dL_law_683 : decode cL_law 683 = .ok (.iconst 0, 1) := by decide +kernel
theorem dL_law_684 : decode cL_law 684 = .ok (.istore 17, 2) := by decide +kernel
theorem dL_law_686 : decode cL_law 686 = .ok (.aload 7, 2) := by decide +kernel
theorem dL_law_688 : decode cL_law 688 = .ok (.iload 24, 2) := by decide +kernel
theorem dL_law_690 : decode cL_law 690 = .ok (.iload 25, 2) := by decide +kernel
theorem dL_law_692 : decode cL_law 692 = .ok (.iastore, 1) := by decide +kernel
theorem dL_law_693 : decode cL_law 693 = .ok (.iconst 5, 1) := by decide +kernel
theorem dL_law_694 : decode cL_law 694 = .ok (.istore 18, 2) := by decide +kernel
theorem dL_law_696 : decode cL_law 696 = .ok (.goto 1343, 3) := by decide +kernel
theorem dL_law_699 : decode cL_law 699 = .ok (.iload 16, 2) := by decide +kernel
theorem dL_law_701 : decode cL_law 701 = .ok (.ifCond .eq 6, 3) := by decide +kernel
theorem dL_law_704 : decode cL_law 704 = .ok (.goto 1335, 3) := by decide +kernel
theorem dL_law_707 : decode cL_law 707 = .ok (.iload 12, 2) := by decide +kernel
theorem dL_law_709 : decode cL_law 709 = .ok (.aload 6, 2) := by decide +kernel
theorem dL_law_711 : decode cL_law 711 = .ok (.iconst 1, 1) := by decide +kernel
theorem dL_law_712 : decode cL_law 712 = .ok (.iaload, 1) := by decide +kernel
theorem dL_law_713 : decode cL_law 713 = .ok (.aload_n 2, 1) := by decide +kernel
theorem dL_law_714 : decode cL_law 714 = .ok (.aload 6, 2) := by decide +kernel
theorem dL_law_716 : decode cL_law 716 = .ok (.aload 7, 2) := by decide +kernel
theorem dL_law_718 : decode cL_law 718 = .ok (.invokestatic 114, 3) := by decide +kernel
theorem dL_law_721 : decode cL_law 721 = .ok (.ldc2_w 104, 3) := by decide +kernel
theorem dL_law_724 : decode cL_law 724 = .ok (.ldiv, 1) := by decide +kernel
theorem dL_law_725 : decode cL_law 725 = .ok (.l2i, 1) := by decide +kernel
theorem dL_law_726 : decode cL_law 726 = .ok (.istore 26, 2) := by decide +kernel
theorem dL_law_728 : decode cL_law 728 = .ok (.iload 26, 2) := by decide +kernel
theorem dL_law_730 : decode cL_law 730 = .ok (.iload 11, 2) := by decide +kernel
theorem dL_law_732 : decode cL_law 732 = .ok (.bipush 31, 2) := by decide +kernel
theorem dL_law_734 : decode cL_law 734 = .ok (.invokestatic 158, 3) := by decide +kernel
theorem dL_law_737 : decode cL_law 737 = .ok (.iadd, 1) := by decide +kernel
theorem dL_law_738 : decode cL_law 738 = .ok (.bipush 15, 2) := by decide +kernel
theorem dL_law_740 : decode cL_law 740 = .ok (.isub, 1) := by decide +kernel
theorem dL_law_741 : decode cL_law 741 = .ok (.istore 27, 2) := by decide +kernel
theorem dL_law_743 : decode cL_law 743 = .ok (.iload 27, 2) := by decide +kernel
theorem dL_law_745 : decode cL_law 745 = .ok (.ifCond .ge 7, 3) := by decide +kernel
theorem dL_law_748 : decode cL_law 748 = .ok (.iconst 0, 1) := by decide +kernel
theorem dL_law_749 : decode cL_law 749 = .ok (.goto 5, 3) := by decide +kernel
theorem dL_law_752 : decode cL_law 752 = .ok (.iload 27, 2) := by decide +kernel
theorem dL_law_754 : decode cL_law 754 = .ok (.istore 27, 2) := by decide +kernel
theorem dL_law_756 : decode cL_law 756 = .ok (.iload 11, 2) := by decide +kernel
theorem dL_law_758 : decode cL_law 758 = .ok (.bipush 12, 2) := by decide +kernel
theorem dL_law_760 : decode cL_law 760 = .ok (.ishr, 1) := by decide +kernel
theorem dL_law_761 : decode cL_law 761 = .ok (.bipush 40, 2) := by decide +kernel
theorem dL_law_763 : decode cL_law 763 = .ok (.invokestatic 158, 3) := by decide +kernel
theorem dL_law_766 : decode cL_law 766 = .ok (.istore 28, 2) := by decide +kernel
theorem dL_law_768 : decode cL_law 768 = .ok (.aload 5, 2) := by decide +kernel
theorem dL_law_770 : decode cL_law 770 = .ok (.iload 12, 2) := by decide +kernel
theorem dL_law_772 : decode cL_law 772 = .ok (.iload 27, 2) := by decide +kernel
theorem dL_law_774 : decode cL_law 774 = .ok (.iastore, 1) := by decide +kernel
theorem dL_law_775 : decode cL_law 775 = .ok (.aload 5, 2) := by decide +kernel
theorem dL_law_777 : decode cL_law 777 = .ok (.bipush 6, 2) := by decide +kernel
theorem dL_law_779 : decode cL_law 779 = .ok (.iload 12, 2) := by decide +kernel
theorem dL_law_781 : decode cL_law 781 = .ok (.iadd, 1) := by decide +kernel
theorem dL_law_782 : decode cL_law 782 = .ok (.iload 27, 2) := by decide +kernel
theorem dL_law_784 : decode cL_law 784 = .ok (.iload 11, 2) := by decide +kernel
theorem dL_law_786 : decode cL_law 786 = .ok (.bipush 6, 2) := by decide +kernel
theorem dL_law_788 : decode cL_law 788 = .ok (.ishr, 1) := by decide +kernel
theorem dL_law_789 : decode cL_law 789 = .ok (.bipush 25, 2) := by decide +kernel
theorem dL_law_791 : decode cL_law 791 = .ok (.invokestatic 158, 3) := by decide +kernel
theorem dL_law_794 : decode cL_law 794 = .ok (.iadd, 1) := by decide +kernel
theorem dL_law_795 : decode cL_law 795 = .ok (.iastore, 1) := by decide +kernel
theorem dL_law_796 : decode cL_law 796 = .ok (.aload 5, 2) := by decide +kernel
theorem dL_law_798 : decode cL_law 798 = .ok (.bipush 12, 2) := by decide +kernel
theorem dL_law_800 : decode cL_law 800 = .ok (.iload 12, 2) := by decide +kernel
theorem dL_law_802 : decode cL_law 802 = .ok (.iadd, 1) := by decide +kernel
theorem dL_law_803 : decode cL_law 803 = .ok (.iload 28, 2) := by decide +kernel
theorem dL_law_805 : decode cL_law 805 = .ok (.iastore, 1) := by decide +kernel
theorem dL_law_806 : decode cL_law 806 = .ok (.aload 5, 2) := by decide +kernel
theorem dL_law_808 : decode cL_law 808 = .ok (.bipush 18, 2) := by decide +kernel
theorem dL_law_810 : decode cL_law 810 = .ok (.iload 12, 2) := by decide +kernel
theorem dL_law_812 : decode cL_law 812 = .ok (.iadd, 1) := by decide +kernel
theorem dL_law_813 : decode cL_law 813 = .ok (.iload 28, 2) := by decide +kernel
theorem dL_law_815 : decode cL_law 815 = .ok (.iastore, 1) := by decide +kernel
theorem dL_law_816 : decode cL_law 816 = .ok (.aload_n 1, 1) := by decide +kernel
theorem dL_law_817 : decode cL_law 817 = .ok (.iload 12, 2) := by decide +kernel
theorem dL_law_819 : decode cL_law 819 = .ok (.aload 5, 2) := by decide +kernel
theorem dL_law_821 : decode cL_law 821 = .ok (.iload 12, 2) := by decide +kernel
theorem dL_law_823 : decode cL_law 823 = .ok (.iaload, 1) := by decide +kernel
theorem dL_law_824 : decode cL_law 824 = .ok (.aload 5, 2) := by decide +kernel
theorem dL_law_826 : decode cL_law 826 = .ok (.bipush 6, 2) := by decide +kernel
theorem dL_law_828 : decode cL_law 828 = .ok (.iload 12, 2) := by decide +kernel
theorem dL_law_830 : decode cL_law 830 = .ok (.iadd, 1) := by decide +kernel
theorem dL_law_831 : decode cL_law 831 = .ok (.iaload, 1) := by decide +kernel
theorem dL_law_832 : decode cL_law 832 = .ok (.iload 28, 2) := by decide +kernel
theorem dL_law_834 : decode cL_law 834 = .ok (.invokestatic 170, 3) := by decide +kernel
theorem dL_law_837 : decode cL_law 837 = .ok (.aload_n 2, 1) := by decide +kernel
theorem dL_law_838 : decode cL_law 838 = .ok (.aload 5, 2) := by decide +kernel
theorem dL_law_840 : decode cL_law 840 = .ok (.aload 6, 2) := by decide +kernel
theorem dL_law_842 : decode cL_law 842 = .ok (.invokestatic 149, 3) := by decide +kernel
theorem dL_law_845 : decode cL_law 845 = .ok (.if_icmp .ne 7, 3) := by decide +kernel
theorem dL_law_848 : decode cL_law 848 = .ok (.iconst 1, 1) := by decide +kernel
theorem dL_law_849 : decode cL_law 849 = .ok (.goto 4, 3) := by decide +kernel
theorem dL_law_852 : decode cL_law 852 = .ok (.iconst 0, 1) := by decide +kernel
theorem dL_law_853 : decode cL_law 853 = .ok (.istore 17, 2) := by decide +kernel
theorem dL_law_855 : decode cL_law 855 = .ok (.goto 1184, 3) := by decide +kernel
theorem dL_law_858 : decode cL_law 858 = .ok (.aload 6, 2) := by decide +kernel
theorem dL_law_860 : decode cL_law 860 = .ok (.bipush 7, 2) := by decide +kernel
theorem dL_law_862 : decode cL_law 862 = .ok (.iaload, 1) := by decide +kernel
theorem dL_law_863 : decode cL_law 863 = .ok (.ifCond .eq 1176, 3) := by decide +kernel
theorem dL_law_866 : decode cL_law 866 = .ok (.iload 13, 2) := by decide +kernel
theorem dL_law_868 : decode cL_law 868 = .ok (.bipush 6, 2) := by decide +kernel
theorem dL_law_870 : decode cL_law 870 = .ok (.if_icmp .ne 6, 3) := by decide +kernel
theorem dL_law_873 : decode cL_law 873 = .ok (.goto 1166, 3) := by decide +kernel
theorem dL_law_876 : decode cL_law 876 = .ok (.iconst 1, 1) := by decide +kernel
theorem dL_law_877 : decode cL_law 877 = .ok (.iload 11, 2) := by decide +kernel
theorem dL_law_879 : decode cL_law 879 = .ok (.bipush 40, 2) := by decide +kernel
theorem dL_law_881 : decode cL_law 881 = .ok (.invokestatic 158, 3) := by decide +kernel
theorem dL_law_884 : decode cL_law 884 = .ok (.iadd, 1) := by decide +kernel
theorem dL_law_885 : decode cL_law 885 = .ok (.istore 29, 2) := by decide +kernel
theorem dL_law_887 : decode cL_law 887 = .ok (.iload 11, 2) := by decide +kernel
theorem dL_law_889 : decode cL_law 889 = .ok (.sipush 1024, 3) := by decide +kernel
theorem dL_law_892 : decode cL_law 892 = .ok (.iand, 1) := by decide +kernel
theorem dL_law_893 : decode cL_law 893 = .ok (.ifCond .ne 7, 3) := by decide +kernel
theorem dL_law_896 : decode cL_law 896 = .ok (.iconst 1, 1) := by decide +kernel
theorem dL_law_897 : decode cL_law 897 = .ok (.goto 4, 3) := by decide +kernel
theorem dL_law_900 : decode cL_law 900 = .ok (.iconst 0, 1) := by decide +kernel
theorem dL_law_901 : decode cL_law 901 = .ok (.istore 30, 2) := by decide +kernel
theorem dL_law_903 : decode cL_law 903 = .ok (.iload 30, 2) := by decide +kernel
theorem dL_law_905 : decode cL_law 905 = .ok (.ifCond .eq 14, 3) := by decide +kernel
theorem dL_law_908 : decode cL_law 908 = .ok (.aload 5, 2) := by decide +kernel
theorem dL_law_910 : decode cL_law 910 = .ok (.bipush 6, 2) := by decide +kernel
theorem dL_law_912 : decode cL_law 912 = .ok (.iload 12, 2) := by decide +kernel
theorem dL_law_914 : decode cL_law 914 = .ok (.iadd, 1) := by decide +kernel
theorem dL_law_915 : decode cL_law 915 = .ok (.iaload, 1) := by decide +kernel
theorem dL_law_916 : decode cL_law 916 = .ok (.goto 8, 3) := by decide +kernel
theorem dL_law_919 : decode cL_law 919 = .ok (.aload 5, 2) := by decide +kernel
theorem dL_law_921 : decode cL_law 921 = .ok (.iload 12, 2) := by decide +kernel
theorem dL_law_923 : decode cL_law 923 = .ok (.iaload, 1) := by decide +kernel
theorem dL_law_924 : decode cL_law 924 = .ok (.iload 11, 2) := by decide +kernel
theorem dL_law_926 : decode cL_law 926 = .ok (.bipush 12, 2) := by decide +kernel
theorem dL_law_928 : decode cL_law 928 = .ok (.ishr, 1) := by decide +kernel
theorem dL_law_929 : decode cL_law 929 = .ok (.iconst 5, 1) := by decide +kernel
theorem dL_law_930 : decode cL_law 930 = .ok (.invokestatic 158, 3) := by decide +kernel
theorem dL_law_933 : decode cL_law 933 = .ok (.iadd, 1) := by decide +kernel
theorem dL_law_934 : decode cL_law 934 = .ok (.iconst 2, 1) := by decide +kernel
theorem dL_law_935 : decode cL_law 935 = .ok (.isub, 1) := by decide +kernel
theorem dL_law_936 : decode cL_law 936 = .ok (.istore 31, 2) := by decide +kernel
theorem dL_law_938 : decode cL_law 938 = .ok (.iload 31, 2) := by decide +kernel
theorem dL_law_940 : decode cL_law 940 = .ok (.ifCond .ge 7, 3) := by decide +kernel
theorem dL_law_943 : decode cL_law 943 = .ok (.iconst 0, 1) := by decide +kernel
theorem dL_law_944 : decode cL_law 944 = .ok (.goto 5, 3) := by decide +kernel
theorem dL_law_947 : decode cL_law 947 = .ok (.iload 31, 2) := by decide +kernel
theorem dL_law_949 : decode cL_law 949 = .ok (.istore 31, 2) := by decide +kernel
theorem dL_law_951 : decode cL_law 951 = .ok (.iload 30, 2) := by decide +kernel
theorem dL_law_953 : decode cL_law 953 = .ok (.ifCond .eq 21, 3) := by decide +kernel
theorem dL_law_956 : decode cL_law 956 = .ok (.aload_n 3, 1) := by decide +kernel
theorem dL_law_957 : decode cL_law 957 = .ok (.bipush 10, 2) := by decide +kernel
theorem dL_law_959 : decode cL_law 959 = .ok (.iload 12, 2) := by decide +kernel
theorem dL_law_961 : decode cL_law 961 = .ok (.imul, 1) := by decide +kernel
theorem dL_law_962 : decode cL_law 962 = .ok (.bipush 6, 2) := by decide +kernel
theorem dL_law_964 : decode cL_law 964 = .ok (.iadd, 1) := by decide +kernel
theorem dL_law_965 : decode cL_law 965 = .ok (.iaload, 1) := by decide +kernel
theorem dL_law_966 : decode cL_law 966 = .ok (.aload 6, 2) := by decide +kernel
theorem dL_law_968 : decode cL_law 968 = .ok (.iconst 4, 1) := by decide +kernel
theorem dL_law_969 : decode cL_law 969 = .ok (.iaload, 1) := by decide +kernel
theorem dL_law_970 : decode cL_law 970 = .ok (.iadd, 1) := by decide +kernel
theorem dL_law_971 : decode cL_law 971 = .ok (.goto 18, 3) := by decide +kernel
theorem dL_law_974 : decode cL_law 974 = .ok (.aload 6, 2) := by decide +kernel
theorem dL_law_976 : decode cL_law 976 = .ok (.iconst 4, 1) := by decide +kernel
theorem dL_law_977 : decode cL_law 977 = .ok (.iaload, 1) := by decide +kernel
theorem dL_law_978 : decode cL_law 978 = .ok (.aload_n 3, 1) := by decide +kernel
theorem dL_law_979 : decode cL_law 979 = .ok (.bipush 10, 2) := by decide +kernel
theorem dL_law_981 : decode cL_law 981 = .ok (.iload 12, 2) := by decide +kernel
theorem dL_law_983 : decode cL_law 983 = .ok (.imul, 1) := by decide +kernel
theorem dL_law_984 : decode cL_law 984 = .ok (.bipush 6, 2) := by decide +kernel
theorem dL_law_986 : decode cL_law 986 = .ok (.iadd, 1) := by decide +kernel
theorem dL_law_987 : decode cL_law 987 = .ok (.iaload, 1) := by decide +kernel
theorem dL_law_988 : decode cL_law 988 = .ok (.isub, 1) := by decide +kernel
theorem dL_law_989 : decode cL_law 989 = .ok (.istore 32, 2) := by decide +kernel
theorem dL_law_991 : decode cL_law 991 = .ok (.iload 30, 2) := by decide +kernel
theorem dL_law_993 : decode cL_law 993 = .ok (.ifCond .eq 14, 3) := by decide +kernel
theorem dL_law_996 : decode cL_law 996 = .ok (.aload 5, 2) := by decide +kernel
theorem dL_law_998 : decode cL_law 998 = .ok (.bipush 18, 2) := by decide +kernel
theorem dL_law_1000 : decode cL_law 1000 = .ok (.iload 12, 2) := by decide +kernel
theorem dL_law_1002 : decode cL_law 1002 = .ok (.iadd, 1) := by decide +kernel
theorem dL_law_1003 : decode cL_law 1003 = .ok (.iaload, 1) := by decide +kernel
theorem dL_law_1004 : decode cL_law 1004 = .ok (.goto 11, 3) := by decide +kernel
theorem dL_law_1007 : decode cL_law 1007 = .ok (.aload 5, 2) := by decide +kernel
theorem dL_law_1009 : decode cL_law 1009 = .ok (.bipush 12, 2) := by decide +kernel
theorem dL_law_1011 : decode cL_law 1011 = .ok (.iload 12, 2) := by decide +kernel
theorem dL_law_1013 : decode cL_law 1013 = .ok (.iadd, 1) := by decide +kernel
theorem dL_law_1014 : decode cL_law 1014 = .ok (.iaload, 1) := by decide +kernel
theorem dL_law_1015 : decode cL_law 1015 = .ok (.istore 33, 2) := by decide +kernel
theorem dL_law_1017 : decode cL_law 1017 = .ok (.iload 30, 2) := by decide +kernel
theorem dL_law_1019 : decode cL_law 1019 = .ok (.ifCond .eq 25, 3) := by decide +kernel
theorem dL_law_1022 : decode cL_law 1022 = .ok (.iload 31, 2) := by decide +kernel
theorem dL_law_1024 : decode cL_law 1024 = .ok (.aload 5, 2) := by decide +kernel
theorem dL_law_1026 : decode cL_law 1026 = .ok (.bipush 6, 2) := by decide +kernel
theorem dL_law_1028 : decode cL_law 1028 = .ok (.iload 12, 2) := by decide +kernel
theorem dL_law_1030 : decode cL_law 1030 = .ok (.iadd, 1) := by decide +kernel
theorem dL_law_1031 : decode cL_law 1031 = .ok (.iaload, 1) := by decide +kernel
theorem dL_law_1032 : decode cL_law 1032 = .ok (.if_icmp .ge 7, 3) := by decide +kernel
theorem dL_law_1035 : decode cL_law 1035 = .ok (.iconst 0, 1) := by decide +kernel
theorem dL_law_1036 : decode cL_law 1036 = .ok (.goto 24, 3) := by decide +kernel
theorem dL_law_1039 : decode cL_law 1039 = .ok (.iload 33, 2) := by decide +kernel
theorem dL_law_1041 : decode cL_law 1041 = .ok (.goto 19, 3) := by decide +kernel
theorem dL_law_1044 : decode cL_law 1044 = .ok (.iload 31, 2) := by decide +kernel
theorem dL_law_1046 : decode cL_law 1046 = .ok (.aload 5, 2) := by decide +kernel
theorem dL_law_1048 : decode cL_law 1048 = .ok (.iload 12, 2) := by decide +kernel
theorem dL_law_1050 : decode cL_law 1050 = .ok (.iaload, 1) := by decide +kernel
theorem dL_law_1051 : decode cL_law 1051 = .ok (.if_icmp .le 7, 3) := by decide +kernel
theorem dL_law_1054 : decode cL_law 1054 = .ok (.iconst 0, 1) := by decide +kernel
theorem dL_law_1055 : decode cL_law 1055 = .ok (.goto 5, 3) := by decide +kernel
theorem dL_law_1058 : decode cL_law 1058 = .ok (.iload 33, 2) := by decide +kernel
theorem dL_law_1060 : decode cL_law 1060 = .ok (.istore 34, 2) := by decide +kernel
theorem dL_law_1062 : decode cL_law 1062 = .ok (.iload 34, 2) := by decide +kernel
theorem dL_law_1064 : decode cL_law 1064 = .ok (.iload 29, 2) := by decide +kernel
theorem dL_law_1066 : decode cL_law 1066 = .ok (.if_icmp .ge 8, 3) := by decide +kernel
theorem dL_law_1069 : decode cL_law 1069 = .ok (.iload 34, 2) := by decide +kernel
theorem dL_law_1071 : decode cL_law 1071 = .ok (.goto 5, 3) := by decide +kernel
theorem dL_law_1074 : decode cL_law 1074 = .ok (.iload 29, 2) := by decide +kernel
theorem dL_law_1076 : decode cL_law 1076 = .ok (.istore 34, 2) := by decide +kernel
theorem dL_law_1078 : decode cL_law 1078 = .ok (.iload 34, 2) := by decide +kernel
theorem dL_law_1080 : decode cL_law 1080 = .ok (.iload 32, 2) := by decide +kernel
theorem dL_law_1082 : decode cL_law 1082 = .ok (.if_icmp .ge 8, 3) := by decide +kernel
theorem dL_law_1085 : decode cL_law 1085 = .ok (.iload 34, 2) := by decide +kernel
theorem dL_law_1087 : decode cL_law 1087 = .ok (.goto 14, 3) := by decide +kernel
theorem dL_law_1090 : decode cL_law 1090 = .ok (.iload 32, 2) := by decide +kernel
theorem dL_law_1092 : decode cL_law 1092 = .ok (.ifCond .ge 7, 3) := by decide +kernel
theorem dL_law_1095 : decode cL_law 1095 = .ok (.iconst 0, 1) := by decide +kernel
theorem dL_law_1096 : decode cL_law 1096 = .ok (.goto 5, 3) := by decide +kernel
theorem dL_law_1099 : decode cL_law 1099 = .ok (.iload 32, 2) := by decide +kernel
theorem dL_law_1101 : decode cL_law 1101 = .ok (.istore 34, 2) := by decide +kernel
theorem dL_law_1103 : decode cL_law 1103 = .ok (.aload_n 1, 1) := by decide +kernel
theorem dL_law_1104 : decode cL_law 1104 = .ok (.iload 13, 2) := by decide +kernel
theorem dL_law_1106 : decode cL_law 1106 = .ok (.iload 12, 2) := by decide +kernel
theorem dL_law_1108 : decode cL_law 1108 = .ok (.iload 30, 2) := by decide +kernel
