/-! the law: its instructions, part a. Packed by wip/gen25/p25names.py -/
theorem dL_dice_0 : decode cL_dice 0 = .ok (.iload_n 1, 1) := by decide +kernel
theorem dL_dice_1 : decode cL_dice 1 = .ok (.aload_n 0, 1) := by decide +kernel
theorem dL_dice_2 : decode cL_dice 2 = .ok (.arraylength, 1) := by decide +kernel
theorem dL_dice_3 : decode cL_dice 3 = .ok (.if_icmp .ge 9, 3) := by decide +kernel
theorem dL_dice_6 : decode cL_dice 6 = .ok (.aload_n 0, 1) := by decide +kernel
theorem dL_dice_7 : decode cL_dice 7 = .ok (.iload_n 1, 1) := by decide +kernel
theorem dL_dice_8 : decode cL_dice 8 = .ok (.iaload, 1) := by decide +kernel
theorem dL_dice_9 : decode cL_dice 9 = .ok (.goto 23, 3) := by decide +kernel
theorem dL_dice_12 : decode cL_dice 12 = .ok (.ldc 7, 2) := by decide +kernel
theorem dL_dice_14 : decode cL_dice 14 = .ok (.iload_n 1, 1) := by decide +kernel
theorem dL_dice_15 : decode cL_dice 15 = .ok (.sipush 421, 3) := by decide +kernel
theorem dL_dice_18 : decode cL_dice 18 = .ok (.iadd, 1) := by decide +kernel
theorem dL_dice_19 : decode cL_dice 19 = .ok (.imul, 1) := by decide +kernel
theorem dL_dice_20 : decode cL_dice 20 = .ok (.sipush 833, 3) := by decide +kernel
theorem dL_dice_23 : decode cL_dice 23 = .ok (.iload_n 1, 1) := by decide +kernel
theorem dL_dice_24 : decode cL_dice 24 = .ok (.imul, 1) := by decide +kernel
theorem dL_dice_25 : decode cL_dice 25 = .ok (.iload_n 1, 1) := by decide +kernel
theorem dL_dice_26 : decode cL_dice 26 = .ok (.imul, 1) := by decide +kernel
theorem dL_dice_27 : decode cL_dice 27 = .ok (.iadd, 1) := by decide +kernel
theorem dL_dice_28 : decode cL_dice 28 = .ok (.sipush 283, 3) := by decide +kernel
theorem dL_dice_31 : decode cL_dice 31 = .ok (.iadd, 1) := by decide +kernel
theorem dL_dice_32 : decode cL_dice 32 = .ok (.ldc 8, 2) := by decide +kernel
theorem dL_dice_34 : decode cL_dice 34 = .ok (.iand, 1) := by decide +kernel
theorem dL_dice_35 : decode cL_dice 35 = .ok (.ireturn, 1) := by decide +kernel
theorem dL_does_0 : decode cL_does 0 = .ok (.iload_n 1, 1) := by decide +kernel
theorem dL_does_1 : decode cL_does 1 = .ok (.ifCond .ne 11, 3) := by decide +kernel
theorem dL_does_4 : decode cL_does 4 = .ok (.aload_n 0, 1) := by decide +kernel
theorem dL_does_5 : decode cL_does 5 = .ok (.iload_n 2, 1) := by decide +kernel
theorem dL_does_6 : decode cL_does 6 = .ok (.invokevirtual 9, 3) := by decide +kernel
theorem dL_does_9 : decode cL_does 9 = .ok (.goto 223, 3) := by decide +kernel
theorem dL_does_12 : decode cL_does 12 = .ok (.iload_n 1, 1) := by decide +kernel
theorem dL_does_13 : decode cL_does 13 = .ok (.iconst 1, 1) := by decide +kernel
theorem dL_does_14 : decode cL_does 14 = .ok (.if_icmp .ne 10, 3) := by decide +kernel
theorem dL_does_17 : decode cL_does 17 = .ok (.aload_n 0, 1) := by decide +kernel
theorem dL_does_18 : decode cL_does 18 = .ok (.invokevirtual 15, 3) := by decide +kernel
theorem dL_does_21 : decode cL_does 21 = .ok (.goto 211, 3) := by decide +kernel
theorem dL_does_24 : decode cL_does 24 = .ok (.iload_n 1, 1) := by decide +kernel
theorem dL_does_25 : decode cL_does 25 = .ok (.iconst 2, 1) := by decide +kernel
theorem dL_does_26 : decode cL_does 26 = .ok (.if_icmp .ne 21, 3) := by decide +kernel
theorem dL_does_29 : decode cL_does 29 = .ok (.aload_n 0, 1) := by decide +kernel
theorem dL_does_30 : decode cL_does 30 = .ok (.iload_n 2, 1) := by decide +kernel
theorem dL_does_31 : decode cL_does 31 = .ok (.iload_n 3, 1) := by decide +kernel
theorem dL_does_32 : decode cL_does 32 = .ok (.iconst 1, 1) := by decide +kernel
theorem dL_does_33 : decode cL_does 33 = .ok (.if_icmp .ne 7, 3) := by decide +kernel
theorem dL_does_36 : decode cL_does 36 = .ok (.iconst 1, 1) := by decide +kernel
theorem dL_does_37 : decode cL_does 37 = .ok (.goto 4, 3) := by decide +kernel
theorem dL_does_40 : decode cL_does 40 = .ok (.iconst 0, 1) := by decide +kernel
theorem dL_does_41 : decode cL_does 41 = .ok (.invokevirtual 19, 3) := by decide +kernel
theorem dL_does_44 : decode cL_does 44 = .ok (.goto 188, 3) := by decide +kernel
theorem dL_does_47 : decode cL_does 47 = .ok (.iload_n 1, 1) := by decide +kernel
theorem dL_does_48 : decode cL_does 48 = .ok (.iconst 3, 1) := by decide +kernel
theorem dL_does_49 : decode cL_does 49 = .ok (.if_icmp .ne 14, 3) := by decide +kernel
theorem dL_does_52 : decode cL_does 52 = .ok (.aload_n 0, 1) := by decide +kernel
theorem dL_does_53 : decode cL_does 53 = .ok (.iload_n 2, 1) := by decide +kernel
theorem dL_does_54 : decode cL_does 54 = .ok (.iload_n 3, 1) := by decide +kernel
theorem dL_does_55 : decode cL_does 55 = .ok (.iload 4, 2) := by decide +kernel
theorem dL_does_57 : decode cL_does 57 = .ok (.invokevirtual 23, 3) := by decide +kernel
theorem dL_does_60 : decode cL_does 60 = .ok (.goto 172, 3) := by decide +kernel
theorem dL_does_63 : decode cL_does 63 = .ok (.iload_n 1, 1) := by decide +kernel
theorem dL_does_64 : decode cL_does 64 = .ok (.iconst 4, 1) := by decide +kernel
theorem dL_does_65 : decode cL_does 65 = .ok (.if_icmp .ne 16, 3) := by decide +kernel
theorem dL_does_68 : decode cL_does 68 = .ok (.aload_n 0, 1) := by decide +kernel
theorem dL_does_69 : decode cL_does 69 = .ok (.iload_n 2, 1) := by decide +kernel
theorem dL_does_70 : decode cL_does 70 = .ok (.iload_n 3, 1) := by decide +kernel
theorem dL_does_71 : decode cL_does 71 = .ok (.iload 4, 2) := by decide +kernel
theorem dL_does_73 : decode cL_does 73 = .ok (.iload 5, 2) := by decide +kernel
theorem dL_does_75 : decode cL_does 75 = .ok (.invokevirtual 27, 3) := by decide +kernel
theorem dL_does_78 : decode cL_does 78 = .ok (.goto 154, 3) := by decide +kernel
theorem dL_does_81 : decode cL_does 81 = .ok (.iload_n 1, 1) := by decide +kernel
theorem dL_does_82 : decode cL_does 82 = .ok (.iconst 5, 1) := by decide +kernel
theorem dL_does_83 : decode cL_does 83 = .ok (.if_icmp .ne 14, 3) := by decide +kernel
theorem dL_does_86 : decode cL_does 86 = .ok (.aload_n 0, 1) := by decide +kernel
theorem dL_does_87 : decode cL_does 87 = .ok (.iload_n 2, 1) := by decide +kernel
theorem dL_does_88 : decode cL_does 88 = .ok (.iload_n 3, 1) := by decide +kernel
theorem dL_does_89 : decode cL_does 89 = .ok (.iload 4, 2) := by decide +kernel
theorem dL_does_91 : decode cL_does 91 = .ok (.invokevirtual 31, 3) := by decide +kernel
theorem dL_does_94 : decode cL_does 94 = .ok (.goto 138, 3) := by decide +kernel
theorem dL_does_97 : decode cL_does 97 = .ok (.iload_n 1, 1) := by decide +kernel
theorem dL_does_98 : decode cL_does 98 = .ok (.bipush 6, 2) := by decide +kernel
theorem dL_does_100 : decode cL_does 100 = .ok (.if_icmp .ne 11, 3) := by decide +kernel
theorem dL_does_103 : decode cL_does 103 = .ok (.aload_n 0, 1) := by decide +kernel
theorem dL_does_104 : decode cL_does 104 = .ok (.iload_n 2, 1) := by decide +kernel
theorem dL_does_105 : decode cL_does 105 = .ok (.invokevirtual 34, 3) := by decide +kernel
theorem dL_does_108 : decode cL_does 108 = .ok (.goto 124, 3) := by decide +kernel
theorem dL_does_111 : decode cL_does 111 = .ok (.iload_n 1, 1) := by decide +kernel
theorem dL_does_112 : decode cL_does 112 = .ok (.bipush 7, 2) := by decide +kernel
theorem dL_does_114 : decode cL_does 114 = .ok (.if_icmp .ne 11, 3) := by decide +kernel
theorem dL_does_117 : decode cL_does 117 = .ok (.aload_n 0, 1) := by decide +kernel
theorem dL_does_118 : decode cL_does 118 = .ok (.iload_n 2, 1) := by decide +kernel
theorem dL_does_119 : decode cL_does 119 = .ok (.invokevirtual 37, 3) := by decide +kernel
theorem dL_does_122 : decode cL_does 122 = .ok (.goto 110, 3) := by decide +kernel
theorem dL_does_125 : decode cL_does 125 = .ok (.iload_n 1, 1) := by decide +kernel
theorem dL_does_126 : decode cL_does 126 = .ok (.bipush 8, 2) := by decide +kernel
theorem dL_does_128 : decode cL_does 128 = .ok (.if_icmp .ne 11, 3) := by decide +kernel
theorem dL_does_131 : decode cL_does 131 = .ok (.aload_n 0, 1) := by decide +kernel
theorem dL_does_132 : decode cL_does 132 = .ok (.iload_n 2, 1) := by decide +kernel
theorem dL_does_133 : decode cL_does 133 = .ok (.invokevirtual 40, 3) := by decide +kernel
theorem dL_does_136 : decode cL_does 136 = .ok (.goto 96, 3) := by decide +kernel
theorem dL_does_139 : decode cL_does 139 = .ok (.iload_n 1, 1) := by decide +kernel
theorem dL_does_140 : decode cL_does 140 = .ok (.bipush 9, 2) := by decide +kernel
theorem dL_does_142 : decode cL_does 142 = .ok (.if_icmp .ne 11, 3) := by decide +kernel
theorem dL_does_145 : decode cL_does 145 = .ok (.aload_n 0, 1) := by decide +kernel
theorem dL_does_146 : decode cL_does 146 = .ok (.iload_n 2, 1) := by decide +kernel
theorem dL_does_147 : decode cL_does 147 = .ok (.invokevirtual 43, 3) := by decide +kernel
theorem dL_does_150 : decode cL_does 150 = .ok (.goto 82, 3) := by decide +kernel
theorem dL_does_153 : decode cL_does 153 = .ok (.iload_n 1, 1) := by decide +kernel
theorem dL_does_154 : decode cL_does 154 = .ok (.bipush 10, 2) := by decide +kernel
theorem dL_does_156 : decode cL_does 156 = .ok (.if_icmp .ne 12, 3) := by decide +kernel
theorem dL_does_159 : decode cL_does 159 = .ok (.aload_n 0, 1) := by decide +kernel
theorem dL_does_160 : decode cL_does 160 = .ok (.iload_n 2, 1) := by decide +kernel
theorem dL_does_161 : decode cL_does 161 = .ok (.iload_n 3, 1) := by decide +kernel
theorem dL_does_162 : decode cL_does 162 = .ok (.invokevirtual 46, 3) := by decide +kernel
theorem dL_does_165 : decode cL_does 165 = .ok (.goto 67, 3) := by decide +kernel
theorem dL_does_168 : decode cL_does 168 = .ok (.iload_n 1, 1) := by decide +kernel
theorem dL_does_169 : decode cL_does 169 = .ok (.bipush 11, 2) := by decide +kernel
theorem dL_does_171 : decode cL_does 171 = .ok (.if_icmp .ne 12, 3) := by decide +kernel
theorem dL_does_174 : decode cL_does 174 = .ok (.aload_n 0, 1) := by decide +kernel
theorem dL_does_175 : decode cL_does 175 = .ok (.iload_n 2, 1) := by decide +kernel
theorem dL_does_176 : decode cL_does 176 = .ok (.iload_n 3, 1) := by decide +kernel
theorem dL_does_177 : decode cL_does 177 = .ok (.invokevirtual 50, 3) := by decide +kernel
theorem dL_does_180 : decode cL_does 180 = .ok (.goto 52, 3) := by decide +kernel
theorem dL_does_183 : decode cL_does 183 = .ok (.iload_n 1, 1) := by decide +kernel
theorem dL_does_184 : decode cL_does 184 = .ok (.bipush 12, 2) := by decide +kernel
theorem dL_does_186 : decode cL_does 186 = .ok (.if_icmp .ne 12, 3) := by decide +kernel
theorem dL_does_189 : decode cL_does 189 = .ok (.aload_n 0, 1) := by decide +kernel
theorem dL_does_190 : decode cL_does 190 = .ok (.iload_n 2, 1) := by decide +kernel
theorem dL_does_191 : decode cL_does 191 = .ok (.iload_n 3, 1) := by decide +kernel
theorem dL_does_192 : decode cL_does 192 = .ok (.invokevirtual 53, 3) := by decide +kernel
theorem dL_does_195 : decode cL_does 195 = .ok (.goto 37, 3) := by decide +kernel
theorem dL_does_198 : decode cL_does 198 = .ok (.iload_n 1, 1) := by decide +kernel
theorem dL_does_199 : decode cL_does 199 = .ok (.bipush 13, 2) := by decide +kernel
theorem dL_does_201 : decode cL_does 201 = .ok (.if_icmp .ne 12, 3) := by decide +kernel
theorem dL_does_204 : decode cL_does 204 = .ok (.aload_n 0, 1) := by decide +kernel
theorem dL_does_205 : decode cL_does 205 = .ok (.iload_n 2, 1) := by decide +kernel
theorem dL_does_206 : decode cL_does 206 = .ok (.iload_n 3, 1) := by decide +kernel
theorem dL_does_207 : decode cL_does 207 = .ok (.invokevirtual 56, 3) := by decide +kernel
theorem dL_does_210 : decode cL_does 210 = .ok (.goto 22, 3) := by decide +kernel
theorem dL_does_213 : decode cL_does 213 = .ok (.iload_n 1, 1) := by decide +kernel
theorem dL_does_214 : decode cL_does 214 = .ok (.bipush 14, 2) := by decide +kernel
theorem dL_does_216 : decode cL_does 216 = .ok (.if_icmp .ne 11, 3) := by decide +kernel
theorem dL_does_219 : decode cL_does 219 = .ok (.aload_n 0, 1) := by decide +kernel
theorem dL_does_220 : decode cL_does 220 = .ok (.iload_n 2, 1) := by decide +kernel
theorem dL_does_221 : decode cL_does 221 = .ok (.invokevirtual 59, 3) := by decide +kernel
theorem dL_does_224 : decode cL_does 224 = .ok (.goto 8, 3) := by decide +kernel
theorem dL_does_227 : decode cL_does 227 = .ok (.aload_n 0, 1) := by decide +kernel
theorem dL_does_228 : decode cL_does 228 = .ok (.iload_n 2, 1) := by decide +kernel
theorem dL_does_229 : decode cL_does 229 = .ok (.invokevirtual 62, 3) := by decide +kernel
theorem dL_does_232 : decode cL_does 232 = .ok (.ireturn, 1) := by decide +kernel
theorem dL_does_233 : decode cL_does 233 = .ok (.astore 6, 2) := by decide +kernel
theorem dL_does_235 : decode cL_does 235 = .ok (.sipush (-1381), 3) := by decide +kernel
theorem dL_does_238 : decode cL_does 238 = .ok (.ireturn, 1) := by decide +kernel
theorem dL_does_239 : decode cL_does 239 = .ok (.astore 6, 2) := by decide +kernel
theorem dL_does_241 : decode cL_does 241 = .ok (.sipush (-1382), 3) := by decide +kernel
theorem dL_does_244 : decode cL_does 244 = .ok (.ireturn, 1) := by decide +kernel
theorem dL_does_245 : decode cL_does 245 = .ok (.astore 6, 2) := by decide +kernel
theorem dL_does_247 : decode cL_does 247 = .ok (.sipush (-1383), 3) := by decide +kernel
theorem dL_does_250 : decode cL_does 250 = .ok (.ireturn, 1) := by decide +kernel
theorem dL_tells_0 : decode cL_tells 0 = .ok (.iload_n 1, 1) := by decide +kernel
theorem dL_tells_1 : decode cL_tells 1 = .ok (.ifCond .ne 16, 3) := by decide +kernel
theorem dL_tells_4 : decode cL_tells 4 = .ok (.aload_n 0, 1) := by decide +kernel
theorem dL_tells_5 : decode cL_tells 5 = .ok (.iload_n 2, 1) := by decide +kernel
theorem dL_tells_6 : decode cL_tells 6 = .ok (.iload_n 3, 1) := by decide +kernel
theorem dL_tells_7 : decode cL_tells 7 = .ok (.iload 4, 2) := by decide +kernel
theorem dL_tells_9 : decode cL_tells 9 = .ok (.iload 5, 2) := by decide +kernel
theorem dL_tells_11 : decode cL_tells 11 = .ok (.invokevirtual 71, 3) := by decide +kernel
theorem dL_tells_14 : decode cL_tells 14 = .ok (.goto 39, 3) := by decide +kernel
theorem dL_tells_17 : decode cL_tells 17 = .ok (.iload_n 1, 1) := by decide +kernel
theorem dL_tells_18 : decode cL_tells 18 = .ok (.iconst 1, 1) := by decide +kernel
theorem dL_tells_19 : decode cL_tells 19 = .ok (.if_icmp .ne 12, 3) := by decide +kernel
theorem dL_tells_22 : decode cL_tells 22 = .ok (.aload_n 0, 1) := by decide +kernel
theorem dL_tells_23 : decode cL_tells 23 = .ok (.iload_n 2, 1) := by decide +kernel
theorem dL_tells_24 : decode cL_tells 24 = .ok (.iload_n 3, 1) := by decide +kernel
theorem dL_tells_25 : decode cL_tells 25 = .ok (.invokevirtual 75, 3) := by decide +kernel
theorem dL_tells_28 : decode cL_tells 28 = .ok (.goto 25, 3) := by decide +kernel
theorem dL_tells_31 : decode cL_tells 31 = .ok (.iload_n 1, 1) := by decide +kernel
theorem dL_tells_32 : decode cL_tells 32 = .ok (.iconst 2, 1) := by decide +kernel
theorem dL_tells_33 : decode cL_tells 33 = .ok (.if_icmp .ne 12, 3) := by decide +kernel
theorem dL_tells_36 : decode cL_tells 36 = .ok (.aload_n 0, 1) := by decide +kernel
theorem dL_tells_37 : decode cL_tells 37 = .ok (.iload_n 2, 1) := by decide +kernel
theorem dL_tells_38 : decode cL_tells 38 = .ok (.iload_n 3, 1) := by decide +kernel
theorem dL_tells_39 : decode cL_tells 39 = .ok (.invokevirtual 79, 3) := by decide +kernel
theorem dL_tells_42 : decode cL_tells 42 = .ok (.goto 11, 3) := by decide +kernel
theorem dL_tells_45 : decode cL_tells 45 = .ok (.aload_n 0, 1) := by decide +kernel
theorem dL_tells_46 : decode cL_tells 46 = .ok (.iload_n 2, 1) := by decide +kernel
theorem dL_tells_47 : decode cL_tells 47 = .ok (.iload_n 3, 1) := by decide +kernel
theorem dL_tells_48 : decode cL_tells 48 = .ok (.iload 4, 2) := by decide +kernel
theorem dL_tells_50 : decode cL_tells 50 = .ok (.invokevirtual 82, 3) := by decide +kernel
theorem dL_tells_53 : decode cL_tells 53 = .ok (.iconst 1, 1) := by decide +kernel
theorem dL_tells_54 : decode cL_tells 54 = .ok (.ireturn, 1) := by decide +kernel
theorem dL_silent_0 : decode cL_silent 0 = .ok (.aload_n 0, 1) := by decide +kernel
theorem dL_silent_1 : decode cL_silent 1 = .ok (.iload_n 1, 1) := by decide +kernel
theorem dL_silent_2 : decode cL_silent 2 = .ok (.iload_n 2, 1) := by decide +kernel
theorem dL_silent_3 : decode cL_silent 3 = .ok (.iload_n 3, 1) := by decide +kernel
theorem dL_silent_4 : decode cL_silent 4 = .ok (.iload 4, 2) := by decide +kernel
theorem dL_silent_6 : decode cL_silent 6 = .ok (.iload 5, 2) := by decide +kernel
theorem dL_silent_8 : decode cL_silent 8 = .ok (.invokestatic 86, 3) := by decide +kernel
theorem dL_silent_11 : decode cL_silent 11 = .ok (.ifCond .eq 7, 3) := by decide +kernel
theorem dL_silent_14 : decode cL_silent 14 = .ok (.iconst 0, 1) := by decide +kernel
theorem dL_silent_15 : decode cL_silent 15 = .ok (.goto 4, 3) := by decide +kernel
theorem dL_silent_18 : decode cL_silent 18 = .ok (.iconst 1, 1) := by decide +kernel
theorem dL_silent_19 : decode cL_silent 19 = .ok (.ireturn, 1) := by decide +kernel
theorem dL_silent_20 : decode cL_silent 20 = .ok (.astore 6, 2) := by decide +kernel
theorem dL_silent_22 : decode cL_silent 22 = .ok (.sipush (-1381), 3) := by decide +kernel
theorem dL_silent_25 : decode cL_silent 25 = .ok (.ireturn, 1) := by decide +kernel
theorem dL_silent_26 : decode cL_silent 26 = .ok (.astore 6, 2) := by decide +kernel
theorem dL_silent_28 : decode cL_silent 28 = .ok (.sipush (-1382), 3) := by decide +kernel
theorem dL_silent_31 : decode cL_silent 31 = .ok (.ireturn, 1) := by decide +kernel
theorem dL_silent_32 : decode cL_silent 32 = .ok (.astore 6, 2) := by decide +kernel
theorem dL_silent_34 : decode cL_silent 34 = .ok (.sipush (-1383), 3) := by decide +kernel
theorem dL_silent_37 : decode cL_silent 37 = .ok (.ireturn, 1) := by decide +kernel
theorem dL_all_0 : decode cL_all 0 = .ok (.aload_n 0, 1) := by decide +kernel
theorem dL_all_1 : decode cL_all 1 = .ok (.invokevirtual 92, 3) := by decide +kernel
theorem dL_all_4 : decode cL_all 4 = .ok (.ldc2_w 96, 3) := by decide +kernel
theorem dL_all_7 : decode cL_all 7 = .ok (.aload_n 0, 1) := by decide +kernel
theorem dL_all_8 : decode cL_all 8 = .ok (.invokevirtual 98, 3) := by decide +kernel
theorem dL_all_11 : decode cL_all 11 = .ok (.i2l, 1) := by decide +kernel
theorem dL_all_12 : decode cL_all 12 = .ok (.lmul, 1) := by decide +kernel
theorem dL_all_13 : decode cL_all 13 = .ok (.ladd, 1) := by decide +kernel
theorem dL_all_14 : decode cL_all 14 = .ok (.lstore_n 2, 1) := by decide +kernel
theorem dL_all_15 : decode cL_all 15 = .ok (.iconst 0, 1) := by decide +kernel
theorem dL_all_16 : decode cL_all 16 = .ok (.istore 4, 2) := by decide +kernel
theorem dL_all_18 : decode cL_all 18 = .ok (.iload 4, 2) := by decide +kernel
theorem dL_all_20 : decode cL_all 20 = .ok (.aload_n 1, 1) := by decide +kernel
theorem dL_all_21 : decode cL_all 21 = .ok (.iconst 2, 1) := by decide +kernel
theorem dL_all_22 : decode cL_all 22 = .ok (.iaload, 1) := by decide +kernel
theorem dL_all_23 : decode cL_all 23 = .ok (.if_icmp .ge 35, 3) := by decide +kernel
theorem dL_all_26 : decode cL_all 26 = .ok (.ldc2_w 96, 3) := by decide +kernel
theorem dL_all_29 : decode cL_all 29 = .ok (.lload_n 2, 1) := by decide +kernel
theorem dL_all_30 : decode cL_all 30 = .ok (.lmul, 1) := by decide +kernel
theorem dL_all_31 : decode cL_all 31 = .ok (.aload_n 0, 1) := by decide +kernel
theorem dL_all_32 : decode cL_all 32 = .ok (.iload 4, 2) := by decide +kernel
theorem dL_all_34 : decode cL_all 34 = .ok (.invokevirtual 59, 3) := by decide +kernel
theorem dL_all_37 : decode cL_all 37 = .ok (.i2l, 1) := by decide +kernel
theorem dL_all_38 : decode cL_all 38 = .ok (.ladd, 1) := by decide +kernel
theorem dL_all_39 : decode cL_all 39 = .ok (.ldc2_w 101, 3) := by decide +kernel
theorem dL_all_42 : decode cL_all 42 = .ok (.aload_n 0, 1) := by decide +kernel
theorem dL_all_43 : decode cL_all 43 = .ok (.iload 4, 2) := by decide +kernel
theorem dL_all_45 : decode cL_all 45 = .ok (.invokevirtual 62, 3) := by decide +kernel
theorem dL_all_48 : decode cL_all 48 = .ok (.i2l, 1) := by decide +kernel
theorem dL_all_49 : decode cL_all 49 = .ok (.lmul, 1) := by decide +kernel
theorem dL_all_50 : decode cL_all 50 = .ok (.ladd, 1) := by decide +kernel
theorem dL_all_51 : decode cL_all 51 = .ok (.lstore_n 2, 1) := by decide +kernel
theorem dL_all_52 : decode cL_all 52 = .ok (.iinc 4 1, 3) := by decide +kernel
theorem dL_all_55 : decode cL_all 55 = .ok (.goto (-37), 3) := by decide +kernel
theorem dL_all_58 : decode cL_all 58 = .ok (.iconst 0, 1) := by decide +kernel
theorem dL_all_59 : decode cL_all 59 = .ok (.istore 4, 2) := by decide +kernel
theorem dL_all_61 : decode cL_all 61 = .ok (.iload 4, 2) := by decide +kernel
theorem dL_all_63 : decode cL_all 63 = .ok (.aload_n 1, 1) := by decide +kernel
theorem dL_all_64 : decode cL_all 64 = .ok (.iconst 3, 1) := by decide +kernel
theorem dL_all_65 : decode cL_all 65 = .ok (.iaload, 1) := by decide +kernel
theorem dL_all_66 : decode cL_all 66 = .ok (.if_icmp .ge 47, 3) := by decide +kernel
theorem dL_all_69 : decode cL_all 69 = .ok (.ldc2_w 96, 3) := by decide +kernel
theorem dL_all_72 : decode cL_all 72 = .ok (.lload_n 2, 1) := by decide +kernel
theorem dL_all_73 : decode cL_all 73 = .ok (.lmul, 1) := by decide +kernel
theorem dL_all_74 : decode cL_all 74 = .ok (.aload_n 0, 1) := by decide +kernel
theorem dL_all_75 : decode cL_all 75 = .ok (.iload 4, 2) := by decide +kernel
theorem dL_all_77 : decode cL_all 77 = .ok (.invokevirtual 37, 3) := by decide +kernel
theorem dL_all_80 : decode cL_all 80 = .ok (.i2l, 1) := by decide +kernel
theorem dL_all_81 : decode cL_all 81 = .ok (.ladd, 1) := by decide +kernel
theorem dL_all_82 : decode cL_all 82 = .ok (.ldc2_w 101, 3) := by decide +kernel
theorem dL_all_85 : decode cL_all 85 = .ok (.aload_n 0, 1) := by decide +kernel
theorem dL_all_86 : decode cL_all 86 = .ok (.iload 4, 2) := by decide +kernel
theorem dL_all_88 : decode cL_all 88 = .ok (.invokevirtual 40, 3) := by decide +kernel
theorem dL_all_91 : decode cL_all 91 = .ok (.i2l, 1) := by decide +kernel
theorem dL_all_92 : decode cL_all 92 = .ok (.lmul, 1) := by decide +kernel
theorem dL_all_93 : decode cL_all 93 = .ok (.ladd, 1) := by decide +kernel
theorem dL_all_94 : decode cL_all 94 = .ok (.ldc2_w 103, 3) := by decide +kernel
theorem dL_all_97 : decode cL_all 97 = .ok (.aload_n 0, 1) := by decide +kernel
theorem dL_all_98 : decode cL_all 98 = .ok (.iload 4, 2) := by decide +kernel
theorem dL_all_100 : decode cL_all 100 = .ok (.invokevirtual 43, 3) := by decide +kernel
theorem dL_all_103 : decode cL_all 103 = .ok (.i2l, 1) := by decide +kernel
theorem dL_all_104 : decode cL_all 104 = .ok (.lmul, 1) := by decide +kernel
theorem dL_all_105 : decode cL_all 105 = .ok (.ladd, 1) := by decide +kernel
theorem dL_all_106 : decode cL_all 106 = .ok (.lstore_n 2, 1) := by decide +kernel
theorem dL_all_107 : decode cL_all 107 = .ok (.iinc 4 1, 3) := by decide +kernel
theorem dL_all_110 : decode cL_all 110 = .ok (.goto (-49), 3) := by decide +kernel
theorem dL_all_113 : decode cL_all 113 = .ok (.lload_n 2, 1) := by decide +kernel
theorem dL_all_114 : decode cL_all 114 = .ok (.lreturn, 1) := by decide +kernel
theorem dL_isRefused_0 : decode cL_isRefused 0 = .ok (.iload_n 2, 1) := by decide +kernel
theorem dL_isRefused_1 : decode cL_isRefused 1 = .ok (.iconst 2, 1) := by decide +kernel
theorem dL_isRefused_2 : decode cL_isRefused 2 = .ok (.irem, 1) := by decide +kernel
theorem dL_isRefused_3 : decode cL_isRefused 3 = .ok (.ifCond .ne 7, 3) := by decide +kernel
theorem dL_isRefused_6 : decode cL_isRefused 6 = .ok (.iconst 1, 1) := by decide +kernel
theorem dL_isRefused_7 : decode cL_isRefused 7 = .ok (.goto 4, 3) := by decide +kernel
theorem dL_isRefused_10 : decode cL_isRefused 10 = .ok (.iconst 0, 1) := by decide +kernel
theorem dL_isRefused_11 : decode cL_isRefused 11 = .ok (.istore_n 3, 1) := by decide +kernel
theorem dL_isRefused_12 : decode cL_isRefused 12 = .ok (.iload_n 3, 1) := by decide +kernel
theorem dL_isRefused_13 : decode cL_isRefused 13 = .ok (.ifCond .eq 13, 3) := by decide +kernel
theorem dL_isRefused_16 : decode cL_isRefused 16 = .ok (.bipush (-2), 2) := by decide +kernel
theorem dL_isRefused_18 : decode cL_isRefused 18 = .ok (.iload_n 2, 1) := by decide +kernel
theorem dL_isRefused_19 : decode cL_isRefused 19 = .ok (.bipush 30, 2) := by decide +kernel
theorem dL_isRefused_21 : decode cL_isRefused 21 = .ok (.irem, 1) := by decide +kernel
theorem dL_isRefused_22 : decode cL_isRefused 22 = .ok (.isub, 1) := by decide +kernel
theorem dL_isRefused_23 : decode cL_isRefused 23 = .ok (.goto 11, 3) := by decide +kernel
theorem dL_isRefused_26 : decode cL_isRefused 26 = .ok (.aload_n 1, 1) := by decide +kernel
theorem dL_isRefused_27 : decode cL_isRefused 27 = .ok (.iconst 3, 1) := by decide +kernel
theorem dL_isRefused_28 : decode cL_isRefused 28 = .ok (.iaload, 1) := by decide +kernel
theorem dL_isRefused_29 : decode cL_isRefused 29 = .ok (.iload_n 2, 1) := by decide +kernel
theorem dL_isRefused_30 : decode cL_isRefused 30 = .ok (.bipush 30, 2) := by decide +kernel
theorem dL_isRefused_32 : decode cL_isRefused 32 = .ok (.irem, 1) := by decide +kernel
theorem dL_isRefused_33 : decode cL_isRefused 33 = .ok (.iadd, 1) := by decide +kernel
theorem dL_isRefused_34 : decode cL_isRefused 34 = .ok (.istore 4, 2) := by decide +kernel
theorem dL_isRefused_36 : decode cL_isRefused 36 = .ok (.iload_n 3, 1) := by decide +kernel
theorem dL_isRefused_37 : decode cL_isRefused 37 = .ok (.ifCond .eq 12, 3) := by decide +kernel
theorem dL_isRefused_40 : decode cL_isRefused 40 = .ok (.iconst (-1), 1) := by decide +kernel
theorem dL_isRefused_41 : decode cL_isRefused 41 = .ok (.iload_n 2, 1) := by decide +kernel
theorem dL_isRefused_42 : decode cL_isRefused 42 = .ok (.bipush 30, 2) := by decide +kernel
theorem dL_isRefused_44 : decode cL_isRefused 44 = .ok (.irem, 1) := by decide +kernel
theorem dL_isRefused_45 : decode cL_isRefused 45 = .ok (.isub, 1) := by decide +kernel
theorem dL_isRefused_46 : decode cL_isRefused 46 = .ok (.goto 11, 3) := by decide +kernel
theorem dL_isRefused_49 : decode cL_isRefused 49 = .ok (.aload_n 1, 1) := by decide +kernel
theorem dL_isRefused_50 : decode cL_isRefused 50 = .ok (.iconst 2, 1) := by decide +kernel
theorem dL_isRefused_51 : decode cL_isRefused 51 = .ok (.iaload, 1) := by decide +kernel
theorem dL_isRefused_52 : decode cL_isRefused 52 = .ok (.iload_n 2, 1) := by decide +kernel
theorem dL_isRefused_53 : decode cL_isRefused 53 = .ok (.bipush 30, 2) := by decide +kernel
theorem dL_isRefused_55 : decode cL_isRefused 55 = .ok (.irem, 1) := by decide +kernel
theorem dL_isRefused_56 : decode cL_isRefused 56 = .ok (.iadd, 1) := by decide +kernel
theorem dL_isRefused_57 : decode cL_isRefused 57 = .ok (.istore 5, 2) := by decide +kernel
theorem dL_isRefused_59 : decode cL_isRefused 59 = .ok (.aload_n 0, 1) := by decide +kernel
theorem dL_isRefused_60 : decode cL_isRefused 60 = .ok (.aload_n 1, 1) := by decide +kernel
theorem dL_isRefused_61 : decode cL_isRefused 61 = .ok (.invokestatic 105, 3) := by decide +kernel
theorem dL_isRefused_64 : decode cL_isRefused 64 = .ok (.lstore 6, 2) := by decide +kernel
theorem dL_isRefused_66 : decode cL_isRefused 66 = .ok (.aload_n 0, 1) := by decide +kernel
theorem dL_isRefused_67 : decode cL_isRefused 67 = .ok (.iconst 0, 1) := by decide +kernel
theorem dL_isRefused_68 : decode cL_isRefused 68 = .ok (.iload_n 3, 1) := by decide +kernel
theorem dL_isRefused_69 : decode cL_isRefused 69 = .ok (.ifCond .eq 12, 3) := by decide +kernel
theorem dL_isRefused_72 : decode cL_isRefused 72 = .ok (.iconst 0, 1) := by decide +kernel
theorem dL_isRefused_73 : decode cL_isRefused 73 = .ok (.iload_n 2, 1) := by decide +kernel
theorem dL_isRefused_74 : decode cL_isRefused 74 = .ok (.bipush 30, 2) := by decide +kernel
theorem dL_isRefused_76 : decode cL_isRefused 76 = .ok (.irem, 1) := by decide +kernel
theorem dL_isRefused_77 : decode cL_isRefused 77 = .ok (.isub, 1) := by decide +kernel
theorem dL_isRefused_78 : decode cL_isRefused 78 = .ok (.goto 6, 3) := by decide +kernel
theorem dL_isRefused_81 : decode cL_isRefused 81 = .ok (.sipush 501, 3) := by decide +kernel
theorem dL_isRefused_84 : decode cL_isRefused 84 = .ok (.iconst 0, 1) := by decide +kernel
theorem dL_isRefused_85 : decode cL_isRefused 85 = .ok (.iconst 0, 1) := by decide +kernel
theorem dL_isRefused_86 : decode cL_isRefused 86 = .ok (.iconst 0, 1) := by decide +kernel
theorem dL_isRefused_87 : decode cL_isRefused 87 = .ok (.invokestatic 109, 3) := by decide +kernel
theorem dL_isRefused_90 : decode cL_isRefused 90 = .ok (.sipush (-1382), 3) := by decide +kernel
theorem dL_isRefused_93 : decode cL_isRefused 93 = .ok (.if_icmp .ne 279, 3) := by decide +kernel
theorem dL_isRefused_96 : decode cL_isRefused 96 = .ok (.aload_n 0, 1) := by decide +kernel
theorem dL_isRefused_97 : decode cL_isRefused 97 = .ok (.iconst 2, 1) := by decide +kernel
theorem dL_isRefused_98 : decode cL_isRefused 98 = .ok (.iload_n 3, 1) := by decide +kernel
theorem dL_isRefused_99 : decode cL_isRefused 99 = .ok (.ifCond .eq 12, 3) := by decide +kernel
theorem dL_isRefused_102 : decode cL_isRefused 102 = .ok (.iconst (-1), 1) := by decide +kernel
theorem dL_isRefused_103 : decode cL_isRefused 103 = .ok (.iload_n 2, 1) := by decide +kernel
theorem dL_isRefused_104 : decode cL_isRefused 104 = .ok (.bipush 30, 2) := by decide +kernel
theorem dL_isRefused_106 : decode cL_isRefused 106 = .ok (.irem, 1) := by decide +kernel
theorem dL_isRefused_107 : decode cL_isRefused 107 = .ok (.isub, 1) := by decide +kernel
theorem dL_isRefused_108 : decode cL_isRefused 108 = .ok (.goto 6, 3) := by decide +kernel
theorem dL_isRefused_111 : decode cL_isRefused 111 = .ok (.sipush 140, 3) := by decide +kernel
theorem dL_isRefused_114 : decode cL_isRefused 114 = .ok (.iconst 0, 1) := by decide +kernel
theorem dL_isRefused_115 : decode cL_isRefused 115 = .ok (.iconst 0, 1) := by decide +kernel
theorem dL_isRefused_116 : decode cL_isRefused 116 = .ok (.iconst 0, 1) := by decide +kernel
theorem dL_isRefused_117 : decode cL_isRefused 117 = .ok (.invokestatic 109, 3) := by decide +kernel
theorem dL_isRefused_120 : decode cL_isRefused 120 = .ok (.sipush (-1382), 3) := by decide +kernel
theorem dL_isRefused_123 : decode cL_isRefused 123 = .ok (.if_icmp .ne 249, 3) := by decide +kernel
theorem dL_isRefused_126 : decode cL_isRefused 126 = .ok (.aload_n 0, 1) := by decide +kernel
theorem dL_isRefused_127 : decode cL_isRefused 127 = .ok (.iconst 3, 1) := by decide +kernel
theorem dL_isRefused_128 : decode cL_isRefused 128 = .ok (.iload 4, 2) := by decide +kernel
theorem dL_isRefused_130 : decode cL_isRefused 130 = .ok (.iconst 0, 1) := by decide +kernel
theorem dL_isRefused_131 : decode cL_isRefused 131 = .ok (.iconst 0, 1) := by decide +kernel
theorem dL_isRefused_132 : decode cL_isRefused 132 = .ok (.iconst 0, 1) := by decide +kernel
theorem dL_isRefused_133 : decode cL_isRefused 133 = .ok (.invokestatic 109, 3) := by decide +kernel
theorem dL_isRefused_136 : decode cL_isRefused 136 = .ok (.sipush (-1381), 3) := by decide +kernel
theorem dL_isRefused_139 : decode cL_isRefused 139 = .ok (.if_icmp .ne 233, 3) := by decide +kernel
theorem dL_isRefused_142 : decode cL_isRefused 142 = .ok (.aload_n 0, 1) := by decide +kernel
theorem dL_isRefused_143 : decode cL_isRefused 143 = .ok (.iconst 3, 1) := by decide +kernel
theorem dL_isRefused_144 : decode cL_isRefused 144 = .ok (.iconst (-1), 1) := by decide +kernel
theorem dL_isRefused_145 : decode cL_isRefused 145 = .ok (.iload_n 3, 1) := by decide +kernel
theorem dL_isRefused_146 : decode cL_isRefused 146 = .ok (.ifCond .eq 12, 3) := by decide +kernel
theorem dL_isRefused_149 : decode cL_isRefused 149 = .ok (.iconst 0, 1) := by decide +kernel
theorem dL_isRefused_150 : decode cL_isRefused 150 = .ok (.iload_n 2, 1) := by decide +kernel
theorem dL_isRefused_151 : decode cL_isRefused 151 = .ok (.bipush 30, 2) := by decide +kernel
theorem dL_isRefused_153 : decode cL_isRefused 153 = .ok (.irem, 1) := by decide +kernel
theorem dL_isRefused_154 : decode cL_isRefused 154 = .ok (.isub, 1) := by decide +kernel
theorem dL_isRefused_155 : decode cL_isRefused 155 = .ok (.goto 5, 3) := by decide +kernel
theorem dL_isRefused_158 : decode cL_isRefused 158 = .ok (.bipush 100, 2) := by decide +kernel
theorem dL_isRefused_160 : decode cL_isRefused 160 = .ok (.iconst 0, 1) := by decide +kernel
theorem dL_isRefused_161 : decode cL_isRefused 161 = .ok (.iconst 0, 1) := by decide +kernel
theorem dL_isRefused_162 : decode cL_isRefused 162 = .ok (.invokestatic 109, 3) := by decide +kernel
theorem dL_isRefused_165 : decode cL_isRefused 165 = .ok (.sipush (-1382), 3) := by decide +kernel
theorem dL_isRefused_168 : decode cL_isRefused 168 = .ok (.if_icmp .ne 204, 3) := by decide +kernel
theorem dL_isRefused_171 : decode cL_isRefused 171 = .ok (.aload_n 0, 1) := by decide +kernel
theorem dL_isRefused_172 : decode cL_isRefused 172 = .ok (.iconst 3, 1) := by decide +kernel
theorem dL_isRefused_173 : decode cL_isRefused 173 = .ok (.iconst (-1), 1) := by decide +kernel
theorem dL_isRefused_174 : decode cL_isRefused 174 = .ok (.iconst 5, 1) := by decide +kernel
theorem dL_isRefused_175 : decode cL_isRefused 175 = .ok (.iload_n 3, 1) := by decide +kernel
theorem dL_isRefused_176 : decode cL_isRefused 176 = .ok (.ifCond .eq 7, 3) := by decide +kernel
theorem dL_isRefused_179 : decode cL_isRefused 179 = .ok (.iconst (-1), 1) := by decide +kernel
theorem dL_isRefused_180 : decode cL_isRefused 180 = .ok (.goto 11, 3) := by decide +kernel
theorem dL_isRefused_183 : decode cL_isRefused 183 = .ok (.sipush 729, 3) := by decide +kernel
theorem dL_isRefused_186 : decode cL_isRefused 186 = .ok (.iload_n 2, 1) := by decide +kernel
theorem dL_isRefused_187 : decode cL_isRefused 187 = .ok (.bipush 30, 2) := by decide +kernel
theorem dL_isRefused_189 : decode cL_isRefused 189 = .ok (.irem, 1) := by decide +kernel
theorem dL_isRefused_190 : decode cL_isRefused 190 = .ok (.iadd, 1) := by decide +kernel
theorem dL_isRefused_191 : decode cL_isRefused 191 = .ok (.iconst 0, 1) := by decide +kernel
theorem dL_isRefused_192 : decode cL_isRefused 192 = .ok (.invokestatic 109, 3) := by decide +kernel
theorem dL_isRefused_195 : decode cL_isRefused 195 = .ok (.sipush (-1382), 3) := by decide +kernel
theorem dL_isRefused_198 : decode cL_isRefused 198 = .ok (.if_icmp .ne 174, 3) := by decide +kernel
theorem dL_isRefused_201 : decode cL_isRefused 201 = .ok (.aload_n 0, 1) := by decide +kernel
theorem dL_isRefused_202 : decode cL_isRefused 202 = .ok (.iconst 3, 1) := by decide +kernel
theorem dL_isRefused_203 : decode cL_isRefused 203 = .ok (.iconst (-1), 1) := by decide +kernel
theorem dL_isRefused_204 : decode cL_isRefused 204 = .ok (.iconst 5, 1) := by decide +kernel
theorem dL_isRefused_205 : decode cL_isRefused 205 = .ok (.bipush 27, 2) := by decide +kernel
theorem dL_isRefused_207 : decode cL_isRefused 207 = .ok (.iconst 1, 1) := by decide +kernel
theorem dL_isRefused_208 : decode cL_isRefused 208 = .ok (.iload_n 2, 1) := by decide +kernel
theorem dL_isRefused_209 : decode cL_isRefused 209 = .ok (.bipush 26, 2) := by decide +kernel
theorem dL_isRefused_211 : decode cL_isRefused 211 = .ok (.irem, 1) := by decide +kernel
theorem dL_isRefused_212 : decode cL_isRefused 212 = .ok (.iadd, 1) := by decide +kernel
theorem dL_isRefused_213 : decode cL_isRefused 213 = .ok (.imul, 1) := by decide +kernel
theorem dL_isRefused_214 : decode cL_isRefused 214 = .ok (.iconst 0, 1) := by decide +kernel
theorem dL_isRefused_215 : decode cL_isRefused 215 = .ok (.invokestatic 109, 3) := by decide +kernel
theorem dL_isRefused_218 : decode cL_isRefused 218 = .ok (.sipush (-1382), 3) := by decide +kernel
theorem dL_isRefused_221 : decode cL_isRefused 221 = .ok (.if_icmp .ne 151, 3) := by decide +kernel
theorem dL_isRefused_224 : decode cL_isRefused 224 = .ok (.aload_n 0, 1) := by decide +kernel
theorem dL_isRefused_225 : decode cL_isRefused 225 = .ok (.iconst 4, 1) := by decide +kernel
theorem dL_isRefused_226 : decode cL_isRefused 226 = .ok (.iconst 1, 1) := by decide +kernel
theorem dL_isRefused_227 : decode cL_isRefused 227 = .ok (.iload 4, 2) := by decide +kernel
theorem dL_isRefused_229 : decode cL_isRefused 229 = .ok (.iconst 0, 1) := by decide +kernel
theorem dL_isRefused_230 : decode cL_isRefused 230 = .ok (.iconst 0, 1) := by decide +kernel
theorem dL_isRefused_231 : decode cL_isRefused 231 = .ok (.invokestatic 109, 3) := by decide +kernel
theorem dL_isRefused_234 : decode cL_isRefused 234 = .ok (.sipush (-1381), 3) := by decide +kernel
theorem dL_isRefused_237 : decode cL_isRefused 237 = .ok (.if_icmp .ne 135, 3) := by decide +kernel
theorem dL_isRefused_240 : decode cL_isRefused 240 = .ok (.aload_n 0, 1) := by decide +kernel
theorem dL_isRefused_241 : decode cL_isRefused 241 = .ok (.iconst 4, 1) := by decide +kernel
theorem dL_isRefused_242 : decode cL_isRefused 242 = .ok (.bipush 7, 2) := by decide +kernel
theorem dL_isRefused_244 : decode cL_isRefused 244 = .ok (.iload 5, 2) := by decide +kernel
theorem dL_isRefused_246 : decode cL_isRefused 246 = .ok (.iconst 0, 1) := by decide +kernel
theorem dL_isRefused_247 : decode cL_isRefused 247 = .ok (.iconst 0, 1) := by decide +kernel
theorem dL_isRefused_248 : decode cL_isRefused 248 = .ok (.invokestatic 109, 3) := by decide +kernel
theorem dL_isRefused_251 : decode cL_isRefused 251 = .ok (.sipush (-1381), 3) := by decide +kernel
theorem dL_isRefused_254 : decode cL_isRefused 254 = .ok (.if_icmp .ne 118, 3) := by decide +kernel
theorem dL_isRefused_257 : decode cL_isRefused 257 = .ok (.aload_n 0, 1) := by decide +kernel
theorem dL_isRefused_258 : decode cL_isRefused 258 = .ok (.iconst 5, 1) := by decide +kernel
theorem dL_isRefused_259 : decode cL_isRefused 259 = .ok (.iload_n 3, 1) := by decide +kernel
theorem dL_isRefused_260 : decode cL_isRefused 260 = .ok (.ifCond .eq 12, 3) := by decide +kernel
theorem dL_isRefused_263 : decode cL_isRefused 263 = .ok (.iconst (-1), 1) := by decide +kernel
theorem dL_isRefused_264 : decode cL_isRefused 264 = .ok (.iload_n 2, 1) := by decide +kernel
theorem dL_isRefused_265 : decode cL_isRefused 265 = .ok (.bipush 30, 2) := by decide +kernel
theorem dL_isRefused_267 : decode cL_isRefused 267 = .ok (.irem, 1) := by decide +kernel
theorem dL_isRefused_268 : decode cL_isRefused 268 = .ok (.isub, 1) := by decide +kernel
theorem dL_isRefused_269 : decode cL_isRefused 269 = .ok (.goto 6, 3) := by decide +kernel
theorem dL_isRefused_272 : decode cL_isRefused 272 = .ok (.sipush 5001, 3) := by decide +kernel
theorem dL_isRefused_275 : decode cL_isRefused 275 = .ok (.iconst 0, 1) := by decide +kernel
theorem dL_isRefused_276 : decode cL_isRefused 276 = .ok (.iconst 0, 1) := by decide +kernel
theorem dL_isRefused_277 : decode cL_isRefused 277 = .ok (.iconst 0, 1) := by decide +kernel
theorem dL_isRefused_278 : decode cL_isRefused 278 = .ok (.invokestatic 109, 3) := by decide +kernel
theorem dL_isRefused_281 : decode cL_isRefused 281 = .ok (.sipush (-1382), 3) := by decide +kernel
theorem dL_isRefused_284 : decode cL_isRefused 284 = .ok (.if_icmp .ne 88, 3) := by decide +kernel
theorem dL_isRefused_287 : decode cL_isRefused 287 = .ok (.aload_n 0, 1) := by decide +kernel
theorem dL_isRefused_288 : decode cL_isRefused 288 = .ok (.iconst 5, 1) := by decide +kernel
theorem dL_isRefused_289 : decode cL_isRefused 289 = .ok (.iconst 0, 1) := by decide +kernel
theorem dL_isRefused_290 : decode cL_isRefused 290 = .ok (.iload_n 3, 1) := by decide +kernel
theorem dL_isRefused_291 : decode cL_isRefused 291 = .ok (.ifCond .eq 7, 3) := by decide +kernel
theorem dL_isRefused_294 : decode cL_isRefused 294 = .ok (.iconst (-1), 1) := by decide +kernel
theorem dL_isRefused_295 : decode cL_isRefused 295 = .ok (.goto 13, 3) := by decide +kernel
theorem dL_isRefused_298 : decode cL_isRefused 298 = .ok (.aload_n 1, 1) := by decide +kernel
theorem dL_isRefused_299 : decode cL_isRefused 299 = .ok (.iconst 0, 1) := by decide +kernel
theorem dL_isRefused_300 : decode cL_isRefused 300 = .ok (.iaload, 1) := by decide +kernel
theorem dL_isRefused_301 : decode cL_isRefused 301 = .ok (.iconst 1, 1) := by decide +kernel
theorem dL_isRefused_302 : decode cL_isRefused 302 = .ok (.iadd, 1) := by decide +kernel
theorem dL_isRefused_303 : decode cL_isRefused 303 = .ok (.iload_n 2, 1) := by decide +kernel
theorem dL_isRefused_304 : decode cL_isRefused 304 = .ok (.bipush 30, 2) := by decide +kernel
theorem dL_isRefused_306 : decode cL_isRefused 306 = .ok (.irem, 1) := by decide +kernel
theorem dL_isRefused_307 : decode cL_isRefused 307 = .ok (.iadd, 1) := by decide +kernel
theorem dL_isRefused_308 : decode cL_isRefused 308 = .ok (.iconst 0, 1) := by decide +kernel
theorem dL_isRefused_309 : decode cL_isRefused 309 = .ok (.iconst 0, 1) := by decide +kernel
theorem dL_isRefused_310 : decode cL_isRefused 310 = .ok (.invokestatic 109, 3) := by decide +kernel
theorem dL_isRefused_313 : decode cL_isRefused 313 = .ok (.sipush (-1382), 3) := by decide +kernel
theorem dL_isRefused_316 : decode cL_isRefused 316 = .ok (.if_icmp .ne 56, 3) := by decide +kernel
theorem dL_isRefused_319 : decode cL_isRefused 319 = .ok (.aload_n 0, 1) := by decide +kernel
theorem dL_isRefused_320 : decode cL_isRefused 320 = .ok (.iconst 5, 1) := by decide +kernel
theorem dL_isRefused_321 : decode cL_isRefused 321 = .ok (.iconst 0, 1) := by decide +kernel
theorem dL_isRefused_322 : decode cL_isRefused 322 = .ok (.iconst 0, 1) := by decide +kernel
theorem dL_isRefused_323 : decode cL_isRefused 323 = .ok (.iload_n 3, 1) := by decide +kernel
theorem dL_isRefused_324 : decode cL_isRefused 324 = .ok (.ifCond .eq 12, 3) := by decide +kernel
theorem dL_isRefused_327 : decode cL_isRefused 327 = .ok (.iconst (-1), 1) := by decide +kernel
theorem dL_isRefused_328 : decode cL_isRefused 328 = .ok (.iload_n 2, 1) := by decide +kernel
theorem dL_isRefused_329 : decode cL_isRefused 329 = .ok (.bipush 30, 2) := by decide +kernel
theorem dL_isRefused_331 : decode cL_isRefused 331 = .ok (.irem, 1) := by decide +kernel
theorem dL_isRefused_332 : decode cL_isRefused 332 = .ok (.isub, 1) := by decide +kernel
theorem dL_isRefused_333 : decode cL_isRefused 333 = .ok (.goto 4, 3) := by decide +kernel
theorem dL_isRefused_336 : decode cL_isRefused 336 = .ok (.iconst 3, 1) := by decide +kernel
theorem dL_isRefused_337 : decode cL_isRefused 337 = .ok (.iconst 0, 1) := by decide +kernel
theorem dL_isRefused_338 : decode cL_isRefused 338 = .ok (.invokestatic 109, 3) := by decide +kernel
theorem dL_isRefused_341 : decode cL_isRefused 341 = .ok (.sipush (-1382), 3) := by decide +kernel
theorem dL_isRefused_344 : decode cL_isRefused 344 = .ok (.if_icmp .ne 28, 3) := by decide +kernel
theorem dL_isRefused_347 : decode cL_isRefused 347 = .ok (.aload_n 0, 1) := by decide +kernel
theorem dL_isRefused_348 : decode cL_isRefused 348 = .ok (.bipush 6, 2) := by decide +kernel
theorem dL_isRefused_350 : decode cL_isRefused 350 = .ok (.iconst (-1), 1) := by decide +kernel
theorem dL_isRefused_351 : decode cL_isRefused 351 = .ok (.iload_n 2, 1) := by decide +kernel
theorem dL_isRefused_352 : decode cL_isRefused 352 = .ok (.bipush 30, 2) := by decide +kernel
theorem dL_isRefused_354 : decode cL_isRefused 354 = .ok (.irem, 1) := by decide +kernel
theorem dL_isRefused_355 : decode cL_isRefused 355 = .ok (.isub, 1) := by decide +kernel
theorem dL_isRefused_356 : decode cL_isRefused 356 = .ok (.iconst 0, 1) := by decide +kernel
theorem dL_isRefused_357 : decode cL_isRefused 357 = .ok (.iconst 0, 1) := by decide +kernel
theorem dL_isRefused_358 : decode cL_isRefused 358 = .ok (.iconst 0, 1) := by decide +kernel
theorem dL_isRefused_359 : decode cL_isRefused 359 = .ok (.invokestatic 109, 3) := by decide +kernel
theorem dL_isRefused_362 : decode cL_isRefused 362 = .ok (.sipush (-1381), 3) := by decide +kernel
theorem dL_isRefused_365 : decode cL_isRefused 365 = .ok (.if_icmp .ne 7, 3) := by decide +kernel
theorem dL_isRefused_368 : decode cL_isRefused 368 = .ok (.iconst 1, 1) := by decide +kernel
theorem dL_isRefused_369 : decode cL_isRefused 369 = .ok (.goto 4, 3) := by decide +kernel
theorem dL_isRefused_372 : decode cL_isRefused 372 = .ok (.iconst 0, 1) := by decide +kernel
theorem dL_isRefused_373 : decode cL_isRefused 373 = .ok (.istore 8, 2) := by decide +kernel
theorem dL_isRefused_375 : decode cL_isRefused 375 = .ok (.bipush 7, 2) := by decide +kernel
theorem dL_isRefused_377 : decode cL_isRefused 377 = .ok (.istore 9, 2) := by decide +kernel
theorem dL_isRefused_379 : decode cL_isRefused 379 = .ok (.iload 9, 2) := by decide +kernel
theorem dL_isRefused_381 : decode cL_isRefused 381 = .ok (.bipush 14, 2) := by decide +kernel
theorem dL_isRefused_383 : decode cL_isRefused 383 = .ok (.if_icmp .ge 38, 3) := by decide +kernel
theorem dL_isRefused_386 : decode cL_isRefused 386 = .ok (.iload 8, 2) := by decide +kernel
theorem dL_isRefused_388 : decode cL_isRefused 388 = .ok (.ifCond .eq 33, 3) := by decide +kernel
theorem dL_isRefused_391 : decode cL_isRefused 391 = .ok (.aload_n 0, 1) := by decide +kernel
theorem dL_isRefused_392 : decode cL_isRefused 392 = .ok (.iload 9, 2) := by decide +kernel
theorem dL_isRefused_394 : decode cL_isRefused 394 = .ok (.iload 4, 2) := by decide +kernel
theorem dL_isRefused_396 : decode cL_isRefused 396 = .ok (.iconst 0, 1) := by decide +kernel
theorem dL_isRefused_397 : decode cL_isRefused 397 = .ok (.iconst 0, 1) := by decide +kernel
theorem dL_isRefused_398 : decode cL_isRefused 398 = .ok (.iconst 0, 1) := by decide +kernel
theorem dL_isRefused_399 : decode cL_isRefused 399 = .ok (.invokestatic 109, 3) := by decide +kernel
theorem dL_isRefused_402 : decode cL_isRefused 402 = .ok (.sipush (-1381), 3) := by decide +kernel
theorem dL_isRefused_405 : decode cL_isRefused 405 = .ok (.if_icmp .ne 7, 3) := by decide +kernel
theorem dL_isRefused_408 : decode cL_isRefused 408 = .ok (.iconst 1, 1) := by decide +kernel
theorem dL_isRefused_409 : decode cL_isRefused 409 = .ok (.goto 4, 3) := by decide +kernel
theorem dL_isRefused_412 : decode cL_isRefused 412 = .ok (.iconst 0, 1) := by decide +kernel
theorem dL_isRefused_413 : decode cL_isRefused 413 = .ok (.istore 8, 2) := by decide +kernel
theorem dL_isRefused_415 : decode cL_isRefused 415 = .ok (.iinc 9 1, 3) := by decide +kernel
theorem dL_isRefused_418 : decode cL_isRefused 418 = .ok (.goto (-39), 3) := by decide +kernel
theorem dL_isRefused_421 : decode cL_isRefused 421 = .ok (.iload 8, 2) := by decide +kernel
theorem dL_isRefused_423 : decode cL_isRefused 423 = .ok (.ifCond .eq 226, 3) := by decide +kernel
theorem dL_isRefused_426 : decode cL_isRefused 426 = .ok (.aload_n 0, 1) := by decide +kernel
theorem dL_isRefused_427 : decode cL_isRefused 427 = .ok (.bipush 14, 2) := by decide +kernel
theorem dL_isRefused_429 : decode cL_isRefused 429 = .ok (.iload 5, 2) := by decide +kernel
theorem dL_isRefused_431 : decode cL_isRefused 431 = .ok (.iconst 0, 1) := by decide +kernel
theorem dL_isRefused_432 : decode cL_isRefused 432 = .ok (.iconst 0, 1) := by decide +kernel
theorem dL_isRefused_433 : decode cL_isRefused 433 = .ok (.iconst 0, 1) := by decide +kernel
theorem dL_isRefused_434 : decode cL_isRefused 434 = .ok (.invokestatic 109, 3) := by decide +kernel
theorem dL_isRefused_437 : decode cL_isRefused 437 = .ok (.sipush (-1381), 3) := by decide +kernel
theorem dL_isRefused_440 : decode cL_isRefused 440 = .ok (.if_icmp .ne 209, 3) := by decide +kernel
theorem dL_isRefused_443 : decode cL_isRefused 443 = .ok (.aload_n 0, 1) := by decide +kernel
theorem dL_isRefused_444 : decode cL_isRefused 444 = .ok (.bipush 15, 2) := by decide +kernel
theorem dL_isRefused_446 : decode cL_isRefused 446 = .ok (.iload 5, 2) := by decide +kernel
theorem dL_isRefused_448 : decode cL_isRefused 448 = .ok (.iconst 0, 1) := by decide +kernel
theorem dL_isRefused_449 : decode cL_isRefused 449 = .ok (.iconst 0, 1) := by decide +kernel
theorem dL_isRefused_450 : decode cL_isRefused 450 = .ok (.iconst 0, 1) := by decide +kernel
theorem dL_isRefused_451 : decode cL_isRefused 451 = .ok (.invokestatic 109, 3) := by decide +kernel
theorem dL_isRefused_454 : decode cL_isRefused 454 = .ok (.sipush (-1381), 3) := by decide +kernel
theorem dL_isRefused_457 : decode cL_isRefused 457 = .ok (.if_icmp .ne 192, 3) := by decide +kernel
theorem dL_isRefused_460 : decode cL_isRefused 460 = .ok (.aload_n 0, 1) := by decide +kernel
theorem dL_isRefused_461 : decode cL_isRefused 461 = .ok (.iconst 0, 1) := by decide +kernel
theorem dL_isRefused_462 : decode cL_isRefused 462 = .ok (.iconst 2, 1) := by decide +kernel
theorem dL_isRefused_463 : decode cL_isRefused 463 = .ok (.iload 5, 2) := by decide +kernel
theorem dL_isRefused_465 : decode cL_isRefused 465 = .ok (.iconst 0, 1) := by decide +kernel
theorem dL_isRefused_466 : decode cL_isRefused 466 = .ok (.iconst 0, 1) := by decide +kernel
theorem dL_isRefused_467 : decode cL_isRefused 467 = .ok (.invokestatic 113, 3) := by decide +kernel
theorem dL_isRefused_470 : decode cL_isRefused 470 = .ok (.sipush (-1381), 3) := by decide +kernel
theorem dL_isRefused_473 : decode cL_isRefused 473 = .ok (.if_icmp .ne 176, 3) := by decide +kernel
theorem dL_isRefused_476 : decode cL_isRefused 476 = .ok (.aload_n 0, 1) := by decide +kernel
theorem dL_isRefused_477 : decode cL_isRefused 477 = .ok (.iconst 0, 1) := by decide +kernel
theorem dL_isRefused_478 : decode cL_isRefused 478 = .ok (.iload_n 3, 1) := by decide +kernel
theorem dL_isRefused_479 : decode cL_isRefused 479 = .ok (.ifCond .eq 12, 3) := by decide +kernel
theorem dL_isRefused_482 : decode cL_isRefused 482 = .ok (.iconst (-1), 1) := by decide +kernel
theorem dL_isRefused_483 : decode cL_isRefused 483 = .ok (.iload_n 2, 1) := by decide +kernel
theorem dL_isRefused_484 : decode cL_isRefused 484 = .ok (.bipush 30, 2) := by decide +kernel
theorem dL_isRefused_486 : decode cL_isRefused 486 = .ok (.irem, 1) := by decide +kernel
theorem dL_isRefused_487 : decode cL_isRefused 487 = .ok (.isub, 1) := by decide +kernel
theorem dL_isRefused_488 : decode cL_isRefused 488 = .ok (.goto 4, 3) := by decide +kernel
theorem dL_isRefused_491 : decode cL_isRefused 491 = .ok (.iconst 3, 1) := by decide +kernel
theorem dL_isRefused_492 : decode cL_isRefused 492 = .ok (.iconst 0, 1) := by decide +kernel
theorem dL_isRefused_493 : decode cL_isRefused 493 = .ok (.bipush 7, 2) := by decide +kernel
theorem dL_isRefused_495 : decode cL_isRefused 495 = .ok (.iconst (-1), 1) := by decide +kernel
theorem dL_isRefused_496 : decode cL_isRefused 496 = .ok (.invokestatic 113, 3) := by decide +kernel
theorem dL_isRefused_499 : decode cL_isRefused 499 = .ok (.sipush (-1382), 3) := by decide +kernel
theorem dL_isRefused_502 : decode cL_isRefused 502 = .ok (.if_icmp .ne 147, 3) := by decide +kernel
theorem dL_isRefused_505 : decode cL_isRefused 505 = .ok (.aload_n 0, 1) := by decide +kernel
theorem dL_isRefused_506 : decode cL_isRefused 506 = .ok (.iconst 0, 1) := by decide +kernel
theorem dL_isRefused_507 : decode cL_isRefused 507 = .ok (.iconst 0, 1) := by decide +kernel
theorem dL_isRefused_508 : decode cL_isRefused 508 = .ok (.iload_n 3, 1) := by decide +kernel
theorem dL_isRefused_509 : decode cL_isRefused 509 = .ok (.ifCond .eq 7, 3) := by decide +kernel
theorem dL_isRefused_512 : decode cL_isRefused 512 = .ok (.iconst (-1), 1) := by decide +kernel
theorem dL_isRefused_513 : decode cL_isRefused 513 = .ok (.goto 11, 3) := by decide +kernel
theorem dL_isRefused_516 : decode cL_isRefused 516 = .ok (.sipush 5001, 3) := by decide +kernel
theorem dL_isRefused_519 : decode cL_isRefused 519 = .ok (.iload_n 2, 1) := by decide +kernel
theorem dL_isRefused_520 : decode cL_isRefused 520 = .ok (.bipush 30, 2) := by decide +kernel
theorem dL_isRefused_522 : decode cL_isRefused 522 = .ok (.irem, 1) := by decide +kernel
theorem dL_isRefused_523 : decode cL_isRefused 523 = .ok (.iadd, 1) := by decide +kernel
theorem dL_isRefused_524 : decode cL_isRefused 524 = .ok (.bipush 7, 2) := by decide +kernel
theorem dL_isRefused_526 : decode cL_isRefused 526 = .ok (.iconst (-1), 1) := by decide +kernel
theorem dL_isRefused_527 : decode cL_isRefused 527 = .ok (.invokestatic 113, 3) := by decide +kernel
theorem dL_isRefused_530 : decode cL_isRefused 530 = .ok (.sipush (-1382), 3) := by decide +kernel
theorem dL_isRefused_533 : decode cL_isRefused 533 = .ok (.if_icmp .ne 116, 3) := by decide +kernel
theorem dL_isRefused_536 : decode cL_isRefused 536 = .ok (.aload_n 0, 1) := by decide +kernel
theorem dL_isRefused_537 : decode cL_isRefused 537 = .ok (.iconst 0, 1) := by decide +kernel
theorem dL_isRefused_538 : decode cL_isRefused 538 = .ok (.iconst 0, 1) := by decide +kernel
theorem dL_isRefused_539 : decode cL_isRefused 539 = .ok (.iconst 0, 1) := by decide +kernel
theorem dL_isRefused_540 : decode cL_isRefused 540 = .ok (.iload_n 3, 1) := by decide +kernel
theorem dL_isRefused_541 : decode cL_isRefused 541 = .ok (.ifCond .eq 12, 3) := by decide +kernel
theorem dL_isRefused_544 : decode cL_isRefused 544 = .ok (.iconst 0, 1) := by decide +kernel
theorem dL_isRefused_545 : decode cL_isRefused 545 = .ok (.iload_n 2, 1) := by decide +kernel
theorem dL_isRefused_546 : decode cL_isRefused 546 = .ok (.bipush 30, 2) := by decide +kernel
theorem dL_isRefused_548 : decode cL_isRefused 548 = .ok (.irem, 1) := by decide +kernel
theorem dL_isRefused_549 : decode cL_isRefused 549 = .ok (.isub, 1) := by decide +kernel
theorem dL_isRefused_550 : decode cL_isRefused 550 = .ok (.goto 5, 3) := by decide +kernel
theorem dL_isRefused_553 : decode cL_isRefused 553 = .ok (.bipush 8, 2) := by decide +kernel
theorem dL_isRefused_555 : decode cL_isRefused 555 = .ok (.iconst (-1), 1) := by decide +kernel
theorem dL_isRefused_556 : decode cL_isRefused 556 = .ok (.invokestatic 113, 3) := by decide +kernel
theorem dL_isRefused_559 : decode cL_isRefused 559 = .ok (.sipush (-1382), 3) := by decide +kernel
theorem dL_isRefused_562 : decode cL_isRefused 562 = .ok (.if_icmp .ne 87, 3) := by decide +kernel
theorem dL_isRefused_565 : decode cL_isRefused 565 = .ok (.aload_n 0, 1) := by decide +kernel
theorem dL_isRefused_566 : decode cL_isRefused 566 = .ok (.iconst 0, 1) := by decide +kernel
theorem dL_isRefused_567 : decode cL_isRefused 567 = .ok (.iconst 0, 1) := by decide +kernel
theorem dL_isRefused_568 : decode cL_isRefused 568 = .ok (.iconst 0, 1) := by decide +kernel
theorem dL_isRefused_569 : decode cL_isRefused 569 = .ok (.bipush 7, 2) := by decide +kernel
theorem dL_isRefused_571 : decode cL_isRefused 571 = .ok (.iload_n 3, 1) := by decide +kernel
theorem dL_isRefused_572 : decode cL_isRefused 572 = .ok (.ifCond .eq 13, 3) := by decide +kernel
theorem dL_isRefused_575 : decode cL_isRefused 575 = .ok (.bipush (-2), 2) := by decide +kernel
theorem dL_isRefused_577 : decode cL_isRefused 577 = .ok (.iload_n 2, 1) := by decide +kernel
theorem dL_isRefused_578 : decode cL_isRefused 578 = .ok (.bipush 30, 2) := by decide +kernel
theorem dL_isRefused_580 : decode cL_isRefused 580 = .ok (.irem, 1) := by decide +kernel
theorem dL_isRefused_581 : decode cL_isRefused 581 = .ok (.isub, 1) := by decide +kernel
theorem dL_isRefused_582 : decode cL_isRefused 582 = .ok (.goto 6, 3) := by decide +kernel
theorem dL_isRefused_585 : decode cL_isRefused 585 = .ok (.sipush 5001, 3) := by decide +kernel
theorem dL_isRefused_588 : decode cL_isRefused 588 = .ok (.invokestatic 113, 3) := by decide +kernel
theorem dL_isRefused_591 : decode cL_isRefused 591 = .ok (.sipush (-1382), 3) := by decide +kernel
theorem dL_isRefused_594 : decode cL_isRefused 594 = .ok (.if_icmp .ne 55, 3) := by decide +kernel
theorem dL_isRefused_597 : decode cL_isRefused 597 = .ok (.aload_n 0, 1) := by decide +kernel
theorem dL_isRefused_598 : decode cL_isRefused 598 = .ok (.iconst 1, 1) := by decide +kernel
theorem dL_isRefused_599 : decode cL_isRefused 599 = .ok (.iload 5, 2) := by decide +kernel
theorem dL_isRefused_601 : decode cL_isRefused 601 = .ok (.iconst (-1), 1) := by decide +kernel
theorem dL_isRefused_602 : decode cL_isRefused 602 = .ok (.iconst 0, 1) := by decide +kernel
theorem dL_isRefused_603 : decode cL_isRefused 603 = .ok (.iconst 0, 1) := by decide +kernel
theorem dL_isRefused_604 : decode cL_isRefused 604 = .ok (.invokestatic 113, 3) := by decide +kernel
theorem dL_isRefused_607 : decode cL_isRefused 607 = .ok (.sipush (-1381), 3) := by decide +kernel
theorem dL_isRefused_610 : decode cL_isRefused 610 = .ok (.if_icmp .ne 39, 3) := by decide +kernel
theorem dL_isRefused_613 : decode cL_isRefused 613 = .ok (.aload_n 0, 1) := by decide +kernel
theorem dL_isRefused_614 : decode cL_isRefused 614 = .ok (.iconst 2, 1) := by decide +kernel
theorem dL_isRefused_615 : decode cL_isRefused 615 = .ok (.iload 5, 2) := by decide +kernel
theorem dL_isRefused_617 : decode cL_isRefused 617 = .ok (.iconst (-1), 1) := by decide +kernel
theorem dL_isRefused_618 : decode cL_isRefused 618 = .ok (.iconst 0, 1) := by decide +kernel
theorem dL_isRefused_619 : decode cL_isRefused 619 = .ok (.iconst 0, 1) := by decide +kernel
theorem dL_isRefused_620 : decode cL_isRefused 620 = .ok (.invokestatic 113, 3) := by decide +kernel
theorem dL_isRefused_623 : decode cL_isRefused 623 = .ok (.sipush (-1381), 3) := by decide +kernel
theorem dL_isRefused_626 : decode cL_isRefused 626 = .ok (.if_icmp .ne 23, 3) := by decide +kernel
theorem dL_isRefused_629 : decode cL_isRefused 629 = .ok (.aload_n 0, 1) := by decide +kernel
theorem dL_isRefused_630 : decode cL_isRefused 630 = .ok (.iconst 3, 1) := by decide +kernel
theorem dL_isRefused_631 : decode cL_isRefused 631 = .ok (.iload 5, 2) := by decide +kernel
theorem dL_isRefused_633 : decode cL_isRefused 633 = .ok (.iconst (-1), 1) := by decide +kernel
theorem dL_isRefused_634 : decode cL_isRefused 634 = .ok (.iconst 0, 1) := by decide +kernel
theorem dL_isRefused_635 : decode cL_isRefused 635 = .ok (.iconst 0, 1) := by decide +kernel
theorem dL_isRefused_636 : decode cL_isRefused 636 = .ok (.invokestatic 113, 3) := by decide +kernel
theorem dL_isRefused_639 : decode cL_isRefused 639 = .ok (.sipush (-1381), 3) := by decide +kernel
theorem dL_isRefused_642 : decode cL_isRefused 642 = .ok (.if_icmp .ne 7, 3) := by decide +kernel
theorem dL_isRefused_645 : decode cL_isRefused 645 = .ok (.iconst 1, 1) := by decide +kernel
theorem dL_isRefused_646 : decode cL_isRefused 646 = .ok (.goto 4, 3) := by decide +kernel
theorem dL_isRefused_649 : decode cL_isRefused 649 = .ok (.iconst 0, 1) := by decide +kernel
theorem dL_isRefused_650 : decode cL_isRefused 650 = .ok (.istore 8, 2) := by decide +kernel
theorem dL_isRefused_652 : decode cL_isRefused 652 = .ok (.iload 8, 2) := by decide +kernel
theorem dL_isRefused_654 : decode cL_isRefused 654 = .ok (.ifCond .eq 215, 3) := by decide +kernel
theorem dL_isRefused_657 : decode cL_isRefused 657 = .ok (.aload_n 1, 1) := by decide +kernel
theorem dL_isRefused_658 : decode cL_isRefused 658 = .ok (.iconst 2, 1) := by decide +kernel
theorem dL_isRefused_659 : decode cL_isRefused 659 = .ok (.iaload, 1) := by decide +kernel
theorem dL_isRefused_660 : decode cL_isRefused 660 = .ok (.ifCond .eq 154, 3) := by decide +kernel
theorem dL_isRefused_663 : decode cL_isRefused 663 = .ok (.aload_n 0, 1) := by decide +kernel
theorem dL_isRefused_664 : decode cL_isRefused 664 = .ok (.iconst 1, 1) := by decide +kernel
theorem dL_isRefused_665 : decode cL_isRefused 665 = .ok (.iconst 0, 1) := by decide +kernel
theorem dL_isRefused_666 : decode cL_isRefused 666 = .ok (.iload_n 3, 1) := by decide +kernel
theorem dL_isRefused_667 : decode cL_isRefused 667 = .ok (.ifCond .eq 12, 3) := by decide +kernel
theorem dL_isRefused_670 : decode cL_isRefused 670 = .ok (.iconst (-1), 1) := by decide +kernel
theorem dL_isRefused_671 : decode cL_isRefused 671 = .ok (.iload_n 2, 1) := by decide +kernel
theorem dL_isRefused_672 : decode cL_isRefused 672 = .ok (.bipush 30, 2) := by decide +kernel
theorem dL_isRefused_674 : decode cL_isRefused 674 = .ok (.irem, 1) := by decide +kernel
theorem dL_isRefused_675 : decode cL_isRefused 675 = .ok (.isub, 1) := by decide +kernel
theorem dL_isRefused_676 : decode cL_isRefused 676 = .ok (.goto 6, 3) := by decide +kernel
theorem dL_isRefused_679 : decode cL_isRefused 679 = .ok (.sipush 5001, 3) := by decide +kernel
theorem dL_isRefused_682 : decode cL_isRefused 682 = .ok (.iconst 0, 1) := by decide +kernel
theorem dL_isRefused_683 : decode cL_isRefused 683 = .ok (.iconst 0, 1) := by decide +kernel
theorem dL_isRefused_684 : decode cL_isRefused 684 = .ok (.invokestatic 113, 3) := by decide +kernel
theorem dL_isRefused_687 : decode cL_isRefused 687 = .ok (.sipush (-1382), 3) := by decide +kernel
theorem dL_isRefused_690 : decode cL_isRefused 690 = .ok (.if_icmp .ne 179, 3) := by decide +kernel
theorem dL_isRefused_693 : decode cL_isRefused 693 = .ok (.aload_n 0, 1) := by decide +kernel
theorem dL_isRefused_694 : decode cL_isRefused 694 = .ok (.iconst 2, 1) := by decide +kernel
theorem dL_isRefused_695 : decode cL_isRefused 695 = .ok (.iconst 0, 1) := by decide +kernel
theorem dL_isRefused_696 : decode cL_isRefused 696 = .ok (.iload_n 3, 1) := by decide +kernel
theorem dL_isRefused_697 : decode cL_isRefused 697 = .ok (.ifCond .eq 7, 3) := by decide +kernel
theorem dL_isRefused_700 : decode cL_isRefused 700 = .ok (.iconst (-1), 1) := by decide +kernel
theorem dL_isRefused_701 : decode cL_isRefused 701 = .ok (.goto 11, 3) := by decide +kernel
theorem dL_isRefused_704 : decode cL_isRefused 704 = .ok (.sipush 5001, 3) := by decide +kernel
theorem dL_isRefused_707 : decode cL_isRefused 707 = .ok (.iload_n 2, 1) := by decide +kernel
theorem dL_isRefused_708 : decode cL_isRefused 708 = .ok (.bipush 30, 2) := by decide +kernel
theorem dL_isRefused_710 : decode cL_isRefused 710 = .ok (.irem, 1) := by decide +kernel
theorem dL_isRefused_711 : decode cL_isRefused 711 = .ok (.iadd, 1) := by decide +kernel
theorem dL_isRefused_712 : decode cL_isRefused 712 = .ok (.iconst 0, 1) := by decide +kernel
theorem dL_isRefused_713 : decode cL_isRefused 713 = .ok (.iconst 0, 1) := by decide +kernel
theorem dL_isRefused_714 : decode cL_isRefused 714 = .ok (.invokestatic 113, 3) := by decide +kernel
theorem dL_isRefused_717 : decode cL_isRefused 717 = .ok (.sipush (-1382), 3) := by decide +kernel
theorem dL_isRefused_720 : decode cL_isRefused 720 = .ok (.if_icmp .ne 149, 3) := by decide +kernel
theorem dL_isRefused_723 : decode cL_isRefused 723 = .ok (.aload_n 0, 1) := by decide +kernel
theorem dL_isRefused_724 : decode cL_isRefused 724 = .ok (.iconst 3, 1) := by decide +kernel
theorem dL_isRefused_725 : decode cL_isRefused 725 = .ok (.iconst 0, 1) := by decide +kernel
theorem dL_isRefused_726 : decode cL_isRefused 726 = .ok (.iload_n 3, 1) := by decide +kernel
theorem dL_isRefused_727 : decode cL_isRefused 727 = .ok (.ifCond .eq 12, 3) := by decide +kernel
theorem dL_isRefused_730 : decode cL_isRefused 730 = .ok (.iconst (-1), 1) := by decide +kernel
theorem dL_isRefused_731 : decode cL_isRefused 731 = .ok (.iload_n 2, 1) := by decide +kernel
theorem dL_isRefused_732 : decode cL_isRefused 732 = .ok (.bipush 30, 2) := by decide +kernel
theorem dL_isRefused_734 : decode cL_isRefused 734 = .ok (.irem, 1) := by decide +kernel
theorem dL_isRefused_735 : decode cL_isRefused 735 = .ok (.isub, 1) := by decide +kernel
theorem dL_isRefused_736 : decode cL_isRefused 736 = .ok (.goto 6, 3) := by decide +kernel
theorem dL_isRefused_739 : decode cL_isRefused 739 = .ok (.sipush 5001, 3) := by decide +kernel
theorem dL_isRefused_742 : decode cL_isRefused 742 = .ok (.sipush 5001, 3) := by decide +kernel
theorem dL_isRefused_745 : decode cL_isRefused 745 = .ok (.iconst 0, 1) := by decide +kernel
theorem dL_isRefused_746 : decode cL_isRefused 746 = .ok (.invokestatic 113, 3) := by decide +kernel
theorem dL_isRefused_749 : decode cL_isRefused 749 = .ok (.sipush (-1382), 3) := by decide +kernel
theorem dL_isRefused_752 : decode cL_isRefused 752 = .ok (.if_icmp .ne 117, 3) := by decide +kernel
theorem dL_isRefused_755 : decode cL_isRefused 755 = .ok (.aload_n 0, 1) := by decide +kernel
theorem dL_isRefused_756 : decode cL_isRefused 756 = .ok (.iconst 3, 1) := by decide +kernel
theorem dL_isRefused_757 : decode cL_isRefused 757 = .ok (.iconst 0, 1) := by decide +kernel
theorem dL_isRefused_758 : decode cL_isRefused 758 = .ok (.iconst 5, 1) := by decide +kernel
theorem dL_isRefused_759 : decode cL_isRefused 759 = .ok (.iload_n 3, 1) := by decide +kernel
theorem dL_isRefused_760 : decode cL_isRefused 760 = .ok (.ifCond .eq 12, 3) := by decide +kernel
theorem dL_isRefused_763 : decode cL_isRefused 763 = .ok (.iconst 4, 1) := by decide +kernel
theorem dL_isRefused_764 : decode cL_isRefused 764 = .ok (.iload_n 2, 1) := by decide +kernel
theorem dL_isRefused_765 : decode cL_isRefused 765 = .ok (.bipush 30, 2) := by decide +kernel
theorem dL_isRefused_767 : decode cL_isRefused 767 = .ok (.irem, 1) := by decide +kernel
theorem dL_isRefused_768 : decode cL_isRefused 768 = .ok (.isub, 1) := by decide +kernel
theorem dL_isRefused_769 : decode cL_isRefused 769 = .ok (.goto 6, 3) := by decide +kernel
theorem dL_isRefused_772 : decode cL_isRefused 772 = .ok (.sipush 5001, 3) := by decide +kernel
theorem dL_isRefused_775 : decode cL_isRefused 775 = .ok (.iconst 0, 1) := by decide +kernel
theorem dL_isRefused_776 : decode cL_isRefused 776 = .ok (.invokestatic 113, 3) := by decide +kernel
theorem dL_isRefused_779 : decode cL_isRefused 779 = .ok (.sipush (-1382), 3) := by decide +kernel
theorem dL_isRefused_782 : decode cL_isRefused 782 = .ok (.if_icmp .ne 87, 3) := by decide +kernel
theorem dL_isRefused_785 : decode cL_isRefused 785 = .ok (.aload_n 0, 1) := by decide +kernel
theorem dL_isRefused_786 : decode cL_isRefused 786 = .ok (.iconst 4, 1) := by decide +kernel
theorem dL_isRefused_787 : decode cL_isRefused 787 = .ok (.iload_n 3, 1) := by decide +kernel
theorem dL_isRefused_788 : decode cL_isRefused 788 = .ok (.ifCond .eq 12, 3) := by decide +kernel
theorem dL_isRefused_791 : decode cL_isRefused 791 = .ok (.iconst 0, 1) := by decide +kernel
theorem dL_isRefused_792 : decode cL_isRefused 792 = .ok (.iload_n 2, 1) := by decide +kernel
theorem dL_isRefused_793 : decode cL_isRefused 793 = .ok (.bipush 30, 2) := by decide +kernel
theorem dL_isRefused_795 : decode cL_isRefused 795 = .ok (.irem, 1) := by decide +kernel
theorem dL_isRefused_796 : decode cL_isRefused 796 = .ok (.isub, 1) := by decide +kernel
theorem dL_isRefused_797 : decode cL_isRefused 797 = .ok (.goto 5, 3) := by decide +kernel
theorem dL_isRefused_800 : decode cL_isRefused 800 = .ok (.bipush 8, 2) := by decide +kernel
theorem dL_isRefused_802 : decode cL_isRefused 802 = .ok (.iconst 0, 1) := by decide +kernel
theorem dL_isRefused_803 : decode cL_isRefused 803 = .ok (.iconst 0, 1) := by decide +kernel
theorem dL_isRefused_804 : decode cL_isRefused 804 = .ok (.iconst 0, 1) := by decide +kernel
theorem dL_isRefused_805 : decode cL_isRefused 805 = .ok (.invokestatic 109, 3) := by decide +kernel
theorem dL_isRefused_808 : decode cL_isRefused 808 = .ok (.sipush (-1382), 3) := by decide +kernel
theorem dL_isRefused_811 : decode cL_isRefused 811 = .ok (.if_icmp .ne 58, 3) := by decide +kernel
theorem dL_isRefused_814 : decode cL_isRefused 814 = .ok (.aload_n 1, 1) := by decide +kernel
theorem dL_isRefused_815 : decode cL_isRefused 815 = .ok (.iconst 3, 1) := by decide +kernel
theorem dL_isRefused_816 : decode cL_isRefused 816 = .ok (.iaload, 1) := by decide +kernel
theorem dL_isRefused_817 : decode cL_isRefused 817 = .ok (.ifCond .eq 48, 3) := by decide +kernel
theorem dL_isRefused_820 : decode cL_isRefused 820 = .ok (.aload_n 0, 1) := by decide +kernel
