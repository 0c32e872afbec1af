theorem dL_dice_0 : decode cL_dice 0 = .ok (.iload_n 1, 1) := by decide +kernel
theorem dL_dice_1 : decode cL_dice 1 = .ok (.aload_n 0, 1) := by decide +kernel
theorem dL_dice_2 : decode cL_dice 2 = .ok (.arraylength, 1) := by decide +kernel
theorem dL_dice_3 : decode cL_dice 3 = .ok (.if_icmp .ge 9, 3) := by decide +kernel
theorem dL_dice_6 : decode cL_dice 6 = .ok (.aload_n 0, 1) := by decide +kernel
theorem dL_dice_7 : decode cL_dice 7 = .ok (.iload_n 1, 1) := by decide +kernel
theorem dL_dice_8 : decode cL_dice 8 = .ok (.iaload, 1) := by decide +kernel
theorem dL_dice_9 : decode cL_dice 9 = .ok (.goto 23, 3) := by decide +kernel
theorem dL_dice_12 : decode cL_dice 12 = .ok (.ldc 7, 2) := by decide +kernel
theorem dL_dice_14 : decode cL_dice 14 = .ok (.iload_n 1, 1) := by decide +kernel
theorem dL_dice_15 : decode cL_dice 15 = .ok (.sipush 587, 3) := by decide +kernel
theorem dL_dice_18 : decode cL_dice 18 = .ok (.iadd, 1) := by decide +kernel
theorem dL_dice_19 : decode cL_dice 19 = .ok (.imul, 1) := by decide +kernel
theorem dL_dice_20 : decode cL_dice 20 = .ok (.sipush 933, 3) := by decide +kernel
theorem dL_dice_23 : decode cL_dice 23 = .ok (.iload_n 1, 1) := by decide +kernel
theorem dL_dice_24 : decode cL_dice 24 = .ok (.imul, 1) := by decide +kernel
theorem dL_dice_25 : decode cL_dice 25 = .ok (.iload_n 1, 1) := by decide +kernel
theorem dL_dice_26 : decode cL_dice 26 = .ok (.imul, 1) := by decide +kernel
theorem dL_dice_27 : decode cL_dice 27 = .ok (.iadd, 1) := by decide +kernel
theorem dL_dice_28 : decode cL_dice 28 = .ok (.sipush 443, 3) := by decide +kernel
theorem dL_dice_31 : decode cL_dice 31 = .ok (.iadd, 1) := by decide +kernel
theorem dL_dice_32 : decode cL_dice 32 = .ok (.ldc 8, 2) := by decide +kernel
theorem dL_dice_34 : decode cL_dice 34 = .ok (.iand, 1) := by decide +kernel
theorem dL_dice_35 : decode cL_dice 35 = .ok (.ireturn, 1) := by decide +kernel
theorem dL_act_0 : decode cL_act 0 = .ok (.iload_n 1, 1) := by decide +kernel
theorem dL_act_1 : decode cL_act 1 = .ok (.ifCond .ne 11, 3) := by decide +kernel
theorem dL_act_4 : decode cL_act 4 = .ok (.aload_n 0, 1) := by decide +kernel
theorem dL_act_5 : decode cL_act 5 = .ok (.invokevirtual 9, 3) := by decide +kernel
theorem dL_act_8 : decode cL_act 8 = .ok (.i2l, 1) := by decide +kernel
theorem dL_act_9 : decode cL_act 9 = .ok (.goto 219, 3) := by decide +kernel
theorem dL_act_12 : decode cL_act 12 = .ok (.iload_n 1, 1) := by decide +kernel
theorem dL_act_13 : decode cL_act 13 = .ok (.iconst 1, 1) := by decide +kernel
theorem dL_act_14 : decode cL_act 14 = .ok (.if_icmp .ne 31, 3) := by decide +kernel
theorem dL_act_17 : decode cL_act 17 = .ok (.aload_n 0, 1) := by decide +kernel
theorem dL_act_18 : decode cL_act 18 = .ok (.iload_n 2, 1) := by decide +kernel
theorem dL_act_19 : decode cL_act 19 = .ok (.iload_n 3, 1) := by decide +kernel
theorem dL_act_20 : decode cL_act 20 = .ok (.iload 4, 2) := by decide +kernel
theorem dL_act_22 : decode cL_act 22 = .ok (.iconst 1, 1) := by decide +kernel
theorem dL_act_23 : decode cL_act 23 = .ok (.if_icmp .ne 7, 3) := by decide +kernel
theorem dL_act_26 : decode cL_act 26 = .ok (.iconst 1, 1) := by decide +kernel
theorem dL_act_27 : decode cL_act 27 = .ok (.goto 4, 3) := by decide +kernel
theorem dL_act_30 : decode cL_act 30 = .ok (.iconst 0, 1) := by decide +kernel
theorem dL_act_31 : decode cL_act 31 = .ok (.invokevirtual 15, 3) := by decide +kernel
theorem dL_act_34 : decode cL_act 34 = .ok (.ifCond .eq 7, 3) := by decide +kernel
theorem dL_act_37 : decode cL_act 37 = .ok (.lconst 1, 1) := by decide +kernel
theorem dL_act_38 : decode cL_act 38 = .ok (.goto 190, 3) := by decide +kernel
theorem dL_act_41 : decode cL_act 41 = .ok (.lconst 0, 1) := by decide +kernel
theorem dL_act_42 : decode cL_act 42 = .ok (.goto 186, 3) := by decide +kernel
theorem dL_act_45 : decode cL_act 45 = .ok (.iload_n 1, 1) := by decide +kernel
theorem dL_act_46 : decode cL_act 46 = .ok (.iconst 2, 1) := by decide +kernel
theorem dL_act_47 : decode cL_act 47 = .ok (.if_icmp .ne 17, 3) := by decide +kernel
theorem dL_act_50 : decode cL_act 50 = .ok (.aload_n 0, 1) := by decide +kernel
theorem dL_act_51 : decode cL_act 51 = .ok (.iload_n 2, 1) := by decide +kernel
theorem dL_act_52 : decode cL_act 52 = .ok (.iload_n 3, 1) := by decide +kernel
theorem dL_act_53 : decode cL_act 53 = .ok (.iload 4, 2) := by decide +kernel
theorem dL_act_55 : decode cL_act 55 = .ok (.iload 5, 2) := by decide +kernel
theorem dL_act_57 : decode cL_act 57 = .ok (.invokevirtual 19, 3) := by decide +kernel
theorem dL_act_60 : decode cL_act 60 = .ok (.i2l, 1) := by decide +kernel
theorem dL_act_61 : decode cL_act 61 = .ok (.goto 167, 3) := by decide +kernel
theorem dL_act_64 : decode cL_act 64 = .ok (.iload_n 1, 1) := by decide +kernel
theorem dL_act_65 : decode cL_act 65 = .ok (.iconst 3, 1) := by decide +kernel
theorem dL_act_66 : decode cL_act 66 = .ok (.if_icmp .ne 29, 3) := by decide +kernel
theorem dL_act_69 : decode cL_act 69 = .ok (.aload_n 0, 1) := by decide +kernel
theorem dL_act_70 : decode cL_act 70 = .ok (.iload_n 2, 1) := by decide +kernel
theorem dL_act_71 : decode cL_act 71 = .ok (.iload_n 3, 1) := by decide +kernel
theorem dL_act_72 : decode cL_act 72 = .ok (.iconst 1, 1) := by decide +kernel
theorem dL_act_73 : decode cL_act 73 = .ok (.if_icmp .ne 7, 3) := by decide +kernel
theorem dL_act_76 : decode cL_act 76 = .ok (.iconst 1, 1) := by decide +kernel
theorem dL_act_77 : decode cL_act 77 = .ok (.goto 4, 3) := by decide +kernel
theorem dL_act_80 : decode cL_act 80 = .ok (.iconst 0, 1) := by decide +kernel
theorem dL_act_81 : decode cL_act 81 = .ok (.invokevirtual 23, 3) := by decide +kernel
theorem dL_act_84 : decode cL_act 84 = .ok (.ifCond .eq 7, 3) := by decide +kernel
theorem dL_act_87 : decode cL_act 87 = .ok (.lconst 1, 1) := by decide +kernel
theorem dL_act_88 : decode cL_act 88 = .ok (.goto 140, 3) := by decide +kernel
theorem dL_act_91 : decode cL_act 91 = .ok (.lconst 0, 1) := by decide +kernel
theorem dL_act_92 : decode cL_act 92 = .ok (.goto 136, 3) := by decide +kernel
theorem dL_act_95 : decode cL_act 95 = .ok (.iload_n 1, 1) := by decide +kernel
theorem dL_act_96 : decode cL_act 96 = .ok (.iconst 4, 1) := by decide +kernel
theorem dL_act_97 : decode cL_act 97 = .ok (.if_icmp .ne 12, 3) := by decide +kernel
theorem dL_act_100 : decode cL_act 100 = .ok (.aload_n 0, 1) := by decide +kernel
theorem dL_act_101 : decode cL_act 101 = .ok (.iload_n 2, 1) := by decide +kernel
theorem dL_act_102 : decode cL_act 102 = .ok (.invokevirtual 27, 3) := by decide +kernel
theorem dL_act_105 : decode cL_act 105 = .ok (.i2l, 1) := by decide +kernel
theorem dL_act_106 : decode cL_act 106 = .ok (.goto 122, 3) := by decide +kernel
theorem dL_act_109 : decode cL_act 109 = .ok (.iload_n 1, 1) := by decide +kernel
theorem dL_act_110 : decode cL_act 110 = .ok (.iconst 5, 1) := by decide +kernel
theorem dL_act_111 : decode cL_act 111 = .ok (.if_icmp .ne 12, 3) := by decide +kernel
theorem dL_act_114 : decode cL_act 114 = .ok (.aload_n 0, 1) := by decide +kernel
theorem dL_act_115 : decode cL_act 115 = .ok (.iload_n 2, 1) := by decide +kernel
theorem dL_act_116 : decode cL_act 116 = .ok (.invokevirtual 31, 3) := by decide +kernel
theorem dL_act_119 : decode cL_act 119 = .ok (.i2l, 1) := by decide +kernel
theorem dL_act_120 : decode cL_act 120 = .ok (.goto 108, 3) := by decide +kernel
theorem dL_act_123 : decode cL_act 123 = .ok (.iload_n 1, 1) := by decide +kernel
theorem dL_act_124 : decode cL_act 124 = .ok (.bipush 6, 2) := by decide +kernel
theorem dL_act_126 : decode cL_act 126 = .ok (.if_icmp .ne 11, 3) := by decide +kernel
theorem dL_act_129 : decode cL_act 129 = .ok (.aload_n 0, 1) := by decide +kernel
theorem dL_act_130 : decode cL_act 130 = .ok (.iload_n 2, 1) := by decide +kernel
theorem dL_act_131 : decode cL_act 131 = .ok (.invokevirtual 34, 3) := by decide +kernel
theorem dL_act_134 : decode cL_act 134 = .ok (.goto 94, 3) := by decide +kernel
theorem dL_act_137 : decode cL_act 137 = .ok (.iload_n 1, 1) := by decide +kernel
theorem dL_act_138 : decode cL_act 138 = .ok (.bipush 7, 2) := by decide +kernel
theorem dL_act_140 : decode cL_act 140 = .ok (.if_icmp .ne 11, 3) := by decide +kernel
theorem dL_act_143 : decode cL_act 143 = .ok (.aload_n 0, 1) := by decide +kernel
theorem dL_act_144 : decode cL_act 144 = .ok (.iload_n 2, 1) := by decide +kernel
theorem dL_act_145 : decode cL_act 145 = .ok (.invokevirtual 38, 3) := by decide +kernel
theorem dL_act_148 : decode cL_act 148 = .ok (.goto 80, 3) := by decide +kernel
theorem dL_act_151 : decode cL_act 151 = .ok (.iload_n 1, 1) := by decide +kernel
theorem dL_act_152 : decode cL_act 152 = .ok (.bipush 8, 2) := by decide +kernel
theorem dL_act_154 : decode cL_act 154 = .ok (.if_icmp .ne 11, 3) := by decide +kernel
theorem dL_act_157 : decode cL_act 157 = .ok (.aload_n 0, 1) := by decide +kernel
theorem dL_act_158 : decode cL_act 158 = .ok (.iload_n 2, 1) := by decide +kernel
theorem dL_act_159 : decode cL_act 159 = .ok (.invokevirtual 41, 3) := by decide +kernel
theorem dL_act_162 : decode cL_act 162 = .ok (.goto 66, 3) := by decide +kernel
theorem dL_act_165 : decode cL_act 165 = .ok (.iload_n 1, 1) := by decide +kernel
theorem dL_act_166 : decode cL_act 166 = .ok (.bipush 9, 2) := by decide +kernel
theorem dL_act_168 : decode cL_act 168 = .ok (.if_icmp .ne 11, 3) := by decide +kernel
theorem dL_act_171 : decode cL_act 171 = .ok (.aload_n 0, 1) := by decide +kernel
theorem dL_act_172 : decode cL_act 172 = .ok (.iload_n 2, 1) := by decide +kernel
theorem dL_act_173 : decode cL_act 173 = .ok (.invokevirtual 44, 3) := by decide +kernel
theorem dL_act_176 : decode cL_act 176 = .ok (.goto 52, 3) := by decide +kernel
theorem dL_act_179 : decode cL_act 179 = .ok (.iload_n 1, 1) := by decide +kernel
theorem dL_act_180 : decode cL_act 180 = .ok (.bipush 10, 2) := by decide +kernel
theorem dL_act_182 : decode cL_act 182 = .ok (.if_icmp .ne 12, 3) := by decide +kernel
theorem dL_act_185 : decode cL_act 185 = .ok (.aload_n 0, 1) := by decide +kernel
theorem dL_act_186 : decode cL_act 186 = .ok (.iload_n 2, 1) := by decide +kernel
theorem dL_act_187 : decode cL_act 187 = .ok (.invokevirtual 47, 3) := by decide +kernel
theorem dL_act_190 : decode cL_act 190 = .ok (.i2l, 1) := by decide +kernel
theorem dL_act_191 : decode cL_act 191 = .ok (.goto 37, 3) := by decide +kernel
theorem dL_act_194 : decode cL_act 194 = .ok (.iload_n 1, 1) := by decide +kernel
theorem dL_act_195 : decode cL_act 195 = .ok (.bipush 11, 2) := by decide +kernel
theorem dL_act_197 : decode cL_act 197 = .ok (.if_icmp .ne 12, 3) := by decide +kernel
theorem dL_act_200 : decode cL_act 200 = .ok (.aload_n 0, 1) := by decide +kernel
theorem dL_act_201 : decode cL_act 201 = .ok (.iload_n 2, 1) := by decide +kernel
theorem dL_act_202 : decode cL_act 202 = .ok (.invokevirtual 50, 3) := by decide +kernel
theorem dL_act_205 : decode cL_act 205 = .ok (.i2l, 1) := by decide +kernel
theorem dL_act_206 : decode cL_act 206 = .ok (.goto 22, 3) := by decide +kernel
theorem dL_act_209 : decode cL_act 209 = .ok (.iload_n 1, 1) := by decide +kernel
theorem dL_act_210 : decode cL_act 210 = .ok (.bipush 12, 2) := by decide +kernel
theorem dL_act_212 : decode cL_act 212 = .ok (.if_icmp .ne 11, 3) := by decide +kernel
theorem dL_act_215 : decode cL_act 215 = .ok (.aload_n 0, 1) := by decide +kernel
theorem dL_act_216 : decode cL_act 216 = .ok (.iload_n 2, 1) := by decide +kernel
theorem dL_act_217 : decode cL_act 217 = .ok (.invokevirtual 53, 3) := by decide +kernel
theorem dL_act_220 : decode cL_act 220 = .ok (.goto 8, 3) := by decide +kernel
theorem dL_act_223 : decode cL_act 223 = .ok (.aload_n 0, 1) := by decide +kernel
theorem dL_act_224 : decode cL_act 224 = .ok (.iload_n 2, 1) := by decide +kernel
theorem dL_act_225 : decode cL_act 225 = .ok (.invokevirtual 56, 3) := by decide +kernel
theorem dL_act_228 : decode cL_act 228 = .ok (.lreturn, 1) := by decide +kernel
theorem dL_act_229 : decode cL_act 229 = .ok (.astore 6, 2) := by decide +kernel
theorem dL_act_231 : decode cL_act 231 = .ok (.ldc2_w 61, 3) := by decide +kernel
theorem dL_act_234 : decode cL_act 234 = .ok (.lreturn, 1) := by decide +kernel
theorem dL_act_235 : decode cL_act 235 = .ok (.astore 6, 2) := by decide +kernel
theorem dL_act_237 : decode cL_act 237 = .ok (.ldc2_w 65, 3) := by decide +kernel
theorem dL_act_240 : decode cL_act 240 = .ok (.lreturn, 1) := by decide +kernel
theorem dL_act_241 : decode cL_act 241 = .ok (.astore 6, 2) := by decide +kernel
theorem dL_act_243 : decode cL_act 243 = .ok (.ldc2_w 69, 3) := by decide +kernel
theorem dL_act_246 : decode cL_act 246 = .ok (.lreturn, 1) := by decide +kernel
theorem dL_all_0 : decode cL_all 0 = .ok (.aload_n 0, 1) := by decide +kernel
theorem dL_all_1 : decode cL_all 1 = .ok (.invokevirtual 71, 3) := by decide +kernel
theorem dL_all_4 : decode cL_all 4 = .ok (.i2l, 1) := by decide +kernel
theorem dL_all_5 : decode cL_all 5 = .ok (.ldc2_w 74, 3) := by decide +kernel
theorem dL_all_8 : decode cL_all 8 = .ok (.aload_n 0, 1) := by decide +kernel
theorem dL_all_9 : decode cL_all 9 = .ok (.invokevirtual 76, 3) := by decide +kernel
theorem dL_all_12 : decode cL_all 12 = .ok (.i2l, 1) := by decide +kernel
theorem dL_all_13 : decode cL_all 13 = .ok (.lmul, 1) := by decide +kernel
theorem dL_all_14 : decode cL_all 14 = .ok (.ladd, 1) := by decide +kernel
theorem dL_all_15 : decode cL_all 15 = .ok (.ldc2_w 79, 3) := by decide +kernel
theorem dL_all_18 : decode cL_all 18 = .ok (.aload_n 0, 1) := by decide +kernel
theorem dL_all_19 : decode cL_all 19 = .ok (.invokevirtual 81, 3) := by decide +kernel
theorem dL_all_22 : decode cL_all 22 = .ok (.i2l, 1) := by decide +kernel
theorem dL_all_23 : decode cL_all 23 = .ok (.lmul, 1) := by decide +kernel
theorem dL_all_24 : decode cL_all 24 = .ok (.ladd, 1) := by decide +kernel
theorem dL_all_25 : decode cL_all 25 = .ok (.lstore_n 2, 1) := by decide +kernel
theorem dL_all_26 : decode cL_all 26 = .ok (.iconst 0, 1) := by decide +kernel
theorem dL_all_27 : decode cL_all 27 = .ok (.istore 4, 2) := by decide +kernel
theorem dL_all_29 : decode cL_all 29 = .ok (.iload 4, 2) := by decide +kernel
theorem dL_all_31 : decode cL_all 31 = .ok (.aload_n 1, 1) := by decide +kernel
theorem dL_all_32 : decode cL_all 32 = .ok (.iconst 0, 1) := by decide +kernel
theorem dL_all_33 : decode cL_all 33 = .ok (.iaload, 1) := by decide +kernel
theorem dL_all_34 : decode cL_all 34 = .ok (.if_icmp .ge 33, 3) := by decide +kernel
theorem dL_all_37 : decode cL_all 37 = .ok (.ldc2_w 74, 3) := by decide +kernel
theorem dL_all_40 : decode cL_all 40 = .ok (.lload_n 2, 1) := by decide +kernel
theorem dL_all_41 : decode cL_all 41 = .ok (.lmul, 1) := by decide +kernel
theorem dL_all_42 : decode cL_all 42 = .ok (.aload_n 0, 1) := by decide +kernel
theorem dL_all_43 : decode cL_all 43 = .ok (.iload 4, 2) := by decide +kernel
theorem dL_all_45 : decode cL_all 45 = .ok (.invokevirtual 34, 3) := by decide +kernel
theorem dL_all_48 : decode cL_all 48 = .ok (.ladd, 1) := by decide +kernel
theorem dL_all_49 : decode cL_all 49 = .ok (.ldc2_w 79, 3) := by decide +kernel
theorem dL_all_52 : decode cL_all 52 = .ok (.aload_n 0, 1) := by decide +kernel
theorem dL_all_53 : decode cL_all 53 = .ok (.iload 4, 2) := by decide +kernel
theorem dL_all_55 : decode cL_all 55 = .ok (.invokevirtual 56, 3) := by decide +kernel
theorem dL_all_58 : decode cL_all 58 = .ok (.lmul, 1) := by decide +kernel
theorem dL_all_59 : decode cL_all 59 = .ok (.ladd, 1) := by decide +kernel
theorem dL_all_60 : decode cL_all 60 = .ok (.lstore_n 2, 1) := by decide +kernel
theorem dL_all_61 : decode cL_all 61 = .ok (.iinc 4 1, 3) := by decide +kernel
theorem dL_all_64 : decode cL_all 64 = .ok (.goto (-35), 3) := by decide +kernel
theorem dL_all_67 : decode cL_all 67 = .ok (.iconst 0, 1) := by decide +kernel
theorem dL_all_68 : decode cL_all 68 = .ok (.istore 4, 2) := by decide +kernel
theorem dL_all_70 : decode cL_all 70 = .ok (.iload 4, 2) := by decide +kernel
theorem dL_all_72 : decode cL_all 72 = .ok (.aload_n 1, 1) := by decide +kernel
theorem dL_all_73 : decode cL_all 73 = .ok (.iconst 1, 1) := by decide +kernel
theorem dL_all_74 : decode cL_all 74 = .ok (.iaload, 1) := by decide +kernel
theorem dL_all_75 : decode cL_all 75 = .ok (.if_icmp .ge 43, 3) := by decide +kernel
theorem dL_all_78 : decode cL_all 78 = .ok (.ldc2_w 74, 3) := by decide +kernel
theorem dL_all_81 : decode cL_all 81 = .ok (.lload_n 2, 1) := by decide +kernel
theorem dL_all_82 : decode cL_all 82 = .ok (.lmul, 1) := by decide +kernel
theorem dL_all_83 : decode cL_all 83 = .ok (.aload_n 0, 1) := by decide +kernel
theorem dL_all_84 : decode cL_all 84 = .ok (.bipush 9, 2) := by decide +kernel
theorem dL_all_86 : decode cL_all 86 = .ok (.iload 4, 2) := by decide +kernel
theorem dL_all_88 : decode cL_all 88 = .ok (.iconst 0, 1) := by decide +kernel
theorem dL_all_89 : decode cL_all 89 = .ok (.iconst 0, 1) := by decide +kernel
theorem dL_all_90 : decode cL_all 90 = .ok (.iconst 0, 1) := by decide +kernel
theorem dL_all_91 : decode cL_all 91 = .ok (.invokestatic 84, 3) := by decide +kernel
theorem dL_all_94 : decode cL_all 94 = .ok (.ladd, 1) := by decide +kernel
theorem dL_all_95 : decode cL_all 95 = .ok (.ldc2_w 90, 3) := by decide +kernel
theorem dL_all_98 : decode cL_all 98 = .ok (.aload_n 0, 1) := by decide +kernel
theorem dL_all_99 : decode cL_all 99 = .ok (.bipush 10, 2) := by decide +kernel
theorem dL_all_101 : decode cL_all 101 = .ok (.iload 4, 2) := by decide +kernel
theorem dL_all_103 : decode cL_all 103 = .ok (.iconst 0, 1) := by decide +kernel
theorem dL_all_104 : decode cL_all 104 = .ok (.iconst 0, 1) := by decide +kernel
theorem dL_all_105 : decode cL_all 105 = .ok (.iconst 0, 1) := by decide +kernel
theorem dL_all_106 : decode cL_all 106 = .ok (.invokestatic 84, 3) := by decide +kernel
theorem dL_all_109 : decode cL_all 109 = .ok (.lmul, 1) := by decide +kernel
theorem dL_all_110 : decode cL_all 110 = .ok (.ladd, 1) := by decide +kernel
theorem dL_all_111 : decode cL_all 111 = .ok (.lstore_n 2, 1) := by decide +kernel
theorem dL_all_112 : decode cL_all 112 = .ok (.iinc 4 1, 3) := by decide +kernel
theorem dL_all_115 : decode cL_all 115 = .ok (.goto (-45), 3) := by decide +kernel
theorem dL_all_118 : decode cL_all 118 = .ok (.lload_n 2, 1) := by decide +kernel
theorem dL_all_119 : decode cL_all 119 = .ok (.lreturn, 1) := by decide +kernel
