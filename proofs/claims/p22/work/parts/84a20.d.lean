theorem dL_areSound_0 : decode cL_areSound 0 = .ok (.aload_n 0, 1) := by decide +kernel
theorem dL_areSound_1 : decode cL_areSound 1 = .ok (.invokevirtual 71, 3) := by decide +kernel
theorem dL_areSound_4 : decode cL_areSound 4 = .ok (.aload_n 1, 1) := by decide +kernel
theorem dL_areSound_5 : decode cL_areSound 5 = .ok (.iconst 3, 1) := by decide +kernel
theorem dL_areSound_6 : decode cL_areSound 6 = .ok (.iaload, 1) := by decide +kernel
theorem dL_areSound_7 : decode cL_areSound 7 = .ok (.if_icmp .ne 7, 3) := by decide +kernel
theorem dL_areSound_10 : decode cL_areSound 10 = .ok (.iconst 1, 1) := by decide +kernel
theorem dL_areSound_11 : decode cL_areSound 11 = .ok (.goto 4, 3) := by decide +kernel
theorem dL_areSound_14 : decode cL_areSound 14 = .ok (.iconst 0, 1) := by decide +kernel
theorem dL_areSound_15 : decode cL_areSound 15 = .ok (.istore 5, 2) := by decide +kernel
theorem dL_areSound_17 : decode cL_areSound 17 = .ok (.aload_n 0, 1) := by decide +kernel
theorem dL_areSound_18 : decode cL_areSound 18 = .ok (.invokevirtual 76, 3) := by decide +kernel
theorem dL_areSound_21 : decode cL_areSound 21 = .ok (.istore 6, 2) := by decide +kernel
theorem dL_areSound_23 : decode cL_areSound 23 = .ok (.iconst 0, 1) := by decide +kernel
theorem dL_areSound_24 : decode cL_areSound 24 = .ok (.istore 7, 2) := by decide +kernel
theorem dL_areSound_26 : decode cL_areSound 26 = .ok (.lconst 0, 1) := by decide +kernel
theorem dL_areSound_27 : decode cL_areSound 27 = .ok (.lstore 8, 2) := by decide +kernel
theorem dL_areSound_29 : decode cL_areSound 29 = .ok (.lconst 0, 1) := by decide +kernel
theorem dL_areSound_30 : decode cL_areSound 30 = .ok (.lstore 10, 2) := by decide +kernel
theorem dL_areSound_32 : decode cL_areSound 32 = .ok (.iconst 0, 1) := by decide +kernel
theorem dL_areSound_33 : decode cL_areSound 33 = .ok (.istore 12, 2) := by decide +kernel
theorem dL_areSound_35 : decode cL_areSound 35 = .ok (.iload 12, 2) := by decide +kernel
theorem dL_areSound_37 : decode cL_areSound 37 = .ok (.aload_n 1, 1) := by decide +kernel
theorem dL_areSound_38 : decode cL_areSound 38 = .ok (.iconst 0, 1) := by decide +kernel
theorem dL_areSound_39 : decode cL_areSound 39 = .ok (.iaload, 1) := by decide +kernel
theorem dL_areSound_40 : decode cL_areSound 40 = .ok (.if_icmp .ge 245, 3) := by decide +kernel
theorem dL_areSound_43 : decode cL_areSound 43 = .ok (.iload 5, 2) := by decide +kernel
theorem dL_areSound_45 : decode cL_areSound 45 = .ok (.ifCond .eq 240, 3) := by decide +kernel
theorem dL_areSound_48 : decode cL_areSound 48 = .ok (.aload_n 0, 1) := by decide +kernel
theorem dL_areSound_49 : decode cL_areSound 49 = .ok (.iload 12, 2) := by decide +kernel
theorem dL_areSound_51 : decode cL_areSound 51 = .ok (.invokevirtual 34, 3) := by decide +kernel
theorem dL_areSound_54 : decode cL_areSound 54 = .ok (.lstore 13, 2) := by decide +kernel
theorem dL_areSound_56 : decode cL_areSound 56 = .ok (.lload 8, 2) := by decide +kernel
theorem dL_areSound_58 : decode cL_areSound 58 = .ok (.aload_n 0, 1) := by decide +kernel
theorem dL_areSound_59 : decode cL_areSound 59 = .ok (.iload 12, 2) := by decide +kernel
theorem dL_areSound_61 : decode cL_areSound 61 = .ok (.invokevirtual 41, 3) := by decide +kernel
theorem dL_areSound_64 : decode cL_areSound 64 = .ok (.ladd, 1) := by decide +kernel
theorem dL_areSound_65 : decode cL_areSound 65 = .ok (.lstore 8, 2) := by decide +kernel
theorem dL_areSound_67 : decode cL_areSound 67 = .ok (.iconst 1, 1) := by decide +kernel
theorem dL_areSound_68 : decode cL_areSound 68 = .ok (.istore 15, 2) := by decide +kernel
theorem dL_areSound_70 : decode cL_areSound 70 = .ok (.iconst 0, 1) := by decide +kernel
theorem dL_areSound_71 : decode cL_areSound 71 = .ok (.istore 16, 2) := by decide +kernel
theorem dL_areSound_73 : decode cL_areSound 73 = .ok (.iload 16, 2) := by decide +kernel
theorem dL_areSound_75 : decode cL_areSound 75 = .ok (.aload_n 1, 1) := by decide +kernel
theorem dL_areSound_76 : decode cL_areSound 76 = .ok (.iconst 1, 1) := by decide +kernel
theorem dL_areSound_77 : decode cL_areSound 77 = .ok (.iaload, 1) := by decide +kernel
theorem dL_areSound_78 : decode cL_areSound 78 = .ok (.if_icmp .ge 88, 3) := by decide +kernel
theorem dL_areSound_81 : decode cL_areSound 81 = .ok (.aload_n 3, 1) := by decide +kernel
theorem dL_areSound_82 : decode cL_areSound 82 = .ok (.iconst 5, 1) := by decide +kernel
theorem dL_areSound_83 : decode cL_areSound 83 = .ok (.iload 16, 2) := by decide +kernel
theorem dL_areSound_85 : decode cL_areSound 85 = .ok (.imul, 1) := by decide +kernel
theorem dL_areSound_86 : decode cL_areSound 86 = .ok (.iaload, 1) := by decide +kernel
theorem dL_areSound_87 : decode cL_areSound 87 = .ok (.iload 12, 2) := by decide +kernel
theorem dL_areSound_89 : decode cL_areSound 89 = .ok (.if_icmp .ne 14, 3) := by decide +kernel
theorem dL_areSound_92 : decode cL_areSound 92 = .ok (.aload_n 3, 1) := by decide +kernel
theorem dL_areSound_93 : decode cL_areSound 93 = .ok (.iconst 5, 1) := by decide +kernel
theorem dL_areSound_94 : decode cL_areSound 94 = .ok (.iload 16, 2) := by decide +kernel
theorem dL_areSound_96 : decode cL_areSound 96 = .ok (.imul, 1) := by decide +kernel
theorem dL_areSound_97 : decode cL_areSound 97 = .ok (.iconst 1, 1) := by decide +kernel
theorem dL_areSound_98 : decode cL_areSound 98 = .ok (.iadd, 1) := by decide +kernel
theorem dL_areSound_99 : decode cL_areSound 99 = .ok (.iaload, 1) := by decide +kernel
theorem dL_areSound_100 : decode cL_areSound 100 = .ok (.goto 27, 3) := by decide +kernel
theorem dL_areSound_103 : decode cL_areSound 103 = .ok (.aload_n 3, 1) := by decide +kernel
theorem dL_areSound_104 : decode cL_areSound 104 = .ok (.iconst 5, 1) := by decide +kernel
theorem dL_areSound_105 : decode cL_areSound 105 = .ok (.iload 16, 2) := by decide +kernel
theorem dL_areSound_107 : decode cL_areSound 107 = .ok (.imul, 1) := by decide +kernel
theorem dL_areSound_108 : decode cL_areSound 108 = .ok (.iconst 1, 1) := by decide +kernel
theorem dL_areSound_109 : decode cL_areSound 109 = .ok (.iadd, 1) := by decide +kernel
theorem dL_areSound_110 : decode cL_areSound 110 = .ok (.iaload, 1) := by decide +kernel
theorem dL_areSound_111 : decode cL_areSound 111 = .ok (.iload 12, 2) := by decide +kernel
theorem dL_areSound_113 : decode cL_areSound 113 = .ok (.if_icmp .ne 12, 3) := by decide +kernel
theorem dL_areSound_116 : decode cL_areSound 116 = .ok (.aload_n 3, 1) := by decide +kernel
theorem dL_areSound_117 : decode cL_areSound 117 = .ok (.iconst 5, 1) := by decide +kernel
theorem dL_areSound_118 : decode cL_areSound 118 = .ok (.iload 16, 2) := by decide +kernel
theorem dL_areSound_120 : decode cL_areSound 120 = .ok (.imul, 1) := by decide +kernel
theorem dL_areSound_121 : decode cL_areSound 121 = .ok (.iaload, 1) := by decide +kernel
theorem dL_areSound_122 : decode cL_areSound 122 = .ok (.goto 5, 3) := by decide +kernel
theorem dL_areSound_125 : decode cL_areSound 125 = .ok (.iload 12, 2) := by decide +kernel
theorem dL_areSound_127 : decode cL_areSound 127 = .ok (.istore 17, 2) := by decide +kernel
theorem dL_areSound_129 : decode cL_areSound 129 = .ok (.iload 15, 2) := by decide +kernel
theorem dL_areSound_131 : decode cL_areSound 131 = .ok (.ifCond .eq 26, 3) := by decide +kernel
theorem dL_areSound_134 : decode cL_areSound 134 = .ok (.aload_n 3, 1) := by decide +kernel
theorem dL_areSound_135 : decode cL_areSound 135 = .ok (.iconst 5, 1) := by decide +kernel
theorem dL_areSound_136 : decode cL_areSound 136 = .ok (.iload 16, 2) := by decide +kernel
theorem dL_areSound_138 : decode cL_areSound 138 = .ok (.imul, 1) := by decide +kernel
theorem dL_areSound_139 : decode cL_areSound 139 = .ok (.iconst 4, 1) := by decide +kernel
theorem dL_areSound_140 : decode cL_areSound 140 = .ok (.iadd, 1) := by decide +kernel
theorem dL_areSound_141 : decode cL_areSound 141 = .ok (.iaload, 1) := by decide +kernel
theorem dL_areSound_142 : decode cL_areSound 142 = .ok (.iconst 1, 1) := by decide +kernel
theorem dL_areSound_143 : decode cL_areSound 143 = .ok (.if_icmp .eq 10, 3) := by decide +kernel
theorem dL_areSound_146 : decode cL_areSound 146 = .ok (.iload 17, 2) := by decide +kernel
theorem dL_areSound_148 : decode cL_areSound 148 = .ok (.iload 12, 2) := by decide +kernel
theorem dL_areSound_150 : decode cL_areSound 150 = .ok (.if_icmp .ne 7, 3) := by decide +kernel
theorem dL_areSound_153 : decode cL_areSound 153 = .ok (.iconst 1, 1) := by decide +kernel
theorem dL_areSound_154 : decode cL_areSound 154 = .ok (.goto 4, 3) := by decide +kernel
theorem dL_areSound_157 : decode cL_areSound 157 = .ok (.iconst 0, 1) := by decide +kernel
theorem dL_areSound_158 : decode cL_areSound 158 = .ok (.istore 15, 2) := by decide +kernel
theorem dL_areSound_160 : decode cL_areSound 160 = .ok (.iinc 16 1, 3) := by decide +kernel
theorem dL_areSound_163 : decode cL_areSound 163 = .ok (.goto (-90), 3) := by decide +kernel
theorem dL_areSound_166 : decode cL_areSound 166 = .ok (.aload_n 0, 1) := by decide +kernel
theorem dL_areSound_167 : decode cL_areSound 167 = .ok (.iload 12, 2) := by decide +kernel
theorem dL_areSound_169 : decode cL_areSound 169 = .ok (.invokevirtual 56, 3) := by decide +kernel
theorem dL_areSound_172 : decode cL_areSound 172 = .ok (.lconst 0, 1) := by decide +kernel
theorem dL_areSound_173 : decode cL_areSound 173 = .ok (.lcmp, 1) := by decide +kernel
theorem dL_areSound_174 : decode cL_areSound 174 = .ok (.ifCond .le 102, 3) := by decide +kernel
theorem dL_areSound_177 : decode cL_areSound 177 = .ok (.iload 15, 2) := by decide +kernel
theorem dL_areSound_179 : decode cL_areSound 179 = .ok (.ifCond .eq 44, 3) := by decide +kernel
theorem dL_areSound_182 : decode cL_areSound 182 = .ok (.lload 13, 2) := by decide +kernel
theorem dL_areSound_184 : decode cL_areSound 184 = .ok (.ldc2_w 98, 3) := by decide +kernel
theorem dL_areSound_187 : decode cL_areSound 187 = .ok (.aload_n 2, 1) := by decide +kernel
theorem dL_areSound_188 : decode cL_areSound 188 = .ok (.iconst 2, 1) := by decide +kernel
theorem dL_areSound_189 : decode cL_areSound 189 = .ok (.iload 12, 2) := by decide +kernel
theorem dL_areSound_191 : decode cL_areSound 191 = .ok (.imul, 1) := by decide +kernel
theorem dL_areSound_192 : decode cL_areSound 192 = .ok (.iconst 1, 1) := by decide +kernel
theorem dL_areSound_193 : decode cL_areSound 193 = .ok (.iadd, 1) := by decide +kernel
theorem dL_areSound_194 : decode cL_areSound 194 = .ok (.iaload, 1) := by decide +kernel
theorem dL_areSound_195 : decode cL_areSound 195 = .ok (.i2l, 1) := by decide +kernel
theorem dL_areSound_196 : decode cL_areSound 196 = .ok (.lmul, 1) := by decide +kernel
theorem dL_areSound_197 : decode cL_areSound 197 = .ok (.lcmp, 1) := by decide +kernel
theorem dL_areSound_198 : decode cL_areSound 198 = .ok (.ifCond .ne 78, 3) := by decide +kernel
theorem dL_areSound_201 : decode cL_areSound 201 = .ok (.aload_n 0, 1) := by decide +kernel
theorem dL_areSound_202 : decode cL_areSound 202 = .ok (.iload 12, 2) := by decide +kernel
theorem dL_areSound_204 : decode cL_areSound 204 = .ok (.invokevirtual 56, 3) := by decide +kernel
theorem dL_areSound_207 : decode cL_areSound 207 = .ok (.lconst 1, 1) := by decide +kernel
theorem dL_areSound_208 : decode cL_areSound 208 = .ok (.lcmp, 1) := by decide +kernel
theorem dL_areSound_209 : decode cL_areSound 209 = .ok (.ifCond .ne 67, 3) := by decide +kernel
theorem dL_areSound_212 : decode cL_areSound 212 = .ok (.aload_n 0, 1) := by decide +kernel
theorem dL_areSound_213 : decode cL_areSound 213 = .ok (.iload 12, 2) := by decide +kernel
theorem dL_areSound_215 : decode cL_areSound 215 = .ok (.invokevirtual 41, 3) := by decide +kernel
theorem dL_areSound_218 : decode cL_areSound 218 = .ok (.lconst 0, 1) := by decide +kernel
theorem dL_areSound_219 : decode cL_areSound 219 = .ok (.lcmp, 1) := by decide +kernel
theorem dL_areSound_220 : decode cL_areSound 220 = .ok (.ifCond .ne 56, 3) := by decide +kernel
theorem dL_areSound_223 : decode cL_areSound 223 = .ok (.iload 12, 2) := by decide +kernel
theorem dL_areSound_225 : decode cL_areSound 225 = .ok (.iload 4, 2) := by decide +kernel
theorem dL_areSound_227 : decode cL_areSound 227 = .ok (.aload_n 1, 1) := by decide +kernel
theorem dL_areSound_228 : decode cL_areSound 228 = .ok (.iconst 0, 1) := by decide +kernel
theorem dL_areSound_229 : decode cL_areSound 229 = .ok (.iaload, 1) := by decide +kernel
theorem dL_areSound_230 : decode cL_areSound 230 = .ok (.irem, 1) := by decide +kernel
theorem dL_areSound_231 : decode cL_areSound 231 = .ok (.if_icmp .ne 23, 3) := by decide +kernel
theorem dL_areSound_234 : decode cL_areSound 234 = .ok (.aload_n 1, 1) := by decide +kernel
