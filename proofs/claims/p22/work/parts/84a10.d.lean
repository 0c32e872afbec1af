theorem dL_isRefused_0 : decode cL_isRefused 0 = .ok (.iload_n 3, 1) := by decide +kernel
theorem dL_isRefused_1 : decode cL_isRefused 1 = .ok (.iconst 2, 1) := by decide +kernel
theorem dL_isRefused_2 : decode cL_isRefused 2 = .ok (.irem, 1) := by decide +kernel
theorem dL_isRefused_3 : decode cL_isRefused 3 = .ok (.ifCond .ne 7, 3) := by decide +kernel
theorem dL_isRefused_6 : decode cL_isRefused 6 = .ok (.iconst 1, 1) := by decide +kernel
theorem dL_isRefused_7 : decode cL_isRefused 7 = .ok (.goto 4, 3) := by decide +kernel
theorem dL_isRefused_10 : decode cL_isRefused 10 = .ok (.iconst 0, 1) := by decide +kernel
theorem dL_isRefused_11 : decode cL_isRefused 11 = .ok (.istore 4, 2) := by decide +kernel
theorem dL_isRefused_13 : decode cL_isRefused 13 = .ok (.iload 4, 2) := by decide +kernel
theorem dL_isRefused_15 : decode cL_isRefused 15 = .ok (.ifCond .eq 12, 3) := by decide +kernel
theorem dL_isRefused_18 : decode cL_isRefused 18 = .ok (.iconst (-1), 1) := by decide +kernel
theorem dL_isRefused_19 : decode cL_isRefused 19 = .ok (.iload_n 3, 1) := by decide +kernel
theorem dL_isRefused_20 : decode cL_isRefused 20 = .ok (.bipush 30, 2) := by decide +kernel
theorem dL_isRefused_22 : decode cL_isRefused 22 = .ok (.irem, 1) := by decide +kernel
theorem dL_isRefused_23 : decode cL_isRefused 23 = .ok (.isub, 1) := by decide +kernel
theorem dL_isRefused_24 : decode cL_isRefused 24 = .ok (.goto 11, 3) := by decide +kernel
theorem dL_isRefused_27 : decode cL_isRefused 27 = .ok (.aload_n 1, 1) := by decide +kernel
theorem dL_isRefused_28 : decode cL_isRefused 28 = .ok (.iconst 0, 1) := by decide +kernel
theorem dL_isRefused_29 : decode cL_isRefused 29 = .ok (.iaload, 1) := by decide +kernel
theorem dL_isRefused_30 : decode cL_isRefused 30 = .ok (.iload_n 3, 1) := by decide +kernel
theorem dL_isRefused_31 : decode cL_isRefused 31 = .ok (.bipush 30, 2) := by decide +kernel
theorem dL_isRefused_33 : decode cL_isRefused 33 = .ok (.irem, 1) := by decide +kernel
theorem dL_isRefused_34 : decode cL_isRefused 34 = .ok (.iadd, 1) := by decide +kernel
theorem dL_isRefused_35 : decode cL_isRefused 35 = .ok (.istore 5, 2) := by decide +kernel
theorem dL_isRefused_37 : decode cL_isRefused 37 = .ok (.iload 4, 2) := by decide +kernel
theorem dL_isRefused_39 : decode cL_isRefused 39 = .ok (.ifCond .eq 12, 3) := by decide +kernel
theorem dL_isRefused_42 : decode cL_isRefused 42 = .ok (.iconst (-1), 1) := by decide +kernel
theorem dL_isRefused_43 : decode cL_isRefused 43 = .ok (.iload_n 3, 1) := by decide +kernel
theorem dL_isRefused_44 : decode cL_isRefused 44 = .ok (.bipush 30, 2) := by decide +kernel
theorem dL_isRefused_46 : decode cL_isRefused 46 = .ok (.irem, 1) := by decide +kernel
theorem dL_isRefused_47 : decode cL_isRefused 47 = .ok (.isub, 1) := by decide +kernel
theorem dL_isRefused_48 : decode cL_isRefused 48 = .ok (.goto 11, 3) := by decide +kernel
theorem dL_isRefused_51 : decode cL_isRefused 51 = .ok (.aload_n 1, 1) := by decide +kernel
theorem dL_isRefused_52 : decode cL_isRefused 52 = .ok (.iconst 1, 1) := by decide +kernel
theorem dL_isRefused_53 : decode cL_isRefused 53 = .ok (.iaload, 1) := by decide +kernel
theorem dL_isRefused_54 : decode cL_isRefused 54 = .ok (.iload_n 3, 1) := by decide +kernel
theorem dL_isRefused_55 : decode cL_isRefused 55 = .ok (.bipush 30, 2) := by decide +kernel
theorem dL_isRefused_57 : decode cL_isRefused 57 = .ok (.irem, 1) := by decide +kernel
theorem dL_isRefused_58 : decode cL_isRefused 58 = .ok (.iadd, 1) := by decide +kernel
theorem dL_isRefused_59 : decode cL_isRefused 59 = .ok (.istore 6, 2) := by decide +kernel
theorem dL_isRefused_61 : decode cL_isRefused 61 = .ok (.aload_n 0, 1) := by decide +kernel
theorem dL_isRefused_62 : decode cL_isRefused 62 = .ok (.aload_n 1, 1) := by decide +kernel
theorem dL_isRefused_63 : decode cL_isRefused 63 = .ok (.invokestatic 92, 3) := by decide +kernel
theorem dL_isRefused_66 : decode cL_isRefused 66 = .ok (.lstore 7, 2) := by decide +kernel
theorem dL_isRefused_68 : decode cL_isRefused 68 = .ok (.aload_n 0, 1) := by decide +kernel
theorem dL_isRefused_69 : decode cL_isRefused 69 = .ok (.iconst 1, 1) := by decide +kernel
theorem dL_isRefused_70 : decode cL_isRefused 70 = .ok (.iload 5, 2) := by decide +kernel
theorem dL_isRefused_72 : decode cL_isRefused 72 = .ok (.ldc 96, 2) := by decide +kernel
theorem dL_isRefused_74 : decode cL_isRefused 74 = .ok (.iconst 1, 1) := by decide +kernel
theorem dL_isRefused_75 : decode cL_isRefused 75 = .ok (.iconst 0, 1) := by decide +kernel
theorem dL_isRefused_76 : decode cL_isRefused 76 = .ok (.invokestatic 84, 3) := by decide +kernel
theorem dL_isRefused_79 : decode cL_isRefused 79 = .ok (.ldc2_w 61, 3) := by decide +kernel
theorem dL_isRefused_82 : decode cL_isRefused 82 = .ok (.lcmp, 1) := by decide +kernel
theorem dL_isRefused_83 : decode cL_isRefused 83 = .ok (.ifCond .ne 239, 3) := by decide +kernel
theorem dL_isRefused_86 : decode cL_isRefused 86 = .ok (.aload_n 0, 1) := by decide +kernel
theorem dL_isRefused_87 : decode cL_isRefused 87 = .ok (.iconst 2, 1) := by decide +kernel
theorem dL_isRefused_88 : decode cL_isRefused 88 = .ok (.iload 5, 2) := by decide +kernel
theorem dL_isRefused_90 : decode cL_isRefused 90 = .ok (.iconst 0, 1) := by decide +kernel
theorem dL_isRefused_91 : decode cL_isRefused 91 = .ok (.ldc 96, 2) := by decide +kernel
theorem dL_isRefused_93 : decode cL_isRefused 93 = .ok (.iconst 0, 1) := by decide +kernel
theorem dL_isRefused_94 : decode cL_isRefused 94 = .ok (.invokestatic 84, 3) := by decide +kernel
theorem dL_isRefused_97 : decode cL_isRefused 97 = .ok (.ldc2_w 61, 3) := by decide +kernel
theorem dL_isRefused_100 : decode cL_isRefused 100 = .ok (.lcmp, 1) := by decide +kernel
theorem dL_isRefused_101 : decode cL_isRefused 101 = .ok (.ifCond .ne 221, 3) := by decide +kernel
theorem dL_isRefused_104 : decode cL_isRefused 104 = .ok (.aload_n 0, 1) := by decide +kernel
theorem dL_isRefused_105 : decode cL_isRefused 105 = .ok (.iconst 3, 1) := by decide +kernel
theorem dL_isRefused_106 : decode cL_isRefused 106 = .ok (.iload 6, 2) := by decide +kernel
theorem dL_isRefused_108 : decode cL_isRefused 108 = .ok (.iconst 1, 1) := by decide +kernel
theorem dL_isRefused_109 : decode cL_isRefused 109 = .ok (.iconst 0, 1) := by decide +kernel
theorem dL_isRefused_110 : decode cL_isRefused 110 = .ok (.iconst 0, 1) := by decide +kernel
theorem dL_isRefused_111 : decode cL_isRefused 111 = .ok (.invokestatic 84, 3) := by decide +kernel
theorem dL_isRefused_114 : decode cL_isRefused 114 = .ok (.ldc2_w 61, 3) := by decide +kernel
theorem dL_isRefused_117 : decode cL_isRefused 117 = .ok (.lcmp, 1) := by decide +kernel
theorem dL_isRefused_118 : decode cL_isRefused 118 = .ok (.ifCond .ne 204, 3) := by decide +kernel
theorem dL_isRefused_121 : decode cL_isRefused 121 = .ok (.aload_n 0, 1) := by decide +kernel
theorem dL_isRefused_122 : decode cL_isRefused 122 = .ok (.iconst 4, 1) := by decide +kernel
theorem dL_isRefused_123 : decode cL_isRefused 123 = .ok (.iload 4, 2) := by decide +kernel
theorem dL_isRefused_125 : decode cL_isRefused 125 = .ok (.ifCond .eq 12, 3) := by decide +kernel
theorem dL_isRefused_128 : decode cL_isRefused 128 = .ok (.iconst (-1), 1) := by decide +kernel
theorem dL_isRefused_129 : decode cL_isRefused 129 = .ok (.iload_n 3, 1) := by decide +kernel
theorem dL_isRefused_130 : decode cL_isRefused 130 = .ok (.bipush 30, 2) := by decide +kernel
theorem dL_isRefused_132 : decode cL_isRefused 132 = .ok (.irem, 1) := by decide +kernel
theorem dL_isRefused_133 : decode cL_isRefused 133 = .ok (.isub, 1) := by decide +kernel
theorem dL_isRefused_134 : decode cL_isRefused 134 = .ok (.goto 10, 3) := by decide +kernel
theorem dL_isRefused_137 : decode cL_isRefused 137 = .ok (.ldc 97, 2) := by decide +kernel
theorem dL_isRefused_139 : decode cL_isRefused 139 = .ok (.iload_n 3, 1) := by decide +kernel
theorem dL_isRefused_140 : decode cL_isRefused 140 = .ok (.bipush 30, 2) := by decide +kernel
theorem dL_isRefused_142 : decode cL_isRefused 142 = .ok (.irem, 1) := by decide +kernel
theorem dL_isRefused_143 : decode cL_isRefused 143 = .ok (.iadd, 1) := by decide +kernel
theorem dL_isRefused_144 : decode cL_isRefused 144 = .ok (.iconst 0, 1) := by decide +kernel
theorem dL_isRefused_145 : decode cL_isRefused 145 = .ok (.iconst 0, 1) := by decide +kernel
theorem dL_isRefused_146 : decode cL_isRefused 146 = .ok (.iconst 0, 1) := by decide +kernel
theorem dL_isRefused_147 : decode cL_isRefused 147 = .ok (.invokestatic 84, 3) := by decide +kernel
theorem dL_isRefused_150 : decode cL_isRefused 150 = .ok (.ldc2_w 65, 3) := by decide +kernel
theorem dL_isRefused_153 : decode cL_isRefused 153 = .ok (.lcmp, 1) := by decide +kernel
theorem dL_isRefused_154 : decode cL_isRefused 154 = .ok (.ifCond .ne 168, 3) := by decide +kernel
theorem dL_isRefused_157 : decode cL_isRefused 157 = .ok (.aload_n 0, 1) := by decide +kernel
theorem dL_isRefused_158 : decode cL_isRefused 158 = .ok (.iconst 5, 1) := by decide +kernel
theorem dL_isRefused_159 : decode cL_isRefused 159 = .ok (.iload 5, 2) := by decide +kernel
theorem dL_isRefused_161 : decode cL_isRefused 161 = .ok (.iconst 0, 1) := by decide +kernel
theorem dL_isRefused_162 : decode cL_isRefused 162 = .ok (.iconst 0, 1) := by decide +kernel
theorem dL_isRefused_163 : decode cL_isRefused 163 = .ok (.iconst 0, 1) := by decide +kernel
theorem dL_isRefused_164 : decode cL_isRefused 164 = .ok (.invokestatic 84, 3) := by decide +kernel
theorem dL_isRefused_167 : decode cL_isRefused 167 = .ok (.ldc2_w 61, 3) := by decide +kernel
theorem dL_isRefused_170 : decode cL_isRefused 170 = .ok (.lcmp, 1) := by decide +kernel
theorem dL_isRefused_171 : decode cL_isRefused 171 = .ok (.ifCond .ne 151, 3) := by decide +kernel
theorem dL_isRefused_174 : decode cL_isRefused 174 = .ok (.aload_n 0, 1) := by decide +kernel
theorem dL_isRefused_175 : decode cL_isRefused 175 = .ok (.bipush 6, 2) := by decide +kernel
theorem dL_isRefused_177 : decode cL_isRefused 177 = .ok (.iload 5, 2) := by decide +kernel
theorem dL_isRefused_179 : decode cL_isRefused 179 = .ok (.iconst 0, 1) := by decide +kernel
theorem dL_isRefused_180 : decode cL_isRefused 180 = .ok (.iconst 0, 1) := by decide +kernel
theorem dL_isRefused_181 : decode cL_isRefused 181 = .ok (.iconst 0, 1) := by decide +kernel
theorem dL_isRefused_182 : decode cL_isRefused 182 = .ok (.invokestatic 84, 3) := by decide +kernel
theorem dL_isRefused_185 : decode cL_isRefused 185 = .ok (.ldc2_w 61, 3) := by decide +kernel
theorem dL_isRefused_188 : decode cL_isRefused 188 = .ok (.lcmp, 1) := by decide +kernel
theorem dL_isRefused_189 : decode cL_isRefused 189 = .ok (.ifCond .ne 133, 3) := by decide +kernel
theorem dL_isRefused_192 : decode cL_isRefused 192 = .ok (.aload_n 0, 1) := by decide +kernel
theorem dL_isRefused_193 : decode cL_isRefused 193 = .ok (.bipush 7, 2) := by decide +kernel
theorem dL_isRefused_195 : decode cL_isRefused 195 = .ok (.iload 5, 2) := by decide +kernel
theorem dL_isRefused_197 : decode cL_isRefused 197 = .ok (.iconst 0, 1) := by decide +kernel
theorem dL_isRefused_198 : decode cL_isRefused 198 = .ok (.iconst 0, 1) := by decide +kernel
theorem dL_isRefused_199 : decode cL_isRefused 199 = .ok (.iconst 0, 1) := by decide +kernel
theorem dL_isRefused_200 : decode cL_isRefused 200 = .ok (.invokestatic 84, 3) := by decide +kernel
theorem dL_isRefused_203 : decode cL_isRefused 203 = .ok (.ldc2_w 61, 3) := by decide +kernel
theorem dL_isRefused_206 : decode cL_isRefused 206 = .ok (.lcmp, 1) := by decide +kernel
theorem dL_isRefused_207 : decode cL_isRefused 207 = .ok (.ifCond .ne 115, 3) := by decide +kernel
theorem dL_isRefused_210 : decode cL_isRefused 210 = .ok (.aload_n 0, 1) := by decide +kernel
theorem dL_isRefused_211 : decode cL_isRefused 211 = .ok (.bipush 8, 2) := by decide +kernel
theorem dL_isRefused_213 : decode cL_isRefused 213 = .ok (.iload 5, 2) := by decide +kernel
theorem dL_isRefused_215 : decode cL_isRefused 215 = .ok (.iconst 0, 1) := by decide +kernel
theorem dL_isRefused_216 : decode cL_isRefused 216 = .ok (.iconst 0, 1) := by decide +kernel
theorem dL_isRefused_217 : decode cL_isRefused 217 = .ok (.iconst 0, 1) := by decide +kernel
theorem dL_isRefused_218 : decode cL_isRefused 218 = .ok (.invokestatic 84, 3) := by decide +kernel
theorem dL_isRefused_221 : decode cL_isRefused 221 = .ok (.ldc2_w 61, 3) := by decide +kernel
theorem dL_isRefused_224 : decode cL_isRefused 224 = .ok (.lcmp, 1) := by decide +kernel
theorem dL_isRefused_225 : decode cL_isRefused 225 = .ok (.ifCond .ne 97, 3) := by decide +kernel
theorem dL_isRefused_228 : decode cL_isRefused 228 = .ok (.aload_n 0, 1) := by decide +kernel
theorem dL_isRefused_229 : decode cL_isRefused 229 = .ok (.bipush 9, 2) := by decide +kernel
theorem dL_isRefused_231 : decode cL_isRefused 231 = .ok (.iload 6, 2) := by decide +kernel
theorem dL_isRefused_233 : decode cL_isRefused 233 = .ok (.iconst 0, 1) := by decide +kernel
