theorem dL_law_0 : decode code 0 = .ok (.new 14, 3) := by decide +kernel
theorem dL_law_3 : decode code 3 = .ok (.dup, 1) := by decide +kernel
theorem dL_law_4 : decode code 4 = .ok (.invokespecial 178, 3) := by decide +kernel
theorem dL_law_7 : decode code 7 = .ok (.astore_n 1, 1) := by decide +kernel
theorem dL_law_8 : decode code 8 = .ok (.aload_n 1, 1) := by decide +kernel
theorem dL_law_9 : decode code 9 = .ok (.aload_n 0, 1) := by decide +kernel
theorem dL_law_10 : decode code 10 = .ok (.invokestatic 179, 3) := by decide +kernel
theorem dL_law_13 : decode code 13 = .ok (.iconst 0, 1) := by decide +kernel
theorem dL_law_14 : decode code 14 = .ok (.istore_n 2, 1) := by decide +kernel
theorem dL_law_15 : decode code 15 = .ok (.iload_n 2, 1) := by decide +kernel
theorem dL_law_16 : decode code 16 = .ok (.iconst 4, 1) := by decide +kernel
theorem dL_law_17 : decode code 17 = .ok (.if_icmp .ge 1096, 3) := by decide +kernel
theorem dL_law_20 : decode code 20 = .ok (.aload_n 1, 1) := by decide +kernel
theorem dL_law_21 : decode code 21 = .ok (.invokevirtual 108, 3) := by decide +kernel
theorem dL_law_24 : decode code 24 = .ok (.istore_n 3, 1) := by decide +kernel
theorem dL_law_25 : decode code 25 = .ok (.iconst 0, 1) := by decide +kernel
theorem dL_law_26 : decode code 26 = .ok (.istore 4, 2) := by decide +kernel
theorem dL_law_28 : decode code 28 = .ok (.iconst 0, 1) := by decide +kernel
theorem dL_law_29 : decode code 29 = .ok (.istore 5, 2) := by decide +kernel
theorem dL_law_31 : decode code 31 = .ok (.iconst 0, 1) := by decide +kernel
theorem dL_law_32 : decode code 32 = .ok (.istore 6, 2) := by decide +kernel
theorem dL_law_34 : decode code 34 = .ok (.iconst 0, 1) := by decide +kernel
theorem dL_law_35 : decode code 35 = .ok (.istore 7, 2) := by decide +kernel
theorem dL_law_37 : decode code 37 = .ok (.sipush (-30000), 3) := by decide +kernel
theorem dL_law_40 : decode code 40 = .ok (.istore 8, 2) := by decide +kernel
theorem dL_law_42 : decode code 42 = .ok (.iconst 0, 1) := by decide +kernel
theorem dL_law_43 : decode code 43 = .ok (.istore 9, 2) := by decide +kernel
theorem dL_law_45 : decode code 45 = .ok (.iconst (-1), 1) := by decide +kernel
theorem dL_law_46 : decode code 46 = .ok (.istore 10, 2) := by decide +kernel
theorem dL_law_48 : decode code 48 = .ok (.aload_n 1, 1) := by decide +kernel
theorem dL_law_49 : decode code 49 = .ok (.invokevirtual 183, 3) := by decide +kernel
theorem dL_law_52 : decode code 52 = .ok (.istore 11, 2) := by decide +kernel
theorem dL_law_54 : decode code 54 = .ok (.aload_n 1, 1) := by decide +kernel
theorem dL_law_55 : decode code 55 = .ok (.invokevirtual 187, 3) := by decide +kernel
theorem dL_law_58 : decode code 58 = .ok (.istore 12, 2) := by decide +kernel
theorem dL_law_60 : decode code 60 = .ok (.aload_n 1, 1) := by decide +kernel
theorem dL_law_61 : decode code 61 = .ok (.invokevirtual 190, 3) := by decide +kernel
theorem dL_law_64 : decode code 64 = .ok (.iload 12, 2) := by decide +kernel
theorem dL_law_66 : decode code 66 = .ok (.invokestatic 156, 3) := by decide +kernel
theorem dL_law_69 : decode code 69 = .ok (.if_icmp .eq 5, 3) := by decide +kernel
theorem dL_law_72 : decode code 72 = .ok (.iconst 0, 1) := by decide +kernel
theorem dL_law_73 : decode code 73 = .ok (.ireturn, 1) := by decide +kernel
theorem dL_law_74 : decode code 74 = .ok (.iconst 0, 1) := by decide +kernel
theorem dL_law_75 : decode code 75 = .ok (.istore 13, 2) := by decide +kernel
theorem dL_law_77 : decode code 77 = .ok (.iload 13, 2) := by decide +kernel
theorem dL_law_79 : decode code 79 = .ok (.iload_n 3, 1) := by decide +kernel
theorem dL_law_80 : decode code 80 = .ok (.if_icmp .ge 459, 3) := by decide +kernel
theorem dL_law_83 : decode code 83 = .ok (.aload_n 1, 1) := by decide +kernel
theorem dL_law_84 : decode code 84 = .ok (.iload 13, 2) := by decide +kernel
theorem dL_law_86 : decode code 86 = .ok (.iload 11, 2) := by decide +kernel
theorem dL_law_88 : decode code 88 = .ok (.iload 12, 2) := by decide +kernel
theorem dL_law_90 : decode code 90 = .ok (.invokestatic 193, 3) := by decide +kernel
theorem dL_law_93 : decode code 93 = .ok (.istore 14, 2) := by decide +kernel
theorem dL_law_95 : decode code 95 = .ok (.aload_n 1, 1) := by decide +kernel
theorem dL_law_96 : decode code 96 = .ok (.iload 13, 2) := by decide +kernel
theorem dL_law_98 : decode code 98 = .ok (.iconst 1, 1) := by decide +kernel
theorem dL_law_99 : decode code 99 = .ok (.iload 11, 2) := by decide +kernel
theorem dL_law_101 : decode code 101 = .ok (.invokestatic 147, 3) := by decide +kernel
theorem dL_law_104 : decode code 104 = .ok (.ifCond .eq 7, 3) := by decide +kernel
theorem dL_law_107 : decode code 107 = .ok (.iconst 3, 1) := by decide +kernel
theorem dL_law_108 : decode code 108 = .ok (.goto 4, 3) := by decide +kernel
theorem dL_law_111 : decode code 111 = .ok (.iconst 0, 1) := by decide +kernel
theorem dL_law_112 : decode code 112 = .ok (.aload_n 1, 1) := by decide +kernel
theorem dL_law_113 : decode code 113 = .ok (.iload 13, 2) := by decide +kernel
theorem dL_law_115 : decode code 115 = .ok (.iconst 2, 1) := by decide +kernel
theorem dL_law_116 : decode code 116 = .ok (.iload 11, 2) := by decide +kernel
theorem dL_law_118 : decode code 118 = .ok (.invokestatic 147, 3) := by decide +kernel
theorem dL_law_121 : decode code 121 = .ok (.ifCond .eq 7, 3) := by decide +kernel
theorem dL_law_124 : decode code 124 = .ok (.iconst 1, 1) := by decide +kernel
theorem dL_law_125 : decode code 125 = .ok (.goto 4, 3) := by decide +kernel
theorem dL_law_128 : decode code 128 = .ok (.iconst 0, 1) := by decide +kernel
theorem dL_law_129 : decode code 129 = .ok (.iadd, 1) := by decide +kernel
theorem dL_law_130 : decode code 130 = .ok (.istore 15, 2) := by decide +kernel
theorem dL_law_132 : decode code 132 = .ok (.aload_n 1, 1) := by decide +kernel
theorem dL_law_133 : decode code 133 = .ok (.iload 13, 2) := by decide +kernel
theorem dL_law_135 : decode code 135 = .ok (.invokestatic 151, 3) := by decide +kernel
theorem dL_law_138 : decode code 138 = .ok (.istore 16, 2) := by decide +kernel
theorem dL_law_140 : decode code 140 = .ok (.aload_n 1, 1) := by decide +kernel
theorem dL_law_141 : decode code 141 = .ok (.iload 13, 2) := by decide +kernel
theorem dL_law_143 : decode code 143 = .ok (.invokestatic 197, 3) := by decide +kernel
theorem dL_law_146 : decode code 146 = .ok (.istore 17, 2) := by decide +kernel
theorem dL_law_148 : decode code 148 = .ok (.aload_n 1, 1) := by decide +kernel
theorem dL_law_149 : decode code 149 = .ok (.iload 13, 2) := by decide +kernel
theorem dL_law_151 : decode code 151 = .ok (.invokevirtual 143, 3) := by decide +kernel
theorem dL_law_154 : decode code 154 = .ok (.ifCond .eq 25, 3) := by decide +kernel
theorem dL_law_157 : decode code 157 = .ok (.aload_n 1, 1) := by decide +kernel
theorem dL_law_158 : decode code 158 = .ok (.iload 13, 2) := by decide +kernel
theorem dL_law_160 : decode code 160 = .ok (.invokevirtual 153, 3) := by decide +kernel
theorem dL_law_163 : decode code 163 = .ok (.iconst 0, 1) := by decide +kernel
theorem dL_law_164 : decode code 164 = .ok (.iload 12, 2) := by decide +kernel
theorem dL_law_166 : decode code 166 = .ok (.invokestatic 156, 3) := by decide +kernel
theorem dL_law_169 : decode code 169 = .ok (.iload 15, 2) := by decide +kernel
theorem dL_law_171 : decode code 171 = .ok (.isub, 1) := by decide +kernel
theorem dL_law_172 : decode code 172 = .ok (.invokestatic 159, 3) := by decide +kernel
theorem dL_law_175 : decode code 175 = .ok (.imul, 1) := by decide +kernel
theorem dL_law_176 : decode code 176 = .ok (.goto 4, 3) := by decide +kernel
theorem dL_law_179 : decode code 179 = .ok (.iconst 0, 1) := by decide +kernel
theorem dL_law_180 : decode code 180 = .ok (.istore 18, 2) := by decide +kernel
theorem dL_law_182 : decode code 182 = .ok (.aload_n 1, 1) := by decide +kernel
theorem dL_law_183 : decode code 183 = .ok (.iload 13, 2) := by decide +kernel
theorem dL_law_185 : decode code 185 = .ok (.invokevirtual 143, 3) := by decide +kernel
theorem dL_law_188 : decode code 188 = .ok (.ifCond .eq 7, 3) := by decide +kernel
theorem dL_law_191 : decode code 191 = .ok (.iconst 1, 1) := by decide +kernel
theorem dL_law_192 : decode code 192 = .ok (.goto 4, 3) := by decide +kernel
theorem dL_law_195 : decode code 195 = .ok (.iconst 0, 1) := by decide +kernel
theorem dL_law_196 : decode code 196 = .ok (.aload_n 1, 1) := by decide +kernel
theorem dL_law_197 : decode code 197 = .ok (.iload 13, 2) := by decide +kernel
theorem dL_law_199 : decode code 199 = .ok (.invokevirtual 199, 3) := by decide +kernel
theorem dL_law_202 : decode code 202 = .ok (.ifCond .eq 7, 3) := by decide +kernel
theorem dL_law_205 : decode code 205 = .ok (.iconst 1, 1) := by decide +kernel
theorem dL_law_206 : decode code 206 = .ok (.goto 4, 3) := by decide +kernel
theorem dL_law_209 : decode code 209 = .ok (.iconst 0, 1) := by decide +kernel
theorem dL_law_210 : decode code 210 = .ok (.iadd, 1) := by decide +kernel
theorem dL_law_211 : decode code 211 = .ok (.aload_n 1, 1) := by decide +kernel
theorem dL_law_212 : decode code 212 = .ok (.iload 13, 2) := by decide +kernel
theorem dL_law_214 : decode code 214 = .ok (.invokevirtual 202, 3) := by decide +kernel
theorem dL_law_217 : decode code 217 = .ok (.ifCond .eq 7, 3) := by decide +kernel
theorem dL_law_220 : decode code 220 = .ok (.iconst 1, 1) := by decide +kernel
theorem dL_law_221 : decode code 221 = .ok (.goto 4, 3) := by decide +kernel
theorem dL_law_224 : decode code 224 = .ok (.iconst 0, 1) := by decide +kernel
theorem dL_law_225 : decode code 225 = .ok (.iadd, 1) := by decide +kernel
theorem dL_law_226 : decode code 226 = .ok (.iconst 1, 1) := by decide +kernel
theorem dL_law_227 : decode code 227 = .ok (.if_icmp .ne 93, 3) := by decide +kernel
theorem dL_law_230 : decode code 230 = .ok (.aload_n 1, 1) := by decide +kernel
theorem dL_law_231 : decode code 231 = .ok (.iload 13, 2) := by decide +kernel
theorem dL_law_233 : decode code 233 = .ok (.invokevirtual 202, 3) := by decide +kernel
theorem dL_law_236 : decode code 236 = .ok (.iload 17, 2) := by decide +kernel
theorem dL_law_238 : decode code 238 = .ok (.ifCond .le 7, 3) := by decide +kernel
theorem dL_law_241 : decode code 241 = .ok (.iconst 1, 1) := by decide +kernel
theorem dL_law_242 : decode code 242 = .ok (.goto 4, 3) := by decide +kernel
theorem dL_law_245 : decode code 245 = .ok (.iconst 0, 1) := by decide +kernel
theorem dL_law_246 : decode code 246 = .ok (.if_icmp .ne 74, 3) := by decide +kernel
theorem dL_law_249 : decode code 249 = .ok (.iload 16, 2) := by decide +kernel
theorem dL_law_251 : decode code 251 = .ok (.sipush (-30000), 3) := by decide +kernel
theorem dL_law_254 : decode code 254 = .ok (.if_icmp .eq 12, 3) := by decide +kernel
theorem dL_law_257 : decode code 257 = .ok (.aload_n 1, 1) := by decide +kernel
theorem dL_law_258 : decode code 258 = .ok (.iload 13, 2) := by decide +kernel
theorem dL_law_260 : decode code 260 = .ok (.invokevirtual 143, 3) := by decide +kernel
theorem dL_law_263 : decode code 263 = .ok (.ifCond .eq 57, 3) := by decide +kernel
theorem dL_law_266 : decode code 266 = .ok (.aload_n 1, 1) := by decide +kernel
