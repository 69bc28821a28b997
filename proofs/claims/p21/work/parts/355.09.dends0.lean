theorem dL_ends_0 : decode cL_ends 0 = .ok (.new 8, 3) := by decide +kernel
theorem dL_ends_3 : decode cL_ends 3 = .ok (.dup, 1) := by decide +kernel
theorem dL_ends_4 : decode cL_ends 4 = .ok (.invokespecial 72, 3) := by decide +kernel
theorem dL_ends_7 : decode cL_ends 7 = .ok (.astore_n 0, 1) := by decide +kernel
theorem dL_ends_8 : decode cL_ends 8 = .ok (.iconst 0, 1) := by decide +kernel
theorem dL_ends_9 : decode cL_ends 9 = .ok (.istore_n 1, 1) := by decide +kernel
theorem dL_ends_10 : decode cL_ends 10 = .ok (.iload_n 1, 1) := by decide +kernel
theorem dL_ends_11 : decode cL_ends 11 = .ok (.bipush 24, 2) := by decide +kernel
theorem dL_ends_13 : decode cL_ends 13 = .ok (.if_icmp .ge 294, 3) := by decide +kernel
theorem dL_ends_16 : decode cL_ends 16 = .ok (.iload_n 1, 1) := by decide +kernel
theorem dL_ends_17 : decode cL_ends 17 = .ok (.iconst 3, 1) := by decide +kernel
theorem dL_ends_18 : decode cL_ends 18 = .ok (.idiv, 1) := by decide +kernel
theorem dL_ends_19 : decode cL_ends 19 = .ok (.iconst 4, 1) := by decide +kernel
theorem dL_ends_20 : decode cL_ends 20 = .ok (.irem, 1) := by decide +kernel
theorem dL_ends_21 : decode cL_ends 21 = .ok (.istore_n 2, 1) := by decide +kernel
theorem dL_ends_22 : decode cL_ends 22 = .ok (.iload_n 1, 1) := by decide +kernel
theorem dL_ends_23 : decode cL_ends 23 = .ok (.bipush 12, 2) := by decide +kernel
theorem dL_ends_25 : decode cL_ends 25 = .ok (.if_icmp .ge 7, 3) := by decide +kernel
theorem dL_ends_28 : decode cL_ends 28 = .ok (.iconst 0, 1) := by decide +kernel
theorem dL_ends_29 : decode cL_ends 29 = .ok (.goto 8, 3) := by decide +kernel
theorem dL_ends_32 : decode cL_ends 32 = .ok (.iload_n 1, 1) := by decide +kernel
theorem dL_ends_33 : decode cL_ends 33 = .ok (.iconst 2, 1) := by decide +kernel
theorem dL_ends_34 : decode cL_ends 34 = .ok (.irem, 1) := by decide +kernel
theorem dL_ends_35 : decode cL_ends 35 = .ok (.iconst 2, 1) := by decide +kernel
theorem dL_ends_36 : decode cL_ends 36 = .ok (.imul, 1) := by decide +kernel
theorem dL_ends_37 : decode cL_ends 37 = .ok (.istore_n 3, 1) := by decide +kernel
theorem dL_ends_38 : decode cL_ends 38 = .ok (.aload_n 0, 1) := by decide +kernel
theorem dL_ends_39 : decode cL_ends 39 = .ok (.invokevirtual 62, 3) := by decide +kernel
theorem dL_ends_42 : decode cL_ends 42 = .ok (.iload_n 3, 1) := by decide +kernel
theorem dL_ends_43 : decode cL_ends 43 = .ok (.if_icmp .ne 44, 3) := by decide +kernel
theorem dL_ends_46 : decode cL_ends 46 = .ok (.aload_n 0, 1) := by decide +kernel
theorem dL_ends_47 : decode cL_ends 47 = .ok (.invokevirtual 73, 3) := by decide +kernel
theorem dL_ends_50 : decode cL_ends 50 = .ok (.iload_n 1, 1) := by decide +kernel
theorem dL_ends_51 : decode cL_ends 51 = .ok (.bipush 12, 2) := by decide +kernel
theorem dL_ends_53 : decode cL_ends 53 = .ok (.if_icmp .ge 7, 3) := by decide +kernel
theorem dL_ends_56 : decode cL_ends 56 = .ok (.iconst 0, 1) := by decide +kernel
theorem dL_ends_57 : decode cL_ends 57 = .ok (.goto 4, 3) := by decide +kernel
theorem dL_ends_60 : decode cL_ends 60 = .ok (.iconst 2, 1) := by decide +kernel
theorem dL_ends_61 : decode cL_ends 61 = .ok (.if_icmp .ne 26, 3) := by decide +kernel
theorem dL_ends_64 : decode cL_ends 64 = .ok (.aload_n 0, 1) := by decide +kernel
theorem dL_ends_65 : decode cL_ends 65 = .ok (.iload_n 1, 1) := by decide +kernel
theorem dL_ends_66 : decode cL_ends 66 = .ok (.bipush 12, 2) := by decide +kernel
theorem dL_ends_68 : decode cL_ends 68 = .ok (.if_icmp .ge 7, 3) := by decide +kernel
theorem dL_ends_71 : decode cL_ends 71 = .ok (.iconst 0, 1) := by decide +kernel
theorem dL_ends_72 : decode cL_ends 72 = .ok (.goto 4, 3) := by decide +kernel
theorem dL_ends_75 : decode cL_ends 75 = .ok (.iconst 2, 1) := by decide +kernel
theorem dL_ends_76 : decode cL_ends 76 = .ok (.invokevirtual 34, 3) := by decide +kernel
theorem dL_ends_79 : decode cL_ends 79 = .ok (.iload_n 2, 1) := by decide +kernel
theorem dL_ends_80 : decode cL_ends 80 = .ok (.if_icmp .ne 7, 3) := by decide +kernel
theorem dL_ends_83 : decode cL_ends 83 = .ok (.iconst 1, 1) := by decide +kernel
theorem dL_ends_84 : decode cL_ends 84 = .ok (.goto 4, 3) := by decide +kernel
theorem dL_ends_87 : decode cL_ends 87 = .ok (.iconst 0, 1) := by decide +kernel
theorem dL_ends_88 : decode cL_ends 88 = .ok (.istore 4, 2) := by decide +kernel
theorem dL_ends_90 : decode cL_ends 90 = .ok (.bipush 15, 2) := by decide +kernel
theorem dL_ends_92 : decode cL_ends 92 = .ok (.iconst 1, 1) := by decide +kernel
theorem dL_ends_93 : decode cL_ends 93 = .ok (.iload_n 2, 1) := by decide +kernel
theorem dL_ends_94 : decode cL_ends 94 = .ok (.ishl, 1) := by decide +kernel
theorem dL_ends_95 : decode cL_ends 95 = .ok (.isub, 1) := by decide +kernel
theorem dL_ends_96 : decode cL_ends 96 = .ok (.iconst 1, 1) := by decide +kernel
theorem dL_ends_97 : decode cL_ends 97 = .ok (.iadd, 1) := by decide +kernel
theorem dL_ends_98 : decode cL_ends 98 = .ok (.istore 5, 2) := by decide +kernel
theorem dL_ends_100 : decode cL_ends 100 = .ok (.iload_n 1, 1) := by decide +kernel
theorem dL_ends_101 : decode cL_ends 101 = .ok (.iconst 3, 1) := by decide +kernel
theorem dL_ends_102 : decode cL_ends 102 = .ok (.irem, 1) := by decide +kernel
theorem dL_ends_103 : decode cL_ends 103 = .ok (.ifCond .ne 51, 3) := by decide +kernel
theorem dL_ends_106 : decode cL_ends 106 = .ok (.aload_n 0, 1) := by decide +kernel
theorem dL_ends_107 : decode cL_ends 107 = .ok (.bipush 6, 2) := by decide +kernel
theorem dL_ends_109 : decode cL_ends 109 = .ok (.iload 5, 2) := by decide +kernel
theorem dL_ends_111 : decode cL_ends 111 = .ok (.iload_n 2, 1) := by decide +kernel
theorem dL_ends_112 : decode cL_ends 112 = .ok (.iconst 1, 1) := by decide +kernel
theorem dL_ends_113 : decode cL_ends 113 = .ok (.invokestatic 86, 3) := by decide +kernel
theorem dL_ends_116 : decode cL_ends 116 = .ok (.ifCond .eq 34, 3) := by decide +kernel
theorem dL_ends_119 : decode cL_ends 119 = .ok (.aload_n 0, 1) := by decide +kernel
theorem dL_ends_120 : decode cL_ends 120 = .ok (.iconst 0, 1) := by decide +kernel
theorem dL_ends_121 : decode cL_ends 121 = .ok (.iload 5, 2) := by decide +kernel
theorem dL_ends_123 : decode cL_ends 123 = .ok (.iload_n 2, 1) := by decide +kernel
theorem dL_ends_124 : decode cL_ends 124 = .ok (.bipush 26, 2) := by decide +kernel
theorem dL_ends_126 : decode cL_ends 126 = .ok (.invokestatic 86, 3) := by decide +kernel
theorem dL_ends_129 : decode cL_ends 129 = .ok (.ifCond .eq 21, 3) := by decide +kernel
theorem dL_ends_132 : decode cL_ends 132 = .ok (.aload_n 0, 1) := by decide +kernel
theorem dL_ends_133 : decode cL_ends 133 = .ok (.iconst 3, 1) := by decide +kernel
theorem dL_ends_134 : decode cL_ends 134 = .ok (.iconst 1, 1) := by decide +kernel
theorem dL_ends_135 : decode cL_ends 135 = .ok (.iload_n 2, 1) := by decide +kernel
theorem dL_ends_136 : decode cL_ends 136 = .ok (.ishl, 1) := by decide +kernel
theorem dL_ends_137 : decode cL_ends 137 = .ok (.iload_n 2, 1) := by decide +kernel
theorem dL_ends_138 : decode cL_ends 138 = .ok (.bipush 29, 2) := by decide +kernel
theorem dL_ends_140 : decode cL_ends 140 = .ok (.invokestatic 86, 3) := by decide +kernel
theorem dL_ends_143 : decode cL_ends 143 = .ok (.ifCond .eq 7, 3) := by decide +kernel
theorem dL_ends_146 : decode cL_ends 146 = .ok (.iconst 1, 1) := by decide +kernel
theorem dL_ends_147 : decode cL_ends 147 = .ok (.goto 91, 3) := by decide +kernel
theorem dL_ends_150 : decode cL_ends 150 = .ok (.iconst 0, 1) := by decide +kernel
theorem dL_ends_151 : decode cL_ends 151 = .ok (.goto 87, 3) := by decide +kernel
theorem dL_ends_154 : decode cL_ends 154 = .ok (.iload_n 1, 1) := by decide +kernel
theorem dL_ends_155 : decode cL_ends 155 = .ok (.iconst 3, 1) := by decide +kernel
theorem dL_ends_156 : decode cL_ends 156 = .ok (.irem, 1) := by decide +kernel
theorem dL_ends_157 : decode cL_ends 157 = .ok (.iconst 1, 1) := by decide +kernel
theorem dL_ends_158 : decode cL_ends 158 = .ok (.if_icmp .ne 51, 3) := by decide +kernel
theorem dL_ends_161 : decode cL_ends 161 = .ok (.aload_n 0, 1) := by decide +kernel
theorem dL_ends_162 : decode cL_ends 162 = .ok (.iconst 0, 1) := by decide +kernel
theorem dL_ends_163 : decode cL_ends 163 = .ok (.iload 5, 2) := by decide +kernel
theorem dL_ends_165 : decode cL_ends 165 = .ok (.iload_n 2, 1) := by decide +kernel
theorem dL_ends_166 : decode cL_ends 166 = .ok (.bipush 54, 2) := by decide +kernel
theorem dL_ends_168 : decode cL_ends 168 = .ok (.invokestatic 86, 3) := by decide +kernel
theorem dL_ends_171 : decode cL_ends 171 = .ok (.ifCond .eq 34, 3) := by decide +kernel
theorem dL_ends_174 : decode cL_ends 174 = .ok (.aload_n 0, 1) := by decide +kernel
theorem dL_ends_175 : decode cL_ends 175 = .ok (.iconst 1, 1) := by decide +kernel
theorem dL_ends_176 : decode cL_ends 176 = .ok (.iload 5, 2) := by decide +kernel
theorem dL_ends_178 : decode cL_ends 178 = .ok (.iload_n 2, 1) := by decide +kernel
theorem dL_ends_179 : decode cL_ends 179 = .ok (.bipush 64, 2) := by decide +kernel
theorem dL_ends_181 : decode cL_ends 181 = .ok (.invokestatic 86, 3) := by decide +kernel
theorem dL_ends_184 : decode cL_ends 184 = .ok (.ifCond .eq 21, 3) := by decide +kernel
theorem dL_ends_187 : decode cL_ends 187 = .ok (.aload_n 0, 1) := by decide +kernel
theorem dL_ends_188 : decode cL_ends 188 = .ok (.iconst 4, 1) := by decide +kernel
theorem dL_ends_189 : decode cL_ends 189 = .ok (.iconst 1, 1) := by decide +kernel
theorem dL_ends_190 : decode cL_ends 190 = .ok (.iload_n 2, 1) := by decide +kernel
theorem dL_ends_191 : decode cL_ends 191 = .ok (.ishl, 1) := by decide +kernel
theorem dL_ends_192 : decode cL_ends 192 = .ok (.iload_n 2, 1) := by decide +kernel
theorem dL_ends_193 : decode cL_ends 193 = .ok (.bipush 68, 2) := by decide +kernel
theorem dL_ends_195 : decode cL_ends 195 = .ok (.invokestatic 86, 3) := by decide +kernel
theorem dL_ends_198 : decode cL_ends 198 = .ok (.ifCond .eq 7, 3) := by decide +kernel
theorem dL_ends_201 : decode cL_ends 201 = .ok (.iconst 1, 1) := by decide +kernel
theorem dL_ends_202 : decode cL_ends 202 = .ok (.goto 36, 3) := by decide +kernel
theorem dL_ends_205 : decode cL_ends 205 = .ok (.iconst 0, 1) := by decide +kernel
theorem dL_ends_206 : decode cL_ends 206 = .ok (.goto 32, 3) := by decide +kernel
theorem dL_ends_209 : decode cL_ends 209 = .ok (.aload_n 0, 1) := by decide +kernel
theorem dL_ends_210 : decode cL_ends 210 = .ok (.iconst 2, 1) := by decide +kernel
theorem dL_ends_211 : decode cL_ends 211 = .ok (.invokevirtual 43, 3) := by decide +kernel
theorem dL_ends_214 : decode cL_ends 214 = .ok (.bipush 15, 2) := by decide +kernel
theorem dL_ends_216 : decode cL_ends 216 = .ok (.if_icmp .ne 21, 3) := by decide +kernel
theorem dL_ends_219 : decode cL_ends 219 = .ok (.aload_n 0, 1) := by decide +kernel
theorem dL_ends_220 : decode cL_ends 220 = .ok (.iconst 4, 1) := by decide +kernel
theorem dL_ends_221 : decode cL_ends 221 = .ok (.iconst 1, 1) := by decide +kernel
theorem dL_ends_222 : decode cL_ends 222 = .ok (.iload_n 2, 1) := by decide +kernel
theorem dL_ends_223 : decode cL_ends 223 = .ok (.ishl, 1) := by decide +kernel
theorem dL_ends_224 : decode cL_ends 224 = .ok (.iload_n 2, 1) := by decide +kernel
theorem dL_ends_225 : decode cL_ends 225 = .ok (.bipush 72, 2) := by decide +kernel
theorem dL_ends_227 : decode cL_ends 227 = .ok (.invokestatic 86, 3) := by decide +kernel
theorem dL_ends_230 : decode cL_ends 230 = .ok (.ifCond .eq 7, 3) := by decide +kernel
theorem dL_ends_233 : decode cL_ends 233 = .ok (.iconst 1, 1) := by decide +kernel
theorem dL_ends_234 : decode cL_ends 234 = .ok (.goto 4, 3) := by decide +kernel
theorem dL_ends_237 : decode cL_ends 237 = .ok (.iconst 0, 1) := by decide +kernel
theorem dL_ends_238 : decode cL_ends 238 = .ok (.istore 6, 2) := by decide +kernel
theorem dL_ends_240 : decode cL_ends 240 = .ok (.iload 4, 2) := by decide +kernel
theorem dL_ends_242 : decode cL_ends 242 = .ok (.ifCond .eq 8, 3) := by decide +kernel
theorem dL_ends_245 : decode cL_ends 245 = .ok (.iload 6, 2) := by decide +kernel
theorem dL_ends_247 : decode cL_ends 247 = .ok (.ifCond .ne 5, 3) := by decide +kernel
theorem dL_ends_250 : decode cL_ends 250 = .ok (.iconst 0, 1) := by decide +kernel
theorem dL_ends_251 : decode cL_ends 251 = .ok (.ireturn, 1) := by decide +kernel
theorem dL_ends_252 : decode cL_ends 252 = .ok (.iload_n 1, 1) := by decide +kernel
theorem dL_ends_253 : decode cL_ends 253 = .ok (.bipush 23, 2) := by decide +kernel
theorem dL_ends_255 : decode cL_ends 255 = .ok (.if_icmp .ne 6, 3) := by decide +kernel
theorem dL_ends_258 : decode cL_ends 258 = .ok (.goto 43, 3) := by decide +kernel
theorem dL_ends_261 : decode cL_ends 261 = .ok (.iconst 1, 1) := by decide +kernel
theorem dL_ends_262 : decode cL_ends 262 = .ok (.istore 7, 2) := by decide +kernel
theorem dL_ends_264 : decode cL_ends 264 = .ok (.iload 7, 2) := by decide +kernel
theorem dL_ends_266 : decode cL_ends 266 = .ok (.iload_n 1, 1) := by decide +kernel
theorem dL_ends_267 : decode cL_ends 267 = .ok (.bipush 12, 2) := by decide +kernel
theorem dL_ends_269 : decode cL_ends 269 = .ok (.if_icmp .ge 7, 3) := by decide +kernel
theorem dL_ends_272 : decode cL_ends 272 = .ok (.iconst 4, 1) := by decide +kernel
theorem dL_ends_273 : decode cL_ends 273 = .ok (.goto 4, 3) := by decide +kernel
