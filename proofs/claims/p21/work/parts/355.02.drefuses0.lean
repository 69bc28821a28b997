theorem dL_refuses_0 : decode cL_refuses 0 = .ok (.aload_n 0, 1) := by decide +kernel
theorem dL_refuses_1 : decode cL_refuses 1 = .ok (.invokevirtual 59, 3) := by decide +kernel
theorem dL_refuses_4 : decode cL_refuses 4 = .ok (.istore_n 1, 1) := by decide +kernel
theorem dL_refuses_5 : decode cL_refuses 5 = .ok (.aload_n 0, 1) := by decide +kernel
theorem dL_refuses_6 : decode cL_refuses 6 = .ok (.invokevirtual 62, 3) := by decide +kernel
theorem dL_refuses_9 : decode cL_refuses 9 = .ok (.istore_n 2, 1) := by decide +kernel
theorem dL_refuses_10 : decode cL_refuses 10 = .ok (.ldc 65, 2) := by decide +kernel
theorem dL_refuses_12 : decode cL_refuses 12 = .ok (.istore_n 3, 1) := by decide +kernel
theorem dL_refuses_13 : decode cL_refuses 13 = .ok (.iconst 0, 1) := by decide +kernel
theorem dL_refuses_14 : decode cL_refuses 14 = .ok (.istore 4, 2) := by decide +kernel
theorem dL_refuses_16 : decode cL_refuses 16 = .ok (.iload 4, 2) := by decide +kernel
theorem dL_refuses_18 : decode cL_refuses 18 = .ok (.iconst 4, 1) := by decide +kernel
theorem dL_refuses_19 : decode cL_refuses 19 = .ok (.if_icmp .ge 430, 3) := by decide +kernel
theorem dL_refuses_22 : decode cL_refuses 22 = .ok (.iload 4, 2) := by decide +kernel
theorem dL_refuses_24 : decode cL_refuses 24 = .ok (.ifCond .ne 7, 3) := by decide +kernel
theorem dL_refuses_27 : decode cL_refuses 27 = .ok (.iconst (-1), 1) := by decide +kernel
theorem dL_refuses_28 : decode cL_refuses 28 = .ok (.goto 17, 3) := by decide +kernel
theorem dL_refuses_31 : decode cL_refuses 31 = .ok (.iload 4, 2) := by decide +kernel
theorem dL_refuses_33 : decode cL_refuses 33 = .ok (.iconst 2, 1) := by decide +kernel
theorem dL_refuses_34 : decode cL_refuses 34 = .ok (.if_icmp .ne 7, 3) := by decide +kernel
theorem dL_refuses_37 : decode cL_refuses 37 = .ok (.iload_n 3, 1) := by decide +kernel
theorem dL_refuses_38 : decode cL_refuses 38 = .ok (.goto 7, 3) := by decide +kernel
theorem dL_refuses_41 : decode cL_refuses 41 = .ok (.iload_n 3, 1) := by decide +kernel
theorem dL_refuses_42 : decode cL_refuses 42 = .ok (.ineg, 1) := by decide +kernel
theorem dL_refuses_43 : decode cL_refuses 43 = .ok (.iconst 1, 1) := by decide +kernel
theorem dL_refuses_44 : decode cL_refuses 44 = .ok (.isub, 1) := by decide +kernel
theorem dL_refuses_45 : decode cL_refuses 45 = .ok (.istore 5, 2) := by decide +kernel
theorem dL_refuses_47 : decode cL_refuses 47 = .ok (.iload 4, 2) := by decide +kernel
theorem dL_refuses_49 : decode cL_refuses 49 = .ok (.iconst 1, 1) := by decide +kernel
theorem dL_refuses_50 : decode cL_refuses 50 = .ok (.if_icmp .ne 7, 3) := by decide +kernel
theorem dL_refuses_53 : decode cL_refuses 53 = .ok (.iconst 4, 1) := by decide +kernel
theorem dL_refuses_54 : decode cL_refuses 54 = .ok (.goto 5, 3) := by decide +kernel
theorem dL_refuses_57 : decode cL_refuses 57 = .ok (.iload 5, 2) := by decide +kernel
theorem dL_refuses_59 : decode cL_refuses 59 = .ok (.istore 6, 2) := by decide +kernel
theorem dL_refuses_61 : decode cL_refuses 61 = .ok (.iload 4, 2) := by decide +kernel
theorem dL_refuses_63 : decode cL_refuses 63 = .ok (.ifCond .ne 7, 3) := by decide +kernel
theorem dL_refuses_66 : decode cL_refuses 66 = .ok (.iconst 0, 1) := by decide +kernel
theorem dL_refuses_67 : decode cL_refuses 67 = .ok (.goto 5, 3) := by decide +kernel
theorem dL_refuses_70 : decode cL_refuses 70 = .ok (.iload 6, 2) := by decide +kernel
theorem dL_refuses_72 : decode cL_refuses 72 = .ok (.istore 7, 2) := by decide +kernel
theorem dL_refuses_74 : decode cL_refuses 74 = .ok (.aload_n 0, 1) := by decide +kernel
theorem dL_refuses_75 : decode cL_refuses 75 = .ok (.iconst 0, 1) := by decide +kernel
theorem dL_refuses_76 : decode cL_refuses 76 = .ok (.iload 4, 2) := by decide +kernel
theorem dL_refuses_78 : decode cL_refuses 78 = .ok (.iconst 1, 1) := by decide +kernel
theorem dL_refuses_79 : decode cL_refuses 79 = .ok (.if_icmp .ne 8, 3) := by decide +kernel
theorem dL_refuses_82 : decode cL_refuses 82 = .ok (.bipush 7, 2) := by decide +kernel
theorem dL_refuses_84 : decode cL_refuses 84 = .ok (.goto 5, 3) := by decide +kernel
theorem dL_refuses_87 : decode cL_refuses 87 = .ok (.iload 5, 2) := by decide +kernel
theorem dL_refuses_89 : decode cL_refuses 89 = .ok (.iconst 0, 1) := by decide +kernel
theorem dL_refuses_90 : decode cL_refuses 90 = .ok (.iconst 0, 1) := by decide +kernel
theorem dL_refuses_91 : decode cL_refuses 91 = .ok (.invokestatic 66, 3) := by decide +kernel
theorem dL_refuses_94 : decode cL_refuses 94 = .ok (.sipush (-902), 3) := by decide +kernel
theorem dL_refuses_97 : decode cL_refuses 97 = .ok (.if_icmp .ne 336, 3) := by decide +kernel
theorem dL_refuses_100 : decode cL_refuses 100 = .ok (.aload_n 0, 1) := by decide +kernel
theorem dL_refuses_101 : decode cL_refuses 101 = .ok (.iconst 1, 1) := by decide +kernel
theorem dL_refuses_102 : decode cL_refuses 102 = .ok (.iload 6, 2) := by decide +kernel
theorem dL_refuses_104 : decode cL_refuses 104 = .ok (.iconst 0, 1) := by decide +kernel
theorem dL_refuses_105 : decode cL_refuses 105 = .ok (.iconst 0, 1) := by decide +kernel
theorem dL_refuses_106 : decode cL_refuses 106 = .ok (.invokestatic 66, 3) := by decide +kernel
theorem dL_refuses_109 : decode cL_refuses 109 = .ok (.sipush (-901), 3) := by decide +kernel
theorem dL_refuses_112 : decode cL_refuses 112 = .ok (.if_icmp .ne 321, 3) := by decide +kernel
theorem dL_refuses_115 : decode cL_refuses 115 = .ok (.aload_n 0, 1) := by decide +kernel
theorem dL_refuses_116 : decode cL_refuses 116 = .ok (.iconst 3, 1) := by decide +kernel
theorem dL_refuses_117 : decode cL_refuses 117 = .ok (.iload 6, 2) := by decide +kernel
theorem dL_refuses_119 : decode cL_refuses 119 = .ok (.iconst 0, 1) := by decide +kernel
theorem dL_refuses_120 : decode cL_refuses 120 = .ok (.iconst 0, 1) := by decide +kernel
theorem dL_refuses_121 : decode cL_refuses 121 = .ok (.invokestatic 66, 3) := by decide +kernel
theorem dL_refuses_124 : decode cL_refuses 124 = .ok (.sipush (-901), 3) := by decide +kernel
theorem dL_refuses_127 : decode cL_refuses 127 = .ok (.if_icmp .ne 306, 3) := by decide +kernel
theorem dL_refuses_130 : decode cL_refuses 130 = .ok (.aload_n 0, 1) := by decide +kernel
theorem dL_refuses_131 : decode cL_refuses 131 = .ok (.iconst 3, 1) := by decide +kernel
theorem dL_refuses_132 : decode cL_refuses 132 = .ok (.iconst 0, 1) := by decide +kernel
theorem dL_refuses_133 : decode cL_refuses 133 = .ok (.iload 6, 2) := by decide +kernel
theorem dL_refuses_135 : decode cL_refuses 135 = .ok (.iconst 0, 1) := by decide +kernel
theorem dL_refuses_136 : decode cL_refuses 136 = .ok (.invokestatic 66, 3) := by decide +kernel
theorem dL_refuses_139 : decode cL_refuses 139 = .ok (.sipush (-901), 3) := by decide +kernel
theorem dL_refuses_142 : decode cL_refuses 142 = .ok (.if_icmp .ne 291, 3) := by decide +kernel
theorem dL_refuses_145 : decode cL_refuses 145 = .ok (.aload_n 0, 1) := by decide +kernel
theorem dL_refuses_146 : decode cL_refuses 146 = .ok (.iconst 4, 1) := by decide +kernel
theorem dL_refuses_147 : decode cL_refuses 147 = .ok (.iload 6, 2) := by decide +kernel
theorem dL_refuses_149 : decode cL_refuses 149 = .ok (.iconst 0, 1) := by decide +kernel
theorem dL_refuses_150 : decode cL_refuses 150 = .ok (.iconst 0, 1) := by decide +kernel
theorem dL_refuses_151 : decode cL_refuses 151 = .ok (.invokestatic 66, 3) := by decide +kernel
theorem dL_refuses_154 : decode cL_refuses 154 = .ok (.sipush (-901), 3) := by decide +kernel
theorem dL_refuses_157 : decode cL_refuses 157 = .ok (.if_icmp .ne 276, 3) := by decide +kernel
theorem dL_refuses_160 : decode cL_refuses 160 = .ok (.aload_n 0, 1) := by decide +kernel
theorem dL_refuses_161 : decode cL_refuses 161 = .ok (.iconst 4, 1) := by decide +kernel
theorem dL_refuses_162 : decode cL_refuses 162 = .ok (.iconst 0, 1) := by decide +kernel
theorem dL_refuses_163 : decode cL_refuses 163 = .ok (.iload 6, 2) := by decide +kernel
theorem dL_refuses_165 : decode cL_refuses 165 = .ok (.iconst 0, 1) := by decide +kernel
theorem dL_refuses_166 : decode cL_refuses 166 = .ok (.invokestatic 66, 3) := by decide +kernel
theorem dL_refuses_169 : decode cL_refuses 169 = .ok (.sipush (-901), 3) := by decide +kernel
theorem dL_refuses_172 : decode cL_refuses 172 = .ok (.if_icmp .ne 261, 3) := by decide +kernel
theorem dL_refuses_175 : decode cL_refuses 175 = .ok (.aload_n 0, 1) := by decide +kernel
theorem dL_refuses_176 : decode cL_refuses 176 = .ok (.iconst 5, 1) := by decide +kernel
theorem dL_refuses_177 : decode cL_refuses 177 = .ok (.iload 4, 2) := by decide +kernel
theorem dL_refuses_179 : decode cL_refuses 179 = .ok (.iconst 1, 1) := by decide +kernel
theorem dL_refuses_180 : decode cL_refuses 180 = .ok (.if_icmp .ne 8, 3) := by decide +kernel
theorem dL_refuses_183 : decode cL_refuses 183 = .ok (.bipush 68, 2) := by decide +kernel
theorem dL_refuses_185 : decode cL_refuses 185 = .ok (.goto 5, 3) := by decide +kernel
theorem dL_refuses_188 : decode cL_refuses 188 = .ok (.iload 5, 2) := by decide +kernel
theorem dL_refuses_190 : decode cL_refuses 190 = .ok (.iconst 2, 1) := by decide +kernel
theorem dL_refuses_191 : decode cL_refuses 191 = .ok (.iconst 0, 1) := by decide +kernel
theorem dL_refuses_192 : decode cL_refuses 192 = .ok (.invokestatic 66, 3) := by decide +kernel
theorem dL_refuses_195 : decode cL_refuses 195 = .ok (.sipush (-901), 3) := by decide +kernel
theorem dL_refuses_198 : decode cL_refuses 198 = .ok (.if_icmp .ne 235, 3) := by decide +kernel
theorem dL_refuses_201 : decode cL_refuses 201 = .ok (.aload_n 0, 1) := by decide +kernel
theorem dL_refuses_202 : decode cL_refuses 202 = .ok (.iconst 5, 1) := by decide +kernel
theorem dL_refuses_203 : decode cL_refuses 203 = .ok (.iconst 0, 1) := by decide +kernel
theorem dL_refuses_204 : decode cL_refuses 204 = .ok (.iload 4, 2) := by decide +kernel
theorem dL_refuses_206 : decode cL_refuses 206 = .ok (.iconst 1, 1) := by decide +kernel
theorem dL_refuses_207 : decode cL_refuses 207 = .ok (.if_icmp .ne 7, 3) := by decide +kernel
theorem dL_refuses_210 : decode cL_refuses 210 = .ok (.iconst 2, 1) := by decide +kernel
theorem dL_refuses_211 : decode cL_refuses 211 = .ok (.goto 5, 3) := by decide +kernel
theorem dL_refuses_214 : decode cL_refuses 214 = .ok (.iload 5, 2) := by decide +kernel
theorem dL_refuses_216 : decode cL_refuses 216 = .ok (.iconst 0, 1) := by decide +kernel
theorem dL_refuses_217 : decode cL_refuses 217 = .ok (.invokestatic 66, 3) := by decide +kernel
theorem dL_refuses_220 : decode cL_refuses 220 = .ok (.sipush (-902), 3) := by decide +kernel
theorem dL_refuses_223 : decode cL_refuses 223 = .ok (.if_icmp .ne 210, 3) := by decide +kernel
theorem dL_refuses_226 : decode cL_refuses 226 = .ok (.aload_n 0, 1) := by decide +kernel
theorem dL_refuses_227 : decode cL_refuses 227 = .ok (.bipush 6, 2) := by decide +kernel
theorem dL_refuses_229 : decode cL_refuses 229 = .ok (.iload 4, 2) := by decide +kernel
theorem dL_refuses_231 : decode cL_refuses 231 = .ok (.iconst 1, 1) := by decide +kernel
theorem dL_refuses_232 : decode cL_refuses 232 = .ok (.if_icmp .ne 8, 3) := by decide +kernel
theorem dL_refuses_235 : decode cL_refuses 235 = .ok (.bipush 68, 2) := by decide +kernel
theorem dL_refuses_237 : decode cL_refuses 237 = .ok (.goto 5, 3) := by decide +kernel
theorem dL_refuses_240 : decode cL_refuses 240 = .ok (.iload 5, 2) := by decide +kernel
theorem dL_refuses_242 : decode cL_refuses 242 = .ok (.iconst 0, 1) := by decide +kernel
theorem dL_refuses_243 : decode cL_refuses 243 = .ok (.iconst 0, 1) := by decide +kernel
theorem dL_refuses_244 : decode cL_refuses 244 = .ok (.invokestatic 66, 3) := by decide +kernel
theorem dL_refuses_247 : decode cL_refuses 247 = .ok (.sipush (-901), 3) := by decide +kernel
theorem dL_refuses_250 : decode cL_refuses 250 = .ok (.if_icmp .ne 183, 3) := by decide +kernel
theorem dL_refuses_253 : decode cL_refuses 253 = .ok (.aload_n 0, 1) := by decide +kernel
theorem dL_refuses_254 : decode cL_refuses 254 = .ok (.bipush 7, 2) := by decide +kernel
theorem dL_refuses_256 : decode cL_refuses 256 = .ok (.iload 6, 2) := by decide +kernel
theorem dL_refuses_258 : decode cL_refuses 258 = .ok (.iconst 0, 1) := by decide +kernel
theorem dL_refuses_259 : decode cL_refuses 259 = .ok (.iconst 0, 1) := by decide +kernel
theorem dL_refuses_260 : decode cL_refuses 260 = .ok (.invokestatic 66, 3) := by decide +kernel
theorem dL_refuses_263 : decode cL_refuses 263 = .ok (.sipush (-901), 3) := by decide +kernel
theorem dL_refuses_266 : decode cL_refuses 266 = .ok (.if_icmp .ne 167, 3) := by decide +kernel
theorem dL_refuses_269 : decode cL_refuses 269 = .ok (.aload_n 0, 1) := by decide +kernel
theorem dL_refuses_270 : decode cL_refuses 270 = .ok (.bipush 8, 2) := by decide +kernel
theorem dL_refuses_272 : decode cL_refuses 272 = .ok (.iload 6, 2) := by decide +kernel
theorem dL_refuses_274 : decode cL_refuses 274 = .ok (.iconst 0, 1) := by decide +kernel
theorem dL_refuses_275 : decode cL_refuses 275 = .ok (.iconst 0, 1) := by decide +kernel
theorem dL_refuses_276 : decode cL_refuses 276 = .ok (.invokestatic 66, 3) := by decide +kernel
theorem dL_refuses_279 : decode cL_refuses 279 = .ok (.sipush (-901), 3) := by decide +kernel
theorem dL_refuses_282 : decode cL_refuses 282 = .ok (.if_icmp .ne 151, 3) := by decide +kernel
theorem dL_refuses_285 : decode cL_refuses 285 = .ok (.aload_n 0, 1) := by decide +kernel
theorem dL_refuses_286 : decode cL_refuses 286 = .ok (.bipush 9, 2) := by decide +kernel
theorem dL_refuses_288 : decode cL_refuses 288 = .ok (.iload 4, 2) := by decide +kernel
theorem dL_refuses_290 : decode cL_refuses 290 = .ok (.iconst 1, 1) := by decide +kernel
theorem dL_refuses_291 : decode cL_refuses 291 = .ok (.if_icmp .ne 7, 3) := by decide +kernel
theorem dL_refuses_294 : decode cL_refuses 294 = .ok (.iconst 2, 1) := by decide +kernel
theorem dL_refuses_295 : decode cL_refuses 295 = .ok (.goto 5, 3) := by decide +kernel
theorem dL_refuses_298 : decode cL_refuses 298 = .ok (.iload 5, 2) := by decide +kernel
theorem dL_refuses_300 : decode cL_refuses 300 = .ok (.iconst 0, 1) := by decide +kernel
theorem dL_refuses_301 : decode cL_refuses 301 = .ok (.iconst 0, 1) := by decide +kernel
theorem dL_refuses_302 : decode cL_refuses 302 = .ok (.invokestatic 66, 3) := by decide +kernel
theorem dL_refuses_305 : decode cL_refuses 305 = .ok (.sipush (-902), 3) := by decide +kernel
