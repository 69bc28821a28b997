theorem dL_captures_0 : decode cL_captures 0 = .ok (.new 8, 3) := by decide +kernel
theorem dL_captures_3 : decode cL_captures 3 = .ok (.dup, 1) := by decide +kernel
theorem dL_captures_4 : decode cL_captures 4 = .ok (.invokespecial 72, 3) := by decide +kernel
theorem dL_captures_7 : decode cL_captures 7 = .ok (.astore_n 0, 1) := by decide +kernel
theorem dL_captures_8 : decode cL_captures 8 = .ok (.aload_n 0, 1) := by decide +kernel
theorem dL_captures_9 : decode cL_captures 9 = .ok (.invokevirtual 59, 3) := by decide +kernel
theorem dL_captures_12 : decode cL_captures 12 = .ok (.ifCond .ne 229, 3) := by decide +kernel
theorem dL_captures_15 : decode cL_captures 15 = .ok (.aload_n 0, 1) := by decide +kernel
theorem dL_captures_16 : decode cL_captures 16 = .ok (.invokevirtual 62, 3) := by decide +kernel
theorem dL_captures_19 : decode cL_captures 19 = .ok (.ifCond .ne 222, 3) := by decide +kernel
theorem dL_captures_22 : decode cL_captures 22 = .ok (.aload_n 0, 1) := by decide +kernel
theorem dL_captures_23 : decode cL_captures 23 = .ok (.invokevirtual 73, 3) := by decide +kernel
theorem dL_captures_26 : decode cL_captures 26 = .ok (.ifCond .ne 215, 3) := by decide +kernel
theorem dL_captures_29 : decode cL_captures 29 = .ok (.aload_n 0, 1) := by decide +kernel
theorem dL_captures_30 : decode cL_captures 30 = .ok (.invokevirtual 76, 3) := by decide +kernel
theorem dL_captures_33 : decode cL_captures 33 = .ok (.ifCond .ne 208, 3) := by decide +kernel
theorem dL_captures_36 : decode cL_captures 36 = .ok (.aload_n 0, 1) := by decide +kernel
theorem dL_captures_37 : decode cL_captures 37 = .ok (.invokevirtual 79, 3) := by decide +kernel
theorem dL_captures_40 : decode cL_captures 40 = .ok (.iconst (-1), 1) := by decide +kernel
theorem dL_captures_41 : decode cL_captures 41 = .ok (.if_icmp .ne 200, 3) := by decide +kernel
theorem dL_captures_44 : decode cL_captures 44 = .ok (.aload_n 0, 1) := by decide +kernel
theorem dL_captures_45 : decode cL_captures 45 = .ok (.iconst 0, 1) := by decide +kernel
theorem dL_captures_46 : decode cL_captures 46 = .ok (.invokevirtual 40, 3) := by decide +kernel
theorem dL_captures_49 : decode cL_captures 49 = .ok (.sipush 576, 3) := by decide +kernel
theorem dL_captures_52 : decode cL_captures 52 = .ok (.if_icmp .ne 189, 3) := by decide +kernel
theorem dL_captures_55 : decode cL_captures 55 = .ok (.aload_n 0, 1) := by decide +kernel
theorem dL_captures_56 : decode cL_captures 56 = .ok (.iconst 0, 1) := by decide +kernel
theorem dL_captures_57 : decode cL_captures 57 = .ok (.iconst 0, 1) := by decide +kernel
theorem dL_captures_58 : decode cL_captures 58 = .ok (.invokevirtual 24, 3) := by decide +kernel
theorem dL_captures_61 : decode cL_captures 61 = .ok (.iconst (-1), 1) := by decide +kernel
theorem dL_captures_62 : decode cL_captures 62 = .ok (.if_icmp .ne 179, 3) := by decide +kernel
theorem dL_captures_65 : decode cL_captures 65 = .ok (.aload_n 0, 1) := by decide +kernel
theorem dL_captures_66 : decode cL_captures 66 = .ok (.iconst 0, 1) := by decide +kernel
theorem dL_captures_67 : decode cL_captures 67 = .ok (.invokevirtual 43, 3) := by decide +kernel
theorem dL_captures_70 : decode cL_captures 70 = .ok (.bipush 8, 2) := by decide +kernel
theorem dL_captures_72 : decode cL_captures 72 = .ok (.if_icmp .ne 169, 3) := by decide +kernel
theorem dL_captures_75 : decode cL_captures 75 = .ok (.aload_n 0, 1) := by decide +kernel
theorem dL_captures_76 : decode cL_captures 76 = .ok (.iconst 1, 1) := by decide +kernel
theorem dL_captures_77 : decode cL_captures 77 = .ok (.invokevirtual 43, 3) := by decide +kernel
theorem dL_captures_80 : decode cL_captures 80 = .ok (.ifCond .ne 161, 3) := by decide +kernel
theorem dL_captures_83 : decode cL_captures 83 = .ok (.aload_n 0, 1) := by decide +kernel
theorem dL_captures_84 : decode cL_captures 84 = .ok (.iconst 2, 1) := by decide +kernel
theorem dL_captures_85 : decode cL_captures 85 = .ok (.invokevirtual 43, 3) := by decide +kernel
theorem dL_captures_88 : decode cL_captures 88 = .ok (.ifCond .ne 153, 3) := by decide +kernel
theorem dL_captures_91 : decode cL_captures 91 = .ok (.aload_n 0, 1) := by decide +kernel
theorem dL_captures_92 : decode cL_captures 92 = .ok (.iconst 3, 1) := by decide +kernel
theorem dL_captures_93 : decode cL_captures 93 = .ok (.invokevirtual 43, 3) := by decide +kernel
theorem dL_captures_96 : decode cL_captures 96 = .ok (.bipush 8, 2) := by decide +kernel
theorem dL_captures_98 : decode cL_captures 98 = .ok (.if_icmp .ne 143, 3) := by decide +kernel
theorem dL_captures_101 : decode cL_captures 101 = .ok (.aload_n 0, 1) := by decide +kernel
theorem dL_captures_102 : decode cL_captures 102 = .ok (.iconst 3, 1) := by decide +kernel
theorem dL_captures_103 : decode cL_captures 103 = .ok (.invokevirtual 50, 3) := by decide +kernel
theorem dL_captures_106 : decode cL_captures 106 = .ok (.ifCond .ne 135, 3) := by decide +kernel
theorem dL_captures_109 : decode cL_captures 109 = .ok (.aload_n 0, 1) := by decide +kernel
theorem dL_captures_110 : decode cL_captures 110 = .ok (.invokestatic 82, 3) := by decide +kernel
theorem dL_captures_113 : decode cL_captures 113 = .ok (.ifCond .eq 128, 3) := by decide +kernel
theorem dL_captures_116 : decode cL_captures 116 = .ok (.aload_n 0, 1) := by decide +kernel
theorem dL_captures_117 : decode cL_captures 117 = .ok (.iconst 3, 1) := by decide +kernel
theorem dL_captures_118 : decode cL_captures 118 = .ok (.invokevirtual 7, 3) := by decide +kernel
theorem dL_captures_121 : decode cL_captures 121 = .ok (.bipush (-3), 2) := by decide +kernel
theorem dL_captures_123 : decode cL_captures 123 = .ok (.if_icmp .ne 118, 3) := by decide +kernel
theorem dL_captures_126 : decode cL_captures 126 = .ok (.aload_n 0, 1) := by decide +kernel
theorem dL_captures_127 : decode cL_captures 127 = .ok (.invokevirtual 62, 3) := by decide +kernel
theorem dL_captures_130 : decode cL_captures 130 = .ok (.iconst 1, 1) := by decide +kernel
theorem dL_captures_131 : decode cL_captures 131 = .ok (.if_icmp .ne 110, 3) := by decide +kernel
theorem dL_captures_134 : decode cL_captures 134 = .ok (.aload_n 0, 1) := by decide +kernel
theorem dL_captures_135 : decode cL_captures 135 = .ok (.iconst 1, 1) := by decide +kernel
theorem dL_captures_136 : decode cL_captures 136 = .ok (.invokevirtual 7, 3) := by decide +kernel
theorem dL_captures_139 : decode cL_captures 139 = .ok (.bipush 10, 2) := by decide +kernel
theorem dL_captures_141 : decode cL_captures 141 = .ok (.if_icmp .ne 100, 3) := by decide +kernel
theorem dL_captures_144 : decode cL_captures 144 = .ok (.aload_n 0, 1) := by decide +kernel
theorem dL_captures_145 : decode cL_captures 145 = .ok (.invokevirtual 59, 3) := by decide +kernel
theorem dL_captures_148 : decode cL_captures 148 = .ok (.iconst 1, 1) := by decide +kernel
theorem dL_captures_149 : decode cL_captures 149 = .ok (.if_icmp .ne 92, 3) := by decide +kernel
theorem dL_captures_152 : decode cL_captures 152 = .ok (.aload_n 0, 1) := by decide +kernel
theorem dL_captures_153 : decode cL_captures 153 = .ok (.invokevirtual 16, 3) := by decide +kernel
theorem dL_captures_156 : decode cL_captures 156 = .ok (.bipush 15, 2) := by decide +kernel
theorem dL_captures_158 : decode cL_captures 158 = .ok (.if_icmp .ne 83, 3) := by decide +kernel
theorem dL_captures_161 : decode cL_captures 161 = .ok (.aload_n 0, 1) := by decide +kernel
theorem dL_captures_162 : decode cL_captures 162 = .ok (.invokestatic 82, 3) := by decide +kernel
theorem dL_captures_165 : decode cL_captures 165 = .ok (.ifCond .eq 76, 3) := by decide +kernel
theorem dL_captures_168 : decode cL_captures 168 = .ok (.aload_n 0, 1) := by decide +kernel
theorem dL_captures_169 : decode cL_captures 169 = .ok (.iconst 2, 1) := by decide +kernel
theorem dL_captures_170 : decode cL_captures 170 = .ok (.invokevirtual 13, 3) := by decide +kernel
theorem dL_captures_173 : decode cL_captures 173 = .ok (.iconst 1, 1) := by decide +kernel
theorem dL_captures_174 : decode cL_captures 174 = .ok (.if_icmp .ne 67, 3) := by decide +kernel
theorem dL_captures_177 : decode cL_captures 177 = .ok (.aload_n 0, 1) := by decide +kernel
theorem dL_captures_178 : decode cL_captures 178 = .ok (.iconst 1, 1) := by decide +kernel
theorem dL_captures_179 : decode cL_captures 179 = .ok (.iconst 2, 1) := by decide +kernel
theorem dL_captures_180 : decode cL_captures 180 = .ok (.invokevirtual 24, 3) := by decide +kernel
theorem dL_captures_183 : decode cL_captures 183 = .ok (.bipush 21, 2) := by decide +kernel
theorem dL_captures_185 : decode cL_captures 185 = .ok (.if_icmp .ne 56, 3) := by decide +kernel
theorem dL_captures_188 : decode cL_captures 188 = .ok (.aload_n 0, 1) := by decide +kernel
theorem dL_captures_189 : decode cL_captures 189 = .ok (.bipush 21, 2) := by decide +kernel
theorem dL_captures_191 : decode cL_captures 191 = .ok (.invokevirtual 30, 3) := by decide +kernel
theorem dL_captures_194 : decode cL_captures 194 = .ok (.ifCond .eq 47, 3) := by decide +kernel
theorem dL_captures_197 : decode cL_captures 197 = .ok (.aload_n 0, 1) := by decide +kernel
theorem dL_captures_198 : decode cL_captures 198 = .ok (.bipush 21, 2) := by decide +kernel
theorem dL_captures_200 : decode cL_captures 200 = .ok (.iconst 1, 1) := by decide +kernel
theorem dL_captures_201 : decode cL_captures 201 = .ok (.invokevirtual 27, 3) := by decide +kernel
theorem dL_captures_204 : decode cL_captures 204 = .ok (.iconst 1, 1) := by decide +kernel
theorem dL_captures_205 : decode cL_captures 205 = .ok (.if_icmp .ne 36, 3) := by decide +kernel
theorem dL_captures_208 : decode cL_captures 208 = .ok (.aload_n 0, 1) := by decide +kernel
theorem dL_captures_209 : decode cL_captures 209 = .ok (.bipush 21, 2) := by decide +kernel
theorem dL_captures_211 : decode cL_captures 211 = .ok (.iconst 0, 1) := by decide +kernel
theorem dL_captures_212 : decode cL_captures 212 = .ok (.invokevirtual 27, 3) := by decide +kernel
theorem dL_captures_215 : decode cL_captures 215 = .ok (.ifCond .ne 26, 3) := by decide +kernel
theorem dL_captures_218 : decode cL_captures 218 = .ok (.aload_n 0, 1) := by decide +kernel
theorem dL_captures_219 : decode cL_captures 219 = .ok (.invokevirtual 62, 3) := by decide +kernel
theorem dL_captures_222 : decode cL_captures 222 = .ok (.iconst 1, 1) := by decide +kernel
theorem dL_captures_223 : decode cL_captures 223 = .ok (.if_icmp .ne 18, 3) := by decide +kernel
theorem dL_captures_226 : decode cL_captures 226 = .ok (.aload_n 0, 1) := by decide +kernel
theorem dL_captures_227 : decode cL_captures 227 = .ok (.invokevirtual 76, 3) := by decide +kernel
theorem dL_captures_230 : decode cL_captures 230 = .ok (.iconst 1, 1) := by decide +kernel
theorem dL_captures_231 : decode cL_captures 231 = .ok (.if_icmp .ne 10, 3) := by decide +kernel
theorem dL_captures_234 : decode cL_captures 234 = .ok (.aload_n 0, 1) := by decide +kernel
theorem dL_captures_235 : decode cL_captures 235 = .ok (.invokevirtual 59, 3) := by decide +kernel
theorem dL_captures_238 : decode cL_captures 238 = .ok (.ifCond .eq 5, 3) := by decide +kernel
theorem dL_captures_241 : decode cL_captures 241 = .ok (.iconst 0, 1) := by decide +kernel
theorem dL_captures_242 : decode cL_captures 242 = .ok (.ireturn, 1) := by decide +kernel
theorem dL_captures_243 : decode cL_captures 243 = .ok (.aload_n 0, 1) := by decide +kernel
theorem dL_captures_244 : decode cL_captures 244 = .ok (.bipush 6, 2) := by decide +kernel
theorem dL_captures_246 : decode cL_captures 246 = .ok (.bipush 15, 2) := by decide +kernel
theorem dL_captures_248 : decode cL_captures 248 = .ok (.iconst 2, 1) := by decide +kernel
theorem dL_captures_249 : decode cL_captures 249 = .ok (.bipush 7, 2) := by decide +kernel
theorem dL_captures_251 : decode cL_captures 251 = .ok (.invokestatic 86, 3) := by decide +kernel
theorem dL_captures_254 : decode cL_captures 254 = .ok (.ifCond .eq 147, 3) := by decide +kernel
theorem dL_captures_257 : decode cL_captures 257 = .ok (.aload_n 0, 1) := by decide +kernel
theorem dL_captures_258 : decode cL_captures 258 = .ok (.iconst 1, 1) := by decide +kernel
theorem dL_captures_259 : decode cL_captures 259 = .ok (.iconst 2, 1) := by decide +kernel
theorem dL_captures_260 : decode cL_captures 260 = .ok (.invokevirtual 24, 3) := by decide +kernel
theorem dL_captures_263 : decode cL_captures 263 = .ok (.bipush 27, 2) := by decide +kernel
theorem dL_captures_265 : decode cL_captures 265 = .ok (.if_icmp .ne 136, 3) := by decide +kernel
theorem dL_captures_268 : decode cL_captures 268 = .ok (.aload_n 0, 1) := by decide +kernel
theorem dL_captures_269 : decode cL_captures 269 = .ok (.invokevirtual 76, 3) := by decide +kernel
theorem dL_captures_272 : decode cL_captures 272 = .ok (.iconst 2, 1) := by decide +kernel
theorem dL_captures_273 : decode cL_captures 273 = .ok (.if_icmp .ne 128, 3) := by decide +kernel
theorem dL_captures_276 : decode cL_captures 276 = .ok (.aload_n 0, 1) := by decide +kernel
theorem dL_captures_277 : decode cL_captures 277 = .ok (.iconst 0, 1) := by decide +kernel
theorem dL_captures_278 : decode cL_captures 278 = .ok (.invokevirtual 43, 3) := by decide +kernel
theorem dL_captures_281 : decode cL_captures 281 = .ok (.bipush 56, 2) := by decide +kernel
theorem dL_captures_283 : decode cL_captures 283 = .ok (.if_icmp .ne 118, 3) := by decide +kernel
theorem dL_captures_286 : decode cL_captures 286 = .ok (.aload_n 0, 1) := by decide +kernel
theorem dL_captures_287 : decode cL_captures 287 = .ok (.iconst 3, 1) := by decide +kernel
theorem dL_captures_288 : decode cL_captures 288 = .ok (.invokevirtual 43, 3) := by decide +kernel
theorem dL_captures_291 : decode cL_captures 291 = .ok (.ifCond .ne 110, 3) := by decide +kernel
theorem dL_captures_294 : decode cL_captures 294 = .ok (.aload_n 0, 1) := by decide +kernel
theorem dL_captures_295 : decode cL_captures 295 = .ok (.iconst 0, 1) := by decide +kernel
theorem dL_captures_296 : decode cL_captures 296 = .ok (.invokevirtual 7, 3) := by decide +kernel
theorem dL_captures_299 : decode cL_captures 299 = .ok (.bipush (-25), 2) := by decide +kernel
theorem dL_captures_301 : decode cL_captures 301 = .ok (.if_icmp .ne 100, 3) := by decide +kernel
theorem dL_captures_304 : decode cL_captures 304 = .ok (.aload_n 0, 1) := by decide +kernel
theorem dL_captures_305 : decode cL_captures 305 = .ok (.invokevirtual 62, 3) := by decide +kernel
theorem dL_captures_308 : decode cL_captures 308 = .ok (.iconst 2, 1) := by decide +kernel
theorem dL_captures_309 : decode cL_captures 309 = .ok (.if_icmp .ne 92, 3) := by decide +kernel
theorem dL_captures_312 : decode cL_captures 312 = .ok (.aload_n 0, 1) := by decide +kernel
theorem dL_captures_313 : decode cL_captures 313 = .ok (.invokevirtual 76, 3) := by decide +kernel
theorem dL_captures_316 : decode cL_captures 316 = .ok (.ifCond .ne 85, 3) := by decide +kernel
theorem dL_captures_319 : decode cL_captures 319 = .ok (.aload_n 0, 1) := by decide +kernel
theorem dL_captures_320 : decode cL_captures 320 = .ok (.iconst 2, 1) := by decide +kernel
