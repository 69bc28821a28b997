theorem dL_castles_0 : decode cL_castles 0 = .ok (.new 8, 3) := by decide +kernel
theorem dL_castles_3 : decode cL_castles 3 = .ok (.dup, 1) := by decide +kernel
theorem dL_castles_4 : decode cL_castles 4 = .ok (.invokespecial 72, 3) := by decide +kernel
theorem dL_castles_7 : decode cL_castles 7 = .ok (.astore_n 0, 1) := by decide +kernel
theorem dL_castles_8 : decode cL_castles 8 = .ok (.aload_n 0, 1) := by decide +kernel
theorem dL_castles_9 : decode cL_castles 9 = .ok (.iconst 1, 1) := by decide +kernel
theorem dL_castles_10 : decode cL_castles 10 = .ok (.bipush 15, 2) := by decide +kernel
theorem dL_castles_12 : decode cL_castles 12 = .ok (.iconst 0, 1) := by decide +kernel
theorem dL_castles_13 : decode cL_castles 13 = .ok (.iconst 1, 1) := by decide +kernel
theorem dL_castles_14 : decode cL_castles 14 = .ok (.invokestatic 86, 3) := by decide +kernel
theorem dL_castles_17 : decode cL_castles 17 = .ok (.ifCond .eq 108, 3) := by decide +kernel
theorem dL_castles_20 : decode cL_castles 20 = .ok (.aload_n 0, 1) := by decide +kernel
theorem dL_castles_21 : decode cL_castles 21 = .ok (.iconst 1, 1) := by decide +kernel
theorem dL_castles_22 : decode cL_castles 22 = .ok (.bipush 15, 2) := by decide +kernel
theorem dL_castles_24 : decode cL_castles 24 = .ok (.iconst 1, 1) := by decide +kernel
theorem dL_castles_25 : decode cL_castles 25 = .ok (.iconst 1, 1) := by decide +kernel
theorem dL_castles_26 : decode cL_castles 26 = .ok (.invokestatic 86, 3) := by decide +kernel
theorem dL_castles_29 : decode cL_castles 29 = .ok (.ifCond .eq 96, 3) := by decide +kernel
theorem dL_castles_32 : decode cL_castles 32 = .ok (.aload_n 0, 1) := by decide +kernel
theorem dL_castles_33 : decode cL_castles 33 = .ok (.iconst 4, 1) := by decide +kernel
theorem dL_castles_34 : decode cL_castles 34 = .ok (.iconst 0, 1) := by decide +kernel
theorem dL_castles_35 : decode cL_castles 35 = .ok (.invokevirtual 27, 3) := by decide +kernel
theorem dL_castles_38 : decode cL_castles 38 = .ok (.iconst 2, 1) := by decide +kernel
theorem dL_castles_39 : decode cL_castles 39 = .ok (.if_icmp .ne 86, 3) := by decide +kernel
theorem dL_castles_42 : decode cL_castles 42 = .ok (.aload_n 0, 1) := by decide +kernel
theorem dL_castles_43 : decode cL_castles 43 = .ok (.bipush 6, 2) := by decide +kernel
theorem dL_castles_45 : decode cL_castles 45 = .ok (.invokevirtual 7, 3) := by decide +kernel
theorem dL_castles_48 : decode cL_castles 48 = .ok (.bipush (-6), 2) := by decide +kernel
theorem dL_castles_50 : decode cL_castles 50 = .ok (.if_icmp .ne 75, 3) := by decide +kernel
theorem dL_castles_53 : decode cL_castles 53 = .ok (.aload_n 0, 1) := by decide +kernel
theorem dL_castles_54 : decode cL_castles 54 = .ok (.invokevirtual 62, 3) := by decide +kernel
theorem dL_castles_57 : decode cL_castles 57 = .ok (.iconst 1, 1) := by decide +kernel
theorem dL_castles_58 : decode cL_castles 58 = .ok (.if_icmp .ne 67, 3) := by decide +kernel
theorem dL_castles_61 : decode cL_castles 61 = .ok (.aload_n 0, 1) := by decide +kernel
theorem dL_castles_62 : decode cL_castles 62 = .ok (.iconst 1, 1) := by decide +kernel
theorem dL_castles_63 : decode cL_castles 63 = .ok (.invokestatic 90, 3) := by decide +kernel
theorem dL_castles_66 : decode cL_castles 66 = .ok (.ifCond .eq 59, 3) := by decide +kernel
theorem dL_castles_69 : decode cL_castles 69 = .ok (.aload_n 0, 1) := by decide +kernel
theorem dL_castles_70 : decode cL_castles 70 = .ok (.iconst 2, 1) := by decide +kernel
theorem dL_castles_71 : decode cL_castles 71 = .ok (.invokestatic 90, 3) := by decide +kernel
theorem dL_castles_74 : decode cL_castles 74 = .ok (.ifCond .eq 51, 3) := by decide +kernel
theorem dL_castles_77 : decode cL_castles 77 = .ok (.aload_n 0, 1) := by decide +kernel
theorem dL_castles_78 : decode cL_castles 78 = .ok (.bipush 6, 2) := by decide +kernel
theorem dL_castles_80 : decode cL_castles 80 = .ok (.bipush 15, 2) := by decide +kernel
theorem dL_castles_82 : decode cL_castles 82 = .ok (.iconst 3, 1) := by decide +kernel
theorem dL_castles_83 : decode cL_castles 83 = .ok (.iconst 1, 1) := by decide +kernel
theorem dL_castles_84 : decode cL_castles 84 = .ok (.invokestatic 86, 3) := by decide +kernel
theorem dL_castles_87 : decode cL_castles 87 = .ok (.ifCond .eq 38, 3) := by decide +kernel
theorem dL_castles_90 : decode cL_castles 90 = .ok (.aload_n 0, 1) := by decide +kernel
theorem dL_castles_91 : decode cL_castles 91 = .ok (.iconst 0, 1) := by decide +kernel
theorem dL_castles_92 : decode cL_castles 92 = .ok (.bipush 7, 2) := by decide +kernel
theorem dL_castles_94 : decode cL_castles 94 = .ok (.iconst 1, 1) := by decide +kernel
theorem dL_castles_95 : decode cL_castles 95 = .ok (.iconst 1, 1) := by decide +kernel
theorem dL_castles_96 : decode cL_castles 96 = .ok (.invokestatic 86, 3) := by decide +kernel
theorem dL_castles_99 : decode cL_castles 99 = .ok (.ifCond .eq 26, 3) := by decide +kernel
theorem dL_castles_102 : decode cL_castles 102 = .ok (.aload_n 0, 1) := by decide +kernel
theorem dL_castles_103 : decode cL_castles 103 = .ok (.iconst 2, 1) := by decide +kernel
theorem dL_castles_104 : decode cL_castles 104 = .ok (.bipush 10, 2) := by decide +kernel
theorem dL_castles_106 : decode cL_castles 106 = .ok (.iconst 3, 1) := by decide +kernel
theorem dL_castles_107 : decode cL_castles 107 = .ok (.iconst 3, 1) := by decide +kernel
theorem dL_castles_108 : decode cL_castles 108 = .ok (.invokestatic 86, 3) := by decide +kernel
theorem dL_castles_111 : decode cL_castles 111 = .ok (.ifCond .eq 14, 3) := by decide +kernel
theorem dL_castles_114 : decode cL_castles 114 = .ok (.aload_n 0, 1) := by decide +kernel
theorem dL_castles_115 : decode cL_castles 115 = .ok (.iconst 3, 1) := by decide +kernel
theorem dL_castles_116 : decode cL_castles 116 = .ok (.iconst 3, 1) := by decide +kernel
theorem dL_castles_117 : decode cL_castles 117 = .ok (.invokevirtual 24, 3) := by decide +kernel
theorem dL_castles_120 : decode cL_castles 120 = .ok (.bipush 57, 2) := by decide +kernel
theorem dL_castles_122 : decode cL_castles 122 = .ok (.if_icmp .eq 5, 3) := by decide +kernel
theorem dL_castles_125 : decode cL_castles 125 = .ok (.iconst 0, 1) := by decide +kernel
theorem dL_castles_126 : decode cL_castles 126 = .ok (.ireturn, 1) := by decide +kernel
theorem dL_castles_127 : decode cL_castles 127 = .ok (.aload_n 0, 1) := by decide +kernel
theorem dL_castles_128 : decode cL_castles 128 = .ok (.iconst 0, 1) := by decide +kernel
theorem dL_castles_129 : decode cL_castles 129 = .ok (.bipush 15, 2) := by decide +kernel
theorem dL_castles_131 : decode cL_castles 131 = .ok (.iconst 0, 1) := by decide +kernel
theorem dL_castles_132 : decode cL_castles 132 = .ok (.bipush 26, 2) := by decide +kernel
theorem dL_castles_134 : decode cL_castles 134 = .ok (.invokestatic 86, 3) := by decide +kernel
theorem dL_castles_137 : decode cL_castles 137 = .ok (.ifCond .eq 204, 3) := by decide +kernel
theorem dL_castles_140 : decode cL_castles 140 = .ok (.aload_n 0, 1) := by decide +kernel
theorem dL_castles_141 : decode cL_castles 141 = .ok (.bipush 6, 2) := by decide +kernel
theorem dL_castles_143 : decode cL_castles 143 = .ok (.bipush 15, 2) := by decide +kernel
theorem dL_castles_145 : decode cL_castles 145 = .ok (.iconst 2, 1) := by decide +kernel
theorem dL_castles_146 : decode cL_castles 146 = .ok (.iconst 1, 1) := by decide +kernel
theorem dL_castles_147 : decode cL_castles 147 = .ok (.invokestatic 86, 3) := by decide +kernel
theorem dL_castles_150 : decode cL_castles 150 = .ok (.ifCond .eq 191, 3) := by decide +kernel
theorem dL_castles_153 : decode cL_castles 153 = .ok (.aload_n 0, 1) := by decide +kernel
theorem dL_castles_154 : decode cL_castles 154 = .ok (.iconst 4, 1) := by decide +kernel
theorem dL_castles_155 : decode cL_castles 155 = .ok (.iconst 0, 1) := by decide +kernel
theorem dL_castles_156 : decode cL_castles 156 = .ok (.invokevirtual 27, 3) := by decide +kernel
theorem dL_castles_159 : decode cL_castles 159 = .ok (.iconst 2, 1) := by decide +kernel
theorem dL_castles_160 : decode cL_castles 160 = .ok (.if_icmp .ne 181, 3) := by decide +kernel
theorem dL_castles_163 : decode cL_castles 163 = .ok (.aload_n 0, 1) := by decide +kernel
theorem dL_castles_164 : decode cL_castles 164 = .ok (.iconst 3, 1) := by decide +kernel
theorem dL_castles_165 : decode cL_castles 165 = .ok (.bipush 7, 2) := by decide +kernel
theorem dL_castles_167 : decode cL_castles 167 = .ok (.iconst 0, 1) := by decide +kernel
theorem dL_castles_168 : decode cL_castles 168 = .ok (.bipush 29, 2) := by decide +kernel
theorem dL_castles_170 : decode cL_castles 170 = .ok (.invokestatic 86, 3) := by decide +kernel
theorem dL_castles_173 : decode cL_castles 173 = .ok (.ifCond .eq 168, 3) := by decide +kernel
theorem dL_castles_176 : decode cL_castles 176 = .ok (.aload_n 0, 1) := by decide +kernel
theorem dL_castles_177 : decode cL_castles 177 = .ok (.iconst 1, 1) := by decide +kernel
theorem dL_castles_178 : decode cL_castles 178 = .ok (.invokestatic 90, 3) := by decide +kernel
theorem dL_castles_181 : decode cL_castles 181 = .ok (.ifCond .eq 160, 3) := by decide +kernel
theorem dL_castles_184 : decode cL_castles 184 = .ok (.aload_n 0, 1) := by decide +kernel
theorem dL_castles_185 : decode cL_castles 185 = .ok (.iconst 2, 1) := by decide +kernel
theorem dL_castles_186 : decode cL_castles 186 = .ok (.invokestatic 90, 3) := by decide +kernel
theorem dL_castles_189 : decode cL_castles 189 = .ok (.ifCond .eq 152, 3) := by decide +kernel
theorem dL_castles_192 : decode cL_castles 192 = .ok (.aload_n 0, 1) := by decide +kernel
theorem dL_castles_193 : decode cL_castles 193 = .ok (.iconst 1, 1) := by decide +kernel
theorem dL_castles_194 : decode cL_castles 194 = .ok (.bipush 15, 2) := by decide +kernel
theorem dL_castles_196 : decode cL_castles 196 = .ok (.iconst 3, 1) := by decide +kernel
theorem dL_castles_197 : decode cL_castles 197 = .ok (.bipush 13, 2) := by decide +kernel
theorem dL_castles_199 : decode cL_castles 199 = .ok (.invokestatic 86, 3) := by decide +kernel
theorem dL_castles_202 : decode cL_castles 202 = .ok (.ifCond .eq 139, 3) := by decide +kernel
theorem dL_castles_205 : decode cL_castles 205 = .ok (.aload_n 0, 1) := by decide +kernel
theorem dL_castles_206 : decode cL_castles 206 = .ok (.iconst 4, 1) := by decide +kernel
theorem dL_castles_207 : decode cL_castles 207 = .ok (.bipush 10, 2) := by decide +kernel
theorem dL_castles_209 : decode cL_castles 209 = .ok (.iconst 3, 1) := by decide +kernel
theorem dL_castles_210 : decode cL_castles 210 = .ok (.bipush 17, 2) := by decide +kernel
theorem dL_castles_212 : decode cL_castles 212 = .ok (.invokestatic 86, 3) := by decide +kernel
theorem dL_castles_215 : decode cL_castles 215 = .ok (.ifCond .eq 126, 3) := by decide +kernel
theorem dL_castles_218 : decode cL_castles 218 = .ok (.aload_n 0, 1) := by decide +kernel
theorem dL_castles_219 : decode cL_castles 219 = .ok (.iconst 3, 1) := by decide +kernel
theorem dL_castles_220 : decode cL_castles 220 = .ok (.iconst 3, 1) := by decide +kernel
theorem dL_castles_221 : decode cL_castles 221 = .ok (.invokevirtual 24, 3) := by decide +kernel
theorem dL_castles_224 : decode cL_castles 224 = .ok (.iconst 3, 1) := by decide +kernel
theorem dL_castles_225 : decode cL_castles 225 = .ok (.if_icmp .ne 116, 3) := by decide +kernel
theorem dL_castles_228 : decode cL_castles 228 = .ok (.aload_n 0, 1) := by decide +kernel
theorem dL_castles_229 : decode cL_castles 229 = .ok (.iconst 2, 1) := by decide +kernel
theorem dL_castles_230 : decode cL_castles 230 = .ok (.bipush 7, 2) := by decide +kernel
theorem dL_castles_232 : decode cL_castles 232 = .ok (.iconst 0, 1) := by decide +kernel
theorem dL_castles_233 : decode cL_castles 233 = .ok (.bipush 31, 2) := by decide +kernel
theorem dL_castles_235 : decode cL_castles 235 = .ok (.invokestatic 86, 3) := by decide +kernel
theorem dL_castles_238 : decode cL_castles 238 = .ok (.ifCond .eq 103, 3) := by decide +kernel
theorem dL_castles_241 : decode cL_castles 241 = .ok (.aload_n 0, 1) := by decide +kernel
theorem dL_castles_242 : decode cL_castles 242 = .ok (.iconst 1, 1) := by decide +kernel
theorem dL_castles_243 : decode cL_castles 243 = .ok (.invokestatic 90, 3) := by decide +kernel
theorem dL_castles_246 : decode cL_castles 246 = .ok (.ifCond .eq 95, 3) := by decide +kernel
theorem dL_castles_249 : decode cL_castles 249 = .ok (.aload_n 0, 1) := by decide +kernel
theorem dL_castles_250 : decode cL_castles 250 = .ok (.iconst 2, 1) := by decide +kernel
theorem dL_castles_251 : decode cL_castles 251 = .ok (.invokestatic 90, 3) := by decide +kernel
theorem dL_castles_254 : decode cL_castles 254 = .ok (.ifCond .eq 87, 3) := by decide +kernel
theorem dL_castles_257 : decode cL_castles 257 = .ok (.aload_n 0, 1) := by decide +kernel
theorem dL_castles_258 : decode cL_castles 258 = .ok (.iconst 0, 1) := by decide +kernel
theorem dL_castles_259 : decode cL_castles 259 = .ok (.invokevirtual 43, 3) := by decide +kernel
theorem dL_castles_262 : decode cL_castles 262 = .ok (.bipush 64, 2) := by decide +kernel
theorem dL_castles_264 : decode cL_castles 264 = .ok (.if_icmp .ne 77, 3) := by decide +kernel
theorem dL_castles_267 : decode cL_castles 267 = .ok (.aload_n 0, 1) := by decide +kernel
theorem dL_castles_268 : decode cL_castles 268 = .ok (.iconst 1, 1) := by decide +kernel
theorem dL_castles_269 : decode cL_castles 269 = .ok (.invokevirtual 7, 3) := by decide +kernel
theorem dL_castles_272 : decode cL_castles 272 = .ok (.bipush 10, 2) := by decide +kernel
theorem dL_castles_274 : decode cL_castles 274 = .ok (.if_icmp .ne 67, 3) := by decide +kernel
theorem dL_castles_277 : decode cL_castles 277 = .ok (.aload_n 0, 1) := by decide +kernel
theorem dL_castles_278 : decode cL_castles 278 = .ok (.invokevirtual 16, 3) := by decide +kernel
theorem dL_castles_281 : decode cL_castles 281 = .ok (.bipush 7, 2) := by decide +kernel
theorem dL_castles_283 : decode cL_castles 283 = .ok (.if_icmp .ne 58, 3) := by decide +kernel
theorem dL_castles_286 : decode cL_castles 286 = .ok (.aload_n 0, 1) := by decide +kernel
theorem dL_castles_287 : decode cL_castles 287 = .ok (.iconst 1, 1) := by decide +kernel
theorem dL_castles_288 : decode cL_castles 288 = .ok (.invokevirtual 13, 3) := by decide +kernel
theorem dL_castles_291 : decode cL_castles 291 = .ok (.bipush 11, 2) := by decide +kernel
theorem dL_castles_293 : decode cL_castles 293 = .ok (.if_icmp .ne 48, 3) := by decide +kernel
theorem dL_castles_296 : decode cL_castles 296 = .ok (.aload_n 0, 1) := by decide +kernel
