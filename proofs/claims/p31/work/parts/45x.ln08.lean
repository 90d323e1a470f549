set_option maxRecDepth 20000 in
theorem gL_isDrilled_L_isLearnt : GoodIn wsL_isDrilled (va_wsS RL 140 yL_isLearnt wsL_isLearnt) := goodIn_app (goodIn_of _ (by decide +kernel)) ggL_isDrilled_L_isLearnt
theorem dL_isDrilled_0 : decode cL_isDrilled 0 = .ok (.aload_n 0, 1) := by decide +kernel
theorem dL_isDrilled_1 : decode cL_isDrilled 1 = .ok (.iload_n 1, 1) := by decide +kernel
theorem dL_isDrilled_2 : decode cL_isDrilled 2 = .ok (.iconst 0, 1) := by decide +kernel
theorem dL_isDrilled_3 : decode cL_isDrilled 3 = .ok (.invokevirtual 84, 3) := by decide +kernel
theorem dL_isDrilled_6 : decode cL_isDrilled 6 = .ok (.istore_n 3, 1) := by decide +kernel
theorem dL_isDrilled_7 : decode cL_isDrilled 7 = .ok (.bipush 8, 2) := by decide +kernel
theorem dL_isDrilled_9 : decode cL_isDrilled 9 = .ok (.newarray .int, 2) := by decide +kernel
theorem dL_isDrilled_11 : decode cL_isDrilled 11 = .ok (.astore 4, 2) := by decide +kernel
theorem dL_isDrilled_13 : decode cL_isDrilled 13 = .ok (.iconst (-1), 1) := by decide +kernel
theorem dL_isDrilled_14 : decode cL_isDrilled 14 = .ok (.istore 5, 2) := by decide +kernel
theorem dL_isDrilled_16 : decode cL_isDrilled 16 = .ok (.iconst 0, 1) := by decide +kernel
theorem dL_isDrilled_17 : decode cL_isDrilled 17 = .ok (.istore 6, 2) := by decide +kernel
theorem dL_isDrilled_19 : decode cL_isDrilled 19 = .ok (.iload 6, 2) := by decide +kernel
theorem dL_isDrilled_21 : decode cL_isDrilled 21 = .ok (.iload_n 3, 1) := by decide +kernel
theorem dL_isDrilled_22 : decode cL_isDrilled 22 = .ok (.if_icmp .ge 57, 3) := by decide +kernel
theorem dL_isDrilled_25 : decode cL_isDrilled 25 = .ok (.aload 4, 2) := by decide +kernel
theorem dL_isDrilled_27 : decode cL_isDrilled 27 = .ok (.iload 6, 2) := by decide +kernel
theorem dL_isDrilled_29 : decode cL_isDrilled 29 = .ok (.aload_n 0, 1) := by decide +kernel
theorem dL_isDrilled_30 : decode cL_isDrilled 30 = .ok (.iload_n 1, 1) := by decide +kernel
theorem dL_isDrilled_31 : decode cL_isDrilled 31 = .ok (.iload 6, 2) := by decide +kernel
theorem dL_isDrilled_33 : decode cL_isDrilled 33 = .ok (.iload_n 2, 1) := by decide +kernel
theorem dL_isDrilled_34 : decode cL_isDrilled 34 = .ok (.invokevirtual 104, 3) := by decide +kernel
theorem dL_isDrilled_37 : decode cL_isDrilled 37 = .ok (.iastore, 1) := by decide +kernel
theorem dL_isDrilled_38 : decode cL_isDrilled 38 = .ok (.aload_n 0, 1) := by decide +kernel
theorem dL_isDrilled_39 : decode cL_isDrilled 39 = .ok (.aload_n 0, 1) := by decide +kernel
theorem dL_isDrilled_40 : decode cL_isDrilled 40 = .ok (.iload_n 1, 1) := by decide +kernel
theorem dL_isDrilled_41 : decode cL_isDrilled 41 = .ok (.iload 6, 2) := by decide +kernel
theorem dL_isDrilled_43 : decode cL_isDrilled 43 = .ok (.invokevirtual 87, 3) := by decide +kernel
theorem dL_isDrilled_46 : decode cL_isDrilled 46 = .ok (.iconst 2, 1) := by decide +kernel
theorem dL_isDrilled_47 : decode cL_isDrilled 47 = .ok (.invokevirtual 70, 3) := by decide +kernel
theorem dL_isDrilled_50 : decode cL_isDrilled 50 = .ok (.iconst (-1), 1) := by decide +kernel
theorem dL_isDrilled_51 : decode cL_isDrilled 51 = .ok (.if_icmp .ne 8, 3) := by decide +kernel
theorem dL_isDrilled_54 : decode cL_isDrilled 54 = .ok (.iload 5, 2) := by decide +kernel
theorem dL_isDrilled_56 : decode cL_isDrilled 56 = .ok (.goto 15, 3) := by decide +kernel
theorem dL_isDrilled_59 : decode cL_isDrilled 59 = .ok (.aload_n 0, 1) := by decide +kernel
theorem dL_isDrilled_60 : decode cL_isDrilled 60 = .ok (.aload_n 0, 1) := by decide +kernel
theorem dL_isDrilled_61 : decode cL_isDrilled 61 = .ok (.iload_n 1, 1) := by decide +kernel
theorem dL_isDrilled_62 : decode cL_isDrilled 62 = .ok (.iload 6, 2) := by decide +kernel
theorem dL_isDrilled_64 : decode cL_isDrilled 64 = .ok (.invokevirtual 87, 3) := by decide +kernel
theorem dL_isDrilled_67 : decode cL_isDrilled 67 = .ok (.iconst 2, 1) := by decide +kernel
theorem dL_isDrilled_68 : decode cL_isDrilled 68 = .ok (.invokevirtual 70, 3) := by decide +kernel
theorem dL_isDrilled_71 : decode cL_isDrilled 71 = .ok (.istore 5, 2) := by decide +kernel
theorem dL_isDrilled_73 : decode cL_isDrilled 73 = .ok (.iinc 6 1, 3) := by decide +kernel
theorem dL_isDrilled_76 : decode cL_isDrilled 76 = .ok (.goto (-57), 3) := by decide +kernel
theorem dL_isDrilled_79 : decode cL_isDrilled 79 = .ok (.iload 5, 2) := by decide +kernel
theorem dL_isDrilled_81 : decode cL_isDrilled 81 = .ok (.iconst (-1), 1) := by decide +kernel
theorem dL_isDrilled_82 : decode cL_isDrilled 82 = .ok (.if_icmp .ne 7, 3) := by decide +kernel
theorem dL_isDrilled_85 : decode cL_isDrilled 85 = .ok (.iconst 0, 1) := by decide +kernel
theorem dL_isDrilled_86 : decode cL_isDrilled 86 = .ok (.goto 11, 3) := by decide +kernel
theorem dL_isDrilled_89 : decode cL_isDrilled 89 = .ok (.aload_n 0, 1) := by decide +kernel
theorem dL_isDrilled_90 : decode cL_isDrilled 90 = .ok (.iload 5, 2) := by decide +kernel
theorem dL_isDrilled_92 : decode cL_isDrilled 92 = .ok (.iconst 2, 1) := by decide +kernel
theorem dL_isDrilled_93 : decode cL_isDrilled 93 = .ok (.iconst 0, 1) := by decide +kernel
theorem dL_isDrilled_94 : decode cL_isDrilled 94 = .ok (.invokevirtual 63, 3) := by decide +kernel
theorem dL_isDrilled_97 : decode cL_isDrilled 97 = .ok (.istore 6, 2) := by decide +kernel
theorem dL_isDrilled_99 : decode cL_isDrilled 99 = .ok (.aload_n 0, 1) := by decide +kernel
theorem dL_isDrilled_100 : decode cL_isDrilled 100 = .ok (.iload_n 1, 1) := by decide +kernel
theorem dL_isDrilled_101 : decode cL_isDrilled 101 = .ok (.iload_n 2, 1) := by decide +kernel
theorem dL_isDrilled_102 : decode cL_isDrilled 102 = .ok (.iconst 3, 1) := by decide +kernel
theorem dL_isDrilled_103 : decode cL_isDrilled 103 = .ok (.invokestatic 66, 3) := by decide +kernel
theorem dL_isDrilled_106 : decode cL_isDrilled 106 = .ok (.istore 7, 2) := by decide +kernel
theorem dL_isDrilled_108 : decode cL_isDrilled 108 = .ok (.iload 7, 2) := by decide +kernel
theorem dL_isDrilled_110 : decode cL_isDrilled 110 = .ok (.sipush (-200), 3) := by decide +kernel
theorem dL_isDrilled_113 : decode cL_isDrilled 113 = .ok (.if_icmp .ne 23, 3) := by decide +kernel
theorem dL_isDrilled_116 : decode cL_isDrilled 116 = .ok (.iload_n 3, 1) := by decide +kernel
theorem dL_isDrilled_117 : decode cL_isDrilled 117 = .ok (.ifCond .eq 13, 3) := by decide +kernel
theorem dL_isDrilled_120 : decode cL_isDrilled 120 = .ok (.aload_n 0, 1) := by decide +kernel
theorem dL_isDrilled_121 : decode cL_isDrilled 121 = .ok (.iload_n 1, 1) := by decide +kernel
theorem dL_isDrilled_122 : decode cL_isDrilled 122 = .ok (.iconst 4, 1) := by decide +kernel
theorem dL_isDrilled_123 : decode cL_isDrilled 123 = .ok (.invokevirtual 84, 3) := by decide +kernel
theorem dL_isDrilled_126 : decode cL_isDrilled 126 = .ok (.iconst 1, 1) := by decide +kernel
theorem dL_isDrilled_127 : decode cL_isDrilled 127 = .ok (.if_icmp .ne 7, 3) := by decide +kernel
theorem dL_isDrilled_130 : decode cL_isDrilled 130 = .ok (.iconst 1, 1) := by decide +kernel
theorem dL_isDrilled_131 : decode cL_isDrilled 131 = .ok (.goto 4, 3) := by decide +kernel
theorem dL_isDrilled_134 : decode cL_isDrilled 134 = .ok (.iconst 0, 1) := by decide +kernel
theorem dL_isDrilled_135 : decode cL_isDrilled 135 = .ok (.ireturn, 1) := by decide +kernel
theorem dL_isDrilled_136 : decode cL_isDrilled 136 = .ok (.iconst 0, 1) := by decide +kernel
theorem dL_isDrilled_137 : decode cL_isDrilled 137 = .ok (.istore 8, 2) := by decide +kernel
theorem dL_isDrilled_139 : decode cL_isDrilled 139 = .ok (.aload_n 0, 1) := by decide +kernel
theorem dL_isDrilled_140 : decode cL_isDrilled 140 = .ok (.iload_n 1, 1) := by decide +kernel
theorem dL_isDrilled_141 : decode cL_isDrilled 141 = .ok (.iconst 4, 1) := by decide +kernel
theorem dL_isDrilled_142 : decode cL_isDrilled 142 = .ok (.invokevirtual 84, 3) := by decide +kernel
theorem dL_isDrilled_145 : decode cL_isDrilled 145 = .ok (.iconst 1, 1) := by decide +kernel
theorem dL_isDrilled_146 : decode cL_isDrilled 146 = .ok (.if_icmp .ne 41, 3) := by decide +kernel
theorem dL_isDrilled_149 : decode cL_isDrilled 149 = .ok (.aload_n 0, 1) := by decide +kernel
theorem dL_isDrilled_150 : decode cL_isDrilled 150 = .ok (.iload_n 1, 1) := by decide +kernel
theorem dL_isDrilled_151 : decode cL_isDrilled 151 = .ok (.iload_n 2, 1) := by decide +kernel
theorem dL_isDrilled_152 : decode cL_isDrilled 152 = .ok (.iconst 3, 1) := by decide +kernel
theorem dL_isDrilled_153 : decode cL_isDrilled 153 = .ok (.invokestatic 66, 3) := by decide +kernel
theorem dL_isDrilled_156 : decode cL_isDrilled 156 = .ok (.sipush (-200), 3) := by decide +kernel
theorem dL_isDrilled_159 : decode cL_isDrilled 159 = .ok (.if_icmp .ne 28, 3) := by decide +kernel
theorem dL_isDrilled_162 : decode cL_isDrilled 162 = .ok (.iload 5, 2) := by decide +kernel
theorem dL_isDrilled_164 : decode cL_isDrilled 164 = .ok (.iconst (-1), 1) := by decide +kernel
theorem dL_isDrilled_165 : decode cL_isDrilled 165 = .ok (.if_icmp .eq 18, 3) := by decide +kernel
theorem dL_isDrilled_168 : decode cL_isDrilled 168 = .ok (.aload_n 0, 1) := by decide +kernel
theorem dL_isDrilled_169 : decode cL_isDrilled 169 = .ok (.iload 5, 2) := by decide +kernel
theorem dL_isDrilled_171 : decode cL_isDrilled 171 = .ok (.iconst 2, 1) := by decide +kernel
theorem dL_isDrilled_172 : decode cL_isDrilled 172 = .ok (.iconst 0, 1) := by decide +kernel
theorem dL_isDrilled_173 : decode cL_isDrilled 173 = .ok (.invokevirtual 63, 3) := by decide +kernel
theorem dL_isDrilled_176 : decode cL_isDrilled 176 = .ok (.iload 6, 2) := by decide +kernel
theorem dL_isDrilled_178 : decode cL_isDrilled 178 = .ok (.iconst 1, 1) := by decide +kernel
theorem dL_isDrilled_179 : decode cL_isDrilled 179 = .ok (.isub, 1) := by decide +kernel
theorem dL_isDrilled_180 : decode cL_isDrilled 180 = .ok (.if_icmp .ne 7, 3) := by decide +kernel
theorem dL_isDrilled_183 : decode cL_isDrilled 183 = .ok (.iconst 1, 1) := by decide +kernel
theorem dL_isDrilled_184 : decode cL_isDrilled 184 = .ok (.goto 4, 3) := by decide +kernel
theorem dL_isDrilled_187 : decode cL_isDrilled 187 = .ok (.iconst 0, 1) := by decide +kernel
theorem dL_isDrilled_188 : decode cL_isDrilled 188 = .ok (.istore 9, 2) := by decide +kernel
theorem dL_isDrilled_190 : decode cL_isDrilled 190 = .ok (.iconst 0, 1) := by decide +kernel
theorem dL_isDrilled_191 : decode cL_isDrilled 191 = .ok (.istore 10, 2) := by decide +kernel
theorem dL_isDrilled_193 : decode cL_isDrilled 193 = .ok (.iload 10, 2) := by decide +kernel
theorem dL_isDrilled_195 : decode cL_isDrilled 195 = .ok (.iload_n 3, 1) := by decide +kernel
theorem dL_isDrilled_196 : decode cL_isDrilled 196 = .ok (.if_icmp .ge 163, 3) := by decide +kernel
theorem dL_isDrilled_199 : decode cL_isDrilled 199 = .ok (.iload 9, 2) := by decide +kernel
theorem dL_isDrilled_201 : decode cL_isDrilled 201 = .ok (.ifCond .eq 158, 3) := by decide +kernel
theorem dL_isDrilled_204 : decode cL_isDrilled 204 = .ok (.aload_n 0, 1) := by decide +kernel
theorem dL_isDrilled_205 : decode cL_isDrilled 205 = .ok (.iload_n 1, 1) := by decide +kernel
theorem dL_isDrilled_206 : decode cL_isDrilled 206 = .ok (.iload 10, 2) := by decide +kernel
theorem dL_isDrilled_208 : decode cL_isDrilled 208 = .ok (.iload_n 2, 1) := by decide +kernel
theorem dL_isDrilled_209 : decode cL_isDrilled 209 = .ok (.invokevirtual 104, 3) := by decide +kernel
theorem dL_isDrilled_212 : decode cL_isDrilled 212 = .ok (.istore 11, 2) := by decide +kernel
theorem dL_isDrilled_214 : decode cL_isDrilled 214 = .ok (.iload 10, 2) := by decide +kernel
theorem dL_isDrilled_216 : decode cL_isDrilled 216 = .ok (.ifCond .le 37, 3) := by decide +kernel
theorem dL_isDrilled_219 : decode cL_isDrilled 219 = .ok (.iload 10, 2) := by decide +kernel
theorem dL_isDrilled_221 : decode cL_isDrilled 221 = .ok (.iconst 1, 1) := by decide +kernel
theorem dL_isDrilled_222 : decode cL_isDrilled 222 = .ok (.iadd, 1) := by decide +kernel
theorem dL_isDrilled_223 : decode cL_isDrilled 223 = .ok (.iload_n 3, 1) := by decide +kernel
theorem dL_isDrilled_224 : decode cL_isDrilled 224 = .ok (.if_icmp .ge 29, 3) := by decide +kernel
theorem dL_isDrilled_227 : decode cL_isDrilled 227 = .ok (.aload 4, 2) := by decide +kernel
theorem dL_isDrilled_229 : decode cL_isDrilled 229 = .ok (.iload 10, 2) := by decide +kernel
theorem dL_isDrilled_231 : decode cL_isDrilled 231 = .ok (.iconst 1, 1) := by decide +kernel
theorem dL_isDrilled_232 : decode cL_isDrilled 232 = .ok (.isub, 1) := by decide +kernel
theorem dL_isDrilled_233 : decode cL_isDrilled 233 = .ok (.iaload, 1) := by decide +kernel
theorem dL_isDrilled_234 : decode cL_isDrilled 234 = .ok (.iconst 1, 1) := by decide +kernel
theorem dL_isDrilled_235 : decode cL_isDrilled 235 = .ok (.if_icmp .ne 18, 3) := by decide +kernel
theorem dL_isDrilled_238 : decode cL_isDrilled 238 = .ok (.aload 4, 2) := by decide +kernel
theorem dL_isDrilled_240 : decode cL_isDrilled 240 = .ok (.iload 10, 2) := by decide +kernel
theorem dL_isDrilled_242 : decode cL_isDrilled 242 = .ok (.iconst 1, 1) := by decide +kernel
theorem dL_isDrilled_243 : decode cL_isDrilled 243 = .ok (.iadd, 1) := by decide +kernel
theorem dL_isDrilled_244 : decode cL_isDrilled 244 = .ok (.iaload, 1) := by decide +kernel
theorem dL_isDrilled_245 : decode cL_isDrilled 245 = .ok (.iconst 1, 1) := by decide +kernel
theorem dL_isDrilled_246 : decode cL_isDrilled 246 = .ok (.if_icmp .ne 7, 3) := by decide +kernel
theorem dL_isDrilled_249 : decode cL_isDrilled 249 = .ok (.iconst 1, 1) := by decide +kernel
theorem dL_isDrilled_250 : decode cL_isDrilled 250 = .ok (.goto 4, 3) := by decide +kernel
theorem dL_isDrilled_253 : decode cL_isDrilled 253 = .ok (.iconst 0, 1) := by decide +kernel
theorem dL_isDrilled_254 : decode cL_isDrilled 254 = .ok (.istore 12, 2) := by decide +kernel
theorem dL_isDrilled_256 : decode cL_isDrilled 256 = .ok (.iload 8, 2) := by decide +kernel
theorem dL_isDrilled_258 : decode cL_isDrilled 258 = .ok (.iload 11, 2) := by decide +kernel
theorem dL_isDrilled_260 : decode cL_isDrilled 260 = .ok (.iconst 1, 1) := by decide +kernel
theorem dL_isDrilled_261 : decode cL_isDrilled 261 = .ok (.if_icmp .ne 7, 3) := by decide +kernel
theorem dL_isDrilled_264 : decode cL_isDrilled 264 = .ok (.iconst 1, 1) := by decide +kernel
theorem dL_isDrilled_265 : decode cL_isDrilled 265 = .ok (.goto 4, 3) := by decide +kernel
theorem dL_isDrilled_268 : decode cL_isDrilled 268 = .ok (.iconst 0, 1) := by decide +kernel
theorem dL_isDrilled_269 : decode cL_isDrilled 269 = .ok (.iadd, 1) := by decide +kernel
theorem dL_isDrilled_270 : decode cL_isDrilled 270 = .ok (.istore 8, 2) := by decide +kernel
theorem dL_isDrilled_272 : decode cL_isDrilled 272 = .ok (.aload 4, 2) := by decide +kernel
theorem dL_isDrilled_274 : decode cL_isDrilled 274 = .ok (.iload 10, 2) := by decide +kernel
theorem dL_isDrilled_276 : decode cL_isDrilled 276 = .ok (.iaload, 1) := by decide +kernel
theorem dL_isDrilled_277 : decode cL_isDrilled 277 = .ok (.iconst 1, 1) := by decide +kernel
theorem dL_isDrilled_278 : decode cL_isDrilled 278 = .ok (.if_icmp .ne 17, 3) := by decide +kernel
theorem dL_isDrilled_281 : decode cL_isDrilled 281 = .ok (.iload 11, 2) := by decide +kernel
theorem dL_isDrilled_283 : decode cL_isDrilled 283 = .ok (.iconst 1, 1) := by decide +kernel
theorem dL_isDrilled_284 : decode cL_isDrilled 284 = .ok (.if_icmp .ne 7, 3) := by decide +kernel
theorem dL_isDrilled_287 : decode cL_isDrilled 287 = .ok (.iconst 1, 1) := by decide +kernel
theorem dL_isDrilled_288 : decode cL_isDrilled 288 = .ok (.goto 63, 3) := by decide +kernel
theorem dL_isDrilled_291 : decode cL_isDrilled 291 = .ok (.iconst 0, 1) := by decide +kernel
theorem dL_isDrilled_292 : decode cL_isDrilled 292 = .ok (.goto 59, 3) := by decide +kernel
theorem dL_isDrilled_295 : decode cL_isDrilled 295 = .ok (.aload 4, 2) := by decide +kernel
theorem dL_isDrilled_297 : decode cL_isDrilled 297 = .ok (.iload 10, 2) := by decide +kernel
theorem dL_isDrilled_299 : decode cL_isDrilled 299 = .ok (.iaload, 1) := by decide +kernel
theorem dL_isDrilled_300 : decode cL_isDrilled 300 = .ok (.iconst 2, 1) := by decide +kernel
theorem dL_isDrilled_301 : decode cL_isDrilled 301 = .ok (.if_icmp .ne 26, 3) := by decide +kernel
theorem dL_isDrilled_304 : decode cL_isDrilled 304 = .ok (.iload 11, 2) := by decide +kernel
theorem dL_isDrilled_306 : decode cL_isDrilled 306 = .ok (.iload 12, 2) := by decide +kernel
theorem dL_isDrilled_308 : decode cL_isDrilled 308 = .ok (.ifCond .eq 7, 3) := by decide +kernel
theorem dL_isDrilled_311 : decode cL_isDrilled 311 = .ok (.iconst 1, 1) := by decide +kernel
theorem dL_isDrilled_312 : decode cL_isDrilled 312 = .ok (.goto 4, 3) := by decide +kernel
theorem dL_isDrilled_315 : decode cL_isDrilled 315 = .ok (.iconst 2, 1) := by decide +kernel
theorem dL_isDrilled_316 : decode cL_isDrilled 316 = .ok (.if_icmp .ne 7, 3) := by decide +kernel
theorem dL_isDrilled_319 : decode cL_isDrilled 319 = .ok (.iconst 1, 1) := by decide +kernel
theorem dL_isDrilled_320 : decode cL_isDrilled 320 = .ok (.goto 31, 3) := by decide +kernel
theorem dL_isDrilled_323 : decode cL_isDrilled 323 = .ok (.iconst 0, 1) := by decide +kernel
theorem dL_isDrilled_324 : decode cL_isDrilled 324 = .ok (.goto 27, 3) := by decide +kernel
theorem dL_isDrilled_327 : decode cL_isDrilled 327 = .ok (.iload 11, 2) := by decide +kernel
theorem dL_isDrilled_329 : decode cL_isDrilled 329 = .ok (.iconst 2, 1) := by decide +kernel
theorem dL_isDrilled_330 : decode cL_isDrilled 330 = .ok (.if_icmp .lt 16, 3) := by decide +kernel
theorem dL_isDrilled_333 : decode cL_isDrilled 333 = .ok (.aload_n 0, 1) := by decide +kernel
theorem dL_isDrilled_334 : decode cL_isDrilled 334 = .ok (.iload_n 1, 1) := by decide +kernel
theorem dL_isDrilled_335 : decode cL_isDrilled 335 = .ok (.iload 10, 2) := by decide +kernel
theorem dL_isDrilled_337 : decode cL_isDrilled 337 = .ok (.aload 4, 2) := by decide +kernel
theorem dL_isDrilled_339 : decode cL_isDrilled 339 = .ok (.iload_n 3, 1) := by decide +kernel
theorem dL_isDrilled_340 : decode cL_isDrilled 340 = .ok (.invokestatic 140, 3) := by decide +kernel
theorem dL_isDrilled_343 : decode cL_isDrilled 343 = .ok (.ifCond .eq 7, 3) := by decide +kernel
theorem dL_isDrilled_346 : decode cL_isDrilled 346 = .ok (.iconst 1, 1) := by decide +kernel
theorem dL_isDrilled_347 : decode cL_isDrilled 347 = .ok (.goto 4, 3) := by decide +kernel
theorem dL_isDrilled_350 : decode cL_isDrilled 350 = .ok (.iconst 0, 1) := by decide +kernel
theorem dL_isDrilled_351 : decode cL_isDrilled 351 = .ok (.istore 9, 2) := by decide +kernel
theorem dL_isDrilled_353 : decode cL_isDrilled 353 = .ok (.iinc 10 1, 3) := by decide +kernel
theorem dL_isDrilled_356 : decode cL_isDrilled 356 = .ok (.goto (-163), 3) := by decide +kernel
theorem dL_isDrilled_359 : decode cL_isDrilled 359 = .ok (.iload 9, 2) := by decide +kernel
theorem dL_isDrilled_361 : decode cL_isDrilled 361 = .ok (.ifCond .eq 14, 3) := by decide +kernel
theorem dL_isDrilled_364 : decode cL_isDrilled 364 = .ok (.iload 7, 2) := by decide +kernel
theorem dL_isDrilled_366 : decode cL_isDrilled 366 = .ok (.iload 8, 2) := by decide +kernel
theorem dL_isDrilled_368 : decode cL_isDrilled 368 = .ok (.if_icmp .ne 7, 3) := by decide +kernel
theorem dL_isDrilled_371 : decode cL_isDrilled 371 = .ok (.iconst 1, 1) := by decide +kernel
theorem dL_isDrilled_372 : decode cL_isDrilled 372 = .ok (.goto 4, 3) := by decide +kernel
theorem dL_isDrilled_375 : decode cL_isDrilled 375 = .ok (.iconst 0, 1) := by decide +kernel
theorem dL_isDrilled_376 : decode cL_isDrilled 376 = .ok (.ireturn, 1) := by decide +kernel
set_option maxRecDepth 20000 in
theorem ggL_isLearnt_X6_seat : GoodIn wsL_isLearnt wsX6_seat := goodIn_ca (goodIn_r _ [5, 6, 7, 8, 9, 10, 4, 11, 12, 13, 14, 15, 16, 17, 18, 19, 20, 21, 22, 23, 24, 25, 26, 27, 28, 29, 30, 31, 32, 33, 34, 35, 36, 37, 38, 39, 40, 41, 42, 43, 44, 45, 46, 66, 67, 68, 69, 70, 71, 72, 73, 74, 75, 76, 77, 78, 79, 80, 81, 82, 83, 84, 85, 86, 87, 88, 89, 90] (by decide +kernel) (by decide +kernel)) (goodIn_sub (fun _ h => List.mem_cons_of_mem _ (List.mem_append_left _ (List.mem_append_right _ h))) (by decide +kernel))
set_option maxRecDepth 20000 in
theorem gL_isLearnt_X6_seat : GoodIn wsL_isLearnt (wsV RL 87 RX6 yX6_seat wsX6_seat) := goodIn_app (goodIn_of _ (by decide +kernel)) ggL_isLearnt_X6_seat
set_option maxRecDepth 20000 in
theorem ggL_isLearnt_X6_ofPlayer : GoodIn wsL_isLearnt wsX6_ofPlayer := goodIn_ca (goodIn_ca (goodIn_r _ [50, 51, 52, 53, 54, 55, 56, 57, 4, 58, 59, 60, 14, 15, 16, 17, 18, 19, 20, 21, 22, 23, 24, 25, 26, 27, 28, 29, 30, 31, 32, 33, 34, 35, 36, 37, 38, 39, 40, 41, 61, 62, 63, 64, 65, 68, 69, 70, 71, 72, 73, 91, 92, 93, 94, 95, 74, 75, 76, 77, 78, 79, 80, 81, 82, 83] (by decide +kernel) (by decide +kernel)) (goodIn_sub (fun _ h => List.mem_cons_of_mem _ (List.mem_append_left _ (List.mem_append_right _ h))) (by decide +kernel))) (goodIn_sub (fun _ h => List.mem_cons_of_mem _ (List.mem_append_right _ h)) (by decide +kernel))
set_option maxRecDepth 20000 in
theorem gL_isLearnt_X6_ofPlayer : GoodIn wsL_isLearnt (wsV RL 70 RX6 yX6_ofPlayer wsX6_ofPlayer) := goodIn_app (goodIn_of _ (by decide +kernel)) ggL_isLearnt_X6_ofPlayer
theorem dL_isLearnt_0 : decode cL_isLearnt 0 = .ok (.iload_n 2, 1) := by decide +kernel
theorem dL_isLearnt_1 : decode cL_isLearnt 1 = .ok (.ifCond .ne 7, 3) := by decide +kernel
theorem dL_isLearnt_4 : decode cL_isLearnt 4 = .ok (.iconst 0, 1) := by decide +kernel
theorem dL_isLearnt_5 : decode cL_isLearnt 5 = .ok (.goto 8, 3) := by decide +kernel
theorem dL_isLearnt_8 : decode cL_isLearnt 8 = .ok (.aload_n 3, 1) := by decide +kernel
theorem dL_isLearnt_9 : decode cL_isLearnt 9 = .ok (.iload_n 2, 1) := by decide +kernel
theorem dL_isLearnt_10 : decode cL_isLearnt 10 = .ok (.iconst 1, 1) := by decide +kernel
theorem dL_isLearnt_11 : decode cL_isLearnt 11 = .ok (.isub, 1) := by decide +kernel
theorem dL_isLearnt_12 : decode cL_isLearnt 12 = .ok (.iaload, 1) := by decide +kernel
theorem dL_isLearnt_13 : decode cL_isLearnt 13 = .ok (.istore 5, 2) := by decide +kernel
theorem dL_isLearnt_15 : decode cL_isLearnt 15 = .ok (.iload_n 2, 1) := by decide +kernel
theorem dL_isLearnt_16 : decode cL_isLearnt 16 = .ok (.iconst 1, 1) := by decide +kernel
theorem dL_isLearnt_17 : decode cL_isLearnt 17 = .ok (.iadd, 1) := by decide +kernel
theorem dL_isLearnt_18 : decode cL_isLearnt 18 = .ok (.iload 4, 2) := by decide +kernel
theorem dL_isLearnt_20 : decode cL_isLearnt 20 = .ok (.if_icmp .ne 7, 3) := by decide +kernel
theorem dL_isLearnt_23 : decode cL_isLearnt 23 = .ok (.iconst 0, 1) := by decide +kernel
theorem dL_isLearnt_24 : decode cL_isLearnt 24 = .ok (.goto 8, 3) := by decide +kernel
theorem dL_isLearnt_27 : decode cL_isLearnt 27 = .ok (.aload_n 3, 1) := by decide +kernel
theorem dL_isLearnt_28 : decode cL_isLearnt 28 = .ok (.iload_n 2, 1) := by decide +kernel
theorem dL_isLearnt_29 : decode cL_isLearnt 29 = .ok (.iconst 1, 1) := by decide +kernel
theorem dL_isLearnt_30 : decode cL_isLearnt 30 = .ok (.iadd, 1) := by decide +kernel
theorem dL_isLearnt_31 : decode cL_isLearnt 31 = .ok (.iaload, 1) := by decide +kernel
theorem dL_isLearnt_32 : decode cL_isLearnt 32 = .ok (.istore 6, 2) := by decide +kernel
theorem dL_isLearnt_34 : decode cL_isLearnt 34 = .ok (.iload 5, 2) := by decide +kernel
theorem dL_isLearnt_36 : decode cL_isLearnt 36 = .ok (.ifCond .ne 8, 3) := by decide +kernel
theorem dL_isLearnt_39 : decode cL_isLearnt 39 = .ok (.iload 6, 2) := by decide +kernel
theorem dL_isLearnt_41 : decode cL_isLearnt 41 = .ok (.goto 5, 3) := by decide +kernel
theorem dL_isLearnt_44 : decode cL_isLearnt 44 = .ok (.iload 5, 2) := by decide +kernel
theorem dL_isLearnt_46 : decode cL_isLearnt 46 = .ok (.istore 7, 2) := by decide +kernel
theorem dL_isLearnt_48 : decode cL_isLearnt 48 = .ok (.iload 7, 2) := by decide +kernel
theorem dL_isLearnt_50 : decode cL_isLearnt 50 = .ok (.iconst 2, 1) := by decide +kernel
theorem dL_isLearnt_51 : decode cL_isLearnt 51 = .ok (.if_icmp .eq 24, 3) := by decide +kernel
theorem dL_isLearnt_54 : decode cL_isLearnt 54 = .ok (.iload 7, 2) := by decide +kernel
theorem dL_isLearnt_56 : decode cL_isLearnt 56 = .ok (.iconst 1, 1) := by decide +kernel
theorem dL_isLearnt_57 : decode cL_isLearnt 57 = .ok (.if_icmp .ne 22, 3) := by decide +kernel
theorem dL_isLearnt_60 : decode cL_isLearnt 60 = .ok (.aload_n 0, 1) := by decide +kernel
theorem dL_isLearnt_61 : decode cL_isLearnt 61 = .ok (.aload_n 0, 1) := by decide +kernel
theorem dL_isLearnt_62 : decode cL_isLearnt 62 = .ok (.iload_n 1, 1) := by decide +kernel
theorem dL_isLearnt_63 : decode cL_isLearnt 63 = .ok (.iload_n 2, 1) := by decide +kernel
theorem dL_isLearnt_64 : decode cL_isLearnt 64 = .ok (.invokevirtual 87, 3) := by decide +kernel
theorem dL_isLearnt_67 : decode cL_isLearnt 67 = .ok (.iconst 1, 1) := by decide +kernel
theorem dL_isLearnt_68 : decode cL_isLearnt 68 = .ok (.invokevirtual 70, 3) := by decide +kernel
theorem dL_isLearnt_71 : decode cL_isLearnt 71 = .ok (.iconst 2, 1) := by decide +kernel
theorem dL_isLearnt_72 : decode cL_isLearnt 72 = .ok (.if_icmp .ne 7, 3) := by decide +kernel
theorem dL_isLearnt_75 : decode cL_isLearnt 75 = .ok (.iconst 1, 1) := by decide +kernel
theorem dL_isLearnt_76 : decode cL_isLearnt 76 = .ok (.goto 4, 3) := by decide +kernel
theorem dL_isLearnt_79 : decode cL_isLearnt 79 = .ok (.iconst 0, 1) := by decide +kernel
theorem dL_isLearnt_80 : decode cL_isLearnt 80 = .ok (.ireturn, 1) := by decide +kernel
set_option maxRecDepth 20000 in
theorem ggL_areParts_X6_leaps : GoodIn wsL_areParts wsX6_leaps := goodIn_ca (goodIn_r _ [5, 6, 7, 8, 9, 4, 10, 11, 12, 13, 14, 15, 16, 17, 18, 19, 20, 21, 22, 23, 24, 25, 26, 27, 28, 29, 30, 31, 32, 33, 34, 35, 36, 37, 38, 39, 40, 41, 42, 43, 44, 45, 46, 47, 48, 49, 50, 51, 52, 53, 54, 55, 56, 57, 58, 59, 60, 61, 62, 63, 64, 65, 66, 67, 68, 69, 70, 71, 72, 73, 74, 75, 76, 77, 78, 79, 80, 81, 82, 83, 84, 85, 86, 87, 88, 125, 126, 127, 128, 129, 130, 131, 132, 133, 134, 135, 136, 137, 138, 139, 140, 141, 142, 143, 144, 145, 146, 147, 148, 149, 150, 151] (by decide +kernel) (by decide +kernel)) (goodIn_sub (fun _ h => List.mem_cons_of_mem _ (List.mem_append_left _ (List.mem_append_right _ h))) (by decide +kernel))
set_option maxRecDepth 20000 in
theorem gL_areParts_X6_leaps : GoodIn wsL_areParts (wsV RL 98 RX6 yX6_leaps wsX6_leaps) := goodIn_app (goodIn_of _ (by decide +kernel)) ggL_areParts_X6_leaps
set_option maxRecDepth 20000 in
theorem ggL_areParts_X6_ofBand : GoodIn wsL_areParts wsX6_ofBand := goodIn_ca (goodIn_ca (goodIn_r _ [92, 93, 94, 95, 96, 97, 7, 8, 9, 4, 10, 11, 12, 13, 14, 15, 16, 17, 18, 19, 20, 21, 22, 23, 24, 25, 26, 27, 28, 29, 30, 31, 32, 33, 34, 35, 36, 37, 38, 39, 40, 98, 99, 100, 101, 102, 103, 49, 50, 51, 52, 53, 137, 138, 139, 140, 141, 142, 143, 125, 126, 127, 128, 129, 130, 131, 132, 133, 134] (by decide +kernel) (by decide +kernel)) (goodIn_sub (fun _ h => List.mem_cons_of_mem _ (List.mem_append_left _ (List.mem_append_right _ h))) (by decide +kernel))) (goodIn_sub (fun _ h => List.mem_cons_of_mem _ (List.mem_append_right _ h)) (by decide +kernel))
set_option maxRecDepth 20000 in
theorem gL_areParts_X6_ofBand : GoodIn wsL_areParts (wsV RL 84 RX6 yX6_ofBand wsX6_ofBand) := goodIn_app (goodIn_of _ (by decide +kernel)) ggL_areParts_X6_ofBand
set_option maxRecDepth 20000 in
theorem ggL_areParts_X6_part : GoodIn wsL_areParts wsX6_part := goodIn_ca (goodIn_r _ [107, 6, 108, 7, 8, 9, 4, 10, 11, 12, 13, 14, 15, 16, 17, 18, 19, 20, 21, 22, 23, 24, 25, 26, 27, 28, 29, 30, 31, 32, 33, 34, 35, 36, 37, 38, 39, 40, 109, 110, 111, 103, 49, 50, 51, 52, 53, 41, 42, 43, 44, 45, 46, 47, 48, 54, 55, 56, 57, 58, 59, 60, 61, 62, 63, 64, 65, 66, 67, 68, 69, 70, 71, 72, 73, 74, 75, 76, 77, 78, 79, 80, 81, 82, 83, 84, 85, 86, 87, 88, 125, 126, 127, 128, 129, 130, 131, 135, 136, 132, 133, 134, 137, 138, 139, 140, 141, 142, 143, 144, 145, 146, 147, 148, 149, 150, 151] (by decide +kernel) (by decide +kernel)) (goodIn_sub (fun _ h => List.mem_cons_of_mem _ (List.mem_append_left _ (List.mem_append_right _ h))) (by decide +kernel))
set_option maxRecDepth 20000 in
theorem gL_areParts_X6_part : GoodIn wsL_areParts (wsV RL 144 RX6 yX6_part wsX6_part) := goodIn_app (goodIn_of _ (by decide +kernel)) ggL_areParts_X6_part
set_option maxRecDepth 20000 in
theorem ggL_areParts_X6_knows : GoodIn wsL_areParts wsX6_knows := goodIn_ca (goodIn_r _ [115, 116, 7, 8, 9, 4, 10, 11, 12, 13, 14, 15, 16, 17, 18, 19, 20, 21, 22, 23, 24, 25, 26, 27, 28, 29, 30, 31, 32, 33, 34, 35, 36, 37, 38, 39, 40, 117, 118, 119, 93, 120, 109, 110, 111, 103, 49, 50, 51, 52, 53, 144, 145, 125, 126, 127, 128, 129, 130, 131, 132, 133, 134, 137, 138, 139, 140, 141, 142, 143] (by decide +kernel) (by decide +kernel)) (goodIn_sub (fun _ h => List.mem_cons_of_mem _ (List.mem_append_left _ (List.mem_append_right _ h))) (by decide +kernel))
set_option maxRecDepth 20000 in
theorem gL_areParts_X6_knows : GoodIn wsL_areParts (wsV RL 104 RX6 yX6_knows wsX6_knows) := goodIn_app (goodIn_of _ (by decide +kernel)) ggL_areParts_X6_knows
set_option maxRecDepth 20000 in
theorem ggL_areParts_X6_without : GoodIn wsL_areParts wsX6_without := goodIn_ca (goodIn_r _ [124, 93, 6, 7, 8, 9, 4, 10, 11, 12, 13, 14, 15, 16, 17, 18, 19, 20, 21, 22, 23, 24, 25, 26, 27, 28, 29, 30, 31, 32, 33, 34, 35, 36, 37, 38, 39, 40, 41, 42, 43, 44, 45, 46, 47, 48, 49, 50, 51, 52, 53, 54, 55, 56, 57, 58, 59, 60, 61, 62, 63, 64, 65, 66, 67, 68, 69, 70, 71, 72, 73, 74, 75, 76, 77, 78, 79, 80, 81, 82, 83, 84, 85, 86, 87, 88, 137, 138, 139, 140, 141, 142, 143, 125, 126, 127, 128, 129, 130, 131, 132, 133, 134, 135, 136, 144, 145, 146, 147, 148, 149, 150, 151] (by decide +kernel) (by decide +kernel)) (goodIn_sub (fun _ h => List.mem_cons_of_mem _ (List.mem_append_left _ (List.mem_append_right _ h))) (by decide +kernel))
set_option maxRecDepth 20000 in
theorem gL_areParts_X6_without : GoodIn wsL_areParts (wsV RL 147 RX6 yX6_without wsX6_without) := goodIn_app (goodIn_of _ (by decide +kernel)) ggL_areParts_X6_without
theorem dL_areParts_0 : decode cL_areParts 0 = .ok (.aload_n 0, 1) := by decide +kernel
theorem dL_areParts_1 : decode cL_areParts 1 = .ok (.iload_n 1, 1) := by decide +kernel
theorem dL_areParts_2 : decode cL_areParts 2 = .ok (.invokevirtual 98, 3) := by decide +kernel
theorem dL_areParts_5 : decode cL_areParts 5 = .ok (.istore_n 2, 1) := by decide +kernel
theorem dL_areParts_6 : decode cL_areParts 6 = .ok (.iload_n 2, 1) := by decide +kernel
theorem dL_areParts_7 : decode cL_areParts 7 = .ok (.iconst (-1), 1) := by decide +kernel
theorem dL_areParts_8 : decode cL_areParts 8 = .ok (.if_icmp .eq 12, 3) := by decide +kernel
theorem dL_areParts_11 : decode cL_areParts 11 = .ok (.aload_n 0, 1) := by decide +kernel
theorem dL_areParts_12 : decode cL_areParts 12 = .ok (.iload_n 1, 1) := by decide +kernel
theorem dL_areParts_13 : decode cL_areParts 13 = .ok (.iconst 2, 1) := by decide +kernel
theorem dL_areParts_14 : decode cL_areParts 14 = .ok (.invokevirtual 84, 3) := by decide +kernel
theorem dL_areParts_17 : decode cL_areParts 17 = .ok (.ifCond .le 7, 3) := by decide +kernel
theorem dL_areParts_20 : decode cL_areParts 20 = .ok (.iconst 1, 1) := by decide +kernel
theorem dL_areParts_21 : decode cL_areParts 21 = .ok (.goto 4, 3) := by decide +kernel
theorem dL_areParts_24 : decode cL_areParts 24 = .ok (.iconst 0, 1) := by decide +kernel
theorem dL_areParts_25 : decode cL_areParts 25 = .ok (.istore_n 3, 1) := by decide +kernel
theorem dL_areParts_26 : decode cL_areParts 26 = .ok (.iconst 0, 1) := by decide +kernel
theorem dL_areParts_27 : decode cL_areParts 27 = .ok (.istore 4, 2) := by decide +kernel
theorem dL_areParts_29 : decode cL_areParts 29 = .ok (.iconst 0, 1) := by decide +kernel
theorem dL_areParts_30 : decode cL_areParts 30 = .ok (.istore 5, 2) := by decide +kernel
theorem dL_areParts_32 : decode cL_areParts 32 = .ok (.iload 5, 2) := by decide +kernel
theorem dL_areParts_34 : decode cL_areParts 34 = .ok (.aload_n 0, 1) := by decide +kernel
theorem dL_areParts_35 : decode cL_areParts 35 = .ok (.iload_n 1, 1) := by decide +kernel
theorem dL_areParts_36 : decode cL_areParts 36 = .ok (.iconst 2, 1) := by decide +kernel
theorem dL_areParts_37 : decode cL_areParts 37 = .ok (.invokevirtual 84, 3) := by decide +kernel
theorem dL_areParts_40 : decode cL_areParts 40 = .ok (.if_icmp .ge 90, 3) := by decide +kernel
theorem dL_areParts_43 : decode cL_areParts 43 = .ok (.iload_n 3, 1) := by decide +kernel
theorem dL_areParts_44 : decode cL_areParts 44 = .ok (.ifCond .eq 86, 3) := by decide +kernel
theorem dL_areParts_47 : decode cL_areParts 47 = .ok (.aload_n 0, 1) := by decide +kernel
theorem dL_areParts_48 : decode cL_areParts 48 = .ok (.iload_n 1, 1) := by decide +kernel
theorem dL_areParts_49 : decode cL_areParts 49 = .ok (.iload 5, 2) := by decide +kernel
theorem dL_areParts_51 : decode cL_areParts 51 = .ok (.invokevirtual 144, 3) := by decide +kernel
theorem dL_areParts_54 : decode cL_areParts 54 = .ok (.istore 6, 2) := by decide +kernel
theorem dL_areParts_56 : decode cL_areParts 56 = .ok (.iload 4, 2) := by decide +kernel
theorem dL_areParts_58 : decode cL_areParts 58 = .ok (.iload 6, 2) := by decide +kernel
theorem dL_areParts_60 : decode cL_areParts 60 = .ok (.iconst (-1), 1) := by decide +kernel
theorem dL_areParts_61 : decode cL_areParts 61 = .ok (.if_icmp .ne 7, 3) := by decide +kernel
theorem dL_areParts_64 : decode cL_areParts 64 = .ok (.iconst 0, 1) := by decide +kernel
theorem dL_areParts_65 : decode cL_areParts 65 = .ok (.goto 7, 3) := by decide +kernel
theorem dL_areParts_68 : decode cL_areParts 68 = .ok (.iconst 1, 1) := by decide +kernel
theorem dL_areParts_69 : decode cL_areParts 69 = .ok (.iload 6, 2) := by decide +kernel
theorem dL_areParts_71 : decode cL_areParts 71 = .ok (.ishl, 1) := by decide +kernel
theorem dL_areParts_72 : decode cL_areParts 72 = .ok (.ior, 1) := by decide +kernel
theorem dL_areParts_73 : decode cL_areParts 73 = .ok (.istore 4, 2) := by decide +kernel
theorem dL_areParts_75 : decode cL_areParts 75 = .ok (.iload 6, 2) := by decide +kernel
theorem dL_areParts_77 : decode cL_areParts 77 = .ok (.iconst (-1), 1) := by decide +kernel
theorem dL_areParts_78 : decode cL_areParts 78 = .ok (.if_icmp .ne 7, 3) := by decide +kernel
theorem dL_areParts_81 : decode cL_areParts 81 = .ok (.iconst 1, 1) := by decide +kernel
theorem dL_areParts_82 : decode cL_areParts 82 = .ok (.goto 4, 3) := by decide +kernel
theorem dL_areParts_85 : decode cL_areParts 85 = .ok (.iconst 0, 1) := by decide +kernel
theorem dL_areParts_86 : decode cL_areParts 86 = .ok (.iload_n 2, 1) := by decide +kernel
theorem dL_areParts_87 : decode cL_areParts 87 = .ok (.iconst (-1), 1) := by decide +kernel
theorem dL_areParts_88 : decode cL_areParts 88 = .ok (.if_icmp .ne 7, 3) := by decide +kernel
theorem dL_areParts_91 : decode cL_areParts 91 = .ok (.iconst 1, 1) := by decide +kernel
theorem dL_areParts_92 : decode cL_areParts 92 = .ok (.goto 4, 3) := by decide +kernel
theorem dL_areParts_95 : decode cL_areParts 95 = .ok (.iconst 0, 1) := by decide +kernel
theorem dL_areParts_96 : decode cL_areParts 96 = .ok (.if_icmp .ne 26, 3) := by decide +kernel
