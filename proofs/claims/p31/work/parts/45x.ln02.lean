set_option maxRecDepth 20000 in
theorem gL_step_L_areParts : GoodIn wsL_step (va_wsS RL 123 yL_areParts wsL_areParts) := goodIn_app (goodIn_of _ (by decide +kernel)) ggL_step_L_areParts
theorem dL_step_0 : decode cL_step 0 = .ok (.aload_n 1, 1) := by decide +kernel
theorem dL_step_1 : decode cL_step 1 = .ok (.iconst 0, 1) := by decide +kernel
theorem dL_step_2 : decode cL_step 2 = .ok (.iaload, 1) := by decide +kernel
theorem dL_step_3 : decode cL_step 3 = .ok (.ifCond .ne 7, 3) := by decide +kernel
theorem dL_step_6 : decode cL_step 6 = .ok (.iconst 0, 1) := by decide +kernel
theorem dL_step_7 : decode cL_step 7 = .ok (.goto 8, 3) := by decide +kernel
theorem dL_step_10 : decode cL_step 10 = .ok (.iload_n 3, 1) := by decide +kernel
theorem dL_step_11 : decode cL_step 11 = .ok (.aload_n 1, 1) := by decide +kernel
theorem dL_step_12 : decode cL_step 12 = .ok (.iconst 0, 1) := by decide +kernel
theorem dL_step_13 : decode cL_step 13 = .ok (.iaload, 1) := by decide +kernel
theorem dL_step_14 : decode cL_step 14 = .ok (.irem, 1) := by decide +kernel
theorem dL_step_15 : decode cL_step 15 = .ok (.istore 5, 2) := by decide +kernel
theorem dL_step_17 : decode cL_step 17 = .ok (.aload_n 1, 1) := by decide +kernel
theorem dL_step_18 : decode cL_step 18 = .ok (.iconst 1, 1) := by decide +kernel
theorem dL_step_19 : decode cL_step 19 = .ok (.iaload, 1) := by decide +kernel
theorem dL_step_20 : decode cL_step 20 = .ok (.ifCond .ne 7, 3) := by decide +kernel
theorem dL_step_23 : decode cL_step 23 = .ok (.iconst 0, 1) := by decide +kernel
theorem dL_step_24 : decode cL_step 24 = .ok (.goto 9, 3) := by decide +kernel
theorem dL_step_27 : decode cL_step 27 = .ok (.iload 4, 2) := by decide +kernel
theorem dL_step_29 : decode cL_step 29 = .ok (.aload_n 1, 1) := by decide +kernel
theorem dL_step_30 : decode cL_step 30 = .ok (.iconst 1, 1) := by decide +kernel
theorem dL_step_31 : decode cL_step 31 = .ok (.iaload, 1) := by decide +kernel
theorem dL_step_32 : decode cL_step 32 = .ok (.irem, 1) := by decide +kernel
theorem dL_step_33 : decode cL_step 33 = .ok (.istore 6, 2) := by decide +kernel
theorem dL_step_35 : decode cL_step 35 = .ok (.iload_n 3, 1) := by decide +kernel
theorem dL_step_36 : decode cL_step 36 = .ok (.iconst 4, 1) := by decide +kernel
theorem dL_step_37 : decode cL_step 37 = .ok (.irem, 1) := by decide +kernel
theorem dL_step_38 : decode cL_step 38 = .ok (.istore 7, 2) := by decide +kernel
theorem dL_step_40 : decode cL_step 40 = .ok (.aload_n 1, 1) := by decide +kernel
theorem dL_step_41 : decode cL_step 41 = .ok (.iconst 0, 1) := by decide +kernel
theorem dL_step_42 : decode cL_step 42 = .ok (.iaload, 1) := by decide +kernel
theorem dL_step_43 : decode cL_step 43 = .ok (.ifCond .ne 7, 3) := by decide +kernel
theorem dL_step_46 : decode cL_step 46 = .ok (.iconst 0, 1) := by decide +kernel
theorem dL_step_47 : decode cL_step 47 = .ok (.goto 17, 3) := by decide +kernel
theorem dL_step_50 : decode cL_step 50 = .ok (.aload_n 1, 1) := by decide +kernel
theorem dL_step_51 : decode cL_step 51 = .ok (.iconst 1, 1) := by decide +kernel
theorem dL_step_52 : decode cL_step 52 = .ok (.iaload, 1) := by decide +kernel
theorem dL_step_53 : decode cL_step 53 = .ok (.ifCond .ne 7, 3) := by decide +kernel
theorem dL_step_56 : decode cL_step 56 = .ok (.iconst 1, 1) := by decide +kernel
theorem dL_step_57 : decode cL_step 57 = .ok (.goto 7, 3) := by decide +kernel
theorem dL_step_60 : decode cL_step 60 = .ok (.iload_n 2, 1) := by decide +kernel
theorem dL_step_61 : decode cL_step 61 = .ok (.bipush 26, 2) := by decide +kernel
theorem dL_step_63 : decode cL_step 63 = .ok (.irem, 1) := by decide +kernel
theorem dL_step_64 : decode cL_step 64 = .ok (.tableswitch 1320 0 24 #[116, 258, 348, 348, 382, 450, 479, 479, 479, 479, 595, 728, 807, 872, 872, 872, 872, 946, 989, 989, 1094, 1094, 1129, 1202, 1216], 116) := by decide +kernel
theorem dL_step_180 : decode cL_step 180 = .ok (.aload_n 0, 1) := by decide +kernel
theorem dL_step_181 : decode cL_step 181 = .ok (.iload_n 3, 1) := by decide +kernel
theorem dL_step_182 : decode cL_step 182 = .ok (.bipush 41, 2) := by decide +kernel
theorem dL_step_184 : decode cL_step 184 = .ok (.irem, 1) := by decide +kernel
theorem dL_step_185 : decode cL_step 185 = .ok (.bipush 20, 2) := by decide +kernel
theorem dL_step_187 : decode cL_step 187 = .ok (.isub, 1) := by decide +kernel
theorem dL_step_188 : decode cL_step 188 = .ok (.iload_n 3, 1) := by decide +kernel
theorem dL_step_189 : decode cL_step 189 = .ok (.bipush 41, 2) := by decide +kernel
theorem dL_step_191 : decode cL_step 191 = .ok (.idiv, 1) := by decide +kernel
theorem dL_step_192 : decode cL_step 192 = .ok (.bipush 41, 2) := by decide +kernel
theorem dL_step_194 : decode cL_step 194 = .ok (.irem, 1) := by decide +kernel
theorem dL_step_195 : decode cL_step 195 = .ok (.bipush 20, 2) := by decide +kernel
theorem dL_step_197 : decode cL_step 197 = .ok (.isub, 1) := by decide +kernel
theorem dL_step_198 : decode cL_step 198 = .ok (.iload 4, 2) := by decide +kernel
theorem dL_step_200 : decode cL_step 200 = .ok (.bipush 41, 2) := by decide +kernel
theorem dL_step_202 : decode cL_step 202 = .ok (.irem, 1) := by decide +kernel
theorem dL_step_203 : decode cL_step 203 = .ok (.bipush 20, 2) := by decide +kernel
theorem dL_step_205 : decode cL_step 205 = .ok (.isub, 1) := by decide +kernel
theorem dL_step_206 : decode cL_step 206 = .ok (.iload 4, 2) := by decide +kernel
theorem dL_step_208 : decode cL_step 208 = .ok (.bipush 41, 2) := by decide +kernel
theorem dL_step_210 : decode cL_step 210 = .ok (.idiv, 1) := by decide +kernel
theorem dL_step_211 : decode cL_step 211 = .ok (.bipush 41, 2) := by decide +kernel
theorem dL_step_213 : decode cL_step 213 = .ok (.irem, 1) := by decide +kernel
theorem dL_step_214 : decode cL_step 214 = .ok (.bipush 20, 2) := by decide +kernel
theorem dL_step_216 : decode cL_step 216 = .ok (.isub, 1) := by decide +kernel
theorem dL_step_217 : decode cL_step 217 = .ok (.invokestatic 57, 3) := by decide +kernel
theorem dL_step_220 : decode cL_step 220 = .ok (.istore 8, 2) := by decide +kernel
theorem dL_step_222 : decode cL_step 222 = .ok (.aload_n 1, 1) := by decide +kernel
theorem dL_step_223 : decode cL_step 223 = .ok (.iconst 0, 1) := by decide +kernel
theorem dL_step_224 : decode cL_step 224 = .ok (.dup2, 1) := by decide +kernel
theorem dL_step_225 : decode cL_step 225 = .ok (.iaload, 1) := by decide +kernel
theorem dL_step_226 : decode cL_step 226 = .ok (.iload 8, 2) := by decide +kernel
theorem dL_step_228 : decode cL_step 228 = .ok (.ifCond .ge 7, 3) := by decide +kernel
theorem dL_step_231 : decode cL_step 231 = .ok (.iconst 0, 1) := by decide +kernel
theorem dL_step_232 : decode cL_step 232 = .ok (.goto 4, 3) := by decide +kernel
theorem dL_step_235 : decode cL_step 235 = .ok (.iconst 1, 1) := by decide +kernel
theorem dL_step_236 : decode cL_step 236 = .ok (.iadd, 1) := by decide +kernel
theorem dL_step_237 : decode cL_step 237 = .ok (.iastore, 1) := by decide +kernel
theorem dL_step_238 : decode cL_step 238 = .ok (.iload 8, 2) := by decide +kernel
theorem dL_step_240 : decode cL_step 240 = .ok (.sipush (-200), 3) := by decide +kernel
theorem dL_step_243 : decode cL_step 243 = .ok (.if_icmp .ne 19, 3) := by decide +kernel
theorem dL_step_246 : decode cL_step 246 = .ok (.aload_n 1, 1) := by decide +kernel
theorem dL_step_247 : decode cL_step 247 = .ok (.iconst 0, 1) := by decide +kernel
theorem dL_step_248 : decode cL_step 248 = .ok (.iaload, 1) := by decide +kernel
theorem dL_step_249 : decode cL_step 249 = .ok (.bipush 6, 2) := by decide +kernel
theorem dL_step_251 : decode cL_step 251 = .ok (.if_icmp .ne 7, 3) := by decide +kernel
theorem dL_step_254 : decode cL_step 254 = .ok (.iconst 1, 1) := by decide +kernel
theorem dL_step_255 : decode cL_step 255 = .ok (.goto 66, 3) := by decide +kernel
theorem dL_step_258 : decode cL_step 258 = .ok (.iconst 0, 1) := by decide +kernel
theorem dL_step_259 : decode cL_step 259 = .ok (.goto 62, 3) := by decide +kernel
theorem dL_step_262 : decode cL_step 262 = .ok (.iload 8, 2) := by decide +kernel
theorem dL_step_264 : decode cL_step 264 = .ok (.aload_n 1, 1) := by decide +kernel
theorem dL_step_265 : decode cL_step 265 = .ok (.iconst 0, 1) := by decide +kernel
theorem dL_step_266 : decode cL_step 266 = .ok (.iaload, 1) := by decide +kernel
theorem dL_step_267 : decode cL_step 267 = .ok (.iconst 1, 1) := by decide +kernel
theorem dL_step_268 : decode cL_step 268 = .ok (.isub, 1) := by decide +kernel
theorem dL_step_269 : decode cL_step 269 = .ok (.if_icmp .ne 51, 3) := by decide +kernel
theorem dL_step_272 : decode cL_step 272 = .ok (.aload_n 0, 1) := by decide +kernel
theorem dL_step_273 : decode cL_step 273 = .ok (.iload 8, 2) := by decide +kernel
theorem dL_step_275 : decode cL_step 275 = .ok (.iconst 0, 1) := by decide +kernel
theorem dL_step_276 : decode cL_step 276 = .ok (.iconst 0, 1) := by decide +kernel
theorem dL_step_277 : decode cL_step 277 = .ok (.invokevirtual 63, 3) := by decide +kernel
theorem dL_step_280 : decode cL_step 280 = .ok (.iload_n 3, 1) := by decide +kernel
theorem dL_step_281 : decode cL_step 281 = .ok (.bipush 41, 2) := by decide +kernel
theorem dL_step_283 : decode cL_step 283 = .ok (.irem, 1) := by decide +kernel
theorem dL_step_284 : decode cL_step 284 = .ok (.bipush 20, 2) := by decide +kernel
theorem dL_step_286 : decode cL_step 286 = .ok (.isub, 1) := by decide +kernel
theorem dL_step_287 : decode cL_step 287 = .ok (.if_icmp .ne 33, 3) := by decide +kernel
theorem dL_step_290 : decode cL_step 290 = .ok (.aload_n 0, 1) := by decide +kernel
theorem dL_step_291 : decode cL_step 291 = .ok (.iload 8, 2) := by decide +kernel
theorem dL_step_293 : decode cL_step 293 = .ok (.iconst 3, 1) := by decide +kernel
theorem dL_step_294 : decode cL_step 294 = .ok (.iconst 1, 1) := by decide +kernel
theorem dL_step_295 : decode cL_step 295 = .ok (.invokevirtual 63, 3) := by decide +kernel
theorem dL_step_298 : decode cL_step 298 = .ok (.iload 4, 2) := by decide +kernel
theorem dL_step_300 : decode cL_step 300 = .ok (.bipush 41, 2) := by decide +kernel
theorem dL_step_302 : decode cL_step 302 = .ok (.idiv, 1) := by decide +kernel
theorem dL_step_303 : decode cL_step 303 = .ok (.bipush 41, 2) := by decide +kernel
theorem dL_step_305 : decode cL_step 305 = .ok (.irem, 1) := by decide +kernel
theorem dL_step_306 : decode cL_step 306 = .ok (.bipush 20, 2) := by decide +kernel
theorem dL_step_308 : decode cL_step 308 = .ok (.isub, 1) := by decide +kernel
theorem dL_step_309 : decode cL_step 309 = .ok (.aload_n 1, 1) := by decide +kernel
theorem dL_step_310 : decode cL_step 310 = .ok (.iconst 4, 1) := by decide +kernel
theorem dL_step_311 : decode cL_step 311 = .ok (.iaload, 1) := by decide +kernel
theorem dL_step_312 : decode cL_step 312 = .ok (.isub, 1) := by decide +kernel
theorem dL_step_313 : decode cL_step 313 = .ok (.if_icmp .ne 7, 3) := by decide +kernel
theorem dL_step_316 : decode cL_step 316 = .ok (.iconst 1, 1) := by decide +kernel
theorem dL_step_317 : decode cL_step 317 = .ok (.goto 4, 3) := by decide +kernel
theorem dL_step_320 : decode cL_step 320 = .ok (.iconst 0, 1) := by decide +kernel
theorem dL_step_321 : decode cL_step 321 = .ok (.ireturn, 1) := by decide +kernel
theorem dL_step_322 : decode cL_step 322 = .ok (.aload_n 0, 1) := by decide +kernel
theorem dL_step_323 : decode cL_step 323 = .ok (.iload 4, 2) := by decide +kernel
theorem dL_step_325 : decode cL_step 325 = .ok (.iconst 2, 1) := by decide +kernel
theorem dL_step_326 : decode cL_step 326 = .ok (.irem, 1) := by decide +kernel
theorem dL_step_327 : decode cL_step 327 = .ok (.iconst 0, 1) := by decide +kernel
theorem dL_step_328 : decode cL_step 328 = .ok (.bipush 6, 2) := by decide +kernel
theorem dL_step_330 : decode cL_step 330 = .ok (.invokestatic 66, 3) := by decide +kernel
theorem dL_step_333 : decode cL_step 333 = .ok (.istore 9, 2) := by decide +kernel
theorem dL_step_335 : decode cL_step 335 = .ok (.aload_n 1, 1) := by decide +kernel
theorem dL_step_336 : decode cL_step 336 = .ok (.iconst 1, 1) := by decide +kernel
theorem dL_step_337 : decode cL_step 337 = .ok (.dup2, 1) := by decide +kernel
theorem dL_step_338 : decode cL_step 338 = .ok (.iaload, 1) := by decide +kernel
theorem dL_step_339 : decode cL_step 339 = .ok (.iload 9, 2) := by decide +kernel
theorem dL_step_341 : decode cL_step 341 = .ok (.ifCond .ge 7, 3) := by decide +kernel
theorem dL_step_344 : decode cL_step 344 = .ok (.iconst 0, 1) := by decide +kernel
theorem dL_step_345 : decode cL_step 345 = .ok (.goto 4, 3) := by decide +kernel
theorem dL_step_348 : decode cL_step 348 = .ok (.iconst 1, 1) := by decide +kernel
theorem dL_step_349 : decode cL_step 349 = .ok (.iadd, 1) := by decide +kernel
theorem dL_step_350 : decode cL_step 350 = .ok (.iastore, 1) := by decide +kernel
theorem dL_step_351 : decode cL_step 351 = .ok (.iload 9, 2) := by decide +kernel
theorem dL_step_353 : decode cL_step 353 = .ok (.sipush (-200), 3) := by decide +kernel
theorem dL_step_356 : decode cL_step 356 = .ok (.if_icmp .ne 19, 3) := by decide +kernel
theorem dL_step_359 : decode cL_step 359 = .ok (.aload_n 1, 1) := by decide +kernel
theorem dL_step_360 : decode cL_step 360 = .ok (.iconst 1, 1) := by decide +kernel
theorem dL_step_361 : decode cL_step 361 = .ok (.iaload, 1) := by decide +kernel
theorem dL_step_362 : decode cL_step 362 = .ok (.bipush 16, 2) := by decide +kernel
