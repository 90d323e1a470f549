theorem dL_isBeaten_280 : decode cL_isBeaten 280 = .ok (.iconst 3, 1) := by decide +kernel
theorem dL_isBeaten_281 : decode cL_isBeaten 281 = .ok (.invokevirtual 63, 3) := by decide +kernel
theorem dL_isBeaten_284 : decode cL_isBeaten 284 = .ok (.iload 4, 2) := by decide +kernel
theorem dL_isBeaten_286 : decode cL_isBeaten 286 = .ok (.ifCond .eq 7, 3) := by decide +kernel
theorem dL_isBeaten_289 : decode cL_isBeaten 289 = .ok (.iconst 1, 1) := by decide +kernel
theorem dL_isBeaten_290 : decode cL_isBeaten 290 = .ok (.goto 5, 3) := by decide +kernel
theorem dL_isBeaten_293 : decode cL_isBeaten 293 = .ok (.iload 10, 2) := by decide +kernel
theorem dL_isBeaten_295 : decode cL_isBeaten 295 = .ok (.if_icmp .ne 7, 3) := by decide +kernel
theorem dL_isBeaten_298 : decode cL_isBeaten 298 = .ok (.iconst 1, 1) := by decide +kernel
theorem dL_isBeaten_299 : decode cL_isBeaten 299 = .ok (.goto 4, 3) := by decide +kernel
theorem dL_isBeaten_302 : decode cL_isBeaten 302 = .ok (.iconst 0, 1) := by decide +kernel
theorem dL_isBeaten_303 : decode cL_isBeaten 303 = .ok (.ireturn, 1) := by decide +kernel
set_option maxRecDepth 20000 in
theorem ggL_isPlanned_X6_plan : GoodIn wsL_isPlanned wsX6_plan := goodIn_ca (goodIn_ca (goodIn_r _ [6, 7, 8, 9, 10, 11, 12, 5, 13, 14, 15, 16, 17, 18, 19, 20, 21, 22, 23, 24, 25, 26, 27, 28, 29, 30, 31, 32, 33, 34, 35, 36, 37, 38, 39, 40, 41, 42, 43, 44, 45, 46, 47, 48, 49, 50, 51, 52, 53, 54, 55, 56, 57, 58, 59, 60, 61, 62, 63, 64, 65, 66, 67, 68, 69, 70, 71, 72, 73, 74, 75, 76, 77, 78, 79, 80, 81, 82, 83, 84, 85, 86, 87, 88, 89, 112, 113, 114, 115, 116, 117, 118, 119, 120, 121, 122, 123, 124, 125, 126, 127, 128] (by decide +kernel) (by decide +kernel)) (goodIn_sub (fun _ h => List.mem_cons_of_mem _ (List.mem_append_left _ (List.mem_append_left _ (List.mem_append_right _ h)))) (by decide +kernel))) (goodIn_sub (fun _ h => List.mem_cons_of_mem _ (List.mem_append_left _ (List.mem_append_right _ h))) (by decide +kernel))
set_option maxRecDepth 20000 in
theorem gL_isPlanned_X6_plan : GoodIn wsL_isPlanned (wsV RL 130 RX6 yX6_plan wsX6_plan) := goodIn_app (goodIn_of _ (by decide +kernel)) ggL_isPlanned_X6_plan
set_option maxRecDepth 20000 in
theorem ggL_isPlanned_X6_isInTune : GoodIn wsL_isPlanned wsX6_isInTune := goodIn_ca (goodIn_r _ [93, 8, 10, 11, 12, 5, 13, 14, 15, 16, 17, 18, 19, 20, 21, 22, 23, 24, 25, 26, 27, 28, 29, 30, 31, 32, 33, 34, 35, 36, 37, 38, 39, 40, 41, 42, 43, 94, 61, 62, 63, 64, 65, 66, 67, 68, 69, 70, 71, 72, 73, 74, 112, 113, 114, 115, 116, 117, 118, 121, 122, 123, 124, 125, 126, 127, 128] (by decide +kernel) (by decide +kernel)) (goodIn_sub (fun _ h => List.mem_cons_of_mem _ (List.mem_append_left _ (List.mem_append_left _ (List.mem_append_right _ h)))) (by decide +kernel))
set_option maxRecDepth 20000 in
theorem gL_isPlanned_X6_isInTune : GoodIn wsL_isPlanned (wsV RL 133 RX6 yX6_isInTune wsX6_isInTune) := goodIn_app (goodIn_of _ (by decide +kernel)) ggL_isPlanned_X6_isInTune
set_option maxRecDepth 20000 in
theorem ggL_isPlanned_L_blows : GoodIn wsL_isPlanned wsL_blows := goodIn_ca (goodIn_ca (goodIn_ca (goodIn_r _ [98, 99, 1, 100, 101, 102, 5, 103, 104, 10, 11, 12, 13, 14, 15, 16, 17, 18, 19, 20, 21, 22, 23, 24, 25, 26, 27, 28, 29, 30, 31, 32, 33, 34, 35, 36, 37, 38, 39, 40, 41, 42, 43, 44, 45, 46, 47, 48, 105, 78, 79, 63, 80, 81, 70, 71, 72, 73, 74, 106, 107, 108, 109, 110, 111, 87, 88, 89, 65, 124, 125, 126, 127, 128, 112, 113, 114, 115, 116, 117, 118, 121, 122, 123] (by decide +kernel) (by decide +kernel)) (goodIn_sub (fun _ h => List.mem_cons_of_mem _ (List.mem_append_left _ (List.mem_append_left _ (List.mem_append_right _ h)))) (by decide +kernel))) (goodIn_sub (fun _ h => List.mem_cons_of_mem _ (List.mem_append_left _ (List.mem_append_right _ h))) (by decide +kernel))) (goodIn_sub (fun _ h => List.mem_cons_of_mem _ (List.mem_append_right _ h)) (by decide +kernel))
set_option maxRecDepth 20000 in
theorem gL_isPlanned_L_blows : GoodIn wsL_isPlanned (va_wsS RL 126 yL_blows wsL_blows) := goodIn_app (goodIn_of _ (by decide +kernel)) ggL_isPlanned_L_blows
theorem dL_isPlanned_0 : decode cL_isPlanned 0 = .ok (.aload_n 0, 1) := by decide +kernel
theorem dL_isPlanned_1 : decode cL_isPlanned 1 = .ok (.iload_n 1, 1) := by decide +kernel
theorem dL_isPlanned_2 : decode cL_isPlanned 2 = .ok (.iconst 0, 1) := by decide +kernel
theorem dL_isPlanned_3 : decode cL_isPlanned 3 = .ok (.invokevirtual 130, 3) := by decide +kernel
theorem dL_isPlanned_6 : decode cL_isPlanned 6 = .ok (.istore_n 2, 1) := by decide +kernel
theorem dL_isPlanned_7 : decode cL_isPlanned 7 = .ok (.aload_n 0, 1) := by decide +kernel
theorem dL_isPlanned_8 : decode cL_isPlanned 8 = .ok (.iload_n 1, 1) := by decide +kernel
theorem dL_isPlanned_9 : decode cL_isPlanned 9 = .ok (.iconst 1, 1) := by decide +kernel
theorem dL_isPlanned_10 : decode cL_isPlanned 10 = .ok (.invokevirtual 130, 3) := by decide +kernel
theorem dL_isPlanned_13 : decode cL_isPlanned 13 = .ok (.istore_n 3, 1) := by decide +kernel
theorem dL_isPlanned_14 : decode cL_isPlanned 14 = .ok (.aload_n 0, 1) := by decide +kernel
theorem dL_isPlanned_15 : decode cL_isPlanned 15 = .ok (.iload_n 1, 1) := by decide +kernel
theorem dL_isPlanned_16 : decode cL_isPlanned 16 = .ok (.iconst 2, 1) := by decide +kernel
theorem dL_isPlanned_17 : decode cL_isPlanned 17 = .ok (.invokevirtual 130, 3) := by decide +kernel
theorem dL_isPlanned_20 : decode cL_isPlanned 20 = .ok (.istore 4, 2) := by decide +kernel
theorem dL_isPlanned_22 : decode cL_isPlanned 22 = .ok (.aload_n 0, 1) := by decide +kernel
theorem dL_isPlanned_23 : decode cL_isPlanned 23 = .ok (.iload_n 1, 1) := by decide +kernel
theorem dL_isPlanned_24 : decode cL_isPlanned 24 = .ok (.iconst 3, 1) := by decide +kernel
theorem dL_isPlanned_25 : decode cL_isPlanned 25 = .ok (.invokevirtual 130, 3) := by decide +kernel
theorem dL_isPlanned_28 : decode cL_isPlanned 28 = .ok (.istore 5, 2) := by decide +kernel
theorem dL_isPlanned_30 : decode cL_isPlanned 30 = .ok (.iload_n 2, 1) := by decide +kernel
theorem dL_isPlanned_31 : decode cL_isPlanned 31 = .ok (.ifCond .ne 7, 3) := by decide +kernel
theorem dL_isPlanned_34 : decode cL_isPlanned 34 = .ok (.iconst 1, 1) := by decide +kernel
theorem dL_isPlanned_35 : decode cL_isPlanned 35 = .ok (.goto 4, 3) := by decide +kernel
theorem dL_isPlanned_38 : decode cL_isPlanned 38 = .ok (.iconst 0, 1) := by decide +kernel
theorem dL_isPlanned_39 : decode cL_isPlanned 39 = .ok (.aload_n 0, 1) := by decide +kernel
theorem dL_isPlanned_40 : decode cL_isPlanned 40 = .ok (.iload_n 1, 1) := by decide +kernel
theorem dL_isPlanned_41 : decode cL_isPlanned 41 = .ok (.invokevirtual 133, 3) := by decide +kernel
theorem dL_isPlanned_44 : decode cL_isPlanned 44 = .ok (.if_icmp .ne 78, 3) := by decide +kernel
theorem dL_isPlanned_47 : decode cL_isPlanned 47 = .ok (.iload_n 3, 1) := by decide +kernel
theorem dL_isPlanned_48 : decode cL_isPlanned 48 = .ok (.iconst (-1), 1) := by decide +kernel
theorem dL_isPlanned_49 : decode cL_isPlanned 49 = .ok (.if_icmp .ne 7, 3) := by decide +kernel
theorem dL_isPlanned_52 : decode cL_isPlanned 52 = .ok (.iconst 1, 1) := by decide +kernel
theorem dL_isPlanned_53 : decode cL_isPlanned 53 = .ok (.goto 4, 3) := by decide +kernel
theorem dL_isPlanned_56 : decode cL_isPlanned 56 = .ok (.iconst 0, 1) := by decide +kernel
theorem dL_isPlanned_57 : decode cL_isPlanned 57 = .ok (.iload_n 2, 1) := by decide +kernel
theorem dL_isPlanned_58 : decode cL_isPlanned 58 = .ok (.iconst 1, 1) := by decide +kernel
theorem dL_isPlanned_59 : decode cL_isPlanned 59 = .ok (.if_icmp .ge 7, 3) := by decide +kernel
theorem dL_isPlanned_62 : decode cL_isPlanned 62 = .ok (.iconst 1, 1) := by decide +kernel
theorem dL_isPlanned_63 : decode cL_isPlanned 63 = .ok (.goto 4, 3) := by decide +kernel
theorem dL_isPlanned_66 : decode cL_isPlanned 66 = .ok (.iconst 0, 1) := by decide +kernel
theorem dL_isPlanned_67 : decode cL_isPlanned 67 = .ok (.if_icmp .ne 55, 3) := by decide +kernel
theorem dL_isPlanned_70 : decode cL_isPlanned 70 = .ok (.iload 4, 2) := by decide +kernel
theorem dL_isPlanned_72 : decode cL_isPlanned 72 = .ok (.iconst (-1), 1) := by decide +kernel
theorem dL_isPlanned_73 : decode cL_isPlanned 73 = .ok (.if_icmp .ne 7, 3) := by decide +kernel
theorem dL_isPlanned_76 : decode cL_isPlanned 76 = .ok (.iconst 1, 1) := by decide +kernel
theorem dL_isPlanned_77 : decode cL_isPlanned 77 = .ok (.goto 4, 3) := by decide +kernel
theorem dL_isPlanned_80 : decode cL_isPlanned 80 = .ok (.iconst 0, 1) := by decide +kernel
theorem dL_isPlanned_81 : decode cL_isPlanned 81 = .ok (.iload_n 2, 1) := by decide +kernel
theorem dL_isPlanned_82 : decode cL_isPlanned 82 = .ok (.iconst 2, 1) := by decide +kernel
theorem dL_isPlanned_83 : decode cL_isPlanned 83 = .ok (.if_icmp .ge 7, 3) := by decide +kernel
theorem dL_isPlanned_86 : decode cL_isPlanned 86 = .ok (.iconst 1, 1) := by decide +kernel
theorem dL_isPlanned_87 : decode cL_isPlanned 87 = .ok (.goto 4, 3) := by decide +kernel
theorem dL_isPlanned_90 : decode cL_isPlanned 90 = .ok (.iconst 0, 1) := by decide +kernel
theorem dL_isPlanned_91 : decode cL_isPlanned 91 = .ok (.if_icmp .ne 31, 3) := by decide +kernel
theorem dL_isPlanned_94 : decode cL_isPlanned 94 = .ok (.iload 5, 2) := by decide +kernel
theorem dL_isPlanned_96 : decode cL_isPlanned 96 = .ok (.iconst (-1), 1) := by decide +kernel
theorem dL_isPlanned_97 : decode cL_isPlanned 97 = .ok (.if_icmp .ne 7, 3) := by decide +kernel
theorem dL_isPlanned_100 : decode cL_isPlanned 100 = .ok (.iconst 1, 1) := by decide +kernel
theorem dL_isPlanned_101 : decode cL_isPlanned 101 = .ok (.goto 4, 3) := by decide +kernel
theorem dL_isPlanned_104 : decode cL_isPlanned 104 = .ok (.iconst 0, 1) := by decide +kernel
theorem dL_isPlanned_105 : decode cL_isPlanned 105 = .ok (.iload_n 2, 1) := by decide +kernel
theorem dL_isPlanned_106 : decode cL_isPlanned 106 = .ok (.iconst 3, 1) := by decide +kernel
theorem dL_isPlanned_107 : decode cL_isPlanned 107 = .ok (.if_icmp .ge 7, 3) := by decide +kernel
theorem dL_isPlanned_110 : decode cL_isPlanned 110 = .ok (.iconst 1, 1) := by decide +kernel
theorem dL_isPlanned_111 : decode cL_isPlanned 111 = .ok (.goto 4, 3) := by decide +kernel
theorem dL_isPlanned_114 : decode cL_isPlanned 114 = .ok (.iconst 0, 1) := by decide +kernel
theorem dL_isPlanned_115 : decode cL_isPlanned 115 = .ok (.if_icmp .ne 7, 3) := by decide +kernel
theorem dL_isPlanned_118 : decode cL_isPlanned 118 = .ok (.iconst 1, 1) := by decide +kernel
theorem dL_isPlanned_119 : decode cL_isPlanned 119 = .ok (.goto 4, 3) := by decide +kernel
theorem dL_isPlanned_122 : decode cL_isPlanned 122 = .ok (.iconst 0, 1) := by decide +kernel
theorem dL_isPlanned_123 : decode cL_isPlanned 123 = .ok (.istore 6, 2) := by decide +kernel
theorem dL_isPlanned_125 : decode cL_isPlanned 125 = .ok (.iconst 0, 1) := by decide +kernel
theorem dL_isPlanned_126 : decode cL_isPlanned 126 = .ok (.istore 7, 2) := by decide +kernel
theorem dL_isPlanned_128 : decode cL_isPlanned 128 = .ok (.iload 7, 2) := by decide +kernel
theorem dL_isPlanned_130 : decode cL_isPlanned 130 = .ok (.iload_n 2, 1) := by decide +kernel
theorem dL_isPlanned_131 : decode cL_isPlanned 131 = .ok (.if_icmp .ge 89, 3) := by decide +kernel
theorem dL_isPlanned_134 : decode cL_isPlanned 134 = .ok (.iload 6, 2) := by decide +kernel
theorem dL_isPlanned_136 : decode cL_isPlanned 136 = .ok (.ifCond .eq 84, 3) := by decide +kernel
theorem dL_isPlanned_139 : decode cL_isPlanned 139 = .ok (.iload 7, 2) := by decide +kernel
theorem dL_isPlanned_141 : decode cL_isPlanned 141 = .ok (.ifCond .ne 7, 3) := by decide +kernel
theorem dL_isPlanned_144 : decode cL_isPlanned 144 = .ok (.iload_n 3, 1) := by decide +kernel
theorem dL_isPlanned_145 : decode cL_isPlanned 145 = .ok (.goto 16, 3) := by decide +kernel
theorem dL_isPlanned_148 : decode cL_isPlanned 148 = .ok (.iload 7, 2) := by decide +kernel
theorem dL_isPlanned_150 : decode cL_isPlanned 150 = .ok (.iconst 1, 1) := by decide +kernel
theorem dL_isPlanned_151 : decode cL_isPlanned 151 = .ok (.if_icmp .ne 8, 3) := by decide +kernel
theorem dL_isPlanned_154 : decode cL_isPlanned 154 = .ok (.iload 4, 2) := by decide +kernel
theorem dL_isPlanned_156 : decode cL_isPlanned 156 = .ok (.goto 5, 3) := by decide +kernel
theorem dL_isPlanned_159 : decode cL_isPlanned 159 = .ok (.iload 5, 2) := by decide +kernel
theorem dL_isPlanned_161 : decode cL_isPlanned 161 = .ok (.istore 8, 2) := by decide +kernel
theorem dL_isPlanned_163 : decode cL_isPlanned 163 = .ok (.aload_n 0, 1) := by decide +kernel
theorem dL_isPlanned_164 : decode cL_isPlanned 164 = .ok (.iload_n 1, 1) := by decide +kernel
theorem dL_isPlanned_165 : decode cL_isPlanned 165 = .ok (.invokevirtual 133, 3) := by decide +kernel
theorem dL_isPlanned_168 : decode cL_isPlanned 168 = .ok (.ifCond .ne 43, 3) := by decide +kernel
theorem dL_isPlanned_171 : decode cL_isPlanned 171 = .ok (.aload_n 0, 1) := by decide +kernel
theorem dL_isPlanned_172 : decode cL_isPlanned 172 = .ok (.iload_n 1, 1) := by decide +kernel
theorem dL_isPlanned_173 : decode cL_isPlanned 173 = .ok (.iload 8, 2) := by decide +kernel
theorem dL_isPlanned_175 : decode cL_isPlanned 175 = .ok (.bipush 8, 2) := by decide +kernel
theorem dL_isPlanned_177 : decode cL_isPlanned 177 = .ok (.idiv, 1) := by decide +kernel
theorem dL_isPlanned_178 : decode cL_isPlanned 178 = .ok (.iload 8, 2) := by decide +kernel
theorem dL_isPlanned_180 : decode cL_isPlanned 180 = .ok (.iconst 2, 1) := by decide +kernel
theorem dL_isPlanned_181 : decode cL_isPlanned 181 = .ok (.idiv, 1) := by decide +kernel
theorem dL_isPlanned_182 : decode cL_isPlanned 182 = .ok (.iconst 4, 1) := by decide +kernel
theorem dL_isPlanned_183 : decode cL_isPlanned 183 = .ok (.irem, 1) := by decide +kernel
theorem dL_isPlanned_184 : decode cL_isPlanned 184 = .ok (.iconst 1, 1) := by decide +kernel
theorem dL_isPlanned_185 : decode cL_isPlanned 185 = .ok (.iadd, 1) := by decide +kernel
theorem dL_isPlanned_186 : decode cL_isPlanned 186 = .ok (.iload 8, 2) := by decide +kernel
theorem dL_isPlanned_188 : decode cL_isPlanned 188 = .ok (.iconst 2, 1) := by decide +kernel
theorem dL_isPlanned_189 : decode cL_isPlanned 189 = .ok (.irem, 1) := by decide +kernel
theorem dL_isPlanned_190 : decode cL_isPlanned 190 = .ok (.iconst 1, 1) := by decide +kernel
theorem dL_isPlanned_191 : decode cL_isPlanned 191 = .ok (.if_icmp .ne 7, 3) := by decide +kernel
theorem dL_isPlanned_194 : decode cL_isPlanned 194 = .ok (.iconst 1, 1) := by decide +kernel
theorem dL_isPlanned_195 : decode cL_isPlanned 195 = .ok (.goto 4, 3) := by decide +kernel
theorem dL_isPlanned_198 : decode cL_isPlanned 198 = .ok (.iconst 0, 1) := by decide +kernel
theorem dL_isPlanned_199 : decode cL_isPlanned 199 = .ok (.invokestatic 126, 3) := by decide +kernel
theorem dL_isPlanned_202 : decode cL_isPlanned 202 = .ok (.ldc 18, 2) := by decide +kernel
theorem dL_isPlanned_204 : decode cL_isPlanned 204 = .ok (.if_icmp .le 7, 3) := by decide +kernel
theorem dL_isPlanned_207 : decode cL_isPlanned 207 = .ok (.iconst 1, 1) := by decide +kernel
theorem dL_isPlanned_208 : decode cL_isPlanned 208 = .ok (.goto 4, 3) := by decide +kernel
theorem dL_isPlanned_211 : decode cL_isPlanned 211 = .ok (.iconst 0, 1) := by decide +kernel
theorem dL_isPlanned_212 : decode cL_isPlanned 212 = .ok (.istore 6, 2) := by decide +kernel
theorem dL_isPlanned_214 : decode cL_isPlanned 214 = .ok (.iinc 7 1, 3) := by decide +kernel
theorem dL_isPlanned_217 : decode cL_isPlanned 217 = .ok (.goto (-89), 3) := by decide +kernel
theorem dL_isPlanned_220 : decode cL_isPlanned 220 = .ok (.iload 6, 2) := by decide +kernel
theorem dL_isPlanned_222 : decode cL_isPlanned 222 = .ok (.ifCond .eq 29, 3) := by decide +kernel
theorem dL_isPlanned_225 : decode cL_isPlanned 225 = .ok (.iload_n 2, 1) := by decide +kernel
theorem dL_isPlanned_226 : decode cL_isPlanned 226 = .ok (.iconst (-1), 1) := by decide +kernel
theorem dL_isPlanned_227 : decode cL_isPlanned 227 = .ok (.if_icmp .eq 20, 3) := by decide +kernel
theorem dL_isPlanned_230 : decode cL_isPlanned 230 = .ok (.aload_n 0, 1) := by decide +kernel
theorem dL_isPlanned_231 : decode cL_isPlanned 231 = .ok (.iload_n 1, 1) := by decide +kernel
theorem dL_isPlanned_232 : decode cL_isPlanned 232 = .ok (.invokevirtual 133, 3) := by decide +kernel
theorem dL_isPlanned_235 : decode cL_isPlanned 235 = .ok (.ifCond .eq 16, 3) := by decide +kernel
theorem dL_isPlanned_238 : decode cL_isPlanned 238 = .ok (.aload_n 0, 1) := by decide +kernel
theorem dL_isPlanned_239 : decode cL_isPlanned 239 = .ok (.iload_n 1, 1) := by decide +kernel
theorem dL_isPlanned_240 : decode cL_isPlanned 240 = .ok (.iconst 0, 1) := by decide +kernel
theorem dL_isPlanned_241 : decode cL_isPlanned 241 = .ok (.invokevirtual 130, 3) := by decide +kernel
theorem dL_isPlanned_244 : decode cL_isPlanned 244 = .ok (.ifCond .ne 7, 3) := by decide +kernel
theorem dL_isPlanned_247 : decode cL_isPlanned 247 = .ok (.iconst 1, 1) := by decide +kernel
theorem dL_isPlanned_248 : decode cL_isPlanned 248 = .ok (.goto 4, 3) := by decide +kernel
theorem dL_isPlanned_251 : decode cL_isPlanned 251 = .ok (.iconst 0, 1) := by decide +kernel
theorem dL_isPlanned_252 : decode cL_isPlanned 252 = .ok (.ireturn, 1) := by decide +kernel
set_option maxRecDepth 20000 in
theorem ggL_isChanged_X6_ofBand : GoodIn wsL_isChanged wsX6_ofBand := goodIn_ca (goodIn_ca (goodIn_r _ [5, 6, 7, 8, 9, 10, 11, 12, 13, 4, 14, 15, 16, 17, 18, 19, 20, 21, 22, 23, 24, 25, 26, 27, 28, 29, 30, 31, 32, 33, 34, 35, 36, 37, 38, 39, 40, 41, 42, 43, 44, 45, 46, 47, 48, 49, 50, 51, 52, 53, 54, 55, 82, 83, 84, 85, 86, 87, 88, 89, 90, 91, 92, 93, 94, 95, 96, 97, 98] (by decide +kernel) (by decide +kernel)) (goodIn_sub (fun _ h => List.mem_cons_of_mem _ (List.mem_append_left _ (List.mem_append_right _ h))) (by decide +kernel))) (goodIn_sub (fun _ h => List.mem_cons_of_mem _ (List.mem_append_right _ h)) (by decide +kernel))
set_option maxRecDepth 20000 in
theorem gL_isChanged_X6_ofBand : GoodIn wsL_isChanged (wsV RL 84 RX6 yX6_ofBand wsX6_ofBand) := goodIn_app (goodIn_of _ (by decide +kernel)) ggL_isChanged_X6_ofBand
set_option maxRecDepth 20000 in
theorem ggL_isChanged_X6_knows : GoodIn wsL_isChanged wsX6_knows := goodIn_ca (goodIn_r _ [59, 60, 11, 12, 13, 4, 14, 15, 16, 17, 18, 19, 20, 21, 22, 23, 24, 25, 26, 27, 28, 29, 30, 31, 32, 33, 34, 35, 36, 37, 38, 39, 40, 41, 42, 43, 44, 61, 62, 63, 6, 64, 65, 66, 67, 50, 51, 52, 53, 54, 55, 99, 100, 89, 90, 91, 92, 93, 94, 95, 96, 97, 98, 82, 83, 84, 85, 86, 87, 88] (by decide +kernel) (by decide +kernel)) (goodIn_sub (fun _ h => List.mem_cons_of_mem _ (List.mem_append_left _ (List.mem_append_right _ h))) (by decide +kernel))
set_option maxRecDepth 20000 in
theorem gL_isChanged_X6_knows : GoodIn wsL_isChanged (wsV RL 104 RX6 yX6_knows wsX6_knows) := goodIn_app (goodIn_of _ (by decide +kernel)) ggL_isChanged_X6_knows
set_option maxRecDepth 20000 in
theorem ggL_isChanged_X6_change : GoodIn wsL_isChanged wsX6_change := goodIn_ca (goodIn_ca (goodIn_r _ [71, 7, 72, 11, 12, 13, 4, 14, 15, 16, 17, 18, 19, 20, 21, 22, 23, 24, 25, 26, 27, 28, 29, 30, 31, 32, 33, 34, 35, 36, 37, 38, 39, 40, 41, 42, 43, 44, 45, 46, 47, 48, 49, 73, 74, 75, 53, 76, 77, 78, 79, 80, 81, 82, 83, 84, 85, 86, 87, 88, 89, 90, 91, 92, 93, 94, 95, 96, 97, 98, 99, 100] (by decide +kernel) (by decide +kernel)) (goodIn_sub (fun _ h => List.mem_cons_of_mem _ (List.mem_append_left _ (List.mem_append_right _ h))) (by decide +kernel))) (goodIn_sub (fun _ h => List.mem_cons_of_mem _ (List.mem_append_right _ h)) (by decide +kernel))
set_option maxRecDepth 20000 in
theorem gL_isChanged_X6_change : GoodIn wsL_isChanged (wsV RL 137 RX6 yX6_change wsX6_change) := goodIn_app (goodIn_of _ (by decide +kernel)) ggL_isChanged_X6_change
theorem dL_isChanged_0 : decode cL_isChanged 0 = .ok (.iload_n 2, 1) := by decide +kernel
theorem dL_isChanged_1 : decode cL_isChanged 1 = .ok (.iconst 4, 1) := by decide +kernel
theorem dL_isChanged_2 : decode cL_isChanged 2 = .ok (.idiv, 1) := by decide +kernel
theorem dL_isChanged_3 : decode cL_isChanged 3 = .ok (.istore 4, 2) := by decide +kernel
theorem dL_isChanged_5 : decode cL_isChanged 5 = .ok (.aload_n 0, 1) := by decide +kernel
theorem dL_isChanged_6 : decode cL_isChanged 6 = .ok (.iload_n 1, 1) := by decide +kernel
theorem dL_isChanged_7 : decode cL_isChanged 7 = .ok (.iconst 0, 1) := by decide +kernel
theorem dL_isChanged_8 : decode cL_isChanged 8 = .ok (.invokevirtual 84, 3) := by decide +kernel
theorem dL_isChanged_11 : decode cL_isChanged 11 = .ok (.istore 5, 2) := by decide +kernel
theorem dL_isChanged_13 : decode cL_isChanged 13 = .ok (.iload 4, 2) := by decide +kernel
theorem dL_isChanged_15 : decode cL_isChanged 15 = .ok (.aload_n 0, 1) := by decide +kernel
theorem dL_isChanged_16 : decode cL_isChanged 16 = .ok (.iload_n 1, 1) := by decide +kernel
theorem dL_isChanged_17 : decode cL_isChanged 17 = .ok (.iconst 2, 1) := by decide +kernel
theorem dL_isChanged_18 : decode cL_isChanged 18 = .ok (.invokevirtual 84, 3) := by decide +kernel
theorem dL_isChanged_21 : decode cL_isChanged 21 = .ok (.if_icmp .ge 12, 3) := by decide +kernel
theorem dL_isChanged_24 : decode cL_isChanged 24 = .ok (.iload 5, 2) := by decide +kernel
theorem dL_isChanged_26 : decode cL_isChanged 26 = .ok (.ifCond .le 7, 3) := by decide +kernel
theorem dL_isChanged_29 : decode cL_isChanged 29 = .ok (.iconst 1, 1) := by decide +kernel
theorem dL_isChanged_30 : decode cL_isChanged 30 = .ok (.goto 4, 3) := by decide +kernel
theorem dL_isChanged_33 : decode cL_isChanged 33 = .ok (.iconst 0, 1) := by decide +kernel
theorem dL_isChanged_34 : decode cL_isChanged 34 = .ok (.istore 6, 2) := by decide +kernel
theorem dL_isChanged_36 : decode cL_isChanged 36 = .ok (.iload 6, 2) := by decide +kernel
theorem dL_isChanged_38 : decode cL_isChanged 38 = .ok (.ifCond .eq 17, 3) := by decide +kernel
theorem dL_isChanged_41 : decode cL_isChanged 41 = .ok (.aload_n 0, 1) := by decide +kernel
theorem dL_isChanged_42 : decode cL_isChanged 42 = .ok (.iload_n 1, 1) := by decide +kernel
theorem dL_isChanged_43 : decode cL_isChanged 43 = .ok (.iload 5, 2) := by decide +kernel
theorem dL_isChanged_45 : decode cL_isChanged 45 = .ok (.iconst 1, 1) := by decide +kernel
theorem dL_isChanged_46 : decode cL_isChanged 46 = .ok (.isub, 1) := by decide +kernel
theorem dL_isChanged_47 : decode cL_isChanged 47 = .ok (.iload 4, 2) := by decide +kernel
theorem dL_isChanged_49 : decode cL_isChanged 49 = .ok (.invokevirtual 104, 3) := by decide +kernel
theorem dL_isChanged_52 : decode cL_isChanged 52 = .ok (.goto 4, 3) := by decide +kernel
theorem dL_isChanged_55 : decode cL_isChanged 55 = .ok (.iconst 0, 1) := by decide +kernel
theorem dL_isChanged_56 : decode cL_isChanged 56 = .ok (.istore 7, 2) := by decide +kernel
theorem dL_isChanged_58 : decode cL_isChanged 58 = .ok (.aload_n 0, 1) := by decide +kernel
theorem dL_isChanged_59 : decode cL_isChanged 59 = .ok (.iload_n 1, 1) := by decide +kernel
theorem dL_isChanged_60 : decode cL_isChanged 60 = .ok (.iload_n 2, 1) := by decide +kernel
theorem dL_isChanged_61 : decode cL_isChanged 61 = .ok (.iload_n 3, 1) := by decide +kernel
theorem dL_isChanged_62 : decode cL_isChanged 62 = .ok (.invokevirtual 137, 3) := by decide +kernel
theorem dL_isChanged_65 : decode cL_isChanged 65 = .ok (.istore 8, 2) := by decide +kernel
theorem dL_isChanged_67 : decode cL_isChanged 67 = .ok (.iload 8, 2) := by decide +kernel
theorem dL_isChanged_69 : decode cL_isChanged 69 = .ok (.ifCond .lt 62, 3) := by decide +kernel
theorem dL_isChanged_72 : decode cL_isChanged 72 = .ok (.iload 8, 2) := by decide +kernel
theorem dL_isChanged_74 : decode cL_isChanged 74 = .ok (.bipush 12, 2) := by decide +kernel
theorem dL_isChanged_76 : decode cL_isChanged 76 = .ok (.if_icmp .ge 55, 3) := by decide +kernel
theorem dL_isChanged_79 : decode cL_isChanged 79 = .ok (.iload 6, 2) := by decide +kernel
theorem dL_isChanged_81 : decode cL_isChanged 81 = .ok (.ifCond .eq 35, 3) := by decide +kernel
theorem dL_isChanged_84 : decode cL_isChanged 84 = .ok (.aload_n 0, 1) := by decide +kernel
theorem dL_isChanged_85 : decode cL_isChanged 85 = .ok (.iload_n 1, 1) := by decide +kernel
theorem dL_isChanged_86 : decode cL_isChanged 86 = .ok (.iload 5, 2) := by decide +kernel
theorem dL_isChanged_88 : decode cL_isChanged 88 = .ok (.iconst 1, 1) := by decide +kernel
theorem dL_isChanged_89 : decode cL_isChanged 89 = .ok (.isub, 1) := by decide +kernel
theorem dL_isChanged_90 : decode cL_isChanged 90 = .ok (.iload 4, 2) := by decide +kernel
theorem dL_isChanged_92 : decode cL_isChanged 92 = .ok (.invokevirtual 104, 3) := by decide +kernel
theorem dL_isChanged_95 : decode cL_isChanged 95 = .ok (.iload 8, 2) := by decide +kernel
theorem dL_isChanged_97 : decode cL_isChanged 97 = .ok (.iload_n 3, 1) := by decide +kernel
theorem dL_isChanged_98 : decode cL_isChanged 98 = .ok (.if_icmp .eq 13, 3) := by decide +kernel
theorem dL_isChanged_101 : decode cL_isChanged 101 = .ok (.iload 7, 2) := by decide +kernel
theorem dL_isChanged_103 : decode cL_isChanged 103 = .ok (.iconst 1, 1) := by decide +kernel
theorem dL_isChanged_104 : decode cL_isChanged 104 = .ok (.if_icmp .ne 7, 3) := by decide +kernel
theorem dL_isChanged_107 : decode cL_isChanged 107 = .ok (.iconst 2, 1) := by decide +kernel
theorem dL_isChanged_108 : decode cL_isChanged 108 = .ok (.goto 5, 3) := by decide +kernel
theorem dL_isChanged_111 : decode cL_isChanged 111 = .ok (.iload 7, 2) := by decide +kernel
theorem dL_isChanged_113 : decode cL_isChanged 113 = .ok (.if_icmp .ne 18, 3) := by decide +kernel
theorem dL_isChanged_116 : decode cL_isChanged 116 = .ok (.aload_n 0, 1) := by decide +kernel
theorem dL_isChanged_117 : decode cL_isChanged 117 = .ok (.iload_n 1, 1) := by decide +kernel
theorem dL_isChanged_118 : decode cL_isChanged 118 = .ok (.iload_n 2, 1) := by decide +kernel
theorem dL_isChanged_119 : decode cL_isChanged 119 = .ok (.iload_n 3, 1) := by decide +kernel
theorem dL_isChanged_120 : decode cL_isChanged 120 = .ok (.invokevirtual 137, 3) := by decide +kernel
theorem dL_isChanged_123 : decode cL_isChanged 123 = .ok (.iload_n 3, 1) := by decide +kernel
theorem dL_isChanged_124 : decode cL_isChanged 124 = .ok (.if_icmp .ne 7, 3) := by decide +kernel
theorem dL_isChanged_127 : decode cL_isChanged 127 = .ok (.iconst 1, 1) := by decide +kernel
theorem dL_isChanged_128 : decode cL_isChanged 128 = .ok (.goto 4, 3) := by decide +kernel
theorem dL_isChanged_131 : decode cL_isChanged 131 = .ok (.iconst 0, 1) := by decide +kernel
theorem dL_isChanged_132 : decode cL_isChanged 132 = .ok (.ireturn, 1) := by decide +kernel
set_option maxRecDepth 20000 in
theorem ggL_isDrilled_X6_ofBand : GoodIn wsL_isDrilled wsX6_ofBand := goodIn_ca (goodIn_ca (goodIn_r _ [6, 7, 8, 9, 10, 11, 12, 13, 14, 5, 15, 16, 17, 18, 19, 20, 21, 22, 23, 24, 25, 26, 27, 28, 29, 30, 31, 32, 33, 34, 35, 36, 37, 38, 39, 40, 41, 42, 43, 44, 45, 46, 47, 48, 49, 50, 51, 52, 53, 54, 55, 56, 345, 346, 347, 348, 349, 350, 351, 352, 353, 354, 355, 356, 357, 358, 359, 360, 361] (by decide +kernel) (by decide +kernel)) (goodIn_sub (fun _ h => List.mem_cons_of_mem _ (List.mem_append_left _ (List.mem_append_left _ (List.mem_append_right _ h)))) (by decide +kernel))) (goodIn_sub (fun _ h => List.mem_cons_of_mem _ (List.mem_append_left _ (List.mem_append_right _ h))) (by decide +kernel))
set_option maxRecDepth 20000 in
theorem gL_isDrilled_X6_ofBand : GoodIn wsL_isDrilled (wsV RL 84 RX6 yX6_ofBand wsX6_ofBand) := goodIn_app (goodIn_of _ (by decide +kernel)) ggL_isDrilled_X6_ofBand
set_option maxRecDepth 20000 in
theorem ggL_isDrilled_X6_knows : GoodIn wsL_isDrilled wsX6_knows := goodIn_ca (goodIn_r _ [60, 61, 12, 13, 14, 5, 15, 16, 17, 18, 19, 20, 21, 22, 23, 24, 25, 26, 27, 28, 29, 30, 31, 32, 33, 34, 35, 36, 37, 38, 39, 40, 41, 42, 43, 44, 45, 62, 63, 64, 7, 65, 66, 67, 68, 51, 52, 53, 54, 55, 56, 362, 363, 352, 353, 354, 355, 356, 357, 358, 359, 360, 361, 345, 346, 347, 348, 349, 350, 351] (by decide +kernel) (by decide +kernel)) (goodIn_sub (fun _ h => List.mem_cons_of_mem _ (List.mem_append_left _ (List.mem_append_left _ (List.mem_append_right _ h)))) (by decide +kernel))
set_option maxRecDepth 20000 in
theorem gL_isDrilled_X6_knows : GoodIn wsL_isDrilled (wsV RL 104 RX6 yX6_knows wsX6_knows) := goodIn_app (goodIn_of _ (by decide +kernel)) ggL_isDrilled_X6_knows
set_option maxRecDepth 20000 in
theorem ggL_isDrilled_X6_seat : GoodIn wsL_isDrilled wsX6_seat := goodIn_ca (goodIn_r _ [72, 73, 74, 12, 13, 14, 5, 15, 16, 17, 18, 19, 20, 21, 22, 23, 24, 25, 26, 27, 28, 29, 30, 31, 32, 33, 34, 35, 36, 37, 38, 39, 40, 41, 42, 43, 44, 45, 62, 63, 64, 7, 65, 362, 363, 364, 365, 366, 367, 368, 369, 352, 353, 354, 355, 356, 357, 358, 359, 360, 361, 345, 346, 347, 348, 349, 350, 351] (by decide +kernel) (by decide +kernel)) (goodIn_sub (fun _ h => List.mem_cons_of_mem _ (List.mem_append_left _ (List.mem_append_left _ (List.mem_append_right _ h)))) (by decide +kernel))
set_option maxRecDepth 20000 in
theorem gL_isDrilled_X6_seat : GoodIn wsL_isDrilled (wsV RL 87 RX6 yX6_seat wsX6_seat) := goodIn_app (goodIn_of _ (by decide +kernel)) ggL_isDrilled_X6_seat
set_option maxRecDepth 20000 in
theorem ggL_isDrilled_X6_ofPlayer : GoodIn wsL_isDrilled wsX6_ofPlayer := goodIn_ca (goodIn_ca (goodIn_r _ [78, 79, 80, 81, 82, 83, 84, 85, 5, 86, 87, 88, 18, 19, 20, 21, 22, 23, 24, 25, 26, 27, 28, 29, 30, 31, 32, 33, 34, 35, 36, 37, 38, 39, 40, 41, 42, 43, 44, 45, 46, 47, 48, 49, 50, 364, 365, 366, 367, 368, 369, 370, 371, 372, 373, 374, 352, 353, 354, 355, 356, 357, 358, 359, 360, 361] (by decide +kernel) (by decide +kernel)) (goodIn_sub (fun _ h => List.mem_cons_of_mem _ (List.mem_append_left _ (List.mem_append_left _ (List.mem_append_right _ h)))) (by decide +kernel))) (goodIn_sub (fun _ h => List.mem_cons_of_mem _ (List.mem_append_left _ (List.mem_append_right _ h))) (by decide +kernel))
set_option maxRecDepth 20000 in
theorem gL_isDrilled_X6_ofPlayer : GoodIn wsL_isDrilled (wsV RL 70 RX6 yX6_ofPlayer wsX6_ofPlayer) := goodIn_app (goodIn_of _ (by decide +kernel)) ggL_isDrilled_X6_ofPlayer
set_option maxRecDepth 20000 in
theorem ggL_isDrilled_X6_field : GoodIn wsL_isDrilled wsX6_field := goodIn_ca (goodIn_ca (goodIn_r _ [92, 93, 94, 95, 96, 97, 98, 99, 5, 100, 101, 102, 18, 19, 20, 21, 22, 23, 24, 25, 26, 27, 28, 29, 30, 31, 32, 33, 34, 35, 36, 37, 38, 39, 40, 41, 42, 43, 44, 45, 46, 47, 48, 49, 50, 103, 104, 105, 106, 107, 108, 370, 371, 372, 373, 374, 352, 353, 354, 355, 356, 357, 358, 359, 360, 361] (by decide +kernel) (by decide +kernel)) (goodIn_sub (fun _ h => List.mem_cons_of_mem _ (List.mem_append_left _ (List.mem_append_left _ (List.mem_append_right _ h)))) (by decide +kernel))) (goodIn_sub (fun _ h => List.mem_cons_of_mem _ (List.mem_append_left _ (List.mem_append_right _ h))) (by decide +kernel))
set_option maxRecDepth 20000 in
theorem gL_isDrilled_X6_field : GoodIn wsL_isDrilled (wsV RL 63 RX6 yX6_field wsX6_field) := goodIn_app (goodIn_of _ (by decide +kernel)) ggL_isDrilled_X6_field
set_option maxRecDepth 20000 in
theorem ggL_isDrilled_L_acts : GoodIn wsL_isDrilled wsL_acts := goodIn_ca (goodIn_ca (goodIn_ca (goodIn_r _ [112, 113, 114, 115, 116, 5, 117, 80, 7, 118, 119, 120, 83, 84, 85, 86, 87, 88, 18, 19, 20, 21, 22, 23, 24, 25, 26, 27, 28, 29, 30, 31, 32, 33, 34, 35, 36, 37, 38, 39, 40, 41, 42, 43, 44, 45, 12, 13, 14, 15, 16, 17, 121, 122, 123, 54, 124, 125, 126, 127, 128, 129, 130, 131, 132, 133, 134, 135, 136, 137, 138, 11, 139, 140, 141, 142, 143, 144, 145, 146, 147, 148, 149, 150, 151, 1, 152, 153, 154, 155, 156, 157, 158, 159, 160, 161, 162, 163, 164, 165, 166, 167, 168, 169, 170, 171, 172, 173, 174, 175, 176, 177, 178, 179, 180, 181, 182, 183, 184, 185, 186, 187, 188, 189, 190, 191, 192, 193, 194, 195, 196, 197, 198, 199, 200, 201, 202, 203, 204, 205, 206, 207, 208, 209, 210, 211, 212, 213, 214, 215, 216, 217, 218, 219, 220, 221, 222, 223, 224, 225, 81, 226, 82, 227, 228, 229, 230, 10, 66, 67, 68, 51, 52, 53, 55, 56, 231, 232, 233, 234, 235, 236, 237, 238, 239, 240, 241, 242, 243, 244, 245, 246, 247, 248, 249, 250, 251, 252, 106, 253, 254, 255, 256, 257, 258, 259, 260, 261, 262, 9, 263, 94, 264, 265, 46, 47, 48, 49, 50, 266, 267, 268, 269, 270, 271, 272, 273, 274, 275, 276, 277, 278, 279, 280, 281, 282, 283, 284, 285, 286, 287, 288, 289, 290, 291, 292, 293, 294, 295, 296, 297, 298, 299, 300, 301, 302, 303, 304, 305, 306, 307, 308, 309, 310, 311, 312, 313, 314, 315, 316, 317, 318, 319, 320, 321, 322, 323, 324, 104, 105, 107, 108, 325, 326, 327, 328, 8, 329, 330, 331, 332, 333, 334, 335, 74, 336, 337, 338, 339, 340, 341, 364, 365, 366, 367, 368, 369, 345, 346, 347, 348, 349, 350, 351, 362, 363, 352, 353, 354, 355, 356, 357, 358, 359, 360, 361, 370, 371, 372, 373, 374, 375, 376] (by decide +kernel) (by decide +kernel)) (goodIn_sub (fun _ h => List.mem_cons_of_mem _ (List.mem_append_left _ (List.mem_append_left _ (List.mem_append_right _ h)))) (by decide +kernel))) (goodIn_sub (fun _ h => List.mem_cons_of_mem _ (List.mem_append_right _ h)) (by decide +kernel))) (goodIn_sub (fun _ h => List.mem_cons_of_mem _ (List.mem_append_left _ (List.mem_append_right _ h))) (by decide +kernel))
set_option maxRecDepth 20000 in
theorem gL_isDrilled_L_acts : GoodIn wsL_isDrilled (va_wsS RL 66 yL_acts wsL_acts) := goodIn_app (goodIn_of _ (by decide +kernel)) ggL_isDrilled_L_acts
set_option maxRecDepth 20000 in
theorem ggL_isDrilled_L_isLearnt : GoodIn wsL_isDrilled wsL_isLearnt := goodIn_ca (goodIn_ca (goodIn_r _ [344, 69, 70, 71, 5, 72, 73, 74, 12, 13, 14, 15, 16, 17, 18, 19, 20, 21, 22, 23, 24, 25, 26, 27, 28, 29, 30, 31, 32, 33, 34, 35, 36, 37, 38, 39, 40, 41, 42, 43, 44, 45, 62, 63, 64, 7, 65, 75, 76, 77, 78, 79, 80, 81, 82, 83, 84, 85, 86, 87, 88, 46, 47, 48, 49, 50, 362, 363, 364, 365, 366, 367, 368, 369, 352, 353, 354, 355, 356, 357, 358, 359, 360, 361, 345, 346, 347, 348, 349, 350, 351, 370, 371, 372, 373, 374] (by decide +kernel) (by decide +kernel)) (goodIn_sub (fun _ h => List.mem_cons_of_mem _ (List.mem_append_left _ (List.mem_append_left _ (List.mem_append_right _ h)))) (by decide +kernel))) (goodIn_sub (fun _ h => List.mem_cons_of_mem _ (List.mem_append_left _ (List.mem_append_right _ h))) (by decide +kernel))
