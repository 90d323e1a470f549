theorem dL_step_1241 : decode cL_step 1241 = .ok (.invokevirtual 110, 3) := by decide +kernel
theorem dL_step_1244 : decode cL_step 1244 = .ok (.aload_n 1, 1) := by decide +kernel
theorem dL_step_1245 : decode cL_step 1245 = .ok (.iconst 2, 1) := by decide +kernel
theorem dL_step_1246 : decode cL_step 1246 = .ok (.iaload, 1) := by decide +kernel
theorem dL_step_1247 : decode cL_step 1247 = .ok (.if_icmp .ne 17, 3) := by decide +kernel
theorem dL_step_1250 : decode cL_step 1250 = .ok (.aload_n 0, 1) := by decide +kernel
theorem dL_step_1251 : decode cL_step 1251 = .ok (.iload 7, 2) := by decide +kernel
theorem dL_step_1253 : decode cL_step 1253 = .ok (.iconst 4, 1) := by decide +kernel
theorem dL_step_1254 : decode cL_step 1254 = .ok (.invokevirtual 84, 3) := by decide +kernel
theorem dL_step_1257 : decode cL_step 1257 = .ok (.ifCond .ne 7, 3) := by decide +kernel
theorem dL_step_1260 : decode cL_step 1260 = .ok (.iconst 1, 1) := by decide +kernel
theorem dL_step_1261 : decode cL_step 1261 = .ok (.goto 4, 3) := by decide +kernel
theorem dL_step_1264 : decode cL_step 1264 = .ok (.iconst 0, 1) := by decide +kernel
theorem dL_step_1265 : decode cL_step 1265 = .ok (.ireturn, 1) := by decide +kernel
theorem dL_step_1266 : decode cL_step 1266 = .ok (.aload_n 0, 1) := by decide +kernel
theorem dL_step_1267 : decode cL_step 1267 = .ok (.iload 7, 2) := by decide +kernel
theorem dL_step_1269 : decode cL_step 1269 = .ok (.iconst 1, 1) := by decide +kernel
theorem dL_step_1270 : decode cL_step 1270 = .ok (.iload 4, 2) := by decide +kernel
theorem dL_step_1272 : decode cL_step 1272 = .ok (.bipush 30, 2) := by decide +kernel
theorem dL_step_1274 : decode cL_step 1274 = .ok (.irem, 1) := by decide +kernel
theorem dL_step_1275 : decode cL_step 1275 = .ok (.iadd, 1) := by decide +kernel
theorem dL_step_1276 : decode cL_step 1276 = .ok (.invokestatic 113, 3) := by decide +kernel
theorem dL_step_1279 : decode cL_step 1279 = .ok (.ireturn, 1) := by decide +kernel
theorem dL_step_1280 : decode cL_step 1280 = .ok (.aload_n 0, 1) := by decide +kernel
theorem dL_step_1281 : decode cL_step 1281 = .ok (.iload 7, 2) := by decide +kernel
theorem dL_step_1283 : decode cL_step 1283 = .ok (.iload 4, 2) := by decide +kernel
theorem dL_step_1285 : decode cL_step 1285 = .ok (.iconst 5, 1) := by decide +kernel
theorem dL_step_1286 : decode cL_step 1286 = .ok (.irem, 1) := by decide +kernel
theorem dL_step_1287 : decode cL_step 1287 = .ok (.iload 4, 2) := by decide +kernel
theorem dL_step_1289 : decode cL_step 1289 = .ok (.iconst 5, 1) := by decide +kernel
theorem dL_step_1290 : decode cL_step 1290 = .ok (.idiv, 1) := by decide +kernel
theorem dL_step_1291 : decode cL_step 1291 = .ok (.bipush 101, 2) := by decide +kernel
theorem dL_step_1293 : decode cL_step 1293 = .ok (.irem, 1) := by decide +kernel
theorem dL_step_1294 : decode cL_step 1294 = .ok (.invokestatic 116, 3) := by decide +kernel
theorem dL_step_1297 : decode cL_step 1297 = .ok (.istore 26, 2) := by decide +kernel
theorem dL_step_1299 : decode cL_step 1299 = .ok (.iload 26, 2) := by decide +kernel
theorem dL_step_1301 : decode cL_step 1301 = .ok (.sipush (-200), 3) := by decide +kernel
theorem dL_step_1304 : decode cL_step 1304 = .ok (.if_icmp .eq 74, 3) := by decide +kernel
theorem dL_step_1307 : decode cL_step 1307 = .ok (.iload 26, 2) := by decide +kernel
theorem dL_step_1309 : decode cL_step 1309 = .ok (.ifCond .le 73, 3) := by decide +kernel
theorem dL_step_1312 : decode cL_step 1312 = .ok (.iload 26, 2) := by decide +kernel
theorem dL_step_1314 : decode cL_step 1314 = .ok (.bipush 6, 2) := by decide +kernel
theorem dL_step_1316 : decode cL_step 1316 = .ok (.if_icmp .ge 66, 3) := by decide +kernel
theorem dL_step_1319 : decode cL_step 1319 = .ok (.aload_n 0, 1) := by decide +kernel
theorem dL_step_1320 : decode cL_step 1320 = .ok (.iload 7, 2) := by decide +kernel
theorem dL_step_1322 : decode cL_step 1322 = .ok (.iconst 3, 1) := by decide +kernel
theorem dL_step_1323 : decode cL_step 1323 = .ok (.invokevirtual 84, 3) := by decide +kernel
theorem dL_step_1326 : decode cL_step 1326 = .ok (.ifCond .lt 56, 3) := by decide +kernel
theorem dL_step_1329 : decode cL_step 1329 = .ok (.aload_n 0, 1) := by decide +kernel
theorem dL_step_1330 : decode cL_step 1330 = .ok (.iload 7, 2) := by decide +kernel
theorem dL_step_1332 : decode cL_step 1332 = .ok (.iload 4, 2) := by decide +kernel
theorem dL_step_1334 : decode cL_step 1334 = .ok (.iconst 5, 1) := by decide +kernel
theorem dL_step_1335 : decode cL_step 1335 = .ok (.irem, 1) := by decide +kernel
theorem dL_step_1336 : decode cL_step 1336 = .ok (.bipush 7, 2) := by decide +kernel
theorem dL_step_1338 : decode cL_step 1338 = .ok (.invokestatic 116, 3) := by decide +kernel
theorem dL_step_1341 : decode cL_step 1341 = .ok (.sipush (-200), 3) := by decide +kernel
theorem dL_step_1344 : decode cL_step 1344 = .ok (.if_icmp .ne 38, 3) := by decide +kernel
theorem dL_step_1347 : decode cL_step 1347 = .ok (.iload 26, 2) := by decide +kernel
theorem dL_step_1349 : decode cL_step 1349 = .ok (.iconst 5, 1) := by decide +kernel
theorem dL_step_1350 : decode cL_step 1350 = .ok (.if_icmp .ne 7, 3) := by decide +kernel
theorem dL_step_1353 : decode cL_step 1353 = .ok (.iconst 1, 1) := by decide +kernel
theorem dL_step_1354 : decode cL_step 1354 = .ok (.goto 4, 3) := by decide +kernel
theorem dL_step_1357 : decode cL_step 1357 = .ok (.iconst 0, 1) := by decide +kernel
theorem dL_step_1358 : decode cL_step 1358 = .ok (.aload_n 0, 1) := by decide +kernel
theorem dL_step_1359 : decode cL_step 1359 = .ok (.iload 7, 2) := by decide +kernel
theorem dL_step_1361 : decode cL_step 1361 = .ok (.invokestatic 119, 3) := by decide +kernel
theorem dL_step_1364 : decode cL_step 1364 = .ok (.sipush (-2000), 3) := by decide +kernel
theorem dL_step_1367 : decode cL_step 1367 = .ok (.if_icmp .le 7, 3) := by decide +kernel
theorem dL_step_1370 : decode cL_step 1370 = .ok (.iconst 1, 1) := by decide +kernel
theorem dL_step_1371 : decode cL_step 1371 = .ok (.goto 4, 3) := by decide +kernel
theorem dL_step_1374 : decode cL_step 1374 = .ok (.iconst 0, 1) := by decide +kernel
theorem dL_step_1375 : decode cL_step 1375 = .ok (.if_icmp .ne 7, 3) := by decide +kernel
theorem dL_step_1378 : decode cL_step 1378 = .ok (.iconst 1, 1) := by decide +kernel
theorem dL_step_1379 : decode cL_step 1379 = .ok (.goto 4, 3) := by decide +kernel
theorem dL_step_1382 : decode cL_step 1382 = .ok (.iconst 0, 1) := by decide +kernel
theorem dL_step_1383 : decode cL_step 1383 = .ok (.ireturn, 1) := by decide +kernel
theorem dL_step_1384 : decode cL_step 1384 = .ok (.aload_n 0, 1) := by decide +kernel
theorem dL_step_1385 : decode cL_step 1385 = .ok (.iload 7, 2) := by decide +kernel
theorem dL_step_1387 : decode cL_step 1387 = .ok (.invokestatic 123, 3) := by decide +kernel
theorem dL_step_1390 : decode cL_step 1390 = .ok (.ireturn, 1) := by decide +kernel
set_option maxRecDepth 20000 in
theorem ggL_isBeaten_X6_field : GoodIn wsL_isBeaten wsX6_field := goodIn_ca (goodIn_ca (goodIn_r _ [6, 7, 8, 9, 10, 11, 12, 13, 5, 14, 15, 16, 17, 18, 19, 20, 21, 22, 23, 24, 25, 26, 27, 28, 29, 30, 31, 32, 33, 34, 35, 36, 37, 38, 39, 40, 41, 42, 43, 44, 45, 46, 47, 48, 49, 50, 51, 52, 53, 54, 55, 81, 82, 83, 84, 85, 86, 87, 88, 89, 90, 91, 92, 93, 94, 95] (by decide +kernel) (by decide +kernel)) (goodIn_sub (fun _ h => List.mem_cons_of_mem _ (List.mem_append_left _ (List.mem_append_left _ (List.mem_append_right _ h)))) (by decide +kernel))) (goodIn_sub (fun _ h => List.mem_cons_of_mem _ (List.mem_append_left _ (List.mem_append_right _ h))) (by decide +kernel))
set_option maxRecDepth 20000 in
theorem gL_isBeaten_X6_field : GoodIn wsL_isBeaten (wsV RL 63 RX6 yX6_field wsX6_field) := goodIn_app (goodIn_of _ (by decide +kernel)) ggL_isBeaten_X6_field
set_option maxRecDepth 20000 in
theorem ggL_isBeaten_L_blows : GoodIn wsL_isBeaten wsL_blows := goodIn_ca (goodIn_ca (goodIn_ca (goodIn_r _ [59, 60, 1, 61, 62, 63, 5, 64, 7, 11, 12, 13, 14, 15, 16, 17, 18, 19, 20, 21, 22, 23, 24, 25, 26, 27, 28, 29, 30, 31, 32, 33, 34, 35, 36, 37, 38, 39, 40, 41, 42, 43, 44, 45, 46, 47, 48, 49, 65, 66, 67, 53, 68, 69, 70, 51, 52, 54, 55, 71, 72, 73, 74, 75, 76, 77, 78, 79, 80, 81, 82, 83, 84, 85, 86, 87, 88, 89, 90, 91, 92, 93, 94, 95] (by decide +kernel) (by decide +kernel)) (goodIn_sub (fun _ h => List.mem_cons_of_mem _ (List.mem_append_left _ (List.mem_append_left _ (List.mem_append_right _ h)))) (by decide +kernel))) (goodIn_sub (fun _ h => List.mem_cons_of_mem _ (List.mem_append_left _ (List.mem_append_right _ h))) (by decide +kernel))) (goodIn_sub (fun _ h => List.mem_cons_of_mem _ (List.mem_append_right _ h)) (by decide +kernel))
set_option maxRecDepth 20000 in
theorem gL_isBeaten_L_blows : GoodIn wsL_isBeaten (va_wsS RL 126 yL_blows wsL_blows) := goodIn_app (goodIn_of _ (by decide +kernel)) ggL_isBeaten_L_blows
theorem dL_isBeaten_0 : decode cL_isBeaten 0 = .ok (.aload_n 0, 1) := by decide +kernel
theorem dL_isBeaten_1 : decode cL_isBeaten 1 = .ok (.iload_n 1, 1) := by decide +kernel
theorem dL_isBeaten_2 : decode cL_isBeaten 2 = .ok (.iload_n 2, 1) := by decide +kernel
theorem dL_isBeaten_3 : decode cL_isBeaten 3 = .ok (.iconst 0, 1) := by decide +kernel
theorem dL_isBeaten_4 : decode cL_isBeaten 4 = .ok (.invokevirtual 63, 3) := by decide +kernel
theorem dL_isBeaten_7 : decode cL_isBeaten 7 = .ok (.istore 5, 2) := by decide +kernel
theorem dL_isBeaten_9 : decode cL_isBeaten 9 = .ok (.aload_n 0, 1) := by decide +kernel
theorem dL_isBeaten_10 : decode cL_isBeaten 10 = .ok (.iload_n 1, 1) := by decide +kernel
theorem dL_isBeaten_11 : decode cL_isBeaten 11 = .ok (.iload_n 2, 1) := by decide +kernel
theorem dL_isBeaten_12 : decode cL_isBeaten 12 = .ok (.iconst 1, 1) := by decide +kernel
theorem dL_isBeaten_13 : decode cL_isBeaten 13 = .ok (.iadd, 1) := by decide +kernel
theorem dL_isBeaten_14 : decode cL_isBeaten 14 = .ok (.iconst 4, 1) := by decide +kernel
theorem dL_isBeaten_15 : decode cL_isBeaten 15 = .ok (.irem, 1) := by decide +kernel
theorem dL_isBeaten_16 : decode cL_isBeaten 16 = .ok (.iconst 0, 1) := by decide +kernel
theorem dL_isBeaten_17 : decode cL_isBeaten 17 = .ok (.invokevirtual 63, 3) := by decide +kernel
theorem dL_isBeaten_20 : decode cL_isBeaten 20 = .ok (.istore 6, 2) := by decide +kernel
theorem dL_isBeaten_22 : decode cL_isBeaten 22 = .ok (.aload_n 0, 1) := by decide +kernel
theorem dL_isBeaten_23 : decode cL_isBeaten 23 = .ok (.iload_n 1, 1) := by decide +kernel
theorem dL_isBeaten_24 : decode cL_isBeaten 24 = .ok (.iload_n 2, 1) := by decide +kernel
theorem dL_isBeaten_25 : decode cL_isBeaten 25 = .ok (.iconst 3, 1) := by decide +kernel
theorem dL_isBeaten_26 : decode cL_isBeaten 26 = .ok (.iadd, 1) := by decide +kernel
theorem dL_isBeaten_27 : decode cL_isBeaten 27 = .ok (.iconst 4, 1) := by decide +kernel
theorem dL_isBeaten_28 : decode cL_isBeaten 28 = .ok (.irem, 1) := by decide +kernel
theorem dL_isBeaten_29 : decode cL_isBeaten 29 = .ok (.iconst 0, 1) := by decide +kernel
theorem dL_isBeaten_30 : decode cL_isBeaten 30 = .ok (.invokevirtual 63, 3) := by decide +kernel
theorem dL_isBeaten_33 : decode cL_isBeaten 33 = .ok (.istore 7, 2) := by decide +kernel
theorem dL_isBeaten_35 : decode cL_isBeaten 35 = .ok (.aload_n 0, 1) := by decide +kernel
theorem dL_isBeaten_36 : decode cL_isBeaten 36 = .ok (.iload_n 1, 1) := by decide +kernel
theorem dL_isBeaten_37 : decode cL_isBeaten 37 = .ok (.iload_n 2, 1) := by decide +kernel
theorem dL_isBeaten_38 : decode cL_isBeaten 38 = .ok (.iconst 2, 1) := by decide +kernel
theorem dL_isBeaten_39 : decode cL_isBeaten 39 = .ok (.iadd, 1) := by decide +kernel
theorem dL_isBeaten_40 : decode cL_isBeaten 40 = .ok (.iconst 4, 1) := by decide +kernel
theorem dL_isBeaten_41 : decode cL_isBeaten 41 = .ok (.irem, 1) := by decide +kernel
theorem dL_isBeaten_42 : decode cL_isBeaten 42 = .ok (.iconst 0, 1) := by decide +kernel
theorem dL_isBeaten_43 : decode cL_isBeaten 43 = .ok (.invokevirtual 63, 3) := by decide +kernel
theorem dL_isBeaten_46 : decode cL_isBeaten 46 = .ok (.istore 8, 2) := by decide +kernel
theorem dL_isBeaten_48 : decode cL_isBeaten 48 = .ok (.aload_n 0, 1) := by decide +kernel
theorem dL_isBeaten_49 : decode cL_isBeaten 49 = .ok (.iload_n 1, 1) := by decide +kernel
theorem dL_isBeaten_50 : decode cL_isBeaten 50 = .ok (.iload_n 2, 1) := by decide +kernel
theorem dL_isBeaten_51 : decode cL_isBeaten 51 = .ok (.iconst 2, 1) := by decide +kernel
theorem dL_isBeaten_52 : decode cL_isBeaten 52 = .ok (.invokevirtual 63, 3) := by decide +kernel
theorem dL_isBeaten_55 : decode cL_isBeaten 55 = .ok (.istore 9, 2) := by decide +kernel
theorem dL_isBeaten_57 : decode cL_isBeaten 57 = .ok (.aload_n 0, 1) := by decide +kernel
theorem dL_isBeaten_58 : decode cL_isBeaten 58 = .ok (.iload_n 1, 1) := by decide +kernel
theorem dL_isBeaten_59 : decode cL_isBeaten 59 = .ok (.iload_n 2, 1) := by decide +kernel
theorem dL_isBeaten_60 : decode cL_isBeaten 60 = .ok (.iconst 3, 1) := by decide +kernel
theorem dL_isBeaten_61 : decode cL_isBeaten 61 = .ok (.invokevirtual 63, 3) := by decide +kernel
theorem dL_isBeaten_64 : decode cL_isBeaten 64 = .ok (.istore 10, 2) := by decide +kernel
theorem dL_isBeaten_66 : decode cL_isBeaten 66 = .ok (.aload_n 0, 1) := by decide +kernel
theorem dL_isBeaten_67 : decode cL_isBeaten 67 = .ok (.iload_n 1, 1) := by decide +kernel
theorem dL_isBeaten_68 : decode cL_isBeaten 68 = .ok (.iload_n 2, 1) := by decide +kernel
theorem dL_isBeaten_69 : decode cL_isBeaten 69 = .ok (.iload_n 3, 1) := by decide +kernel
theorem dL_isBeaten_70 : decode cL_isBeaten 70 = .ok (.iload 4, 2) := by decide +kernel
theorem dL_isBeaten_72 : decode cL_isBeaten 72 = .ok (.invokestatic 126, 3) := by decide +kernel
theorem dL_isBeaten_75 : decode cL_isBeaten 75 = .ok (.istore 11, 2) := by decide +kernel
theorem dL_isBeaten_77 : decode cL_isBeaten 77 = .ok (.iload 11, 2) := by decide +kernel
theorem dL_isBeaten_79 : decode cL_isBeaten 79 = .ok (.ldc 18, 2) := by decide +kernel
theorem dL_isBeaten_81 : decode cL_isBeaten 81 = .ok (.if_icmp .ne 51, 3) := by decide +kernel
theorem dL_isBeaten_84 : decode cL_isBeaten 84 = .ok (.iload 9, 2) := by decide +kernel
theorem dL_isBeaten_86 : decode cL_isBeaten 86 = .ok (.bipush 7, 2) := by decide +kernel
theorem dL_isBeaten_88 : decode cL_isBeaten 88 = .ok (.if_icmp .eq 14, 3) := by decide +kernel
theorem dL_isBeaten_91 : decode cL_isBeaten 91 = .ok (.iload 10, 2) := by decide +kernel
theorem dL_isBeaten_93 : decode cL_isBeaten 93 = .ok (.iconst 1, 1) := by decide +kernel
theorem dL_isBeaten_94 : decode cL_isBeaten 94 = .ok (.if_icmp .ne 36, 3) := by decide +kernel
theorem dL_isBeaten_97 : decode cL_isBeaten 97 = .ok (.iload 4, 2) := by decide +kernel
theorem dL_isBeaten_99 : decode cL_isBeaten 99 = .ok (.ifCond .ne 31, 3) := by decide +kernel
theorem dL_isBeaten_102 : decode cL_isBeaten 102 = .ok (.aload_n 0, 1) := by decide +kernel
theorem dL_isBeaten_103 : decode cL_isBeaten 103 = .ok (.iload_n 1, 1) := by decide +kernel
theorem dL_isBeaten_104 : decode cL_isBeaten 104 = .ok (.iload_n 2, 1) := by decide +kernel
theorem dL_isBeaten_105 : decode cL_isBeaten 105 = .ok (.iconst 0, 1) := by decide +kernel
theorem dL_isBeaten_106 : decode cL_isBeaten 106 = .ok (.invokevirtual 63, 3) := by decide +kernel
theorem dL_isBeaten_109 : decode cL_isBeaten 109 = .ok (.iload 5, 2) := by decide +kernel
theorem dL_isBeaten_111 : decode cL_isBeaten 111 = .ok (.if_icmp .ne 19, 3) := by decide +kernel
theorem dL_isBeaten_114 : decode cL_isBeaten 114 = .ok (.aload_n 0, 1) := by decide +kernel
theorem dL_isBeaten_115 : decode cL_isBeaten 115 = .ok (.iload_n 1, 1) := by decide +kernel
theorem dL_isBeaten_116 : decode cL_isBeaten 116 = .ok (.iload_n 2, 1) := by decide +kernel
theorem dL_isBeaten_117 : decode cL_isBeaten 117 = .ok (.iconst 2, 1) := by decide +kernel
theorem dL_isBeaten_118 : decode cL_isBeaten 118 = .ok (.invokevirtual 63, 3) := by decide +kernel
theorem dL_isBeaten_121 : decode cL_isBeaten 121 = .ok (.iload 9, 2) := by decide +kernel
theorem dL_isBeaten_123 : decode cL_isBeaten 123 = .ok (.if_icmp .ne 7, 3) := by decide +kernel
theorem dL_isBeaten_126 : decode cL_isBeaten 126 = .ok (.iconst 1, 1) := by decide +kernel
theorem dL_isBeaten_127 : decode cL_isBeaten 127 = .ok (.goto 4, 3) := by decide +kernel
theorem dL_isBeaten_130 : decode cL_isBeaten 130 = .ok (.iconst 0, 1) := by decide +kernel
theorem dL_isBeaten_131 : decode cL_isBeaten 131 = .ok (.ireturn, 1) := by decide +kernel
theorem dL_isBeaten_132 : decode cL_isBeaten 132 = .ok (.iload 4, 2) := by decide +kernel
theorem dL_isBeaten_134 : decode cL_isBeaten 134 = .ok (.ifCond .eq 7, 3) := by decide +kernel
theorem dL_isBeaten_137 : decode cL_isBeaten 137 = .ok (.iload_n 3, 1) := by decide +kernel
theorem dL_isBeaten_138 : decode cL_isBeaten 138 = .ok (.goto 5, 3) := by decide +kernel
theorem dL_isBeaten_141 : decode cL_isBeaten 141 = .ok (.iload_n 3, 1) := by decide +kernel
theorem dL_isBeaten_142 : decode cL_isBeaten 142 = .ok (.ineg, 1) := by decide +kernel
theorem dL_isBeaten_143 : decode cL_isBeaten 143 = .ok (.istore 12, 2) := by decide +kernel
theorem dL_isBeaten_145 : decode cL_isBeaten 145 = .ok (.iload 9, 2) := by decide +kernel
theorem dL_isBeaten_147 : decode cL_isBeaten 147 = .ok (.bipush 7, 2) := by decide +kernel
theorem dL_isBeaten_149 : decode cL_isBeaten 149 = .ok (.if_icmp .ge 153, 3) := by decide +kernel
theorem dL_isBeaten_152 : decode cL_isBeaten 152 = .ok (.iload 11, 2) := by decide +kernel
theorem dL_isBeaten_154 : decode cL_isBeaten 154 = .ok (.iload 5, 2) := by decide +kernel
theorem dL_isBeaten_156 : decode cL_isBeaten 156 = .ok (.iload 4, 2) := by decide +kernel
theorem dL_isBeaten_158 : decode cL_isBeaten 158 = .ok (.ifCond .eq 10, 3) := by decide +kernel
theorem dL_isBeaten_161 : decode cL_isBeaten 161 = .ok (.bipush (-6), 2) := by decide +kernel
theorem dL_isBeaten_163 : decode cL_isBeaten 163 = .ok (.iload_n 3, 1) := by decide +kernel
theorem dL_isBeaten_164 : decode cL_isBeaten 164 = .ok (.imul, 1) := by decide +kernel
theorem dL_isBeaten_165 : decode cL_isBeaten 165 = .ok (.goto 6, 3) := by decide +kernel
theorem dL_isBeaten_168 : decode cL_isBeaten 168 = .ok (.iconst 4, 1) := by decide +kernel
theorem dL_isBeaten_169 : decode cL_isBeaten 169 = .ok (.iload_n 3, 1) := by decide +kernel
theorem dL_isBeaten_170 : decode cL_isBeaten 170 = .ok (.imul, 1) := by decide +kernel
theorem dL_isBeaten_171 : decode cL_isBeaten 171 = .ok (.iadd, 1) := by decide +kernel
theorem dL_isBeaten_172 : decode cL_isBeaten 172 = .ok (.if_icmp .ne 130, 3) := by decide +kernel
theorem dL_isBeaten_175 : decode cL_isBeaten 175 = .ok (.aload_n 0, 1) := by decide +kernel
theorem dL_isBeaten_176 : decode cL_isBeaten 176 = .ok (.iload_n 1, 1) := by decide +kernel
theorem dL_isBeaten_177 : decode cL_isBeaten 177 = .ok (.iload_n 2, 1) := by decide +kernel
theorem dL_isBeaten_178 : decode cL_isBeaten 178 = .ok (.iconst 0, 1) := by decide +kernel
theorem dL_isBeaten_179 : decode cL_isBeaten 179 = .ok (.invokevirtual 63, 3) := by decide +kernel
theorem dL_isBeaten_182 : decode cL_isBeaten 182 = .ok (.iload 11, 2) := by decide +kernel
theorem dL_isBeaten_184 : decode cL_isBeaten 184 = .ok (.if_icmp .ne 118, 3) := by decide +kernel
theorem dL_isBeaten_187 : decode cL_isBeaten 187 = .ok (.aload_n 0, 1) := by decide +kernel
theorem dL_isBeaten_188 : decode cL_isBeaten 188 = .ok (.iload_n 1, 1) := by decide +kernel
theorem dL_isBeaten_189 : decode cL_isBeaten 189 = .ok (.iload_n 2, 1) := by decide +kernel
theorem dL_isBeaten_190 : decode cL_isBeaten 190 = .ok (.iconst 1, 1) := by decide +kernel
theorem dL_isBeaten_191 : decode cL_isBeaten 191 = .ok (.iadd, 1) := by decide +kernel
theorem dL_isBeaten_192 : decode cL_isBeaten 192 = .ok (.iconst 4, 1) := by decide +kernel
theorem dL_isBeaten_193 : decode cL_isBeaten 193 = .ok (.irem, 1) := by decide +kernel
theorem dL_isBeaten_194 : decode cL_isBeaten 194 = .ok (.iconst 0, 1) := by decide +kernel
theorem dL_isBeaten_195 : decode cL_isBeaten 195 = .ok (.invokevirtual 63, 3) := by decide +kernel
theorem dL_isBeaten_198 : decode cL_isBeaten 198 = .ok (.iload 6, 2) := by decide +kernel
theorem dL_isBeaten_200 : decode cL_isBeaten 200 = .ok (.iload 12, 2) := by decide +kernel
theorem dL_isBeaten_202 : decode cL_isBeaten 202 = .ok (.iadd, 1) := by decide +kernel
theorem dL_isBeaten_203 : decode cL_isBeaten 203 = .ok (.if_icmp .ne 99, 3) := by decide +kernel
theorem dL_isBeaten_206 : decode cL_isBeaten 206 = .ok (.aload_n 0, 1) := by decide +kernel
theorem dL_isBeaten_207 : decode cL_isBeaten 207 = .ok (.iload_n 1, 1) := by decide +kernel
theorem dL_isBeaten_208 : decode cL_isBeaten 208 = .ok (.iload_n 2, 1) := by decide +kernel
theorem dL_isBeaten_209 : decode cL_isBeaten 209 = .ok (.iconst 3, 1) := by decide +kernel
theorem dL_isBeaten_210 : decode cL_isBeaten 210 = .ok (.iadd, 1) := by decide +kernel
theorem dL_isBeaten_211 : decode cL_isBeaten 211 = .ok (.iconst 4, 1) := by decide +kernel
theorem dL_isBeaten_212 : decode cL_isBeaten 212 = .ok (.irem, 1) := by decide +kernel
theorem dL_isBeaten_213 : decode cL_isBeaten 213 = .ok (.iconst 0, 1) := by decide +kernel
theorem dL_isBeaten_214 : decode cL_isBeaten 214 = .ok (.invokevirtual 63, 3) := by decide +kernel
theorem dL_isBeaten_217 : decode cL_isBeaten 217 = .ok (.iload 7, 2) := by decide +kernel
theorem dL_isBeaten_219 : decode cL_isBeaten 219 = .ok (.iload 12, 2) := by decide +kernel
theorem dL_isBeaten_221 : decode cL_isBeaten 221 = .ok (.iadd, 1) := by decide +kernel
theorem dL_isBeaten_222 : decode cL_isBeaten 222 = .ok (.if_icmp .ne 80, 3) := by decide +kernel
theorem dL_isBeaten_225 : decode cL_isBeaten 225 = .ok (.aload_n 0, 1) := by decide +kernel
theorem dL_isBeaten_226 : decode cL_isBeaten 226 = .ok (.iload_n 1, 1) := by decide +kernel
theorem dL_isBeaten_227 : decode cL_isBeaten 227 = .ok (.iload_n 2, 1) := by decide +kernel
theorem dL_isBeaten_228 : decode cL_isBeaten 228 = .ok (.iconst 2, 1) := by decide +kernel
theorem dL_isBeaten_229 : decode cL_isBeaten 229 = .ok (.iadd, 1) := by decide +kernel
theorem dL_isBeaten_230 : decode cL_isBeaten 230 = .ok (.iconst 4, 1) := by decide +kernel
theorem dL_isBeaten_231 : decode cL_isBeaten 231 = .ok (.irem, 1) := by decide +kernel
theorem dL_isBeaten_232 : decode cL_isBeaten 232 = .ok (.iconst 0, 1) := by decide +kernel
theorem dL_isBeaten_233 : decode cL_isBeaten 233 = .ok (.invokevirtual 63, 3) := by decide +kernel
theorem dL_isBeaten_236 : decode cL_isBeaten 236 = .ok (.iload 8, 2) := by decide +kernel
theorem dL_isBeaten_238 : decode cL_isBeaten 238 = .ok (.if_icmp .ne 64, 3) := by decide +kernel
theorem dL_isBeaten_241 : decode cL_isBeaten 241 = .ok (.aload_n 0, 1) := by decide +kernel
theorem dL_isBeaten_242 : decode cL_isBeaten 242 = .ok (.iload_n 1, 1) := by decide +kernel
theorem dL_isBeaten_243 : decode cL_isBeaten 243 = .ok (.iload_n 2, 1) := by decide +kernel
theorem dL_isBeaten_244 : decode cL_isBeaten 244 = .ok (.iconst 2, 1) := by decide +kernel
theorem dL_isBeaten_245 : decode cL_isBeaten 245 = .ok (.invokevirtual 63, 3) := by decide +kernel
theorem dL_isBeaten_248 : decode cL_isBeaten 248 = .ok (.iload 9, 2) := by decide +kernel
theorem dL_isBeaten_250 : decode cL_isBeaten 250 = .ok (.iconst 1, 1) := by decide +kernel
theorem dL_isBeaten_251 : decode cL_isBeaten 251 = .ok (.iadd, 1) := by decide +kernel
theorem dL_isBeaten_252 : decode cL_isBeaten 252 = .ok (.if_icmp .ne 50, 3) := by decide +kernel
theorem dL_isBeaten_255 : decode cL_isBeaten 255 = .ok (.aload_n 0, 1) := by decide +kernel
theorem dL_isBeaten_256 : decode cL_isBeaten 256 = .ok (.iload_n 1, 1) := by decide +kernel
theorem dL_isBeaten_257 : decode cL_isBeaten 257 = .ok (.iload_n 2, 1) := by decide +kernel
theorem dL_isBeaten_258 : decode cL_isBeaten 258 = .ok (.iconst 4, 1) := by decide +kernel
theorem dL_isBeaten_259 : decode cL_isBeaten 259 = .ok (.invokevirtual 63, 3) := by decide +kernel
theorem dL_isBeaten_262 : decode cL_isBeaten 262 = .ok (.iload 9, 2) := by decide +kernel
theorem dL_isBeaten_264 : decode cL_isBeaten 264 = .ok (.bipush 6, 2) := by decide +kernel
theorem dL_isBeaten_266 : decode cL_isBeaten 266 = .ok (.if_icmp .ne 7, 3) := by decide +kernel
theorem dL_isBeaten_269 : decode cL_isBeaten 269 = .ok (.iconst 1, 1) := by decide +kernel
theorem dL_isBeaten_270 : decode cL_isBeaten 270 = .ok (.goto 4, 3) := by decide +kernel
theorem dL_isBeaten_273 : decode cL_isBeaten 273 = .ok (.iconst 0, 1) := by decide +kernel
theorem dL_isBeaten_274 : decode cL_isBeaten 274 = .ok (.if_icmp .ne 28, 3) := by decide +kernel
theorem dL_isBeaten_277 : decode cL_isBeaten 277 = .ok (.aload_n 0, 1) := by decide +kernel
theorem dL_isBeaten_278 : decode cL_isBeaten 278 = .ok (.iload_n 1, 1) := by decide +kernel
theorem dL_isBeaten_279 : decode cL_isBeaten 279 = .ok (.iload_n 2, 1) := by decide +kernel
