set_option maxRecDepth 20000 in
theorem gL_step_X6_knows : GoodIn wsL_step (wsV RL 104 RX6 yX6_knows wsX6_knows) := goodIn_app (goodIn_of _ (by decide +kernel)) ggL_step_X6_knows
set_option maxRecDepth 20000 in
theorem ggL_step_L_isDrilled : GoodIn wsL_step wsL_isDrilled := goodIn_ca (goodIn_ca (goodIn_ca (goodIn_r _ [443, 39, 397, 398, 399, 9, 400, 144, 320, 253, 213, 174, 154, 155, 156, 157, 158, 159, 22, 23, 24, 25, 26, 27, 111, 112, 113, 114, 115, 116, 117, 118, 119, 120, 121, 122, 123, 124, 125, 126, 127, 128, 129, 130, 131, 51, 17, 18, 19, 20, 21, 217, 218, 219, 163, 220, 221, 420, 421, 422, 423, 424, 406, 407, 408, 409, 214, 215, 216, 401, 402, 403, 404, 405, 328, 335, 336, 337, 338, 339, 143, 207, 16, 148, 149, 150, 151, 152, 153, 99, 100, 101, 102, 15, 103, 104, 105, 106, 107, 108, 109, 11, 110, 132, 133, 134, 14, 135, 41, 136, 137, 3, 138, 5, 139, 140, 141, 142, 145, 146, 147, 160, 161, 162, 164, 165, 166, 167, 168, 169, 28, 29, 30, 31, 32, 170, 171, 172, 173, 175, 176, 177, 178, 179, 180, 181, 182, 183, 184, 185, 37, 38, 186, 187, 45, 46, 47, 48, 49, 50, 52, 53, 54, 55, 56, 57, 58, 59, 60, 61, 62, 63, 64, 65, 66, 67, 68, 69, 70, 71, 72, 73, 74, 75, 76, 77, 78, 79, 80, 81, 82, 83, 84, 85, 86, 87, 88, 89, 90, 91, 92, 93, 94, 95, 96, 97, 98, 188, 189, 190, 191, 192, 193, 194, 195, 196, 197, 198, 199, 200, 201, 202, 203, 204, 205, 206, 208, 209, 210, 211, 212, 222, 223, 224, 225, 226, 227, 228, 229, 230, 231, 232, 233, 234, 235, 236, 237, 238, 239, 240, 241, 242, 243, 244, 40, 245, 246, 247, 248, 249, 250, 251, 252, 254, 255, 256, 257, 258, 259, 260, 261, 262, 263, 264, 265, 266, 267, 268, 269, 270, 271, 272, 273, 274, 275, 276, 277, 278, 279, 280, 281, 282, 283, 284, 285, 286, 287, 288, 289, 290, 291, 292, 293, 294, 295, 296, 297, 298, 299, 300, 301, 302, 303, 304, 305, 306, 307, 308, 309, 310, 311, 312, 313, 314, 315, 316, 317, 318, 319, 321, 322, 323, 324, 325, 326, 327, 329, 330, 331, 332, 333, 334, 444, 445, 446, 519, 520, 521, 522, 523, 524, 525, 498, 499, 500, 501, 502, 503, 504, 510, 511, 512, 526, 527, 513, 514, 515, 516, 517, 518, 505, 506, 507, 508, 509, 528, 529] (by decide +kernel) (by decide +kernel)) (goodIn_sub (fun _ h => List.mem_cons_of_mem _ (List.mem_append_right _ h)) (by decide +kernel))) (goodIn_sub (fun _ h => List.mem_cons_of_mem _ (List.mem_append_left _ (List.mem_append_left _ (List.mem_append_right _ h)))) (by decide +kernel))) (goodIn_sub (fun _ h => List.mem_cons_of_mem _ (List.mem_append_left _ (List.mem_append_right _ h))) (by decide +kernel))
set_option maxRecDepth 20000 in
theorem gL_step_L_isDrilled : GoodIn wsL_step (va_wsS RL 107 yL_isDrilled wsL_isDrilled) := goodIn_app (goodIn_of _ (by decide +kernel)) ggL_step_L_isDrilled
set_option maxRecDepth 20000 in
theorem ggL_step_X6_pass : GoodIn wsL_step wsX6_pass := goodIn_ca (goodIn_ca (goodIn_r _ [450, 174, 17, 18, 9, 19, 20, 21, 28, 29, 30, 31, 32, 498, 499, 500, 501, 502, 503, 504] (by decide +kernel) (by decide +kernel)) (goodIn_sub (fun _ h => List.mem_cons_of_mem _ (List.mem_append_left _ (List.mem_append_left _ (List.mem_append_right _ h)))) (by decide +kernel))) (goodIn_sub (fun _ h => List.mem_cons_of_mem _ (List.mem_append_left _ (List.mem_append_right _ h))) (by decide +kernel))
set_option maxRecDepth 20000 in
theorem gL_step_X6_pass : GoodIn wsL_step (wsV RL 110 RX6 yX6_pass wsX6_pass) := goodIn_app (goodIn_of _ (by decide +kernel)) ggL_step_X6_pass
set_option maxRecDepth 20000 in
theorem ggL_step_L_hasPerformed : GoodIn wsL_step wsL_hasPerformed := goodIn_ca (goodIn_ca (goodIn_ca (goodIn_r _ [453, 397, 398, 399, 9, 400, 144, 320, 253, 213, 174, 154, 155, 156, 157, 158, 159, 22, 23, 24, 25, 26, 27, 111, 112, 113, 114, 115, 116, 117, 118, 119, 120, 121, 122, 123, 124, 125, 126, 127, 128, 129, 130, 131, 51, 17, 18, 19, 20, 21, 217, 218, 219, 163, 220, 221, 433, 434, 435, 436, 254, 257, 258, 259, 260, 261, 262, 263, 264, 265, 266, 267, 268, 269, 270, 271, 272, 273, 274, 275, 276, 277, 278, 279, 280, 281, 282, 283, 284, 285, 286, 287, 288, 67, 289, 290, 93, 94, 291, 292, 293, 294, 295, 296, 136, 137, 3, 138, 5, 139, 140, 141, 142, 143, 145, 146, 147, 148, 149, 150, 151, 152, 153, 160, 161, 162, 164, 165, 166, 167, 168, 169, 28, 29, 30, 31, 32, 170, 171, 172, 173, 175, 176, 177, 178, 179, 180, 181, 182, 183, 184, 185, 37, 38, 39, 186, 187, 45, 46, 47, 48, 49, 50, 52, 53, 54, 55, 56, 57, 58, 59, 60, 61, 62, 63, 64, 65, 66, 68, 69, 70, 71, 72, 73, 74, 75, 76, 77, 78, 79, 80, 81, 82, 83, 84, 85, 86, 87, 88, 89, 90, 91, 92, 95, 96, 97, 98, 188, 189, 190, 191, 192, 193, 194, 195, 196, 197, 198, 199, 200, 201, 202, 203, 204, 205, 206, 207, 208, 16, 209, 210, 211, 212, 214, 215, 216, 222, 223, 224, 225, 226, 227, 228, 229, 230, 231, 232, 233, 234, 235, 236, 237, 238, 239, 240, 241, 242, 243, 14, 244, 40, 245, 246, 247, 248, 249, 250, 251, 252, 103, 255, 256, 297, 298, 299, 300, 301, 302, 303, 304, 305, 306, 307, 308, 309, 310, 311, 312, 313, 314, 315, 133, 134, 135, 41, 316, 317, 318, 319, 321, 322, 323, 324, 325, 326, 327, 328, 329, 330, 331, 332, 333, 334, 519, 520, 521, 522, 523, 524, 525, 498, 499, 500, 501, 502, 503, 504, 510, 511, 512, 528, 529, 526, 527, 513, 514, 515, 516, 517, 518, 505, 506, 507, 508, 509] (by decide +kernel) (by decide +kernel)) (goodIn_sub (fun _ h => List.mem_cons_of_mem _ (List.mem_append_right _ h)) (by decide +kernel))) (goodIn_sub (fun _ h => List.mem_cons_of_mem _ (List.mem_append_left _ (List.mem_append_left _ (List.mem_append_right _ h)))) (by decide +kernel))) (goodIn_sub (fun _ h => List.mem_cons_of_mem _ (List.mem_append_left _ (List.mem_append_right _ h))) (by decide +kernel))
set_option maxRecDepth 20000 in
theorem gL_step_L_hasPerformed : GoodIn wsL_step (va_wsS RL 113 yL_hasPerformed wsL_hasPerformed) := goodIn_app (goodIn_of _ (by decide +kernel)) ggL_step_L_hasPerformed
set_option maxRecDepth 20000 in
theorem ggL_step_L_marks : GoodIn wsL_step wsL_marks := goodIn_ca (goodIn_ca (goodIn_ca (goodIn_r _ [456, 5, 457, 458, 459, 9, 460, 253, 461, 154, 155, 156, 157, 158, 159, 22, 23, 24, 25, 26, 27, 111, 112, 113, 114, 115, 116, 117, 118, 119, 120, 121, 122, 123, 124, 125, 126, 127, 128, 129, 130, 131, 51, 17, 18, 19, 20, 21, 28, 29, 30, 31, 32, 462, 463, 464, 163, 465, 466, 519, 520, 521, 522, 523, 524, 525, 498, 499, 500, 501, 502, 503, 504, 510, 511, 512] (by decide +kernel) (by decide +kernel)) (goodIn_sub (fun _ h => List.mem_cons_of_mem _ (List.mem_append_right _ h)) (by decide +kernel))) (goodIn_sub (fun _ h => List.mem_cons_of_mem _ (List.mem_append_left _ (List.mem_append_left _ (List.mem_append_right _ h)))) (by decide +kernel))) (goodIn_sub (fun _ h => List.mem_cons_of_mem _ (List.mem_append_left _ (List.mem_append_right _ h))) (by decide +kernel))
set_option maxRecDepth 20000 in
theorem gL_step_L_marks : GoodIn wsL_step (va_wsS RL 116 yL_marks wsL_marks) := goodIn_app (goodIn_of _ (by decide +kernel)) ggL_step_L_marks
set_option maxRecDepth 20000 in
theorem ggL_step_L_scores : GoodIn wsL_step wsL_scores := goodIn_ca (goodIn_ca (goodIn_r _ [469, 5, 470, 471, 472, 9, 473, 154, 155, 156, 157, 158, 159, 22, 23, 24, 25, 26, 27, 111, 112, 113, 114, 115, 116, 117, 118, 119, 120, 121, 122, 123, 124, 125, 126, 127, 128, 129, 130, 131, 51, 474, 475, 476, 163, 477, 478, 463, 464, 465, 466, 28, 29, 30, 31, 32, 479, 480, 481, 482, 483, 93, 67, 94, 484, 66, 68, 485, 498, 499, 500, 501, 502, 503, 504, 510, 511, 512, 519, 520, 521, 522, 523, 524, 525] (by decide +kernel) (by decide +kernel)) (goodIn_sub (fun _ h => List.mem_cons_of_mem _ (List.mem_append_right _ h)) (by decide +kernel))) (goodIn_sub (fun _ h => List.mem_cons_of_mem _ (List.mem_append_left _ (List.mem_append_right _ h))) (by decide +kernel))
set_option maxRecDepth 20000 in
theorem gL_step_L_scores : GoodIn wsL_step (va_wsS RL 119 yL_scores wsL_scores) := goodIn_app (goodIn_of _ (by decide +kernel)) ggL_step_L_scores
set_option maxRecDepth 20000 in
theorem ggL_step_L_areParts : GoodIn wsL_step wsL_areParts := goodIn_ca (goodIn_ca (goodIn_r _ [488, 433, 434, 435, 9, 436, 254, 154, 155, 156, 157, 158, 159, 22, 23, 24, 25, 26, 27, 111, 112, 113, 114, 115, 116, 117, 118, 119, 120, 121, 122, 123, 124, 125, 126, 127, 128, 129, 130, 131, 51, 257, 258, 259, 260, 261, 262, 263, 264, 218, 219, 163, 220, 221, 265, 266, 267, 268, 269, 270, 271, 272, 273, 274, 275, 276, 277, 278, 279, 280, 281, 282, 283, 284, 285, 286, 287, 288, 67, 289, 290, 93, 94, 291, 292, 293, 294, 295, 296, 397, 398, 399, 400, 144, 320, 253, 213, 174, 17, 18, 19, 20, 21, 217, 489, 490, 491, 492, 493, 214, 215, 216, 420, 421, 422, 423, 424, 406, 407, 408, 409, 494, 495, 496, 497, 498, 499, 500, 501, 502, 503, 504, 510, 511, 512, 528, 529, 519, 520, 521, 522, 523, 524, 525, 526, 527, 513, 514, 515, 516, 517, 518] (by decide +kernel) (by decide +kernel)) (goodIn_sub (fun _ h => List.mem_cons_of_mem _ (List.mem_append_right _ h)) (by decide +kernel))) (goodIn_sub (fun _ h => List.mem_cons_of_mem _ (List.mem_append_left _ (List.mem_append_left _ (List.mem_append_right _ h)))) (by decide +kernel))
set_option maxRecDepth 20000 in
theorem gL_step_L_areParts : GoodIn wsL_step (va_wsS RL 123 yL_areParts wsL_areParts) := goodIn_app (goodIn_of _ (by decide +kernel)) ggL_step_L_areParts
theorem dL_step_0 : decode cL_step 0 = .ok (.aload_n 1, 1) := by decide +kernel
theorem dL_step_1 : decode cL_step 1 = .ok (.iconst 0, 1) := by decide +kernel
theorem dL_step_2 : decode cL_step 2 = .ok (.iaload, 1) := by decide +kernel
theorem dL_step_3 : decode cL_step 3 = .ok (.ifCond .ne 7, 3) := by decide +kernel
theorem dL_step_6 : decode cL_step 6 = .ok (.iconst 0, 1) := by decide +kernel
theorem dL_step_7 : decode cL_step 7 = .ok (.goto 8, 3) := by decide +kernel
theorem dL_step_10 : decode cL_step 10 = .ok (.iload_n 3, 1) := by decide +kernel
theorem dL_step_11 : decode cL_step 11 = .ok (.aload_n 1, 1) := by decide +kernel
theorem dL_step_12 : decode cL_step 12 = .ok (.iconst 0, 1) := by decide +kernel
theorem dL_step_13 : decode cL_step 13 = .ok (.iaload, 1) := by decide +kernel
theorem dL_step_14 : decode cL_step 14 = .ok (.irem, 1) := by decide +kernel
theorem dL_step_15 : decode cL_step 15 = .ok (.istore 5, 2) := by decide +kernel
theorem dL_step_17 : decode cL_step 17 = .ok (.aload_n 1, 1) := by decide +kernel
theorem dL_step_18 : decode cL_step 18 = .ok (.iconst 1, 1) := by decide +kernel
theorem dL_step_19 : decode cL_step 19 = .ok (.iaload, 1) := by decide +kernel
theorem dL_step_20 : decode cL_step 20 = .ok (.ifCond .ne 7, 3) := by decide +kernel
theorem dL_step_23 : decode cL_step 23 = .ok (.iconst 0, 1) := by decide +kernel
theorem dL_step_24 : decode cL_step 24 = .ok (.goto 9, 3) := by decide +kernel
theorem dL_step_27 : decode cL_step 27 = .ok (.iload 4, 2) := by decide +kernel
theorem dL_step_29 : decode cL_step 29 = .ok (.aload_n 1, 1) := by decide +kernel
theorem dL_step_30 : decode cL_step 30 = .ok (.iconst 1, 1) := by decide +kernel
theorem dL_step_31 : decode cL_step 31 = .ok (.iaload, 1) := by decide +kernel
theorem dL_step_32 : decode cL_step 32 = .ok (.irem, 1) := by decide +kernel
theorem dL_step_33 : decode cL_step 33 = .ok (.istore 6, 2) := by decide +kernel
theorem dL_step_35 : decode cL_step 35 = .ok (.iload_n 3, 1) := by decide +kernel
theorem dL_step_36 : decode cL_step 36 = .ok (.iconst 4, 1) := by decide +kernel
theorem dL_step_37 : decode cL_step 37 = .ok (.irem, 1) := by decide +kernel
theorem dL_step_38 : decode cL_step 38 = .ok (.istore 7, 2) := by decide +kernel
theorem dL_step_40 : decode cL_step 40 = .ok (.aload_n 1, 1) := by decide +kernel
theorem dL_step_41 : decode cL_step 41 = .ok (.iconst 0, 1) := by decide +kernel
theorem dL_step_42 : decode cL_step 42 = .ok (.iaload, 1) := by decide +kernel
theorem dL_step_43 : decode cL_step 43 = .ok (.ifCond .ne 7, 3) := by decide +kernel
theorem dL_step_46 : decode cL_step 46 = .ok (.iconst 0, 1) := by decide +kernel
theorem dL_step_47 : decode cL_step 47 = .ok (.goto 17, 3) := by decide +kernel
theorem dL_step_50 : decode cL_step 50 = .ok (.aload_n 1, 1) := by decide +kernel
theorem dL_step_51 : decode cL_step 51 = .ok (.iconst 1, 1) := by decide +kernel
theorem dL_step_52 : decode cL_step 52 = .ok (.iaload, 1) := by decide +kernel
theorem dL_step_53 : decode cL_step 53 = .ok (.ifCond .ne 7, 3) := by decide +kernel
theorem dL_step_56 : decode cL_step 56 = .ok (.iconst 1, 1) := by decide +kernel
theorem dL_step_57 : decode cL_step 57 = .ok (.goto 7, 3) := by decide +kernel
theorem dL_step_60 : decode cL_step 60 = .ok (.iload_n 2, 1) := by decide +kernel
theorem dL_step_61 : decode cL_step 61 = .ok (.bipush 26, 2) := by decide +kernel
theorem dL_step_63 : decode cL_step 63 = .ok (.irem, 1) := by decide +kernel
theorem dL_step_64 : decode cL_step 64 = .ok (.tableswitch 1320 0 24 #[116, 258, 348, 348, 382, 450, 479, 479, 479, 479, 595, 728, 807, 872, 872, 872, 872, 946, 989, 989, 1094, 1094, 1129, 1202, 1216], 116) := by decide +kernel
theorem dL_step_180 : decode cL_step 180 = .ok (.aload_n 0, 1) := by decide +kernel
theorem dL_step_181 : decode cL_step 181 = .ok (.iload_n 3, 1) := by decide +kernel
theorem dL_step_182 : decode cL_step 182 = .ok (.bipush 41, 2) := by decide +kernel
theorem dL_step_184 : decode cL_step 184 = .ok (.irem, 1) := by decide +kernel
theorem dL_step_185 : decode cL_step 185 = .ok (.bipush 20, 2) := by decide +kernel
theorem dL_step_187 : decode cL_step 187 = .ok (.isub, 1) := by decide +kernel
theorem dL_step_188 : decode cL_step 188 = .ok (.iload_n 3, 1) := by decide +kernel
theorem dL_step_189 : decode cL_step 189 = .ok (.bipush 41, 2) := by decide +kernel
theorem dL_step_191 : decode cL_step 191 = .ok (.idiv, 1) := by decide +kernel
theorem dL_step_192 : decode cL_step 192 = .ok (.bipush 41, 2) := by decide +kernel
theorem dL_step_194 : decode cL_step 194 = .ok (.irem, 1) := by decide +kernel
theorem dL_step_195 : decode cL_step 195 = .ok (.bipush 20, 2) := by decide +kernel
theorem dL_step_197 : decode cL_step 197 = .ok (.isub, 1) := by decide +kernel
theorem dL_step_198 : decode cL_step 198 = .ok (.iload 4, 2) := by decide +kernel
theorem dL_step_200 : decode cL_step 200 = .ok (.bipush 41, 2) := by decide +kernel
theorem dL_step_202 : decode cL_step 202 = .ok (.irem, 1) := by decide +kernel
theorem dL_step_203 : decode cL_step 203 = .ok (.bipush 20, 2) := by decide +kernel
theorem dL_step_205 : decode cL_step 205 = .ok (.isub, 1) := by decide +kernel
theorem dL_step_206 : decode cL_step 206 = .ok (.iload 4, 2) := by decide +kernel
theorem dL_step_208 : decode cL_step 208 = .ok (.bipush 41, 2) := by decide +kernel
theorem dL_step_210 : decode cL_step 210 = .ok (.idiv, 1) := by decide +kernel
theorem dL_step_211 : decode cL_step 211 = .ok (.bipush 41, 2) := by decide +kernel
theorem dL_step_213 : decode cL_step 213 = .ok (.irem, 1) := by decide +kernel
theorem dL_step_214 : decode cL_step 214 = .ok (.bipush 20, 2) := by decide +kernel
theorem dL_step_216 : decode cL_step 216 = .ok (.isub, 1) := by decide +kernel
theorem dL_step_217 : decode cL_step 217 = .ok (.invokestatic 57, 3) := by decide +kernel
theorem dL_step_220 : decode cL_step 220 = .ok (.istore 8, 2) := by decide +kernel
theorem dL_step_222 : decode cL_step 222 = .ok (.aload_n 1, 1) := by decide +kernel
theorem dL_step_223 : decode cL_step 223 = .ok (.iconst 0, 1) := by decide +kernel
theorem dL_step_224 : decode cL_step 224 = .ok (.dup2, 1) := by decide +kernel
theorem dL_step_225 : decode cL_step 225 = .ok (.iaload, 1) := by decide +kernel
theorem dL_step_226 : decode cL_step 226 = .ok (.iload 8, 2) := by decide +kernel
theorem dL_step_228 : decode cL_step 228 = .ok (.ifCond .ge 7, 3) := by decide +kernel
theorem dL_step_231 : decode cL_step 231 = .ok (.iconst 0, 1) := by decide +kernel
theorem dL_step_232 : decode cL_step 232 = .ok (.goto 4, 3) := by decide +kernel
theorem dL_step_235 : decode cL_step 235 = .ok (.iconst 1, 1) := by decide +kernel
theorem dL_step_236 : decode cL_step 236 = .ok (.iadd, 1) := by decide +kernel
theorem dL_step_237 : decode cL_step 237 = .ok (.iastore, 1) := by decide +kernel
theorem dL_step_238 : decode cL_step 238 = .ok (.iload 8, 2) := by decide +kernel
theorem dL_step_240 : decode cL_step 240 = .ok (.sipush (-200), 3) := by decide +kernel
theorem dL_step_243 : decode cL_step 243 = .ok (.if_icmp .ne 19, 3) := by decide +kernel
theorem dL_step_246 : decode cL_step 246 = .ok (.aload_n 1, 1) := by decide +kernel
theorem dL_step_247 : decode cL_step 247 = .ok (.iconst 0, 1) := by decide +kernel
theorem dL_step_248 : decode cL_step 248 = .ok (.iaload, 1) := by decide +kernel
theorem dL_step_249 : decode cL_step 249 = .ok (.bipush 6, 2) := by decide +kernel
theorem dL_step_251 : decode cL_step 251 = .ok (.if_icmp .ne 7, 3) := by decide +kernel
theorem dL_step_254 : decode cL_step 254 = .ok (.iconst 1, 1) := by decide +kernel
theorem dL_step_255 : decode cL_step 255 = .ok (.goto 66, 3) := by decide +kernel
theorem dL_step_258 : decode cL_step 258 = .ok (.iconst 0, 1) := by decide +kernel
theorem dL_step_259 : decode cL_step 259 = .ok (.goto 62, 3) := by decide +kernel
theorem dL_step_262 : decode cL_step 262 = .ok (.iload 8, 2) := by decide +kernel
theorem dL_step_264 : decode cL_step 264 = .ok (.aload_n 1, 1) := by decide +kernel
theorem dL_step_265 : decode cL_step 265 = .ok (.iconst 0, 1) := by decide +kernel
theorem dL_step_266 : decode cL_step 266 = .ok (.iaload, 1) := by decide +kernel
theorem dL_step_267 : decode cL_step 267 = .ok (.iconst 1, 1) := by decide +kernel
theorem dL_step_268 : decode cL_step 268 = .ok (.isub, 1) := by decide +kernel
theorem dL_step_269 : decode cL_step 269 = .ok (.if_icmp .ne 51, 3) := by decide +kernel
theorem dL_step_272 : decode cL_step 272 = .ok (.aload_n 0, 1) := by decide +kernel
theorem dL_step_273 : decode cL_step 273 = .ok (.iload 8, 2) := by decide +kernel
theorem dL_step_275 : decode cL_step 275 = .ok (.iconst 0, 1) := by decide +kernel
theorem dL_step_276 : decode cL_step 276 = .ok (.iconst 0, 1) := by decide +kernel
theorem dL_step_277 : decode cL_step 277 = .ok (.invokevirtual 63, 3) := by decide +kernel
theorem dL_step_280 : decode cL_step 280 = .ok (.iload_n 3, 1) := by decide +kernel
theorem dL_step_281 : decode cL_step 281 = .ok (.bipush 41, 2) := by decide +kernel
theorem dL_step_283 : decode cL_step 283 = .ok (.irem, 1) := by decide +kernel
theorem dL_step_284 : decode cL_step 284 = .ok (.bipush 20, 2) := by decide +kernel
theorem dL_step_286 : decode cL_step 286 = .ok (.isub, 1) := by decide +kernel
theorem dL_step_287 : decode cL_step 287 = .ok (.if_icmp .ne 33, 3) := by decide +kernel
theorem dL_step_290 : decode cL_step 290 = .ok (.aload_n 0, 1) := by decide +kernel
theorem dL_step_291 : decode cL_step 291 = .ok (.iload 8, 2) := by decide +kernel
theorem dL_step_293 : decode cL_step 293 = .ok (.iconst 3, 1) := by decide +kernel
theorem dL_step_294 : decode cL_step 294 = .ok (.iconst 1, 1) := by decide +kernel
theorem dL_step_295 : decode cL_step 295 = .ok (.invokevirtual 63, 3) := by decide +kernel
theorem dL_step_298 : decode cL_step 298 = .ok (.iload 4, 2) := by decide +kernel
theorem dL_step_300 : decode cL_step 300 = .ok (.bipush 41, 2) := by decide +kernel
theorem dL_step_302 : decode cL_step 302 = .ok (.idiv, 1) := by decide +kernel
theorem dL_step_303 : decode cL_step 303 = .ok (.bipush 41, 2) := by decide +kernel
theorem dL_step_305 : decode cL_step 305 = .ok (.irem, 1) := by decide +kernel
theorem dL_step_306 : decode cL_step 306 = .ok (.bipush 20, 2) := by decide +kernel
theorem dL_step_308 : decode cL_step 308 = .ok (.isub, 1) := by decide +kernel
theorem dL_step_309 : decode cL_step 309 = .ok (.aload_n 1, 1) := by decide +kernel
theorem dL_step_310 : decode cL_step 310 = .ok (.iconst 4, 1) := by decide +kernel
theorem dL_step_311 : decode cL_step 311 = .ok (.iaload, 1) := by decide +kernel
theorem dL_step_312 : decode cL_step 312 = .ok (.isub, 1) := by decide +kernel
theorem dL_step_313 : decode cL_step 313 = .ok (.if_icmp .ne 7, 3) := by decide +kernel
theorem dL_step_316 : decode cL_step 316 = .ok (.iconst 1, 1) := by decide +kernel
theorem dL_step_317 : decode cL_step 317 = .ok (.goto 4, 3) := by decide +kernel
theorem dL_step_320 : decode cL_step 320 = .ok (.iconst 0, 1) := by decide +kernel
theorem dL_step_321 : decode cL_step 321 = .ok (.ireturn, 1) := by decide +kernel
theorem dL_step_322 : decode cL_step 322 = .ok (.aload_n 0, 1) := by decide +kernel
theorem dL_step_323 : decode cL_step 323 = .ok (.iload 4, 2) := by decide +kernel
theorem dL_step_325 : decode cL_step 325 = .ok (.iconst 2, 1) := by decide +kernel
theorem dL_step_326 : decode cL_step 326 = .ok (.irem, 1) := by decide +kernel
theorem dL_step_327 : decode cL_step 327 = .ok (.iconst 0, 1) := by decide +kernel
theorem dL_step_328 : decode cL_step 328 = .ok (.bipush 6, 2) := by decide +kernel
theorem dL_step_330 : decode cL_step 330 = .ok (.invokestatic 66, 3) := by decide +kernel
theorem dL_step_333 : decode cL_step 333 = .ok (.istore 9, 2) := by decide +kernel
theorem dL_step_335 : decode cL_step 335 = .ok (.aload_n 1, 1) := by decide +kernel
theorem dL_step_336 : decode cL_step 336 = .ok (.iconst 1, 1) := by decide +kernel
theorem dL_step_337 : decode cL_step 337 = .ok (.dup2, 1) := by decide +kernel
theorem dL_step_338 : decode cL_step 338 = .ok (.iaload, 1) := by decide +kernel
theorem dL_step_339 : decode cL_step 339 = .ok (.iload 9, 2) := by decide +kernel
theorem dL_step_341 : decode cL_step 341 = .ok (.ifCond .ge 7, 3) := by decide +kernel
theorem dL_step_344 : decode cL_step 344 = .ok (.iconst 0, 1) := by decide +kernel
theorem dL_step_345 : decode cL_step 345 = .ok (.goto 4, 3) := by decide +kernel
theorem dL_step_348 : decode cL_step 348 = .ok (.iconst 1, 1) := by decide +kernel
theorem dL_step_349 : decode cL_step 349 = .ok (.iadd, 1) := by decide +kernel
theorem dL_step_350 : decode cL_step 350 = .ok (.iastore, 1) := by decide +kernel
theorem dL_step_351 : decode cL_step 351 = .ok (.iload 9, 2) := by decide +kernel
theorem dL_step_353 : decode cL_step 353 = .ok (.sipush (-200), 3) := by decide +kernel
theorem dL_step_356 : decode cL_step 356 = .ok (.if_icmp .ne 19, 3) := by decide +kernel
theorem dL_step_359 : decode cL_step 359 = .ok (.aload_n 1, 1) := by decide +kernel
theorem dL_step_360 : decode cL_step 360 = .ok (.iconst 1, 1) := by decide +kernel
theorem dL_step_361 : decode cL_step 361 = .ok (.iaload, 1) := by decide +kernel
theorem dL_step_362 : decode cL_step 362 = .ok (.bipush 16, 2) := by decide +kernel
theorem dL_step_364 : decode cL_step 364 = .ok (.if_icmp .ne 7, 3) := by decide +kernel
theorem dL_step_367 : decode cL_step 367 = .ok (.iconst 1, 1) := by decide +kernel
theorem dL_step_368 : decode cL_step 368 = .ok (.goto 43, 3) := by decide +kernel
theorem dL_step_371 : decode cL_step 371 = .ok (.iconst 0, 1) := by decide +kernel
theorem dL_step_372 : decode cL_step 372 = .ok (.goto 39, 3) := by decide +kernel
theorem dL_step_375 : decode cL_step 375 = .ok (.iload 9, 2) := by decide +kernel
theorem dL_step_377 : decode cL_step 377 = .ok (.aload_n 1, 1) := by decide +kernel
theorem dL_step_378 : decode cL_step 378 = .ok (.iconst 1, 1) := by decide +kernel
theorem dL_step_379 : decode cL_step 379 = .ok (.iaload, 1) := by decide +kernel
theorem dL_step_380 : decode cL_step 380 = .ok (.iconst 1, 1) := by decide +kernel
theorem dL_step_381 : decode cL_step 381 = .ok (.isub, 1) := by decide +kernel
theorem dL_step_382 : decode cL_step 382 = .ok (.if_icmp .ne 28, 3) := by decide +kernel
theorem dL_step_385 : decode cL_step 385 = .ok (.aload_n 0, 1) := by decide +kernel
theorem dL_step_386 : decode cL_step 386 = .ok (.iload 9, 2) := by decide +kernel
theorem dL_step_388 : decode cL_step 388 = .ok (.iconst 1, 1) := by decide +kernel
theorem dL_step_389 : decode cL_step 389 = .ok (.invokevirtual 70, 3) := by decide +kernel
theorem dL_step_392 : decode cL_step 392 = .ok (.ifCond .ne 18, 3) := by decide +kernel
theorem dL_step_395 : decode cL_step 395 = .ok (.aload_n 0, 1) := by decide +kernel
theorem dL_step_396 : decode cL_step 396 = .ok (.iload 9, 2) := by decide +kernel
theorem dL_step_398 : decode cL_step 398 = .ok (.iconst 2, 1) := by decide +kernel
theorem dL_step_399 : decode cL_step 399 = .ok (.invokevirtual 70, 3) := by decide +kernel
theorem dL_step_402 : decode cL_step 402 = .ok (.iconst (-1), 1) := by decide +kernel
theorem dL_step_403 : decode cL_step 403 = .ok (.if_icmp .ne 7, 3) := by decide +kernel
theorem dL_step_406 : decode cL_step 406 = .ok (.iconst 1, 1) := by decide +kernel
theorem dL_step_407 : decode cL_step 407 = .ok (.goto 4, 3) := by decide +kernel
theorem dL_step_410 : decode cL_step 410 = .ok (.iconst 0, 1) := by decide +kernel
theorem dL_step_411 : decode cL_step 411 = .ok (.ireturn, 1) := by decide +kernel
theorem dL_step_412 : decode cL_step 412 = .ok (.aload_n 0, 1) := by decide +kernel
theorem dL_step_413 : decode cL_step 413 = .ok (.iload 5, 2) := by decide +kernel
theorem dL_step_415 : decode cL_step 415 = .ok (.iload 4, 2) := by decide +kernel
theorem dL_step_417 : decode cL_step 417 = .ok (.iconst 4, 1) := by decide +kernel
theorem dL_step_418 : decode cL_step 418 = .ok (.irem, 1) := by decide +kernel
theorem dL_step_419 : decode cL_step 419 = .ok (.iconst 1, 1) := by decide +kernel
theorem dL_step_420 : decode cL_step 420 = .ok (.iload 4, 2) := by decide +kernel
theorem dL_step_422 : decode cL_step 422 = .ok (.iconst 4, 1) := by decide +kernel
theorem dL_step_423 : decode cL_step 423 = .ok (.idiv, 1) := by decide +kernel
theorem dL_step_424 : decode cL_step 424 = .ok (.iconst 4, 1) := by decide +kernel
theorem dL_step_425 : decode cL_step 425 = .ok (.irem, 1) := by decide +kernel
theorem dL_step_426 : decode cL_step 426 = .ok (.iadd, 1) := by decide +kernel
theorem dL_step_427 : decode cL_step 427 = .ok (.iload 4, 2) := by decide +kernel
theorem dL_step_429 : decode cL_step 429 = .ok (.bipush 16, 2) := by decide +kernel
theorem dL_step_431 : decode cL_step 431 = .ok (.idiv, 1) := by decide +kernel
theorem dL_step_432 : decode cL_step 432 = .ok (.iconst 2, 1) := by decide +kernel
theorem dL_step_433 : decode cL_step 433 = .ok (.irem, 1) := by decide +kernel
theorem dL_step_434 : decode cL_step 434 = .ok (.ifCond .ne 7, 3) := by decide +kernel
theorem dL_step_437 : decode cL_step 437 = .ok (.iconst 1, 1) := by decide +kernel
theorem dL_step_438 : decode cL_step 438 = .ok (.goto 4, 3) := by decide +kernel
theorem dL_step_441 : decode cL_step 441 = .ok (.iconst 0, 1) := by decide +kernel
theorem dL_step_442 : decode cL_step 442 = .ok (.invokestatic 73, 3) := by decide +kernel
theorem dL_step_445 : decode cL_step 445 = .ok (.ireturn, 1) := by decide +kernel
theorem dL_step_446 : decode cL_step 446 = .ok (.aload_n 0, 1) := by decide +kernel
theorem dL_step_447 : decode cL_step 447 = .ok (.iload 4, 2) := by decide +kernel
theorem dL_step_449 : decode cL_step 449 = .ok (.bipush 16, 2) := by decide +kernel
theorem dL_step_451 : decode cL_step 451 = .ok (.irem, 1) := by decide +kernel
theorem dL_step_452 : decode cL_step 452 = .ok (.invokevirtual 77, 3) := by decide +kernel
theorem dL_step_455 : decode cL_step 455 = .ok (.istore 10, 2) := by decide +kernel
theorem dL_step_457 : decode cL_step 457 = .ok (.iload 10, 2) := by decide +kernel
theorem dL_step_459 : decode cL_step 459 = .ok (.aload_n 1, 1) := by decide +kernel
theorem dL_step_460 : decode cL_step 460 = .ok (.iconst 4, 1) := by decide +kernel
theorem dL_step_461 : decode cL_step 461 = .ok (.iaload, 1) := by decide +kernel
theorem dL_step_462 : decode cL_step 462 = .ok (.if_icmp .ne 7, 3) := by decide +kernel
theorem dL_step_465 : decode cL_step 465 = .ok (.iconst 1, 1) := by decide +kernel
theorem dL_step_466 : decode cL_step 466 = .ok (.goto 4, 3) := by decide +kernel
theorem dL_step_469 : decode cL_step 469 = .ok (.iconst 0, 1) := by decide +kernel
theorem dL_step_470 : decode cL_step 470 = .ok (.istore 11, 2) := by decide +kernel
theorem dL_step_472 : decode cL_step 472 = .ok (.aload_n 1, 1) := by decide +kernel
theorem dL_step_473 : decode cL_step 473 = .ok (.iconst 4, 1) := by decide +kernel
theorem dL_step_474 : decode cL_step 474 = .ok (.iload 4, 2) := by decide +kernel
theorem dL_step_476 : decode cL_step 476 = .ok (.bipush 16, 2) := by decide +kernel
theorem dL_step_478 : decode cL_step 478 = .ok (.irem, 1) := by decide +kernel
theorem dL_step_479 : decode cL_step 479 = .ok (.iastore, 1) := by decide +kernel
theorem dL_step_480 : decode cL_step 480 = .ok (.iload 11, 2) := by decide +kernel
theorem dL_step_482 : decode cL_step 482 = .ok (.ifCond .eq 30, 3) := by decide +kernel
theorem dL_step_485 : decode cL_step 485 = .ok (.aload_n 0, 1) := by decide +kernel
theorem dL_step_486 : decode cL_step 486 = .ok (.iload 5, 2) := by decide +kernel
theorem dL_step_488 : decode cL_step 488 = .ok (.iconst 0, 1) := by decide +kernel
theorem dL_step_489 : decode cL_step 489 = .ok (.iconst 1, 1) := by decide +kernel
theorem dL_step_490 : decode cL_step 490 = .ok (.invokevirtual 63, 3) := by decide +kernel
theorem dL_step_493 : decode cL_step 493 = .ok (.aload_n 0, 1) := by decide +kernel
theorem dL_step_494 : decode cL_step 494 = .ok (.iload 5, 2) := by decide +kernel
theorem dL_step_496 : decode cL_step 496 = .ok (.iconst 0, 1) := by decide +kernel
theorem dL_step_497 : decode cL_step 497 = .ok (.iconst 0, 1) := by decide +kernel
theorem dL_step_498 : decode cL_step 498 = .ok (.invokevirtual 63, 3) := by decide +kernel
theorem dL_step_501 : decode cL_step 501 = .ok (.aload_n 1, 1) := by decide +kernel
theorem dL_step_502 : decode cL_step 502 = .ok (.iconst 4, 1) := by decide +kernel
theorem dL_step_503 : decode cL_step 503 = .ok (.iaload, 1) := by decide +kernel
theorem dL_step_504 : decode cL_step 504 = .ok (.isub, 1) := by decide +kernel
theorem dL_step_505 : decode cL_step 505 = .ok (.if_icmp .ne 7, 3) := by decide +kernel
theorem dL_step_508 : decode cL_step 508 = .ok (.iconst 1, 1) := by decide +kernel
theorem dL_step_509 : decode cL_step 509 = .ok (.goto 4, 3) := by decide +kernel
theorem dL_step_512 : decode cL_step 512 = .ok (.iconst 0, 1) := by decide +kernel
theorem dL_step_513 : decode cL_step 513 = .ok (.ireturn, 1) := by decide +kernel
theorem dL_step_514 : decode cL_step 514 = .ok (.aload_n 1, 1) := by decide +kernel
theorem dL_step_515 : decode cL_step 515 = .ok (.iconst 3, 1) := by decide +kernel
theorem dL_step_516 : decode cL_step 516 = .ok (.dup2, 1) := by decide +kernel
theorem dL_step_517 : decode cL_step 517 = .ok (.iaload, 1) := by decide +kernel
theorem dL_step_518 : decode cL_step 518 = .ok (.iconst 1, 1) := by decide +kernel
theorem dL_step_519 : decode cL_step 519 = .ok (.iadd, 1) := by decide +kernel
theorem dL_step_520 : decode cL_step 520 = .ok (.iastore, 1) := by decide +kernel
theorem dL_step_521 : decode cL_step 521 = .ok (.aload_n 1, 1) := by decide +kernel
theorem dL_step_522 : decode cL_step 522 = .ok (.iconst 3, 1) := by decide +kernel
theorem dL_step_523 : decode cL_step 523 = .ok (.iaload, 1) := by decide +kernel
theorem dL_step_524 : decode cL_step 524 = .ok (.iconst 3, 1) := by decide +kernel
theorem dL_step_525 : decode cL_step 525 = .ok (.if_icmp .gt 12, 3) := by decide +kernel
theorem dL_step_528 : decode cL_step 528 = .ok (.aload_n 0, 1) := by decide +kernel
theorem dL_step_529 : decode cL_step 529 = .ok (.iload 5, 2) := by decide +kernel
theorem dL_step_531 : decode cL_step 531 = .ok (.invokestatic 80, 3) := by decide +kernel
theorem dL_step_534 : decode cL_step 534 = .ok (.ifCond .eq 7, 3) := by decide +kernel
theorem dL_step_537 : decode cL_step 537 = .ok (.iconst 1, 1) := by decide +kernel
theorem dL_step_538 : decode cL_step 538 = .ok (.goto 4, 3) := by decide +kernel
theorem dL_step_541 : decode cL_step 541 = .ok (.iconst 0, 1) := by decide +kernel
theorem dL_step_542 : decode cL_step 542 = .ok (.ireturn, 1) := by decide +kernel
theorem dL_step_543 : decode cL_step 543 = .ok (.aload_n 0, 1) := by decide +kernel
theorem dL_step_544 : decode cL_step 544 = .ok (.iload 6, 2) := by decide +kernel
theorem dL_step_546 : decode cL_step 546 = .ok (.iconst 1, 1) := by decide +kernel
theorem dL_step_547 : decode cL_step 547 = .ok (.invokevirtual 70, 3) := by decide +kernel
theorem dL_step_550 : decode cL_step 550 = .ok (.istore 12, 2) := by decide +kernel
theorem dL_step_552 : decode cL_step 552 = .ok (.aload_n 0, 1) := by decide +kernel
theorem dL_step_553 : decode cL_step 553 = .ok (.iload 6, 2) := by decide +kernel
theorem dL_step_555 : decode cL_step 555 = .ok (.iload 7, 2) := by decide +kernel
theorem dL_step_557 : decode cL_step 557 = .ok (.iconst 0, 1) := by decide +kernel
theorem dL_step_558 : decode cL_step 558 = .ok (.invokestatic 66, 3) := by decide +kernel
theorem dL_step_561 : decode cL_step 561 = .ok (.istore 13, 2) := by decide +kernel
theorem dL_step_563 : decode cL_step 563 = .ok (.iload 13, 2) := by decide +kernel
theorem dL_step_565 : decode cL_step 565 = .ok (.sipush (-200), 3) := by decide +kernel
theorem dL_step_568 : decode cL_step 568 = .ok (.if_icmp .ne 23, 3) := by decide +kernel
theorem dL_step_571 : decode cL_step 571 = .ok (.aload_n 0, 1) := by decide +kernel
theorem dL_step_572 : decode cL_step 572 = .ok (.iload 6, 2) := by decide +kernel
theorem dL_step_574 : decode cL_step 574 = .ok (.iconst 1, 1) := by decide +kernel
theorem dL_step_575 : decode cL_step 575 = .ok (.invokevirtual 70, 3) := by decide +kernel
theorem dL_step_578 : decode cL_step 578 = .ok (.iload 12, 2) := by decide +kernel
theorem dL_step_580 : decode cL_step 580 = .ok (.if_icmp .ne 7, 3) := by decide +kernel
theorem dL_step_583 : decode cL_step 583 = .ok (.iconst 1, 1) := by decide +kernel
theorem dL_step_584 : decode cL_step 584 = .ok (.goto 74, 3) := by decide +kernel
theorem dL_step_587 : decode cL_step 587 = .ok (.iconst 0, 1) := by decide +kernel
theorem dL_step_588 : decode cL_step 588 = .ok (.goto 70, 3) := by decide +kernel
theorem dL_step_591 : decode cL_step 591 = .ok (.iload 12, 2) := by decide +kernel
theorem dL_step_593 : decode cL_step 593 = .ok (.iconst 2, 1) := by decide +kernel
theorem dL_step_594 : decode cL_step 594 = .ok (.if_icmp .ge 63, 3) := by decide +kernel
theorem dL_step_597 : decode cL_step 597 = .ok (.aload_n 0, 1) := by decide +kernel
theorem dL_step_598 : decode cL_step 598 = .ok (.iload 6, 2) := by decide +kernel
theorem dL_step_600 : decode cL_step 600 = .ok (.iconst 1, 1) := by decide +kernel
theorem dL_step_601 : decode cL_step 601 = .ok (.invokevirtual 70, 3) := by decide +kernel
theorem dL_step_604 : decode cL_step 604 = .ok (.iload 12, 2) := by decide +kernel
theorem dL_step_606 : decode cL_step 606 = .ok (.iconst 1, 1) := by decide +kernel
theorem dL_step_607 : decode cL_step 607 = .ok (.iadd, 1) := by decide +kernel
theorem dL_step_608 : decode cL_step 608 = .ok (.if_icmp .ne 49, 3) := by decide +kernel
theorem dL_step_611 : decode cL_step 611 = .ok (.iload 13, 2) := by decide +kernel
theorem dL_step_613 : decode cL_step 613 = .ok (.aload_n 0, 1) := by decide +kernel
theorem dL_step_614 : decode cL_step 614 = .ok (.iload 7, 2) := by decide +kernel
theorem dL_step_616 : decode cL_step 616 = .ok (.iconst 0, 1) := by decide +kernel
theorem dL_step_617 : decode cL_step 617 = .ok (.invokevirtual 84, 3) := by decide +kernel
theorem dL_step_620 : decode cL_step 620 = .ok (.iconst 1, 1) := by decide +kernel
theorem dL_step_621 : decode cL_step 621 = .ok (.isub, 1) := by decide +kernel
theorem dL_step_622 : decode cL_step 622 = .ok (.if_icmp .ne 35, 3) := by decide +kernel
theorem dL_step_625 : decode cL_step 625 = .ok (.aload_n 0, 1) := by decide +kernel
theorem dL_step_626 : decode cL_step 626 = .ok (.iload 7, 2) := by decide +kernel
theorem dL_step_628 : decode cL_step 628 = .ok (.iload 13, 2) := by decide +kernel
theorem dL_step_630 : decode cL_step 630 = .ok (.invokevirtual 87, 3) := by decide +kernel
theorem dL_step_633 : decode cL_step 633 = .ok (.iload 6, 2) := by decide +kernel
theorem dL_step_635 : decode cL_step 635 = .ok (.if_icmp .ne 22, 3) := by decide +kernel
theorem dL_step_638 : decode cL_step 638 = .ok (.aload_n 0, 1) := by decide +kernel
theorem dL_step_639 : decode cL_step 639 = .ok (.iload 6, 2) := by decide +kernel
theorem dL_step_641 : decode cL_step 641 = .ok (.iload 7, 2) := by decide +kernel
theorem dL_step_643 : decode cL_step 643 = .ok (.iconst 0, 1) := by decide +kernel
theorem dL_step_644 : decode cL_step 644 = .ok (.invokestatic 66, 3) := by decide +kernel
theorem dL_step_647 : decode cL_step 647 = .ok (.sipush (-200), 3) := by decide +kernel
theorem dL_step_650 : decode cL_step 650 = .ok (.if_icmp .ne 7, 3) := by decide +kernel
theorem dL_step_653 : decode cL_step 653 = .ok (.iconst 1, 1) := by decide +kernel
theorem dL_step_654 : decode cL_step 654 = .ok (.goto 4, 3) := by decide +kernel
theorem dL_step_657 : decode cL_step 657 = .ok (.iconst 0, 1) := by decide +kernel
theorem dL_step_658 : decode cL_step 658 = .ok (.ireturn, 1) := by decide +kernel
theorem dL_step_659 : decode cL_step 659 = .ok (.aload_n 0, 1) := by decide +kernel
theorem dL_step_660 : decode cL_step 660 = .ok (.iload 7, 2) := by decide +kernel
theorem dL_step_662 : decode cL_step 662 = .ok (.iconst 0, 1) := by decide +kernel
theorem dL_step_663 : decode cL_step 663 = .ok (.invokevirtual 84, 3) := by decide +kernel
theorem dL_step_666 : decode cL_step 666 = .ok (.istore 14, 2) := by decide +kernel
theorem dL_step_668 : decode cL_step 668 = .ok (.iload 14, 2) := by decide +kernel
theorem dL_step_670 : decode cL_step 670 = .ok (.ifCond .ne 7, 3) := by decide +kernel
theorem dL_step_673 : decode cL_step 673 = .ok (.iconst (-1), 1) := by decide +kernel
theorem dL_step_674 : decode cL_step 674 = .ok (.goto 13, 3) := by decide +kernel
theorem dL_step_677 : decode cL_step 677 = .ok (.aload_n 0, 1) := by decide +kernel
theorem dL_step_678 : decode cL_step 678 = .ok (.iload 7, 2) := by decide +kernel
theorem dL_step_680 : decode cL_step 680 = .ok (.iload 14, 2) := by decide +kernel
theorem dL_step_682 : decode cL_step 682 = .ok (.iconst 1, 1) := by decide +kernel
theorem dL_step_683 : decode cL_step 683 = .ok (.isub, 1) := by decide +kernel
theorem dL_step_684 : decode cL_step 684 = .ok (.invokevirtual 87, 3) := by decide +kernel
theorem dL_step_687 : decode cL_step 687 = .ok (.istore 15, 2) := by decide +kernel
theorem dL_step_689 : decode cL_step 689 = .ok (.aload_n 0, 1) := by decide +kernel
theorem dL_step_690 : decode cL_step 690 = .ok (.iload 6, 2) := by decide +kernel
theorem dL_step_692 : decode cL_step 692 = .ok (.iload 7, 2) := by decide +kernel
theorem dL_step_694 : decode cL_step 694 = .ok (.iconst 1, 1) := by decide +kernel
theorem dL_step_695 : decode cL_step 695 = .ok (.invokestatic 66, 3) := by decide +kernel
theorem dL_step_698 : decode cL_step 698 = .ok (.istore 16, 2) := by decide +kernel
theorem dL_step_700 : decode cL_step 700 = .ok (.iload 16, 2) := by decide +kernel
theorem dL_step_702 : decode cL_step 702 = .ok (.sipush (-200), 3) := by decide +kernel
theorem dL_step_705 : decode cL_step 705 = .ok (.if_icmp .ne 23, 3) := by decide +kernel
theorem dL_step_708 : decode cL_step 708 = .ok (.aload_n 0, 1) := by decide +kernel
theorem dL_step_709 : decode cL_step 709 = .ok (.iload 7, 2) := by decide +kernel
theorem dL_step_711 : decode cL_step 711 = .ok (.iconst 0, 1) := by decide +kernel
theorem dL_step_712 : decode cL_step 712 = .ok (.invokevirtual 84, 3) := by decide +kernel
theorem dL_step_715 : decode cL_step 715 = .ok (.iload 14, 2) := by decide +kernel
theorem dL_step_717 : decode cL_step 717 = .ok (.if_icmp .ne 7, 3) := by decide +kernel
theorem dL_step_720 : decode cL_step 720 = .ok (.iconst 1, 1) := by decide +kernel
theorem dL_step_721 : decode cL_step 721 = .ok (.goto 70, 3) := by decide +kernel
theorem dL_step_724 : decode cL_step 724 = .ok (.iconst 0, 1) := by decide +kernel
theorem dL_step_725 : decode cL_step 725 = .ok (.goto 66, 3) := by decide +kernel
theorem dL_step_728 : decode cL_step 728 = .ok (.iload 16, 2) := by decide +kernel
theorem dL_step_730 : decode cL_step 730 = .ok (.iload 14, 2) := by decide +kernel
theorem dL_step_732 : decode cL_step 732 = .ok (.iconst 1, 1) := by decide +kernel
theorem dL_step_733 : decode cL_step 733 = .ok (.isub, 1) := by decide +kernel
theorem dL_step_734 : decode cL_step 734 = .ok (.if_icmp .ne 56, 3) := by decide +kernel
theorem dL_step_737 : decode cL_step 737 = .ok (.aload_n 0, 1) := by decide +kernel
theorem dL_step_738 : decode cL_step 738 = .ok (.iload 7, 2) := by decide +kernel
theorem dL_step_740 : decode cL_step 740 = .ok (.iconst 0, 1) := by decide +kernel
theorem dL_step_741 : decode cL_step 741 = .ok (.invokevirtual 84, 3) := by decide +kernel
theorem dL_step_744 : decode cL_step 744 = .ok (.iload 16, 2) := by decide +kernel
theorem dL_step_746 : decode cL_step 746 = .ok (.if_icmp .ne 44, 3) := by decide +kernel
theorem dL_step_749 : decode cL_step 749 = .ok (.iload 15, 2) := by decide +kernel
theorem dL_step_751 : decode cL_step 751 = .ok (.iload 6, 2) := by decide +kernel
theorem dL_step_753 : decode cL_step 753 = .ok (.if_icmp .eq 18, 3) := by decide +kernel
theorem dL_step_756 : decode cL_step 756 = .ok (.aload_n 0, 1) := by decide +kernel
theorem dL_step_757 : decode cL_step 757 = .ok (.iload 7, 2) := by decide +kernel
theorem dL_step_759 : decode cL_step 759 = .ok (.iload 16, 2) := by decide +kernel
theorem dL_step_761 : decode cL_step 761 = .ok (.iconst 1, 1) := by decide +kernel
theorem dL_step_762 : decode cL_step 762 = .ok (.isub, 1) := by decide +kernel
theorem dL_step_763 : decode cL_step 763 = .ok (.invokevirtual 87, 3) := by decide +kernel
theorem dL_step_766 : decode cL_step 766 = .ok (.iload 15, 2) := by decide +kernel
theorem dL_step_768 : decode cL_step 768 = .ok (.if_icmp .ne 22, 3) := by decide +kernel
theorem dL_step_771 : decode cL_step 771 = .ok (.aload_n 0, 1) := by decide +kernel
theorem dL_step_772 : decode cL_step 772 = .ok (.iload 6, 2) := by decide +kernel
theorem dL_step_774 : decode cL_step 774 = .ok (.iload 7, 2) := by decide +kernel
theorem dL_step_776 : decode cL_step 776 = .ok (.iconst 1, 1) := by decide +kernel
theorem dL_step_777 : decode cL_step 777 = .ok (.invokestatic 66, 3) := by decide +kernel
theorem dL_step_780 : decode cL_step 780 = .ok (.sipush (-200), 3) := by decide +kernel
theorem dL_step_783 : decode cL_step 783 = .ok (.if_icmp .ne 7, 3) := by decide +kernel
theorem dL_step_786 : decode cL_step 786 = .ok (.iconst 1, 1) := by decide +kernel
theorem dL_step_787 : decode cL_step 787 = .ok (.goto 4, 3) := by decide +kernel
theorem dL_step_790 : decode cL_step 790 = .ok (.iconst 0, 1) := by decide +kernel
theorem dL_step_791 : decode cL_step 791 = .ok (.ireturn, 1) := by decide +kernel
theorem dL_step_792 : decode cL_step 792 = .ok (.aload_n 0, 1) := by decide +kernel
theorem dL_step_793 : decode cL_step 793 = .ok (.iload 6, 2) := by decide +kernel
theorem dL_step_795 : decode cL_step 795 = .ok (.iconst 2, 1) := by decide +kernel
theorem dL_step_796 : decode cL_step 796 = .ok (.invokevirtual 70, 3) := by decide +kernel
theorem dL_step_799 : decode cL_step 799 = .ok (.istore 17, 2) := by decide +kernel
theorem dL_step_801 : decode cL_step 801 = .ok (.aload_n 0, 1) := by decide +kernel
theorem dL_step_802 : decode cL_step 802 = .ok (.iload 6, 2) := by decide +kernel
theorem dL_step_804 : decode cL_step 804 = .ok (.iload 5, 2) := by decide +kernel
theorem dL_step_806 : decode cL_step 806 = .ok (.invokestatic 90, 3) := by decide +kernel
theorem dL_step_809 : decode cL_step 809 = .ok (.istore 18, 2) := by decide +kernel
theorem dL_step_811 : decode cL_step 811 = .ok (.iload 18, 2) := by decide +kernel
theorem dL_step_813 : decode cL_step 813 = .ok (.ifCond .eq 40, 3) := by decide +kernel
theorem dL_step_816 : decode cL_step 816 = .ok (.iload 17, 2) := by decide +kernel
theorem dL_step_818 : decode cL_step 818 = .ok (.iconst (-1), 1) := by decide +kernel
theorem dL_step_819 : decode cL_step 819 = .ok (.if_icmp .ne 30, 3) := by decide +kernel
theorem dL_step_822 : decode cL_step 822 = .ok (.aload_n 0, 1) := by decide +kernel
theorem dL_step_823 : decode cL_step 823 = .ok (.iload 6, 2) := by decide +kernel
theorem dL_step_825 : decode cL_step 825 = .ok (.iconst 2, 1) := by decide +kernel
theorem dL_step_826 : decode cL_step 826 = .ok (.invokevirtual 70, 3) := by decide +kernel
theorem dL_step_829 : decode cL_step 829 = .ok (.iload 5, 2) := by decide +kernel
theorem dL_step_831 : decode cL_step 831 = .ok (.if_icmp .ne 18, 3) := by decide +kernel
theorem dL_step_834 : decode cL_step 834 = .ok (.aload_n 0, 1) := by decide +kernel
theorem dL_step_835 : decode cL_step 835 = .ok (.iload 6, 2) := by decide +kernel
theorem dL_step_837 : decode cL_step 837 = .ok (.iload 5, 2) := by decide +kernel
theorem dL_step_839 : decode cL_step 839 = .ok (.invokestatic 90, 3) := by decide +kernel
theorem dL_step_842 : decode cL_step 842 = .ok (.ifCond .ne 7, 3) := by decide +kernel
theorem dL_step_845 : decode cL_step 845 = .ok (.iconst 1, 1) := by decide +kernel
theorem dL_step_846 : decode cL_step 846 = .ok (.goto 24, 3) := by decide +kernel
theorem dL_step_849 : decode cL_step 849 = .ok (.iconst 0, 1) := by decide +kernel
theorem dL_step_850 : decode cL_step 850 = .ok (.goto 20, 3) := by decide +kernel
theorem dL_step_853 : decode cL_step 853 = .ok (.aload_n 0, 1) := by decide +kernel
theorem dL_step_854 : decode cL_step 854 = .ok (.iload 6, 2) := by decide +kernel
theorem dL_step_856 : decode cL_step 856 = .ok (.iconst 2, 1) := by decide +kernel
theorem dL_step_857 : decode cL_step 857 = .ok (.invokevirtual 70, 3) := by decide +kernel
theorem dL_step_860 : decode cL_step 860 = .ok (.iload 17, 2) := by decide +kernel
theorem dL_step_862 : decode cL_step 862 = .ok (.if_icmp .ne 7, 3) := by decide +kernel
theorem dL_step_865 : decode cL_step 865 = .ok (.iconst 1, 1) := by decide +kernel
theorem dL_step_866 : decode cL_step 866 = .ok (.goto 4, 3) := by decide +kernel
theorem dL_step_869 : decode cL_step 869 = .ok (.iconst 0, 1) := by decide +kernel
theorem dL_step_870 : decode cL_step 870 = .ok (.ireturn, 1) := by decide +kernel
theorem dL_step_871 : decode cL_step 871 = .ok (.aload_n 0, 1) := by decide +kernel
theorem dL_step_872 : decode cL_step 872 = .ok (.iload 6, 2) := by decide +kernel
theorem dL_step_874 : decode cL_step 874 = .ok (.iconst 2, 1) := by decide +kernel
theorem dL_step_875 : decode cL_step 875 = .ok (.invokevirtual 70, 3) := by decide +kernel
theorem dL_step_878 : decode cL_step 878 = .ok (.istore 19, 2) := by decide +kernel
theorem dL_step_880 : decode cL_step 880 = .ok (.aload_n 0, 1) := by decide +kernel
theorem dL_step_881 : decode cL_step 881 = .ok (.iload 6, 2) := by decide +kernel
theorem dL_step_883 : decode cL_step 883 = .ok (.iconst 0, 1) := by decide +kernel
theorem dL_step_884 : decode cL_step 884 = .ok (.iconst 2, 1) := by decide +kernel
theorem dL_step_885 : decode cL_step 885 = .ok (.invokestatic 66, 3) := by decide +kernel
theorem dL_step_888 : decode cL_step 888 = .ok (.istore 20, 2) := by decide +kernel
theorem dL_step_890 : decode cL_step 890 = .ok (.iload 20, 2) := by decide +kernel
theorem dL_step_892 : decode cL_step 892 = .ok (.sipush (-200), 3) := by decide +kernel
theorem dL_step_895 : decode cL_step 895 = .ok (.if_icmp .ne 17, 3) := by decide +kernel
theorem dL_step_898 : decode cL_step 898 = .ok (.iload 19, 2) := by decide +kernel
theorem dL_step_900 : decode cL_step 900 = .ok (.iconst (-1), 1) := by decide +kernel
theorem dL_step_901 : decode cL_step 901 = .ok (.if_icmp .ne 7, 3) := by decide +kernel
theorem dL_step_904 : decode cL_step 904 = .ok (.iconst 1, 1) := by decide +kernel
theorem dL_step_905 : decode cL_step 905 = .ok (.goto 30, 3) := by decide +kernel
theorem dL_step_908 : decode cL_step 908 = .ok (.iconst 0, 1) := by decide +kernel
theorem dL_step_909 : decode cL_step 909 = .ok (.goto 26, 3) := by decide +kernel
theorem dL_step_912 : decode cL_step 912 = .ok (.iload 20, 2) := by decide +kernel
theorem dL_step_914 : decode cL_step 914 = .ok (.iload 19, 2) := by decide +kernel
theorem dL_step_916 : decode cL_step 916 = .ok (.if_icmp .ne 18, 3) := by decide +kernel
theorem dL_step_919 : decode cL_step 919 = .ok (.aload_n 0, 1) := by decide +kernel
theorem dL_step_920 : decode cL_step 920 = .ok (.iload 6, 2) := by decide +kernel
theorem dL_step_922 : decode cL_step 922 = .ok (.iconst 2, 1) := by decide +kernel
theorem dL_step_923 : decode cL_step 923 = .ok (.invokevirtual 70, 3) := by decide +kernel
theorem dL_step_926 : decode cL_step 926 = .ok (.iconst (-1), 1) := by decide +kernel
theorem dL_step_927 : decode cL_step 927 = .ok (.if_icmp .ne 7, 3) := by decide +kernel
theorem dL_step_930 : decode cL_step 930 = .ok (.iconst 1, 1) := by decide +kernel
theorem dL_step_931 : decode cL_step 931 = .ok (.goto 4, 3) := by decide +kernel
theorem dL_step_934 : decode cL_step 934 = .ok (.iconst 0, 1) := by decide +kernel
theorem dL_step_935 : decode cL_step 935 = .ok (.ireturn, 1) := by decide +kernel
theorem dL_step_936 : decode cL_step 936 = .ok (.aload_n 0, 1) := by decide +kernel
theorem dL_step_937 : decode cL_step 937 = .ok (.iload 7, 2) := by decide +kernel
theorem dL_step_939 : decode cL_step 939 = .ok (.iload 4, 2) := by decide +kernel
theorem dL_step_941 : decode cL_step 941 = .ok (.bipush 12, 2) := by decide +kernel
theorem dL_step_943 : decode cL_step 943 = .ok (.irem, 1) := by decide +kernel
theorem dL_step_944 : decode cL_step 944 = .ok (.iconst 5, 1) := by decide +kernel
theorem dL_step_945 : decode cL_step 945 = .ok (.invokestatic 66, 3) := by decide +kernel
theorem dL_step_948 : decode cL_step 948 = .ok (.istore 21, 2) := by decide +kernel
theorem dL_step_950 : decode cL_step 950 = .ok (.iload 21, 2) := by decide +kernel
theorem dL_step_952 : decode cL_step 952 = .ok (.sipush (-200), 3) := by decide +kernel
theorem dL_step_955 : decode cL_step 955 = .ok (.if_icmp .ne 23, 3) := by decide +kernel
theorem dL_step_958 : decode cL_step 958 = .ok (.aload_n 0, 1) := by decide +kernel
theorem dL_step_959 : decode cL_step 959 = .ok (.iload 7, 2) := by decide +kernel
theorem dL_step_961 : decode cL_step 961 = .ok (.iconst 1, 1) := by decide +kernel
theorem dL_step_962 : decode cL_step 962 = .ok (.invokevirtual 84, 3) := by decide +kernel
theorem dL_step_965 : decode cL_step 965 = .ok (.bipush 24, 2) := by decide +kernel
theorem dL_step_967 : decode cL_step 967 = .ok (.if_icmp .ne 7, 3) := by decide +kernel
theorem dL_step_970 : decode cL_step 970 = .ok (.iconst 1, 1) := by decide +kernel
theorem dL_step_971 : decode cL_step 971 = .ok (.goto 38, 3) := by decide +kernel
theorem dL_step_974 : decode cL_step 974 = .ok (.iconst 0, 1) := by decide +kernel
theorem dL_step_975 : decode cL_step 975 = .ok (.goto 34, 3) := by decide +kernel
theorem dL_step_978 : decode cL_step 978 = .ok (.iload 21, 2) := by decide +kernel
theorem dL_step_980 : decode cL_step 980 = .ok (.aload_n 0, 1) := by decide +kernel
theorem dL_step_981 : decode cL_step 981 = .ok (.iload 7, 2) := by decide +kernel
theorem dL_step_983 : decode cL_step 983 = .ok (.iconst 1, 1) := by decide +kernel
theorem dL_step_984 : decode cL_step 984 = .ok (.invokevirtual 84, 3) := by decide +kernel
theorem dL_step_987 : decode cL_step 987 = .ok (.if_icmp .ne 21, 3) := by decide +kernel
theorem dL_step_990 : decode cL_step 990 = .ok (.aload_n 0, 1) := by decide +kernel
theorem dL_step_991 : decode cL_step 991 = .ok (.iload 7, 2) := by decide +kernel
theorem dL_step_993 : decode cL_step 993 = .ok (.iconst 2, 1) := by decide +kernel
theorem dL_step_994 : decode cL_step 994 = .ok (.invokevirtual 84, 3) := by decide +kernel
theorem dL_step_997 : decode cL_step 997 = .ok (.iload 21, 2) := by decide +kernel
theorem dL_step_999 : decode cL_step 999 = .ok (.iconst 4, 1) := by decide +kernel
theorem dL_step_1000 : decode cL_step 1000 = .ok (.idiv, 1) := by decide +kernel
theorem dL_step_1001 : decode cL_step 1001 = .ok (.if_icmp .ne 7, 3) := by decide +kernel
theorem dL_step_1004 : decode cL_step 1004 = .ok (.iconst 1, 1) := by decide +kernel
theorem dL_step_1005 : decode cL_step 1005 = .ok (.goto 4, 3) := by decide +kernel
theorem dL_step_1008 : decode cL_step 1008 = .ok (.iconst 0, 1) := by decide +kernel
theorem dL_step_1009 : decode cL_step 1009 = .ok (.ireturn, 1) := by decide +kernel
theorem dL_step_1010 : decode cL_step 1010 = .ok (.aload_n 0, 1) := by decide +kernel
theorem dL_step_1011 : decode cL_step 1011 = .ok (.iload 7, 2) := by decide +kernel
theorem dL_step_1013 : decode cL_step 1013 = .ok (.iconst 1, 1) := by decide +kernel
theorem dL_step_1014 : decode cL_step 1014 = .ok (.invokevirtual 84, 3) := by decide +kernel
theorem dL_step_1017 : decode cL_step 1017 = .ok (.ifCond .eq 30, 3) := by decide +kernel
theorem dL_step_1020 : decode cL_step 1020 = .ok (.aload_n 0, 1) := by decide +kernel
theorem dL_step_1021 : decode cL_step 1021 = .ok (.iload 7, 2) := by decide +kernel
theorem dL_step_1023 : decode cL_step 1023 = .ok (.iload 4, 2) := by decide +kernel
theorem dL_step_1025 : decode cL_step 1025 = .ok (.aload_n 0, 1) := by decide +kernel
theorem dL_step_1026 : decode cL_step 1026 = .ok (.iload 7, 2) := by decide +kernel
theorem dL_step_1028 : decode cL_step 1028 = .ok (.iconst 1, 1) := by decide +kernel
theorem dL_step_1029 : decode cL_step 1029 = .ok (.invokevirtual 84, 3) := by decide +kernel
theorem dL_step_1032 : decode cL_step 1032 = .ok (.irem, 1) := by decide +kernel
theorem dL_step_1033 : decode cL_step 1033 = .ok (.iload 4, 2) := by decide +kernel
theorem dL_step_1035 : decode cL_step 1035 = .ok (.bipush 24, 2) := by decide +kernel
theorem dL_step_1037 : decode cL_step 1037 = .ok (.idiv, 1) := by decide +kernel
theorem dL_step_1038 : decode cL_step 1038 = .ok (.bipush 12, 2) := by decide +kernel
theorem dL_step_1040 : decode cL_step 1040 = .ok (.irem, 1) := by decide +kernel
theorem dL_step_1041 : decode cL_step 1041 = .ok (.invokestatic 94, 3) := by decide +kernel
theorem dL_step_1044 : decode cL_step 1044 = .ok (.ifCond .eq 7, 3) := by decide +kernel
theorem dL_step_1047 : decode cL_step 1047 = .ok (.iconst 1, 1) := by decide +kernel
theorem dL_step_1048 : decode cL_step 1048 = .ok (.goto 4, 3) := by decide +kernel
theorem dL_step_1051 : decode cL_step 1051 = .ok (.iconst 0, 1) := by decide +kernel
theorem dL_step_1052 : decode cL_step 1052 = .ok (.ireturn, 1) := by decide +kernel
theorem dL_step_1053 : decode cL_step 1053 = .ok (.aload_n 0, 1) := by decide +kernel
theorem dL_step_1054 : decode cL_step 1054 = .ok (.iload 7, 2) := by decide +kernel
theorem dL_step_1056 : decode cL_step 1056 = .ok (.iconst 2, 1) := by decide +kernel
theorem dL_step_1057 : decode cL_step 1057 = .ok (.invokevirtual 84, 3) := by decide +kernel
theorem dL_step_1060 : decode cL_step 1060 = .ok (.istore 22, 2) := by decide +kernel
theorem dL_step_1062 : decode cL_step 1062 = .ok (.aload_n 0, 1) := by decide +kernel
theorem dL_step_1063 : decode cL_step 1063 = .ok (.iload 7, 2) := by decide +kernel
theorem dL_step_1065 : decode cL_step 1065 = .ok (.iconst 0, 1) := by decide +kernel
theorem dL_step_1066 : decode cL_step 1066 = .ok (.invokevirtual 84, 3) := by decide +kernel
theorem dL_step_1069 : decode cL_step 1069 = .ok (.istore 23, 2) := by decide +kernel
theorem dL_step_1071 : decode cL_step 1071 = .ok (.iload 22, 2) := by decide +kernel
theorem dL_step_1073 : decode cL_step 1073 = .ok (.ifCond .eq 8, 3) := by decide +kernel
theorem dL_step_1076 : decode cL_step 1076 = .ok (.iload 23, 2) := by decide +kernel
theorem dL_step_1078 : decode cL_step 1078 = .ok (.ifCond .ne 19, 3) := by decide +kernel
theorem dL_step_1081 : decode cL_step 1081 = .ok (.aload_n 0, 1) := by decide +kernel
theorem dL_step_1082 : decode cL_step 1082 = .ok (.iload 7, 2) := by decide +kernel
theorem dL_step_1084 : decode cL_step 1084 = .ok (.invokevirtual 98, 3) := by decide +kernel
theorem dL_step_1087 : decode cL_step 1087 = .ok (.iconst (-1), 1) := by decide +kernel
theorem dL_step_1088 : decode cL_step 1088 = .ok (.if_icmp .ne 7, 3) := by decide +kernel
theorem dL_step_1091 : decode cL_step 1091 = .ok (.iconst 1, 1) := by decide +kernel
theorem dL_step_1092 : decode cL_step 1092 = .ok (.goto 4, 3) := by decide +kernel
theorem dL_step_1095 : decode cL_step 1095 = .ok (.iconst 0, 1) := by decide +kernel
theorem dL_step_1096 : decode cL_step 1096 = .ok (.ireturn, 1) := by decide +kernel
theorem dL_step_1097 : decode cL_step 1097 = .ok (.aload_n 0, 1) := by decide +kernel
theorem dL_step_1098 : decode cL_step 1098 = .ok (.iload 7, 2) := by decide +kernel
theorem dL_step_1100 : decode cL_step 1100 = .ok (.iload 4, 2) := by decide +kernel
theorem dL_step_1102 : decode cL_step 1102 = .ok (.iload 23, 2) := by decide +kernel
theorem dL_step_1104 : decode cL_step 1104 = .ok (.irem, 1) := by decide +kernel
theorem dL_step_1105 : decode cL_step 1105 = .ok (.iload 4, 2) := by decide +kernel
theorem dL_step_1107 : decode cL_step 1107 = .ok (.bipush 8, 2) := by decide +kernel
theorem dL_step_1109 : decode cL_step 1109 = .ok (.idiv, 1) := by decide +kernel
theorem dL_step_1110 : decode cL_step 1110 = .ok (.iload 22, 2) := by decide +kernel
theorem dL_step_1112 : decode cL_step 1112 = .ok (.irem, 1) := by decide +kernel
theorem dL_step_1113 : decode cL_step 1113 = .ok (.invokevirtual 101, 3) := by decide +kernel
theorem dL_step_1116 : decode cL_step 1116 = .ok (.istore 24, 2) := by decide +kernel
theorem dL_step_1118 : decode cL_step 1118 = .ok (.iload 24, 2) := by decide +kernel
theorem dL_step_1120 : decode cL_step 1120 = .ok (.ifCond .lt 36, 3) := by decide +kernel
theorem dL_step_1123 : decode cL_step 1123 = .ok (.iload 24, 2) := by decide +kernel
theorem dL_step_1125 : decode cL_step 1125 = .ok (.iconst 3, 1) := by decide +kernel
theorem dL_step_1126 : decode cL_step 1126 = .ok (.if_icmp .ge 30, 3) := by decide +kernel
theorem dL_step_1129 : decode cL_step 1129 = .ok (.aload_n 0, 1) := by decide +kernel
theorem dL_step_1130 : decode cL_step 1130 = .ok (.iload 7, 2) := by decide +kernel
theorem dL_step_1132 : decode cL_step 1132 = .ok (.iload 4, 2) := by decide +kernel
theorem dL_step_1134 : decode cL_step 1134 = .ok (.iload 23, 2) := by decide +kernel
theorem dL_step_1136 : decode cL_step 1136 = .ok (.irem, 1) := by decide +kernel
theorem dL_step_1137 : decode cL_step 1137 = .ok (.iload 4, 2) := by decide +kernel
theorem dL_step_1139 : decode cL_step 1139 = .ok (.bipush 8, 2) := by decide +kernel
theorem dL_step_1141 : decode cL_step 1141 = .ok (.idiv, 1) := by decide +kernel
theorem dL_step_1142 : decode cL_step 1142 = .ok (.iload 22, 2) := by decide +kernel
theorem dL_step_1144 : decode cL_step 1144 = .ok (.irem, 1) := by decide +kernel
theorem dL_step_1145 : decode cL_step 1145 = .ok (.invokevirtual 104, 3) := by decide +kernel
theorem dL_step_1148 : decode cL_step 1148 = .ok (.iconst 1, 1) := by decide +kernel
theorem dL_step_1149 : decode cL_step 1149 = .ok (.if_icmp .ne 7, 3) := by decide +kernel
theorem dL_step_1152 : decode cL_step 1152 = .ok (.iconst 1, 1) := by decide +kernel
theorem dL_step_1153 : decode cL_step 1153 = .ok (.goto 4, 3) := by decide +kernel
theorem dL_step_1156 : decode cL_step 1156 = .ok (.iconst 0, 1) := by decide +kernel
theorem dL_step_1157 : decode cL_step 1157 = .ok (.ireturn, 1) := by decide +kernel
theorem dL_step_1158 : decode cL_step 1158 = .ok (.aload_n 0, 1) := by decide +kernel
theorem dL_step_1159 : decode cL_step 1159 = .ok (.iload 7, 2) := by decide +kernel
theorem dL_step_1161 : decode cL_step 1161 = .ok (.iconst 2, 1) := by decide +kernel
theorem dL_step_1162 : decode cL_step 1162 = .ok (.invokevirtual 84, 3) := by decide +kernel
theorem dL_step_1165 : decode cL_step 1165 = .ok (.ifCond .eq 22, 3) := by decide +kernel
theorem dL_step_1168 : decode cL_step 1168 = .ok (.aload_n 0, 1) := by decide +kernel
theorem dL_step_1169 : decode cL_step 1169 = .ok (.iload 7, 2) := by decide +kernel
theorem dL_step_1171 : decode cL_step 1171 = .ok (.iload 4, 2) := by decide +kernel
theorem dL_step_1173 : decode cL_step 1173 = .ok (.aload_n 0, 1) := by decide +kernel
theorem dL_step_1174 : decode cL_step 1174 = .ok (.iload 7, 2) := by decide +kernel
theorem dL_step_1176 : decode cL_step 1176 = .ok (.iconst 2, 1) := by decide +kernel
theorem dL_step_1177 : decode cL_step 1177 = .ok (.invokevirtual 84, 3) := by decide +kernel
theorem dL_step_1180 : decode cL_step 1180 = .ok (.irem, 1) := by decide +kernel
theorem dL_step_1181 : decode cL_step 1181 = .ok (.invokestatic 107, 3) := by decide +kernel
theorem dL_step_1184 : decode cL_step 1184 = .ok (.ifCond .eq 7, 3) := by decide +kernel
theorem dL_step_1187 : decode cL_step 1187 = .ok (.iconst 1, 1) := by decide +kernel
theorem dL_step_1188 : decode cL_step 1188 = .ok (.goto 4, 3) := by decide +kernel
theorem dL_step_1191 : decode cL_step 1191 = .ok (.iconst 0, 1) := by decide +kernel
theorem dL_step_1192 : decode cL_step 1192 = .ok (.ireturn, 1) := by decide +kernel
theorem dL_step_1193 : decode cL_step 1193 = .ok (.aload_n 1, 1) := by decide +kernel
theorem dL_step_1194 : decode cL_step 1194 = .ok (.iconst 2, 1) := by decide +kernel
theorem dL_step_1195 : decode cL_step 1195 = .ok (.iaload, 1) := by decide +kernel
theorem dL_step_1196 : decode cL_step 1196 = .ok (.sipush 900, 3) := by decide +kernel
theorem dL_step_1199 : decode cL_step 1199 = .ok (.if_icmp .le 7, 3) := by decide +kernel
theorem dL_step_1202 : decode cL_step 1202 = .ok (.iconst 0, 1) := by decide +kernel
theorem dL_step_1203 : decode cL_step 1203 = .ok (.goto 20, 3) := by decide +kernel
theorem dL_step_1206 : decode cL_step 1206 = .ok (.iconst 1, 1) := by decide +kernel
theorem dL_step_1207 : decode cL_step 1207 = .ok (.iload 4, 2) := by decide +kernel
theorem dL_step_1209 : decode cL_step 1209 = .ok (.iload_n 3, 1) := by decide +kernel
theorem dL_step_1210 : decode cL_step 1210 = .ok (.iconst 5, 1) := by decide +kernel
theorem dL_step_1211 : decode cL_step 1211 = .ok (.irem, 1) := by decide +kernel
theorem dL_step_1212 : decode cL_step 1212 = .ok (.ifCond .ne 8, 3) := by decide +kernel
theorem dL_step_1215 : decode cL_step 1215 = .ok (.bipush 30, 2) := by decide +kernel
theorem dL_step_1217 : decode cL_step 1217 = .ok (.goto 4, 3) := by decide +kernel
theorem dL_step_1220 : decode cL_step 1220 = .ok (.iconst 2, 1) := by decide +kernel
theorem dL_step_1221 : decode cL_step 1221 = .ok (.irem, 1) := by decide +kernel
theorem dL_step_1222 : decode cL_step 1222 = .ok (.iadd, 1) := by decide +kernel
theorem dL_step_1223 : decode cL_step 1223 = .ok (.istore 25, 2) := by decide +kernel
theorem dL_step_1225 : decode cL_step 1225 = .ok (.aload_n 1, 1) := by decide +kernel
theorem dL_step_1226 : decode cL_step 1226 = .ok (.iconst 2, 1) := by decide +kernel
theorem dL_step_1227 : decode cL_step 1227 = .ok (.dup2, 1) := by decide +kernel
theorem dL_step_1228 : decode cL_step 1228 = .ok (.iaload, 1) := by decide +kernel
theorem dL_step_1229 : decode cL_step 1229 = .ok (.iload 25, 2) := by decide +kernel
theorem dL_step_1231 : decode cL_step 1231 = .ok (.iadd, 1) := by decide +kernel
theorem dL_step_1232 : decode cL_step 1232 = .ok (.iastore, 1) := by decide +kernel
theorem dL_step_1233 : decode cL_step 1233 = .ok (.iload 25, 2) := by decide +kernel
theorem dL_step_1235 : decode cL_step 1235 = .ok (.ifCond .eq 25, 3) := by decide +kernel
theorem dL_step_1238 : decode cL_step 1238 = .ok (.aload_n 0, 1) := by decide +kernel
theorem dL_step_1239 : decode cL_step 1239 = .ok (.iload 25, 2) := by decide +kernel
theorem dL_step_1241 : decode cL_step 1241 = .ok (.invokevirtual 110, 3) := by decide +kernel
theorem dL_step_1244 : decode cL_step 1244 = .ok (.aload_n 1, 1) := by decide +kernel
theorem dL_step_1245 : decode cL_step 1245 = .ok (.iconst 2, 1) := by decide +kernel
theorem dL_step_1246 : decode cL_step 1246 = .ok (.iaload, 1) := by decide +kernel
theorem dL_step_1247 : decode cL_step 1247 = .ok (.if_icmp .ne 17, 3) := by decide +kernel
theorem dL_step_1250 : decode cL_step 1250 = .ok (.aload_n 0, 1) := by decide +kernel
theorem dL_step_1251 : decode cL_step 1251 = .ok (.iload 7, 2) := by decide +kernel
theorem dL_step_1253 : decode cL_step 1253 = .ok (.iconst 4, 1) := by decide +kernel
theorem dL_step_1254 : decode cL_step 1254 = .ok (.invokevirtual 84, 3) := by decide +kernel
theorem dL_step_1257 : decode cL_step 1257 = .ok (.ifCond .ne 7, 3) := by decide +kernel
theorem dL_step_1260 : decode cL_step 1260 = .ok (.iconst 1, 1) := by decide +kernel
theorem dL_step_1261 : decode cL_step 1261 = .ok (.goto 4, 3) := by decide +kernel
theorem dL_step_1264 : decode cL_step 1264 = .ok (.iconst 0, 1) := by decide +kernel
theorem dL_step_1265 : decode cL_step 1265 = .ok (.ireturn, 1) := by decide +kernel
theorem dL_step_1266 : decode cL_step 1266 = .ok (.aload_n 0, 1) := by decide +kernel
theorem dL_step_1267 : decode cL_step 1267 = .ok (.iload 7, 2) := by decide +kernel
theorem dL_step_1269 : decode cL_step 1269 = .ok (.iconst 1, 1) := by decide +kernel
theorem dL_step_1270 : decode cL_step 1270 = .ok (.iload 4, 2) := by decide +kernel
theorem dL_step_1272 : decode cL_step 1272 = .ok (.bipush 30, 2) := by decide +kernel
theorem dL_step_1274 : decode cL_step 1274 = .ok (.irem, 1) := by decide +kernel
theorem dL_step_1275 : decode cL_step 1275 = .ok (.iadd, 1) := by decide +kernel
theorem dL_step_1276 : decode cL_step 1276 = .ok (.invokestatic 113, 3) := by decide +kernel
theorem dL_step_1279 : decode cL_step 1279 = .ok (.ireturn, 1) := by decide +kernel
theorem dL_step_1280 : decode cL_step 1280 = .ok (.aload_n 0, 1) := by decide +kernel
theorem dL_step_1281 : decode cL_step 1281 = .ok (.iload 7, 2) := by decide +kernel
theorem dL_step_1283 : decode cL_step 1283 = .ok (.iload 4, 2) := by decide +kernel
theorem dL_step_1285 : decode cL_step 1285 = .ok (.iconst 5, 1) := by decide +kernel
theorem dL_step_1286 : decode cL_step 1286 = .ok (.irem, 1) := by decide +kernel
theorem dL_step_1287 : decode cL_step 1287 = .ok (.iload 4, 2) := by decide +kernel
theorem dL_step_1289 : decode cL_step 1289 = .ok (.iconst 5, 1) := by decide +kernel
theorem dL_step_1290 : decode cL_step 1290 = .ok (.idiv, 1) := by decide +kernel
theorem dL_step_1291 : decode cL_step 1291 = .ok (.bipush 101, 2) := by decide +kernel
theorem dL_step_1293 : decode cL_step 1293 = .ok (.irem, 1) := by decide +kernel
theorem dL_step_1294 : decode cL_step 1294 = .ok (.invokestatic 116, 3) := by decide +kernel
theorem dL_step_1297 : decode cL_step 1297 = .ok (.istore 26, 2) := by decide +kernel
theorem dL_step_1299 : decode cL_step 1299 = .ok (.iload 26, 2) := by decide +kernel
theorem dL_step_1301 : decode cL_step 1301 = .ok (.sipush (-200), 3) := by decide +kernel
theorem dL_step_1304 : decode cL_step 1304 = .ok (.if_icmp .eq 74, 3) := by decide +kernel
theorem dL_step_1307 : decode cL_step 1307 = .ok (.iload 26, 2) := by decide +kernel
theorem dL_step_1309 : decode cL_step 1309 = .ok (.ifCond .le 73, 3) := by decide +kernel
theorem dL_step_1312 : decode cL_step 1312 = .ok (.iload 26, 2) := by decide +kernel
theorem dL_step_1314 : decode cL_step 1314 = .ok (.bipush 6, 2) := by decide +kernel
theorem dL_step_1316 : decode cL_step 1316 = .ok (.if_icmp .ge 66, 3) := by decide +kernel
theorem dL_step_1319 : decode cL_step 1319 = .ok (.aload_n 0, 1) := by decide +kernel
theorem dL_step_1320 : decode cL_step 1320 = .ok (.iload 7, 2) := by decide +kernel
theorem dL_step_1322 : decode cL_step 1322 = .ok (.iconst 3, 1) := by decide +kernel
theorem dL_step_1323 : decode cL_step 1323 = .ok (.invokevirtual 84, 3) := by decide +kernel
theorem dL_step_1326 : decode cL_step 1326 = .ok (.ifCond .lt 56, 3) := by decide +kernel
theorem dL_step_1329 : decode cL_step 1329 = .ok (.aload_n 0, 1) := by decide +kernel
theorem dL_step_1330 : decode cL_step 1330 = .ok (.iload 7, 2) := by decide +kernel
theorem dL_step_1332 : decode cL_step 1332 = .ok (.iload 4, 2) := by decide +kernel
theorem dL_step_1334 : decode cL_step 1334 = .ok (.iconst 5, 1) := by decide +kernel
theorem dL_step_1335 : decode cL_step 1335 = .ok (.irem, 1) := by decide +kernel
theorem dL_step_1336 : decode cL_step 1336 = .ok (.bipush 7, 2) := by decide +kernel
theorem dL_step_1338 : decode cL_step 1338 = .ok (.invokestatic 116, 3) := by decide +kernel
theorem dL_step_1341 : decode cL_step 1341 = .ok (.sipush (-200), 3) := by decide +kernel
theorem dL_step_1344 : decode cL_step 1344 = .ok (.if_icmp .ne 38, 3) := by decide +kernel
theorem dL_step_1347 : decode cL_step 1347 = .ok (.iload 26, 2) := by decide +kernel
theorem dL_step_1349 : decode cL_step 1349 = .ok (.iconst 5, 1) := by decide +kernel
theorem dL_step_1350 : decode cL_step 1350 = .ok (.if_icmp .ne 7, 3) := by decide +kernel
theorem dL_step_1353 : decode cL_step 1353 = .ok (.iconst 1, 1) := by decide +kernel
theorem dL_step_1354 : decode cL_step 1354 = .ok (.goto 4, 3) := by decide +kernel
theorem dL_step_1357 : decode cL_step 1357 = .ok (.iconst 0, 1) := by decide +kernel
theorem dL_step_1358 : decode cL_step 1358 = .ok (.aload_n 0, 1) := by decide +kernel
theorem dL_step_1359 : decode cL_step 1359 = .ok (.iload 7, 2) := by decide +kernel
theorem dL_step_1361 : decode cL_step 1361 = .ok (.invokestatic 119, 3) := by decide +kernel
theorem dL_step_1364 : decode cL_step 1364 = .ok (.sipush (-2000), 3) := by decide +kernel
theorem dL_step_1367 : decode cL_step 1367 = .ok (.if_icmp .le 7, 3) := by decide +kernel
theorem dL_step_1370 : decode cL_step 1370 = .ok (.iconst 1, 1) := by decide +kernel
theorem dL_step_1371 : decode cL_step 1371 = .ok (.goto 4, 3) := by decide +kernel
theorem dL_step_1374 : decode cL_step 1374 = .ok (.iconst 0, 1) := by decide +kernel
theorem dL_step_1375 : decode cL_step 1375 = .ok (.if_icmp .ne 7, 3) := by decide +kernel
theorem dL_step_1378 : decode cL_step 1378 = .ok (.iconst 1, 1) := by decide +kernel
theorem dL_step_1379 : decode cL_step 1379 = .ok (.goto 4, 3) := by decide +kernel
theorem dL_step_1382 : decode cL_step 1382 = .ok (.iconst 0, 1) := by decide +kernel
theorem dL_step_1383 : decode cL_step 1383 = .ok (.ireturn, 1) := by decide +kernel
theorem dL_step_1384 : decode cL_step 1384 = .ok (.aload_n 0, 1) := by decide +kernel
theorem dL_step_1385 : decode cL_step 1385 = .ok (.iload 7, 2) := by decide +kernel
theorem dL_step_1387 : decode cL_step 1387 = .ok (.invokestatic 123, 3) := by decide +kernel
theorem dL_step_1390 : decode cL_step 1390 = .ok (.ireturn, 1) := by decide +kernel
set_option maxRecDepth 20000 in
theorem ggL_isBeaten_X6_field : GoodIn wsL_isBeaten wsX6_field := goodIn_ca (goodIn_ca (goodIn_r _ [6, 7, 8, 9, 10, 11, 12, 13, 5, 14, 15, 16, 17, 18, 19, 20, 21, 22, 23, 24, 25, 26, 27, 28, 29, 30, 31, 32, 33, 34, 35, 36, 37, 38, 39, 40, 41, 42, 43, 44, 45, 46, 47, 48, 49, 50, 51, 52, 53, 54, 55, 81, 82, 83, 84, 85, 86, 87, 88, 89, 90, 91, 92, 93, 94, 95] (by decide +kernel) (by decide +kernel)) (goodIn_sub (fun _ h => List.mem_cons_of_mem _ (List.mem_append_left _ (List.mem_append_left _ (List.mem_append_right _ h)))) (by decide +kernel))) (goodIn_sub (fun _ h => List.mem_cons_of_mem _ (List.mem_append_left _ (List.mem_append_right _ h))) (by decide +kernel))
set_option maxRecDepth 20000 in
theorem gL_isBeaten_X6_field : GoodIn wsL_isBeaten (wsV RL 63 RX6 yX6_field wsX6_field) := goodIn_app (goodIn_of _ (by decide +kernel)) ggL_isBeaten_X6_field
set_option maxRecDepth 20000 in
theorem ggL_isBeaten_L_blows : GoodIn wsL_isBeaten wsL_blows := goodIn_ca (goodIn_ca (goodIn_ca (goodIn_r _ [59, 60, 1, 61, 62, 63, 5, 64, 7, 11, 12, 13, 14, 15, 16, 17, 18, 19, 20, 21, 22, 23, 24, 25, 26, 27, 28, 29, 30, 31, 32, 33, 34, 35, 36, 37, 38, 39, 40, 41, 42, 43, 44, 45, 46, 47, 48, 49, 65, 66, 67, 53, 68, 69, 70, 51, 52, 54, 55, 71, 72, 73, 74, 75, 76, 77, 78, 79, 80, 81, 82, 83, 84, 85, 86, 87, 88, 89, 90, 91, 92, 93, 94, 95] (by decide +kernel) (by decide +kernel)) (goodIn_sub (fun _ h => List.mem_cons_of_mem _ (List.mem_append_left _ (List.mem_append_left _ (List.mem_append_right _ h)))) (by decide +kernel))) (goodIn_sub (fun _ h => List.mem_cons_of_mem _ (List.mem_append_left _ (List.mem_append_right _ h))) (by decide +kernel))) (goodIn_sub (fun _ h => List.mem_cons_of_mem _ (List.mem_append_right _ h)) (by decide +kernel))
set_option maxRecDepth 20000 in
theorem gL_isBeaten_L_blows : GoodIn wsL_isBeaten (va_wsS RL 126 yL_blows wsL_blows) := goodIn_app (goodIn_of _ (by decide +kernel)) ggL_isBeaten_L_blows
theorem dL_isBeaten_0 : decode cL_isBeaten 0 = .ok (.aload_n 0, 1) := by decide +kernel
theorem dL_isBeaten_1 : decode cL_isBeaten 1 = .ok (.iload_n 1, 1) := by decide +kernel
theorem dL_isBeaten_2 : decode cL_isBeaten 2 = .ok (.iload_n 2, 1) := by decide +kernel
theorem dL_isBeaten_3 : decode cL_isBeaten 3 = .ok (.iconst 0, 1) := by decide +kernel
theorem dL_isBeaten_4 : decode cL_isBeaten 4 = .ok (.invokevirtual 63, 3) := by decide +kernel
theorem dL_isBeaten_7 : decode cL_isBeaten 7 = .ok (.istore 5, 2) := by decide +kernel
theorem dL_isBeaten_9 : decode cL_isBeaten 9 = .ok (.aload_n 0, 1) := by decide +kernel
theorem dL_isBeaten_10 : decode cL_isBeaten 10 = .ok (.iload_n 1, 1) := by decide +kernel
theorem dL_isBeaten_11 : decode cL_isBeaten 11 = .ok (.iload_n 2, 1) := by decide +kernel
theorem dL_isBeaten_12 : decode cL_isBeaten 12 = .ok (.iconst 1, 1) := by decide +kernel
theorem dL_isBeaten_13 : decode cL_isBeaten 13 = .ok (.iadd, 1) := by decide +kernel
theorem dL_isBeaten_14 : decode cL_isBeaten 14 = .ok (.iconst 4, 1) := by decide +kernel
theorem dL_isBeaten_15 : decode cL_isBeaten 15 = .ok (.irem, 1) := by decide +kernel
theorem dL_isBeaten_16 : decode cL_isBeaten 16 = .ok (.iconst 0, 1) := by decide +kernel
theorem dL_isBeaten_17 : decode cL_isBeaten 17 = .ok (.invokevirtual 63, 3) := by decide +kernel
theorem dL_isBeaten_20 : decode cL_isBeaten 20 = .ok (.istore 6, 2) := by decide +kernel
theorem dL_isBeaten_22 : decode cL_isBeaten 22 = .ok (.aload_n 0, 1) := by decide +kernel
theorem dL_isBeaten_23 : decode cL_isBeaten 23 = .ok (.iload_n 1, 1) := by decide +kernel
theorem dL_isBeaten_24 : decode cL_isBeaten 24 = .ok (.iload_n 2, 1) := by decide +kernel
theorem dL_isBeaten_25 : decode cL_isBeaten 25 = .ok (.iconst 3, 1) := by decide +kernel
theorem dL_isBeaten_26 : decode cL_isBeaten 26 = .ok (.iadd, 1) := by decide +kernel
theorem dL_isBeaten_27 : decode cL_isBeaten 27 = .ok (.iconst 4, 1) := by decide +kernel
theorem dL_isBeaten_28 : decode cL_isBeaten 28 = .ok (.irem, 1) := by decide +kernel
theorem dL_isBeaten_29 : decode cL_isBeaten 29 = .ok (.iconst 0, 1) := by decide +kernel
theorem dL_isBeaten_30 : decode cL_isBeaten 30 = .ok (.invokevirtual 63, 3) := by decide +kernel
theorem dL_isBeaten_33 : decode cL_isBeaten 33 = .ok (.istore 7, 2) := by decide +kernel
theorem dL_isBeaten_35 : decode cL_isBeaten 35 = .ok (.aload_n 0, 1) := by decide +kernel
theorem dL_isBeaten_36 : decode cL_isBeaten 36 = .ok (.iload_n 1, 1) := by decide +kernel
theorem dL_isBeaten_37 : decode cL_isBeaten 37 = .ok (.iload_n 2, 1) := by decide +kernel
theorem dL_isBeaten_38 : decode cL_isBeaten 38 = .ok (.iconst 2, 1) := by decide +kernel
theorem dL_isBeaten_39 : decode cL_isBeaten 39 = .ok (.iadd, 1) := by decide +kernel
theorem dL_isBeaten_40 : decode cL_isBeaten 40 = .ok (.iconst 4, 1) := by decide +kernel
theorem dL_isBeaten_41 : decode cL_isBeaten 41 = .ok (.irem, 1) := by decide +kernel
theorem dL_isBeaten_42 : decode cL_isBeaten 42 = .ok (.iconst 0, 1) := by decide +kernel
theorem dL_isBeaten_43 : decode cL_isBeaten 43 = .ok (.invokevirtual 63, 3) := by decide +kernel
theorem dL_isBeaten_46 : decode cL_isBeaten 46 = .ok (.istore 8, 2) := by decide +kernel
theorem dL_isBeaten_48 : decode cL_isBeaten 48 = .ok (.aload_n 0, 1) := by decide +kernel
theorem dL_isBeaten_49 : decode cL_isBeaten 49 = .ok (.iload_n 1, 1) := by decide +kernel
theorem dL_isBeaten_50 : decode cL_isBeaten 50 = .ok (.iload_n 2, 1) := by decide +kernel
theorem dL_isBeaten_51 : decode cL_isBeaten 51 = .ok (.iconst 2, 1) := by decide +kernel
theorem dL_isBeaten_52 : decode cL_isBeaten 52 = .ok (.invokevirtual 63, 3) := by decide +kernel
theorem dL_isBeaten_55 : decode cL_isBeaten 55 = .ok (.istore 9, 2) := by decide +kernel
theorem dL_isBeaten_57 : decode cL_isBeaten 57 = .ok (.aload_n 0, 1) := by decide +kernel
theorem dL_isBeaten_58 : decode cL_isBeaten 58 = .ok (.iload_n 1, 1) := by decide +kernel
theorem dL_isBeaten_59 : decode cL_isBeaten 59 = .ok (.iload_n 2, 1) := by decide +kernel
theorem dL_isBeaten_60 : decode cL_isBeaten 60 = .ok (.iconst 3, 1) := by decide +kernel
theorem dL_isBeaten_61 : decode cL_isBeaten 61 = .ok (.invokevirtual 63, 3) := by decide +kernel
theorem dL_isBeaten_64 : decode cL_isBeaten 64 = .ok (.istore 10, 2) := by decide +kernel
theorem dL_isBeaten_66 : decode cL_isBeaten 66 = .ok (.aload_n 0, 1) := by decide +kernel
theorem dL_isBeaten_67 : decode cL_isBeaten 67 = .ok (.iload_n 1, 1) := by decide +kernel
theorem dL_isBeaten_68 : decode cL_isBeaten 68 = .ok (.iload_n 2, 1) := by decide +kernel
theorem dL_isBeaten_69 : decode cL_isBeaten 69 = .ok (.iload_n 3, 1) := by decide +kernel
theorem dL_isBeaten_70 : decode cL_isBeaten 70 = .ok (.iload 4, 2) := by decide +kernel
theorem dL_isBeaten_72 : decode cL_isBeaten 72 = .ok (.invokestatic 126, 3) := by decide +kernel
theorem dL_isBeaten_75 : decode cL_isBeaten 75 = .ok (.istore 11, 2) := by decide +kernel
theorem dL_isBeaten_77 : decode cL_isBeaten 77 = .ok (.iload 11, 2) := by decide +kernel
theorem dL_isBeaten_79 : decode cL_isBeaten 79 = .ok (.ldc 18, 2) := by decide +kernel
theorem dL_isBeaten_81 : decode cL_isBeaten 81 = .ok (.if_icmp .ne 51, 3) := by decide +kernel
theorem dL_isBeaten_84 : decode cL_isBeaten 84 = .ok (.iload 9, 2) := by decide +kernel
theorem dL_isBeaten_86 : decode cL_isBeaten 86 = .ok (.bipush 7, 2) := by decide +kernel
theorem dL_isBeaten_88 : decode cL_isBeaten 88 = .ok (.if_icmp .eq 14, 3) := by decide +kernel
theorem dL_isBeaten_91 : decode cL_isBeaten 91 = .ok (.iload 10, 2) := by decide +kernel
theorem dL_isBeaten_93 : decode cL_isBeaten 93 = .ok (.iconst 1, 1) := by decide +kernel
theorem dL_isBeaten_94 : decode cL_isBeaten 94 = .ok (.if_icmp .ne 36, 3) := by decide +kernel
theorem dL_isBeaten_97 : decode cL_isBeaten 97 = .ok (.iload 4, 2) := by decide +kernel
theorem dL_isBeaten_99 : decode cL_isBeaten 99 = .ok (.ifCond .ne 31, 3) := by decide +kernel
theorem dL_isBeaten_102 : decode cL_isBeaten 102 = .ok (.aload_n 0, 1) := by decide +kernel
theorem dL_isBeaten_103 : decode cL_isBeaten 103 = .ok (.iload_n 1, 1) := by decide +kernel
theorem dL_isBeaten_104 : decode cL_isBeaten 104 = .ok (.iload_n 2, 1) := by decide +kernel
theorem dL_isBeaten_105 : decode cL_isBeaten 105 = .ok (.iconst 0, 1) := by decide +kernel
theorem dL_isBeaten_106 : decode cL_isBeaten 106 = .ok (.invokevirtual 63, 3) := by decide +kernel
theorem dL_isBeaten_109 : decode cL_isBeaten 109 = .ok (.iload 5, 2) := by decide +kernel
theorem dL_isBeaten_111 : decode cL_isBeaten 111 = .ok (.if_icmp .ne 19, 3) := by decide +kernel
theorem dL_isBeaten_114 : decode cL_isBeaten 114 = .ok (.aload_n 0, 1) := by decide +kernel
theorem dL_isBeaten_115 : decode cL_isBeaten 115 = .ok (.iload_n 1, 1) := by decide +kernel
theorem dL_isBeaten_116 : decode cL_isBeaten 116 = .ok (.iload_n 2, 1) := by decide +kernel
theorem dL_isBeaten_117 : decode cL_isBeaten 117 = .ok (.iconst 2, 1) := by decide +kernel
theorem dL_isBeaten_118 : decode cL_isBeaten 118 = .ok (.invokevirtual 63, 3) := by decide +kernel
theorem dL_isBeaten_121 : decode cL_isBeaten 121 = .ok (.iload 9, 2) := by decide +kernel
theorem dL_isBeaten_123 : decode cL_isBeaten 123 = .ok (.if_icmp .ne 7, 3) := by decide +kernel
theorem dL_isBeaten_126 : decode cL_isBeaten 126 = .ok (.iconst 1, 1) := by decide +kernel
theorem dL_isBeaten_127 : decode cL_isBeaten 127 = .ok (.goto 4, 3) := by decide +kernel
theorem dL_isBeaten_130 : decode cL_isBeaten 130 = .ok (.iconst 0, 1) := by decide +kernel
theorem dL_isBeaten_131 : decode cL_isBeaten 131 = .ok (.ireturn, 1) := by decide +kernel
theorem dL_isBeaten_132 : decode cL_isBeaten 132 = .ok (.iload 4, 2) := by decide +kernel
theorem dL_isBeaten_134 : decode cL_isBeaten 134 = .ok (.ifCond .eq 7, 3) := by decide +kernel
theorem dL_isBeaten_137 : decode cL_isBeaten 137 = .ok (.iload_n 3, 1) := by decide +kernel
theorem dL_isBeaten_138 : decode cL_isBeaten 138 = .ok (.goto 5, 3) := by decide +kernel
theorem dL_isBeaten_141 : decode cL_isBeaten 141 = .ok (.iload_n 3, 1) := by decide +kernel
theorem dL_isBeaten_142 : decode cL_isBeaten 142 = .ok (.ineg, 1) := by decide +kernel
theorem dL_isBeaten_143 : decode cL_isBeaten 143 = .ok (.istore 12, 2) := by decide +kernel
theorem dL_isBeaten_145 : decode cL_isBeaten 145 = .ok (.iload 9, 2) := by decide +kernel
theorem dL_isBeaten_147 : decode cL_isBeaten 147 = .ok (.bipush 7, 2) := by decide +kernel
theorem dL_isBeaten_149 : decode cL_isBeaten 149 = .ok (.if_icmp .ge 153, 3) := by decide +kernel
theorem dL_isBeaten_152 : decode cL_isBeaten 152 = .ok (.iload 11, 2) := by decide +kernel
theorem dL_isBeaten_154 : decode cL_isBeaten 154 = .ok (.iload 5, 2) := by decide +kernel
theorem dL_isBeaten_156 : decode cL_isBeaten 156 = .ok (.iload 4, 2) := by decide +kernel
theorem dL_isBeaten_158 : decode cL_isBeaten 158 = .ok (.ifCond .eq 10, 3) := by decide +kernel
theorem dL_isBeaten_161 : decode cL_isBeaten 161 = .ok (.bipush (-6), 2) := by decide +kernel
theorem dL_isBeaten_163 : decode cL_isBeaten 163 = .ok (.iload_n 3, 1) := by decide +kernel
theorem dL_isBeaten_164 : decode cL_isBeaten 164 = .ok (.imul, 1) := by decide +kernel
theorem dL_isBeaten_165 : decode cL_isBeaten 165 = .ok (.goto 6, 3) := by decide +kernel
theorem dL_isBeaten_168 : decode cL_isBeaten 168 = .ok (.iconst 4, 1) := by decide +kernel
theorem dL_isBeaten_169 : decode cL_isBeaten 169 = .ok (.iload_n 3, 1) := by decide +kernel
theorem dL_isBeaten_170 : decode cL_isBeaten 170 = .ok (.imul, 1) := by decide +kernel
theorem dL_isBeaten_171 : decode cL_isBeaten 171 = .ok (.iadd, 1) := by decide +kernel
theorem dL_isBeaten_172 : decode cL_isBeaten 172 = .ok (.if_icmp .ne 130, 3) := by decide +kernel
theorem dL_isBeaten_175 : decode cL_isBeaten 175 = .ok (.aload_n 0, 1) := by decide +kernel
theorem dL_isBeaten_176 : decode cL_isBeaten 176 = .ok (.iload_n 1, 1) := by decide +kernel
theorem dL_isBeaten_177 : decode cL_isBeaten 177 = .ok (.iload_n 2, 1) := by decide +kernel
theorem dL_isBeaten_178 : decode cL_isBeaten 178 = .ok (.iconst 0, 1) := by decide +kernel
theorem dL_isBeaten_179 : decode cL_isBeaten 179 = .ok (.invokevirtual 63, 3) := by decide +kernel
theorem dL_isBeaten_182 : decode cL_isBeaten 182 = .ok (.iload 11, 2) := by decide +kernel
theorem dL_isBeaten_184 : decode cL_isBeaten 184 = .ok (.if_icmp .ne 118, 3) := by decide +kernel
theorem dL_isBeaten_187 : decode cL_isBeaten 187 = .ok (.aload_n 0, 1) := by decide +kernel
theorem dL_isBeaten_188 : decode cL_isBeaten 188 = .ok (.iload_n 1, 1) := by decide +kernel
theorem dL_isBeaten_189 : decode cL_isBeaten 189 = .ok (.iload_n 2, 1) := by decide +kernel
theorem dL_isBeaten_190 : decode cL_isBeaten 190 = .ok (.iconst 1, 1) := by decide +kernel
theorem dL_isBeaten_191 : decode cL_isBeaten 191 = .ok (.iadd, 1) := by decide +kernel
theorem dL_isBeaten_192 : decode cL_isBeaten 192 = .ok (.iconst 4, 1) := by decide +kernel
theorem dL_isBeaten_193 : decode cL_isBeaten 193 = .ok (.irem, 1) := by decide +kernel
theorem dL_isBeaten_194 : decode cL_isBeaten 194 = .ok (.iconst 0, 1) := by decide +kernel
theorem dL_isBeaten_195 : decode cL_isBeaten 195 = .ok (.invokevirtual 63, 3) := by decide +kernel
theorem dL_isBeaten_198 : decode cL_isBeaten 198 = .ok (.iload 6, 2) := by decide +kernel
theorem dL_isBeaten_200 : decode cL_isBeaten 200 = .ok (.iload 12, 2) := by decide +kernel
theorem dL_isBeaten_202 : decode cL_isBeaten 202 = .ok (.iadd, 1) := by decide +kernel
theorem dL_isBeaten_203 : decode cL_isBeaten 203 = .ok (.if_icmp .ne 99, 3) := by decide +kernel
theorem dL_isBeaten_206 : decode cL_isBeaten 206 = .ok (.aload_n 0, 1) := by decide +kernel
theorem dL_isBeaten_207 : decode cL_isBeaten 207 = .ok (.iload_n 1, 1) := by decide +kernel
theorem dL_isBeaten_208 : decode cL_isBeaten 208 = .ok (.iload_n 2, 1) := by decide +kernel
theorem dL_isBeaten_209 : decode cL_isBeaten 209 = .ok (.iconst 3, 1) := by decide +kernel
theorem dL_isBeaten_210 : decode cL_isBeaten 210 = .ok (.iadd, 1) := by decide +kernel
theorem dL_isBeaten_211 : decode cL_isBeaten 211 = .ok (.iconst 4, 1) := by decide +kernel
theorem dL_isBeaten_212 : decode cL_isBeaten 212 = .ok (.irem, 1) := by decide +kernel
theorem dL_isBeaten_213 : decode cL_isBeaten 213 = .ok (.iconst 0, 1) := by decide +kernel
theorem dL_isBeaten_214 : decode cL_isBeaten 214 = .ok (.invokevirtual 63, 3) := by decide +kernel
theorem dL_isBeaten_217 : decode cL_isBeaten 217 = .ok (.iload 7, 2) := by decide +kernel
theorem dL_isBeaten_219 : decode cL_isBeaten 219 = .ok (.iload 12, 2) := by decide +kernel
theorem dL_isBeaten_221 : decode cL_isBeaten 221 = .ok (.iadd, 1) := by decide +kernel
theorem dL_isBeaten_222 : decode cL_isBeaten 222 = .ok (.if_icmp .ne 80, 3) := by decide +kernel
theorem dL_isBeaten_225 : decode cL_isBeaten 225 = .ok (.aload_n 0, 1) := by decide +kernel
theorem dL_isBeaten_226 : decode cL_isBeaten 226 = .ok (.iload_n 1, 1) := by decide +kernel
theorem dL_isBeaten_227 : decode cL_isBeaten 227 = .ok (.iload_n 2, 1) := by decide +kernel
theorem dL_isBeaten_228 : decode cL_isBeaten 228 = .ok (.iconst 2, 1) := by decide +kernel
theorem dL_isBeaten_229 : decode cL_isBeaten 229 = .ok (.iadd, 1) := by decide +kernel
theorem dL_isBeaten_230 : decode cL_isBeaten 230 = .ok (.iconst 4, 1) := by decide +kernel
theorem dL_isBeaten_231 : decode cL_isBeaten 231 = .ok (.irem, 1) := by decide +kernel
theorem dL_isBeaten_232 : decode cL_isBeaten 232 = .ok (.iconst 0, 1) := by decide +kernel
theorem dL_isBeaten_233 : decode cL_isBeaten 233 = .ok (.invokevirtual 63, 3) := by decide +kernel
theorem dL_isBeaten_236 : decode cL_isBeaten 236 = .ok (.iload 8, 2) := by decide +kernel
theorem dL_isBeaten_238 : decode cL_isBeaten 238 = .ok (.if_icmp .ne 64, 3) := by decide +kernel
theorem dL_isBeaten_241 : decode cL_isBeaten 241 = .ok (.aload_n 0, 1) := by decide +kernel
theorem dL_isBeaten_242 : decode cL_isBeaten 242 = .ok (.iload_n 1, 1) := by decide +kernel
theorem dL_isBeaten_243 : decode cL_isBeaten 243 = .ok (.iload_n 2, 1) := by decide +kernel
theorem dL_isBeaten_244 : decode cL_isBeaten 244 = .ok (.iconst 2, 1) := by decide +kernel
theorem dL_isBeaten_245 : decode cL_isBeaten 245 = .ok (.invokevirtual 63, 3) := by decide +kernel
theorem dL_isBeaten_248 : decode cL_isBeaten 248 = .ok (.iload 9, 2) := by decide +kernel
theorem dL_isBeaten_250 : decode cL_isBeaten 250 = .ok (.iconst 1, 1) := by decide +kernel
theorem dL_isBeaten_251 : decode cL_isBeaten 251 = .ok (.iadd, 1) := by decide +kernel
theorem dL_isBeaten_252 : decode cL_isBeaten 252 = .ok (.if_icmp .ne 50, 3) := by decide +kernel
theorem dL_isBeaten_255 : decode cL_isBeaten 255 = .ok (.aload_n 0, 1) := by decide +kernel
theorem dL_isBeaten_256 : decode cL_isBeaten 256 = .ok (.iload_n 1, 1) := by decide +kernel
theorem dL_isBeaten_257 : decode cL_isBeaten 257 = .ok (.iload_n 2, 1) := by decide +kernel
theorem dL_isBeaten_258 : decode cL_isBeaten 258 = .ok (.iconst 4, 1) := by decide +kernel
theorem dL_isBeaten_259 : decode cL_isBeaten 259 = .ok (.invokevirtual 63, 3) := by decide +kernel
theorem dL_isBeaten_262 : decode cL_isBeaten 262 = .ok (.iload 9, 2) := by decide +kernel
theorem dL_isBeaten_264 : decode cL_isBeaten 264 = .ok (.bipush 6, 2) := by decide +kernel
theorem dL_isBeaten_266 : decode cL_isBeaten 266 = .ok (.if_icmp .ne 7, 3) := by decide +kernel
theorem dL_isBeaten_269 : decode cL_isBeaten 269 = .ok (.iconst 1, 1) := by decide +kernel
theorem dL_isBeaten_270 : decode cL_isBeaten 270 = .ok (.goto 4, 3) := by decide +kernel
theorem dL_isBeaten_273 : decode cL_isBeaten 273 = .ok (.iconst 0, 1) := by decide +kernel
theorem dL_isBeaten_274 : decode cL_isBeaten 274 = .ok (.if_icmp .ne 28, 3) := by decide +kernel
theorem dL_isBeaten_277 : decode cL_isBeaten 277 = .ok (.aload_n 0, 1) := by decide +kernel
theorem dL_isBeaten_278 : decode cL_isBeaten 278 = .ok (.iload_n 1, 1) := by decide +kernel
theorem dL_isBeaten_279 : decode cL_isBeaten 279 = .ok (.iload_n 2, 1) := by decide +kernel
theorem dL_isBeaten_280 : decode cL_isBeaten 280 = .ok (.iconst 3, 1) := by decide +kernel
theorem dL_isBeaten_281 : decode cL_isBeaten 281 = .ok (.invokevirtual 63, 3) := by decide +kernel
theorem dL_isBeaten_284 : decode cL_isBeaten 284 = .ok (.iload 4, 2) := by decide +kernel
theorem dL_isBeaten_286 : decode cL_isBeaten 286 = .ok (.ifCond .eq 7, 3) := by decide +kernel
theorem dL_isBeaten_289 : decode cL_isBeaten 289 = .ok (.iconst 1, 1) := by decide +kernel
theorem dL_isBeaten_290 : decode cL_isBeaten 290 = .ok (.goto 5, 3) := by decide +kernel
theorem dL_isBeaten_293 : decode cL_isBeaten 293 = .ok (.iload 10, 2) := by decide +kernel
theorem dL_isBeaten_295 : decode cL_isBeaten 295 = .ok (.if_icmp .ne 7, 3) := by decide +kernel
theorem dL_isBeaten_298 : decode cL_isBeaten 298 = .ok (.iconst 1, 1) := by decide +kernel
theorem dL_isBeaten_299 : decode cL_isBeaten 299 = .ok (.goto 4, 3) := by decide +kernel
theorem dL_isBeaten_302 : decode cL_isBeaten 302 = .ok (.iconst 0, 1) := by decide +kernel
theorem dL_isBeaten_303 : decode cL_isBeaten 303 = .ok (.ireturn, 1) := by decide +kernel
set_option maxRecDepth 20000 in
theorem ggL_isPlanned_X6_plan : GoodIn wsL_isPlanned wsX6_plan := goodIn_ca (goodIn_ca (goodIn_r _ [6, 7, 8, 9, 10, 11, 12, 5, 13, 14, 15, 16, 17, 18, 19, 20, 21, 22, 23, 24, 25, 26, 27, 28, 29, 30, 31, 32, 33, 34, 35, 36, 37, 38, 39, 40, 41, 42, 43, 44, 45, 46, 47, 48, 49, 50, 51, 52, 53, 54, 55, 56, 57, 58, 59, 60, 61, 62, 63, 64, 65, 66, 67, 68, 69, 70, 71, 72, 73, 74, 75, 76, 77, 78, 79, 80, 81, 82, 83, 84, 85, 86, 87, 88, 89, 112, 113, 114, 115, 116, 117, 118, 119, 120, 121, 122, 123, 124, 125, 126, 127, 128] (by decide +kernel) (by decide +kernel)) (goodIn_sub (fun _ h => List.mem_cons_of_mem _ (List.mem_append_left _ (List.mem_append_left _ (List.mem_append_right _ h)))) (by decide +kernel))) (goodIn_sub (fun _ h => List.mem_cons_of_mem _ (List.mem_append_left _ (List.mem_append_right _ h))) (by decide +kernel))
set_option maxRecDepth 20000 in
theorem gL_isPlanned_X6_plan : GoodIn wsL_isPlanned (wsV RL 130 RX6 yX6_plan wsX6_plan) := goodIn_app (goodIn_of _ (by decide +kernel)) ggL_isPlanned_X6_plan
set_option maxRecDepth 20000 in
theorem ggL_isPlanned_X6_isInTune : GoodIn wsL_isPlanned wsX6_isInTune := goodIn_ca (goodIn_r _ [93, 8, 10, 11, 12, 5, 13, 14, 15, 16, 17, 18, 19, 20, 21, 22, 23, 24, 25, 26, 27, 28, 29, 30, 31, 32, 33, 34, 35, 36, 37, 38, 39, 40, 41, 42, 43, 94, 61, 62, 63, 64, 65, 66, 67, 68, 69, 70, 71, 72, 73, 74, 112, 113, 114, 115, 116, 117, 118, 121, 122, 123, 124, 125, 126, 127, 128] (by decide +kernel) (by decide +kernel)) (goodIn_sub (fun _ h => List.mem_cons_of_mem _ (List.mem_append_left _ (List.mem_append_left _ (List.mem_append_right _ h)))) (by decide +kernel))
set_option maxRecDepth 20000 in
theorem gL_isPlanned_X6_isInTune : GoodIn wsL_isPlanned (wsV RL 133 RX6 yX6_isInTune wsX6_isInTune) := goodIn_app (goodIn_of _ (by decide +kernel)) ggL_isPlanned_X6_isInTune
set_option maxRecDepth 20000 in
theorem ggL_isPlanned_L_blows : GoodIn wsL_isPlanned wsL_blows := goodIn_ca (goodIn_ca (goodIn_ca (goodIn_r _ [98, 99, 1, 100, 101, 102, 5, 103, 104, 10, 11, 12, 13, 14, 15, 16, 17, 18, 19, 20, 21, 22, 23, 24, 25, 26, 27, 28, 29, 30, 31, 32, 33, 34, 35, 36, 37, 38, 39, 40, 41, 42, 43, 44, 45, 46, 47, 48, 105, 78, 79, 63, 80, 81, 70, 71, 72, 73, 74, 106, 107, 108, 109, 110, 111, 87, 88, 89, 65, 124, 125, 126, 127, 128, 112, 113, 114, 115, 116, 117, 118, 121, 122, 123] (by decide +kernel) (by decide +kernel)) (goodIn_sub (fun _ h => List.mem_cons_of_mem _ (List.mem_append_left _ (List.mem_append_left _ (List.mem_append_right _ h)))) (by decide +kernel))) (goodIn_sub (fun _ h => List.mem_cons_of_mem _ (List.mem_append_left _ (List.mem_append_right _ h))) (by decide +kernel))) (goodIn_sub (fun _ h => List.mem_cons_of_mem _ (List.mem_append_right _ h)) (by decide +kernel))
set_option maxRecDepth 20000 in
theorem gL_isPlanned_L_blows : GoodIn wsL_isPlanned (va_wsS RL 126 yL_blows wsL_blows) := goodIn_app (goodIn_of _ (by decide +kernel)) ggL_isPlanned_L_blows
theorem dL_isPlanned_0 : decode cL_isPlanned 0 = .ok (.aload_n 0, 1) := by decide +kernel
theorem dL_isPlanned_1 : decode cL_isPlanned 1 = .ok (.iload_n 1, 1) := by decide +kernel
theorem dL_isPlanned_2 : decode cL_isPlanned 2 = .ok (.iconst 0, 1) := by decide +kernel
theorem dL_isPlanned_3 : decode cL_isPlanned 3 = .ok (.invokevirtual 130, 3) := by decide +kernel
theorem dL_isPlanned_6 : decode cL_isPlanned 6 = .ok (.istore_n 2, 1) := by decide +kernel
theorem dL_isPlanned_7 : decode cL_isPlanned 7 = .ok (.aload_n 0, 1) := by decide +kernel
theorem dL_isPlanned_8 : decode cL_isPlanned 8 = .ok (.iload_n 1, 1) := by decide +kernel
theorem dL_isPlanned_9 : decode cL_isPlanned 9 = .ok (.iconst 1, 1) := by decide +kernel
theorem dL_isPlanned_10 : decode cL_isPlanned 10 = .ok (.invokevirtual 130, 3) := by decide +kernel
theorem dL_isPlanned_13 : decode cL_isPlanned 13 = .ok (.istore_n 3, 1) := by decide +kernel
theorem dL_isPlanned_14 : decode cL_isPlanned 14 = .ok (.aload_n 0, 1) := by decide +kernel
theorem dL_isPlanned_15 : decode cL_isPlanned 15 = .ok (.iload_n 1, 1) := by decide +kernel
theorem dL_isPlanned_16 : decode cL_isPlanned 16 = .ok (.iconst 2, 1) := by decide +kernel
theorem dL_isPlanned_17 : decode cL_isPlanned 17 = .ok (.invokevirtual 130, 3) := by decide +kernel
theorem dL_isPlanned_20 : decode cL_isPlanned 20 = .ok (.istore 4, 2) := by decide +kernel
theorem dL_isPlanned_22 : decode cL_isPlanned 22 = .ok (.aload_n 0, 1) := by decide +kernel
theorem dL_isPlanned_23 : decode cL_isPlanned 23 = .ok (.iload_n 1, 1) := by decide +kernel
theorem dL_isPlanned_24 : decode cL_isPlanned 24 = .ok (.iconst 3, 1) := by decide +kernel
theorem dL_isPlanned_25 : decode cL_isPlanned 25 = .ok (.invokevirtual 130, 3) := by decide +kernel
theorem dL_isPlanned_28 : decode cL_isPlanned 28 = .ok (.istore 5, 2) := by decide +kernel
theorem dL_isPlanned_30 : decode cL_isPlanned 30 = .ok (.iload_n 2, 1) := by decide +kernel
theorem dL_isPlanned_31 : decode cL_isPlanned 31 = .ok (.ifCond .ne 7, 3) := by decide +kernel
