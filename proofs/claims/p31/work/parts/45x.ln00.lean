theorem goodIn_cc {big a : List Cond} {c : Cond} (hc : GoodIn big [c]) (ha : GoodIn big a) : GoodIn big (c :: a) := fun w h => (List.mem_cons.mp h).elim (fun e => hc w (List.mem_cons.mpr (Or.inl e))) (ha w)
set_option maxRecDepth 20000 in
theorem ggL_blows_X6_blow : GoodIn wsL_blows wsX6_blow := goodIn_ca (goodIn_ca (goodIn_ca (goodIn_r _ [7, 8, 9, 10, 11, 6, 12, 13, 14, 15, 16, 17, 18, 19, 20, 21, 22, 23, 24, 25, 26, 27, 28, 29, 30, 31, 32, 33, 34, 35, 36, 37, 38, 39, 40, 41, 42, 43, 44, 45, 46, 47, 48, 49, 50, 51, 52, 53, 54, 55, 56, 57, 58, 59, 60, 61, 62, 63, 64, 65, 66, 67, 68, 69, 70, 71, 72, 73, 74, 75, 76, 77, 78, 79, 80, 81, 82, 83] (by decide +kernel) (by decide +kernel)) (goodIn_sub (fun _ h => List.mem_cons_of_mem _ (List.mem_append_left _ (List.mem_append_left _ (List.mem_append_right _ h)))) (by decide +kernel))) (goodIn_sub (fun _ h => List.mem_cons_of_mem _ (List.mem_append_left _ (List.mem_append_right _ h))) (by decide +kernel))) (goodIn_sub (fun _ h => List.mem_cons_of_mem _ (List.mem_append_right _ h)) (by decide +kernel))
set_option maxRecDepth 20000 in
theorem gL_blows_X6_blow : GoodIn wsL_blows (wsV RL 10 RX6 yX6_blow wsX6_blow) := goodIn_app (goodIn_of _ (by decide +kernel)) ggL_blows_X6_blow
theorem dL_blows_0 : decode cL_blows 0 = .ok (.aload_n 0, 1) := by decide +kernel
theorem dL_blows_1 : decode cL_blows 1 = .ok (.iload_n 1, 1) := by decide +kernel
theorem dL_blows_2 : decode cL_blows 2 = .ok (.iload_n 2, 1) := by decide +kernel
theorem dL_blows_3 : decode cL_blows 3 = .ok (.iload_n 3, 1) := by decide +kernel
theorem dL_blows_4 : decode cL_blows 4 = .ok (.iload 4, 2) := by decide +kernel
theorem dL_blows_6 : decode cL_blows 6 = .ok (.invokevirtual 10, 3) := by decide +kernel
theorem dL_blows_9 : decode cL_blows 9 = .ok (.ireturn, 1) := by decide +kernel
theorem dL_blows_10 : decode cL_blows 10 = .ok (.astore 5, 2) := by decide +kernel
theorem dL_blows_12 : decode cL_blows 12 = .ok (.ldc 18, 2) := by decide +kernel
theorem dL_blows_14 : decode cL_blows 14 = .ok (.ireturn, 1) := by decide +kernel
set_option maxRecDepth 20000 in
theorem ggL_gives_X6_give : GoodIn wsL_gives wsX6_give := goodIn_ca (goodIn_ca (goodIn_r _ [6, 7, 8, 9, 10, 11, 5, 12, 13, 14, 15, 16, 17, 18, 19, 20, 21, 22, 23, 24, 25, 26, 27, 28, 29, 30, 31, 32, 33, 34, 35, 36, 37, 38, 39, 40, 41, 42, 43, 44, 45, 46, 47, 48, 49, 50, 51, 52, 53, 54, 55, 56, 57, 58, 59, 60, 61, 62, 63, 64, 65, 66, 67, 68, 69, 70, 71, 72, 73, 74] (by decide +kernel) (by decide +kernel)) (goodIn_sub (fun _ h => List.mem_cons_of_mem _ (List.mem_append_left _ (List.mem_append_right _ h))) (by decide +kernel))) (goodIn_sub (fun _ h => List.mem_cons_of_mem _ (List.mem_append_right _ h)) (by decide +kernel))
set_option maxRecDepth 20000 in
theorem gL_gives_X6_give : GoodIn wsL_gives (wsV RL 19 RX6 yX6_give wsX6_give) := goodIn_app (goodIn_of _ (by decide +kernel)) ggL_gives_X6_give
theorem dL_gives_0 : decode cL_gives 0 = .ok (.aload_n 0, 1) := by decide +kernel
theorem dL_gives_1 : decode cL_gives 1 = .ok (.iload_n 1, 1) := by decide +kernel
theorem dL_gives_2 : decode cL_gives 2 = .ok (.iload_n 2, 1) := by decide +kernel
theorem dL_gives_3 : decode cL_gives 3 = .ok (.invokevirtual 19, 3) := by decide +kernel
theorem dL_gives_6 : decode cL_gives 6 = .ok (.iconst 1, 1) := by decide +kernel
theorem dL_gives_7 : decode cL_gives 7 = .ok (.ireturn, 1) := by decide +kernel
theorem dL_gives_8 : decode cL_gives 8 = .ok (.astore_n 3, 1) := by decide +kernel
theorem dL_gives_9 : decode cL_gives 9 = .ok (.iconst 0, 1) := by decide +kernel
theorem dL_gives_10 : decode cL_gives 10 = .ok (.ireturn, 1) := by decide +kernel
set_option maxRecDepth 20000 in
theorem ggL_acts_X6_join : GoodIn wsL_acts wsX6_join := goodIn_ca (goodIn_ca (goodIn_r _ [6, 7, 8, 9, 10, 11, 12, 13, 14, 5, 15, 16, 17, 18, 19, 20, 21, 22, 23, 24, 25, 26, 27, 28, 29, 30, 31, 32, 33, 34, 35, 36, 37, 38, 39, 40, 41, 42, 43, 44, 45, 46, 47, 48, 49, 50, 51, 52, 53, 54, 55, 56, 57, 58, 59, 60, 61, 62, 63, 64, 65, 66, 67, 68, 69, 70, 71, 72, 73, 74, 75, 76, 77, 78, 79, 80, 81, 82, 83, 84, 85, 86, 87, 88, 89, 90, 91, 92, 93, 94, 95, 96, 97, 98, 99, 100, 101, 102, 103, 104, 105, 106, 107, 108, 109, 110, 111, 112, 113, 114, 115, 116, 117, 118, 119, 120, 121, 122, 123, 124, 125, 126, 127, 128, 129, 130, 131, 132, 133, 134, 135, 136, 137, 138, 139, 140, 301, 302, 303, 304, 305, 306, 307, 308, 309, 310, 311, 312, 313, 314, 315, 316, 317, 318, 319, 320, 321, 322, 323, 324, 325] (by decide +kernel) (by decide +kernel)) (goodIn_sub (fun _ h => List.mem_cons_of_mem _ (List.mem_append_left _ (List.mem_append_left _ (List.mem_append_right _ h)))) (by decide +kernel))) (goodIn_sub (fun _ h => List.mem_cons_of_mem _ (List.mem_append_left _ (List.mem_append_right _ h))) (by decide +kernel))
set_option maxRecDepth 20000 in
theorem gL_acts_X6_join : GoodIn wsL_acts (wsV RL 23 RX6 yX6_join wsX6_join) := goodIn_app (goodIn_of _ (by decide +kernel)) ggL_acts_X6_join
set_option maxRecDepth 20000 in
theorem ggL_acts_X6_leave : GoodIn wsL_acts wsX6_leave := goodIn_ca (goodIn_ca (goodIn_r _ [144, 8, 7, 145, 146, 12, 13, 14, 5, 15, 16, 17, 18, 19, 20, 21, 22, 23, 24, 25, 26, 27, 28, 29, 30, 31, 32, 33, 34, 35, 36, 37, 38, 39, 40, 41, 42, 43, 44, 45, 46, 47, 48, 49, 50, 51, 52, 53, 54, 55, 56, 57, 58, 59, 60, 61, 62, 63, 64, 65, 66, 147, 148, 149, 150, 151, 152, 153, 154, 92, 93, 155, 138, 139, 140, 67, 68, 69, 70, 71, 307, 308, 309, 310, 311, 312, 313, 301, 302, 303, 304, 305, 306, 316, 317, 318, 319, 320, 321, 322, 323, 324, 325, 314, 315] (by decide +kernel) (by decide +kernel)) (goodIn_sub (fun _ h => List.mem_cons_of_mem _ (List.mem_append_left _ (List.mem_append_left _ (List.mem_append_right _ h)))) (by decide +kernel))) (goodIn_sub (fun _ h => List.mem_cons_of_mem _ (List.mem_append_left _ (List.mem_append_right _ h))) (by decide +kernel))
set_option maxRecDepth 20000 in
theorem gL_acts_X6_leave : GoodIn wsL_acts (wsV RL 27 RX6 yX6_leave wsX6_leave) := goodIn_app (goodIn_of _ (by decide +kernel)) ggL_acts_X6_leave
set_option maxRecDepth 20000 in
theorem ggL_acts_X6_takeBack : GoodIn wsL_acts wsX6_takeBack := goodIn_ca (goodIn_ca (goodIn_r _ [159, 65, 66, 160, 161, 162, 12, 13, 14, 5, 15, 16, 17, 18, 19, 20, 21, 22, 23, 24, 25, 26, 27, 28, 29, 30, 31, 32, 33, 34, 35, 36, 37, 38, 39, 40, 41, 42, 43, 44, 45, 301, 302, 303, 304, 305, 306, 326, 327, 328, 329, 330, 316, 317, 318, 319, 320, 321, 322, 323, 324, 325] (by decide +kernel) (by decide +kernel)) (goodIn_sub (fun _ h => List.mem_cons_of_mem _ (List.mem_append_left _ (List.mem_append_right _ h))) (by decide +kernel))) (goodIn_sub (fun _ h => List.mem_cons_of_mem _ (List.mem_append_left _ (List.mem_append_left _ (List.mem_append_right _ h)))) (by decide +kernel))
set_option maxRecDepth 20000 in
theorem gL_acts_X6_takeBack : GoodIn wsL_acts (wsV RL 30 RX6 yX6_takeBack wsX6_takeBack) := goodIn_app (goodIn_of _ (by decide +kernel)) ggL_acts_X6_takeBack
set_option maxRecDepth 20000 in
theorem ggL_acts_X6_drill : GoodIn wsL_acts wsX6_drill := goodIn_ca (goodIn_ca (goodIn_r _ [166, 8, 167, 71, 46, 47, 48, 5, 49, 50, 51, 18, 19, 20, 21, 22, 23, 24, 25, 26, 27, 28, 29, 30, 31, 32, 33, 34, 35, 36, 37, 38, 39, 40, 41, 42, 43, 44, 45, 168, 169, 170, 171, 172, 173, 55, 174, 175, 176, 177, 178, 179, 62, 63, 64, 65, 66, 180, 181, 182, 183, 57, 58, 184, 60, 61, 185, 186, 187, 11, 188, 86, 87, 189, 190, 191, 192, 193, 59, 194, 195, 196, 197, 198, 199, 200, 201, 202, 203, 204, 307, 308, 309, 310, 311, 312, 313, 316, 317, 318, 319, 320, 321, 322, 323, 324, 325, 314, 315, 301, 302, 303, 304, 305, 306, 326, 327, 328, 329, 330] (by decide +kernel) (by decide +kernel)) (goodIn_sub (fun _ h => List.mem_cons_of_mem _ (List.mem_append_left _ (List.mem_append_left _ (List.mem_append_right _ h)))) (by decide +kernel))) (goodIn_sub (fun _ h => List.mem_cons_of_mem _ (List.mem_append_left _ (List.mem_append_right _ h))) (by decide +kernel))
set_option maxRecDepth 20000 in
theorem gL_acts_X6_drill : GoodIn wsL_acts (wsV RL 34 RX6 yX6_drill wsX6_drill) := goodIn_app (goodIn_of _ (by decide +kernel)) ggL_acts_X6_drill
set_option maxRecDepth 20000 in
theorem ggL_acts_X6_perform : GoodIn wsL_acts wsX6_perform := goodIn_ca (goodIn_ca (goodIn_ca (goodIn_r _ [208, 209, 210, 211, 212, 108, 109, 110, 213, 46, 47, 48, 5, 49, 50, 51, 18, 19, 20, 21, 22, 23, 24, 25, 26, 27, 28, 29, 30, 31, 32, 33, 34, 35, 36, 37, 38, 39, 40, 41, 42, 43, 44, 45, 214, 215, 216, 217, 218, 62, 63, 64, 65, 66, 219, 220, 221, 222, 223, 224, 225, 226, 172, 173, 55, 174, 175, 227, 228, 229, 230, 231, 232, 233, 234, 235, 236, 237, 238, 239, 240, 241, 242, 243, 244, 245, 246, 247, 248, 249, 250, 251, 252, 135, 136, 253, 254, 255, 256, 257, 258, 259, 260, 261, 262, 263, 264, 265, 266, 267, 268, 269, 75, 270, 271, 272, 273, 274, 198, 275, 200, 276, 277, 278, 279, 280, 281, 307, 308, 309, 310, 311, 312, 313, 316, 317, 318, 319, 320, 321, 322, 323, 324, 325, 331, 332, 314, 315, 301, 302, 303, 304, 305, 306, 326, 327, 328, 329, 330] (by decide +kernel) (by decide +kernel)) (goodIn_sub (fun _ h => List.mem_cons_of_mem _ (List.mem_append_left _ (List.mem_append_left _ (List.mem_append_right _ h)))) (by decide +kernel))) (goodIn_sub (fun _ h => List.mem_cons_of_mem _ (List.mem_append_right _ h)) (by decide +kernel))) (goodIn_sub (fun _ h => List.mem_cons_of_mem _ (List.mem_append_left _ (List.mem_append_right _ h))) (by decide +kernel))
set_option maxRecDepth 20000 in
theorem gL_acts_X6_perform : GoodIn wsL_acts (wsV RL 37 RX6 yX6_perform wsX6_perform) := goodIn_app (goodIn_of _ (by decide +kernel)) ggL_acts_X6_perform
set_option maxRecDepth 20000 in
theorem ggL_acts_X6_note : GoodIn wsL_acts wsX6_note := goodIn_ca (goodIn_ca (goodIn_ca (goodIn_r _ [285, 286, 287, 46, 47, 48, 5, 49, 50, 51, 18, 19, 20, 21, 22, 23, 24, 25, 26, 27, 28, 29, 30, 31, 32, 33, 34, 35, 36, 37, 38, 39, 40, 41, 42, 43, 44, 45, 214, 215, 216, 217, 218, 62, 63, 64, 65, 66, 307, 308, 309, 310, 311, 312, 313, 316, 317, 318, 319, 320, 321, 322, 323, 324, 325] (by decide +kernel) (by decide +kernel)) (goodIn_sub (fun _ h => List.mem_cons_of_mem _ (List.mem_append_left _ (List.mem_append_left _ (List.mem_append_right _ h)))) (by decide +kernel))) (goodIn_sub (fun _ h => List.mem_cons_of_mem _ (List.mem_append_right _ h)) (by decide +kernel))) (goodIn_sub (fun _ h => List.mem_cons_of_mem _ (List.mem_append_left _ (List.mem_append_right _ h))) (by decide +kernel))
set_option maxRecDepth 20000 in
theorem gL_acts_X6_note : GoodIn wsL_acts (wsV RL 40 RX6 yX6_note wsX6_note) := goodIn_app (goodIn_of _ (by decide +kernel)) ggL_acts_X6_note
set_option maxRecDepth 20000 in
theorem ggL_acts_X6_player : GoodIn wsL_acts wsX6_player := goodIn_ca (goodIn_ca (goodIn_r _ [291, 16, 292, 293, 75, 294, 214, 215, 5, 216, 217, 218, 18, 19, 20, 21, 22, 23, 62, 63, 64, 65, 66, 295, 296, 297, 298, 83, 84, 77, 299, 300, 88, 89, 90, 91, 92, 93, 45, 94, 95, 96, 97, 98, 99, 100, 101, 102, 103, 104, 105, 106, 107, 108, 109, 110, 111, 112, 113, 114, 115, 116, 117, 118, 119, 120, 121, 122, 123, 124, 125, 126, 127, 128, 129, 130, 131, 132, 133, 134, 135, 136, 137, 138, 139, 140, 316, 317, 318, 319, 320, 321, 322, 301, 302, 303, 304, 305, 306, 323, 324, 325] (by decide +kernel) (by decide +kernel)) (goodIn_sub (fun _ h => List.mem_cons_of_mem _ (List.mem_append_right _ h)) (by decide +kernel))) (goodIn_sub (fun _ h => List.mem_cons_of_mem _ (List.mem_append_left _ (List.mem_append_right _ h))) (by decide +kernel))
set_option maxRecDepth 20000 in
theorem gL_acts_X6_player : GoodIn wsL_acts (wsV RL 43 RX6 yX6_player wsX6_player) := goodIn_app (goodIn_of _ (by decide +kernel)) ggL_acts_X6_player
theorem dL_acts_0 : decode cL_acts 0 = .ok (.iload_n 3, 1) := by decide +kernel
theorem dL_acts_1 : decode cL_acts 1 = .ok (.ifCond .ne 12, 3) := by decide +kernel
theorem dL_acts_4 : decode cL_acts 4 = .ok (.aload_n 0, 1) := by decide +kernel
theorem dL_acts_5 : decode cL_acts 5 = .ok (.iload_n 1, 1) := by decide +kernel
theorem dL_acts_6 : decode cL_acts 6 = .ok (.iload_n 2, 1) := by decide +kernel
theorem dL_acts_7 : decode cL_acts 7 = .ok (.invokevirtual 23, 3) := by decide +kernel
theorem dL_acts_10 : decode cL_acts 10 = .ok (.goto 77, 3) := by decide +kernel
theorem dL_acts_13 : decode cL_acts 13 = .ok (.iload_n 3, 1) := by decide +kernel
theorem dL_acts_14 : decode cL_acts 14 = .ok (.iconst 1, 1) := by decide +kernel
theorem dL_acts_15 : decode cL_acts 15 = .ok (.if_icmp .ne 12, 3) := by decide +kernel
theorem dL_acts_18 : decode cL_acts 18 = .ok (.aload_n 0, 1) := by decide +kernel
theorem dL_acts_19 : decode cL_acts 19 = .ok (.iload_n 1, 1) := by decide +kernel
theorem dL_acts_20 : decode cL_acts 20 = .ok (.iload_n 2, 1) := by decide +kernel
theorem dL_acts_21 : decode cL_acts 21 = .ok (.invokevirtual 27, 3) := by decide +kernel
theorem dL_acts_24 : decode cL_acts 24 = .ok (.goto 63, 3) := by decide +kernel
theorem dL_acts_27 : decode cL_acts 27 = .ok (.iload_n 3, 1) := by decide +kernel
theorem dL_acts_28 : decode cL_acts 28 = .ok (.iconst 2, 1) := by decide +kernel
theorem dL_acts_29 : decode cL_acts 29 = .ok (.if_icmp .ne 11, 3) := by decide +kernel
theorem dL_acts_32 : decode cL_acts 32 = .ok (.aload_n 0, 1) := by decide +kernel
theorem dL_acts_33 : decode cL_acts 33 = .ok (.iload_n 1, 1) := by decide +kernel
theorem dL_acts_34 : decode cL_acts 34 = .ok (.invokevirtual 30, 3) := by decide +kernel
theorem dL_acts_37 : decode cL_acts 37 = .ok (.goto 50, 3) := by decide +kernel
theorem dL_acts_40 : decode cL_acts 40 = .ok (.iload_n 3, 1) := by decide +kernel
theorem dL_acts_41 : decode cL_acts 41 = .ok (.iconst 3, 1) := by decide +kernel
theorem dL_acts_42 : decode cL_acts 42 = .ok (.if_icmp .ne 12, 3) := by decide +kernel
theorem dL_acts_45 : decode cL_acts 45 = .ok (.aload_n 0, 1) := by decide +kernel
theorem dL_acts_46 : decode cL_acts 46 = .ok (.iload_n 1, 1) := by decide +kernel
theorem dL_acts_47 : decode cL_acts 47 = .ok (.iload_n 2, 1) := by decide +kernel
theorem dL_acts_48 : decode cL_acts 48 = .ok (.invokevirtual 34, 3) := by decide +kernel
theorem dL_acts_51 : decode cL_acts 51 = .ok (.goto 36, 3) := by decide +kernel
theorem dL_acts_54 : decode cL_acts 54 = .ok (.iload_n 3, 1) := by decide +kernel
theorem dL_acts_55 : decode cL_acts 55 = .ok (.iconst 4, 1) := by decide +kernel
theorem dL_acts_56 : decode cL_acts 56 = .ok (.if_icmp .ne 12, 3) := by decide +kernel
theorem dL_acts_59 : decode cL_acts 59 = .ok (.aload_n 0, 1) := by decide +kernel
theorem dL_acts_60 : decode cL_acts 60 = .ok (.iload_n 1, 1) := by decide +kernel
theorem dL_acts_61 : decode cL_acts 61 = .ok (.iload_n 2, 1) := by decide +kernel
theorem dL_acts_62 : decode cL_acts 62 = .ok (.invokevirtual 37, 3) := by decide +kernel
theorem dL_acts_65 : decode cL_acts 65 = .ok (.goto 22, 3) := by decide +kernel
theorem dL_acts_68 : decode cL_acts 68 = .ok (.iload_n 3, 1) := by decide +kernel
theorem dL_acts_69 : decode cL_acts 69 = .ok (.iconst 5, 1) := by decide +kernel
theorem dL_acts_70 : decode cL_acts 70 = .ok (.if_icmp .ne 12, 3) := by decide +kernel
theorem dL_acts_73 : decode cL_acts 73 = .ok (.aload_n 0, 1) := by decide +kernel
theorem dL_acts_74 : decode cL_acts 74 = .ok (.iload_n 1, 1) := by decide +kernel
theorem dL_acts_75 : decode cL_acts 75 = .ok (.iload_n 2, 1) := by decide +kernel
theorem dL_acts_76 : decode cL_acts 76 = .ok (.invokevirtual 40, 3) := by decide +kernel
theorem dL_acts_79 : decode cL_acts 79 = .ok (.goto 8, 3) := by decide +kernel
theorem dL_acts_82 : decode cL_acts 82 = .ok (.aload_n 0, 1) := by decide +kernel
theorem dL_acts_83 : decode cL_acts 83 = .ok (.iload_n 1, 1) := by decide +kernel
theorem dL_acts_84 : decode cL_acts 84 = .ok (.invokevirtual 43, 3) := by decide +kernel
theorem dL_acts_87 : decode cL_acts 87 = .ok (.ireturn, 1) := by decide +kernel
theorem dL_acts_88 : decode cL_acts 88 = .ok (.astore 4, 2) := by decide +kernel
theorem dL_acts_90 : decode cL_acts 90 = .ok (.sipush (-200), 3) := by decide +kernel
theorem dL_acts_93 : decode cL_acts 93 = .ok (.ireturn, 1) := by decide +kernel
set_option maxRecDepth 20000 in
theorem ggL_pans_X6_pan : GoodIn wsL_pans wsX6_pan := goodIn_ca (goodIn_ca (goodIn_r _ [6, 7, 8, 9, 10, 11, 12, 13, 14, 5, 15, 16, 17, 18, 19, 20, 21, 22, 23, 24, 25, 26, 27, 28, 29, 30, 31, 32, 33, 34, 35, 36, 37, 38, 39, 40, 41, 42, 43, 44, 45, 46, 47, 48, 49, 50, 51, 52, 53, 54, 55, 56, 57, 58, 59, 60, 61, 62, 63, 64, 65, 66, 67, 68, 69, 70, 71, 72, 73, 74, 75, 76, 77, 78, 79, 80, 81, 82, 83, 84, 85, 86, 87, 88, 89, 90, 91, 92, 93, 94, 95, 96, 97, 98, 99, 100, 101, 102, 103, 104, 105, 106, 107, 108, 109] (by decide +kernel) (by decide +kernel)) (goodIn_sub (fun _ h => List.mem_cons_of_mem _ (List.mem_append_left _ (List.mem_append_right _ h))) (by decide +kernel))) (goodIn_sub (fun _ h => List.mem_cons_of_mem _ (List.mem_append_right _ h)) (by decide +kernel))
set_option maxRecDepth 20000 in
theorem gL_pans_X6_pan : GoodIn wsL_pans (wsV RL 46 RX6 yX6_pan wsX6_pan) := goodIn_app (goodIn_of _ (by decide +kernel)) ggL_pans_X6_pan
theorem dL_pans_0 : decode cL_pans 0 = .ok (.aload_n 0, 1) := by decide +kernel
theorem dL_pans_1 : decode cL_pans 1 = .ok (.iload_n 1, 1) := by decide +kernel
theorem dL_pans_2 : decode cL_pans 2 = .ok (.iload_n 2, 1) := by decide +kernel
theorem dL_pans_3 : decode cL_pans 3 = .ok (.iload_n 3, 1) := by decide +kernel
theorem dL_pans_4 : decode cL_pans 4 = .ok (.iload 4, 2) := by decide +kernel
theorem dL_pans_6 : decode cL_pans 6 = .ok (.invokevirtual 46, 3) := by decide +kernel
theorem dL_pans_9 : decode cL_pans 9 = .ok (.ireturn, 1) := by decide +kernel
theorem dL_pans_10 : decode cL_pans 10 = .ok (.astore 5, 2) := by decide +kernel
theorem dL_pans_12 : decode cL_pans 12 = .ok (.sipush (-200), 3) := by decide +kernel
theorem dL_pans_15 : decode cL_pans 15 = .ok (.ireturn, 1) := by decide +kernel
set_option maxRecDepth 20000 in
theorem ggL_marks_X6_mark : GoodIn wsL_marks wsX6_mark := goodIn_ca (goodIn_ca (goodIn_ca (goodIn_r _ [6, 7, 8, 9, 10, 11, 5, 12, 13, 14, 15, 16, 17, 18, 19, 20, 21, 22, 23, 24, 25, 26, 27, 28, 29, 30, 31, 32, 33, 34, 35, 36, 37, 38, 39, 40, 41, 42, 43, 44, 45, 46, 47, 48, 49, 50, 51, 52, 53, 54, 55, 56, 57, 58, 59, 60, 61, 62, 63, 64, 65, 66, 67, 68, 69, 70, 71, 72, 73, 74, 75] (by decide +kernel) (by decide +kernel)) (goodIn_sub (fun _ h => List.mem_cons_of_mem _ (List.mem_append_left _ (List.mem_append_left _ (List.mem_append_right _ h)))) (by decide +kernel))) (goodIn_sub (fun _ h => List.mem_cons_of_mem _ (List.mem_append_left _ (List.mem_append_right _ h))) (by decide +kernel))) (goodIn_sub (fun _ h => List.mem_cons_of_mem _ (List.mem_append_right _ h)) (by decide +kernel))
set_option maxRecDepth 20000 in
theorem gL_marks_X6_mark : GoodIn wsL_marks (wsV RL 50 RX6 yX6_mark wsX6_mark) := goodIn_app (goodIn_of _ (by decide +kernel)) ggL_marks_X6_mark
theorem dL_marks_0 : decode cL_marks 0 = .ok (.aload_n 0, 1) := by decide +kernel
theorem dL_marks_1 : decode cL_marks 1 = .ok (.iload_n 1, 1) := by decide +kernel
theorem dL_marks_2 : decode cL_marks 2 = .ok (.iload_n 2, 1) := by decide +kernel
theorem dL_marks_3 : decode cL_marks 3 = .ok (.iload_n 3, 1) := by decide +kernel
theorem dL_marks_4 : decode cL_marks 4 = .ok (.invokevirtual 50, 3) := by decide +kernel
theorem dL_marks_7 : decode cL_marks 7 = .ok (.ireturn, 1) := by decide +kernel
theorem dL_marks_8 : decode cL_marks 8 = .ok (.astore 4, 2) := by decide +kernel
theorem dL_marks_10 : decode cL_marks 10 = .ok (.sipush (-200), 3) := by decide +kernel
theorem dL_marks_13 : decode cL_marks 13 = .ok (.ireturn, 1) := by decide +kernel
set_option maxRecDepth 20000 in
theorem ggL_scores_X6_score : GoodIn wsL_scores wsX6_score := goodIn_ca (goodIn_ca (goodIn_r _ [6, 7, 8, 9, 5, 10, 11, 12, 13, 14, 15, 16, 17, 18, 19, 20, 21, 22, 23, 24, 25, 26, 27, 28, 29, 30, 31, 32, 33, 34, 35, 36, 37, 38, 39, 40, 41, 42, 43, 44, 45, 46, 47, 48, 49, 50, 51, 52, 53, 54, 55, 56, 57, 58, 59, 60, 61, 62, 63, 64, 65, 66, 67, 68, 69, 70, 71, 72, 73, 74, 75, 76, 77, 78, 79, 80, 81, 82, 83, 84] (by decide +kernel) (by decide +kernel)) (goodIn_sub (fun _ h => List.mem_cons_of_mem _ (List.mem_append_left _ (List.mem_append_right _ h))) (by decide +kernel))) (goodIn_sub (fun _ h => List.mem_cons_of_mem _ (List.mem_append_right _ h)) (by decide +kernel))
set_option maxRecDepth 20000 in
theorem gL_scores_X6_score : GoodIn wsL_scores (wsV RL 54 RX6 yX6_score wsX6_score) := goodIn_app (goodIn_of _ (by decide +kernel)) ggL_scores_X6_score
theorem dL_scores_0 : decode cL_scores 0 = .ok (.aload_n 0, 1) := by decide +kernel
theorem dL_scores_1 : decode cL_scores 1 = .ok (.iload_n 1, 1) := by decide +kernel
theorem dL_scores_2 : decode cL_scores 2 = .ok (.invokevirtual 54, 3) := by decide +kernel
theorem dL_scores_5 : decode cL_scores 5 = .ok (.ireturn, 1) := by decide +kernel
theorem dL_scores_6 : decode cL_scores 6 = .ok (.astore_n 2, 1) := by decide +kernel
theorem dL_scores_7 : decode cL_scores 7 = .ok (.sipush (-2000), 3) := by decide +kernel
theorem dL_scores_10 : decode cL_scores 10 = .ok (.ireturn, 1) := by decide +kernel
set_option maxRecDepth 20000 in
theorem ggL_step_L_pans : GoodIn wsL_step wsL_pans := goodIn_ca (goodIn_ca (goodIn_r _ [4, 5, 6, 7, 8, 9, 10, 11, 12, 13, 14, 15, 16, 17, 18, 19, 20, 21, 22, 23, 24, 25, 26, 27, 28, 29, 30, 31, 32, 33, 34, 35, 36, 37, 38, 39, 40, 41, 42, 43, 44, 45, 46, 47, 48, 49, 50, 51, 52, 53, 54, 55, 56, 57, 58, 59, 60, 61, 62, 63, 64, 65, 66, 67, 68, 69, 70, 71, 72, 73, 74, 75, 76, 77, 78, 79, 80, 81, 82, 83, 84, 85, 86, 87, 88, 89, 90, 91, 92, 93, 94, 95, 96, 97, 98, 498, 499, 500, 501, 502, 503, 504, 505, 506, 507, 508, 509, 510, 511, 512] (by decide +kernel) (by decide +kernel)) (goodIn_sub (fun _ h => List.mem_cons_of_mem _ (List.mem_append_left _ (List.mem_append_left _ (List.mem_append_right _ h)))) (by decide +kernel))) (goodIn_sub (fun _ h => List.mem_cons_of_mem _ (List.mem_append_left _ (List.mem_append_right _ h))) (by decide +kernel))
set_option maxRecDepth 20000 in
theorem gL_step_L_pans : GoodIn wsL_step (va_wsS RL 57 yL_pans wsL_pans) := goodIn_app (goodIn_of _ (by decide +kernel)) ggL_step_L_pans
set_option maxRecDepth 20000 in
theorem ggL_step_X6_field : GoodIn wsL_step wsX6_field := goodIn_ca (goodIn_ca (goodIn_r _ [102, 15, 103, 104, 105, 106, 107, 108, 9, 109, 11, 110, 22, 23, 24, 25, 26, 27, 111, 112, 113, 114, 115, 116, 117, 118, 119, 120, 121, 122, 123, 124, 125, 126, 127, 128, 129, 130, 131, 51, 17, 18, 19, 20, 21, 132, 133, 134, 14, 135, 41, 505, 506, 507, 508, 509, 498, 499, 500, 501, 502, 503, 504, 510, 511, 512] (by decide +kernel) (by decide +kernel)) (goodIn_sub (fun _ h => List.mem_cons_of_mem _ (List.mem_append_right _ h)) (by decide +kernel))) (goodIn_sub (fun _ h => List.mem_cons_of_mem _ (List.mem_append_left _ (List.mem_append_left _ (List.mem_append_right _ h)))) (by decide +kernel))
set_option maxRecDepth 20000 in
theorem gL_step_X6_field : GoodIn wsL_step (wsV RL 63 RX6 yX6_field wsX6_field) := goodIn_app (goodIn_of _ (by decide +kernel)) ggL_step_X6_field
set_option maxRecDepth 20000 in
theorem ggL_step_L_acts : GoodIn wsL_step wsL_acts := goodIn_ca (goodIn_ca (goodIn_ca (goodIn_r _ [138, 5, 139, 140, 141, 9, 142, 143, 144, 145, 146, 147, 148, 149, 150, 151, 152, 153, 22, 23, 24, 25, 26, 27, 111, 112, 113, 114, 115, 116, 117, 118, 119, 120, 121, 122, 123, 124, 125, 126, 127, 128, 129, 130, 131, 51, 154, 155, 156, 157, 158, 159, 160, 161, 162, 163, 164, 165, 166, 167, 168, 169, 28, 29, 30, 31, 32, 170, 171, 172, 173, 174, 175, 176, 177, 178, 179, 180, 181, 182, 183, 184, 185, 37, 38, 39, 186, 187, 45, 46, 47, 48, 49, 50, 52, 53, 54, 55, 56, 57, 58, 59, 60, 61, 62, 63, 64, 65, 66, 67, 68, 69, 70, 71, 72, 73, 74, 75, 76, 77, 78, 79, 80, 81, 82, 83, 84, 85, 86, 87, 88, 89, 90, 91, 92, 93, 94, 95, 96, 97, 98, 188, 189, 190, 191, 192, 193, 194, 195, 196, 197, 198, 199, 200, 201, 202, 203, 204, 205, 206, 207, 208, 16, 209, 210, 211, 212, 213, 214, 215, 216, 217, 218, 219, 220, 221, 222, 223, 224, 225, 226, 227, 228, 229, 230, 231, 232, 233, 234, 235, 236, 237, 238, 239, 240, 241, 242, 243, 14, 244, 40, 245, 246, 247, 248, 249, 250, 251, 252, 253, 254, 103, 255, 256, 17, 18, 19, 20, 21, 257, 258, 259, 260, 261, 262, 263, 264, 265, 266, 267, 268, 269, 270, 271, 272, 273, 274, 275, 276, 277, 278, 279, 280, 281, 282, 283, 284, 285, 286, 287, 288, 289, 290, 291, 292, 293, 294, 295, 296, 297, 298, 299, 300, 301, 302, 303, 304, 305, 306, 307, 308, 309, 310, 311, 312, 313, 314, 315, 133, 134, 135, 41, 316, 317, 318, 319, 320, 321, 322, 323, 324, 325, 326, 327, 328, 329, 330, 331, 332, 333, 334, 513, 514, 515, 516, 517, 518, 519, 520, 521, 522, 523, 524, 525, 526, 527, 498, 499, 500, 501, 502, 503, 504, 510, 511, 512, 505, 506, 507, 508, 509, 528, 529] (by decide +kernel) (by decide +kernel)) (goodIn_sub (fun _ h => List.mem_cons_of_mem _ (List.mem_append_right _ h)) (by decide +kernel))) (goodIn_sub (fun _ h => List.mem_cons_of_mem _ (List.mem_append_left _ (List.mem_append_right _ h))) (by decide +kernel))) (goodIn_sub (fun _ h => List.mem_cons_of_mem _ (List.mem_append_left _ (List.mem_append_left _ (List.mem_append_right _ h)))) (by decide +kernel))
set_option maxRecDepth 20000 in
theorem gL_step_L_acts : GoodIn wsL_step (va_wsS RL 66 yL_acts wsL_acts) := goodIn_app (goodIn_of _ (by decide +kernel)) ggL_step_L_acts
set_option maxRecDepth 20000 in
theorem ggL_step_X6_ofPlayer : GoodIn wsL_step wsX6_ofPlayer := goodIn_ca (goodIn_ca (goodIn_r _ [338, 339, 143, 207, 16, 148, 149, 150, 9, 151, 152, 153, 22, 23, 24, 25, 26, 27, 111, 112, 113, 114, 115, 116, 117, 118, 119, 120, 121, 122, 123, 124, 125, 126, 127, 128, 129, 130, 131, 51, 17, 18, 19, 20, 21, 513, 514, 515, 516, 517, 518, 505, 506, 507, 508, 509, 498, 499, 500, 501, 502, 503, 504, 510, 511, 512] (by decide +kernel) (by decide +kernel)) (goodIn_sub (fun _ h => List.mem_cons_of_mem _ (List.mem_append_right _ h)) (by decide +kernel))) (goodIn_sub (fun _ h => List.mem_cons_of_mem _ (List.mem_append_left _ (List.mem_append_left _ (List.mem_append_right _ h)))) (by decide +kernel))
set_option maxRecDepth 20000 in
theorem gL_step_X6_ofPlayer : GoodIn wsL_step (wsV RL 70 RX6 yX6_ofPlayer wsX6_ofPlayer) := goodIn_app (goodIn_of _ (by decide +kernel)) ggL_step_X6_ofPlayer
set_option maxRecDepth 20000 in
theorem ggL_step_L_isBeaten : GoodIn wsL_step wsL_isBeaten := goodIn_ca (goodIn_ca (goodIn_ca (goodIn_r _ [342, 343, 99, 100, 101, 9, 102, 15, 103, 104, 105, 106, 107, 108, 109, 11, 110, 22, 23, 24, 25, 26, 27, 111, 112, 113, 114, 115, 116, 117, 118, 119, 120, 121, 122, 123, 124, 125, 126, 127, 128, 129, 130, 131, 51, 17, 18, 19, 20, 21, 132, 133, 134, 14, 135, 41, 344, 345, 3, 346, 5, 347, 348, 349, 350, 351, 352, 353, 354, 43, 315, 28, 29, 30, 31, 32, 355, 356, 357, 358, 40, 505, 506, 507, 508, 509, 498, 499, 500, 501, 502, 503, 504, 510, 511, 512] (by decide +kernel) (by decide +kernel)) (goodIn_sub (fun _ h => List.mem_cons_of_mem _ (List.mem_append_right _ h)) (by decide +kernel))) (goodIn_sub (fun _ h => List.mem_cons_of_mem _ (List.mem_append_left _ (List.mem_append_left _ (List.mem_append_right _ h)))) (by decide +kernel))) (goodIn_sub (fun _ h => List.mem_cons_of_mem _ (List.mem_append_left _ (List.mem_append_right _ h))) (by decide +kernel))
set_option maxRecDepth 20000 in
theorem gL_step_L_isBeaten : GoodIn wsL_step (va_wsS RL 73 yL_isBeaten wsL_isBeaten) := goodIn_app (goodIn_of _ (by decide +kernel)) ggL_step_L_isBeaten
set_option maxRecDepth 20000 in
theorem ggL_step_X6_heat : GoodIn wsL_step wsX6_heat := goodIn_ca (goodIn_r _ [362, 103, 17, 18, 9, 19, 20, 21, 498, 499, 500, 501, 502, 503, 504] (by decide +kernel) (by decide +kernel)) (goodIn_sub (fun _ h => List.mem_cons_of_mem _ (List.mem_append_left _ (List.mem_append_left _ (List.mem_append_right _ h)))) (by decide +kernel))
set_option maxRecDepth 20000 in
theorem gL_step_X6_heat : GoodIn wsL_step (wsV RL 77 RX6 yX6_heat wsX6_heat) := goodIn_app (goodIn_of _ (by decide +kernel)) ggL_step_X6_heat
set_option maxRecDepth 20000 in
theorem ggL_step_L_isPlanned : GoodIn wsL_step wsL_isPlanned := goodIn_ca (goodIn_ca (goodIn_ca (goodIn_r _ [365, 343, 366, 367, 368, 9, 369, 370, 103, 371, 106, 107, 108, 109, 11, 110, 22, 23, 24, 25, 26, 27, 111, 112, 113, 114, 115, 116, 117, 118, 119, 120, 121, 122, 123, 124, 125, 126, 127, 128, 129, 130, 131, 51, 17, 18, 19, 20, 21, 372, 373, 374, 375, 376, 377, 378, 379, 380, 381, 382, 383, 311, 312, 14, 313, 40, 314, 288, 67, 289, 315, 133, 134, 135, 41, 384, 385, 386, 352, 353, 354, 43, 387, 388, 389, 390, 391, 356, 357, 358, 392, 393, 394, 395, 396, 344, 345, 3, 346, 5, 347, 348, 349, 350, 15, 351, 28, 29, 30, 31, 32, 355, 498, 499, 500, 501, 502, 503, 504, 530, 531, 510, 511, 512, 505, 506, 507, 508, 509] (by decide +kernel) (by decide +kernel)) (goodIn_sub (fun _ h => List.mem_cons_of_mem _ (List.mem_append_right _ h)) (by decide +kernel))) (goodIn_sub (fun _ h => List.mem_cons_of_mem _ (List.mem_append_left _ (List.mem_append_left _ (List.mem_append_right _ h)))) (by decide +kernel))) (goodIn_sub (fun _ h => List.mem_cons_of_mem _ (List.mem_append_left _ (List.mem_append_right _ h))) (by decide +kernel))
set_option maxRecDepth 20000 in
theorem gL_step_L_isPlanned : GoodIn wsL_step (va_wsS RL 80 yL_isPlanned wsL_isPlanned) := goodIn_app (goodIn_of _ (by decide +kernel)) ggL_step_L_isPlanned
set_option maxRecDepth 20000 in
theorem ggL_step_X6_ofBand : GoodIn wsL_step wsX6_ofBand := goodIn_ca (goodIn_ca (goodIn_r _ [400, 144, 320, 253, 213, 174, 154, 155, 156, 9, 157, 158, 159, 22, 23, 24, 25, 26, 27, 111, 112, 113, 114, 115, 116, 117, 118, 119, 120, 121, 122, 123, 124, 125, 126, 127, 128, 129, 130, 131, 51, 17, 18, 19, 20, 21, 217, 218, 219, 163, 220, 221, 519, 520, 521, 522, 523, 524, 525, 498, 499, 500, 501, 502, 503, 504, 510, 511, 512] (by decide +kernel) (by decide +kernel)) (goodIn_sub (fun _ h => List.mem_cons_of_mem _ (List.mem_append_right _ h)) (by decide +kernel))) (goodIn_sub (fun _ h => List.mem_cons_of_mem _ (List.mem_append_left _ (List.mem_append_left _ (List.mem_append_right _ h)))) (by decide +kernel))
