set_option maxRecDepth 20000 in
theorem gL_hasPerformed_L_acts : GoodIn wsL_hasPerformed (va_wsS RL 66 yL_acts wsL_acts) := goodIn_app (goodIn_of _ (by decide +kernel)) ggL_hasPerformed_L_acts
theorem dL_hasPerformed_0 : decode cL_hasPerformed 0 = .ok (.aload_n 0, 1) := by decide +kernel
theorem dL_hasPerformed_1 : decode cL_hasPerformed 1 = .ok (.iload_n 1, 1) := by decide +kernel
theorem dL_hasPerformed_2 : decode cL_hasPerformed 2 = .ok (.iconst 3, 1) := by decide +kernel
theorem dL_hasPerformed_3 : decode cL_hasPerformed 3 = .ok (.invokevirtual 84, 3) := by decide +kernel
theorem dL_hasPerformed_6 : decode cL_hasPerformed 6 = .ok (.istore_n 3, 1) := by decide +kernel
theorem dL_hasPerformed_7 : decode cL_hasPerformed 7 = .ok (.aload_n 0, 1) := by decide +kernel
theorem dL_hasPerformed_8 : decode cL_hasPerformed 8 = .ok (.iload_n 1, 1) := by decide +kernel
theorem dL_hasPerformed_9 : decode cL_hasPerformed 9 = .ok (.invokevirtual 98, 3) := by decide +kernel
theorem dL_hasPerformed_12 : decode cL_hasPerformed 12 = .ok (.istore 4, 2) := by decide +kernel
theorem dL_hasPerformed_14 : decode cL_hasPerformed 14 = .ok (.aload_n 0, 1) := by decide +kernel
theorem dL_hasPerformed_15 : decode cL_hasPerformed 15 = .ok (.iload_n 1, 1) := by decide +kernel
theorem dL_hasPerformed_16 : decode cL_hasPerformed 16 = .ok (.iload_n 2, 1) := by decide +kernel
theorem dL_hasPerformed_17 : decode cL_hasPerformed 17 = .ok (.iconst 4, 1) := by decide +kernel
theorem dL_hasPerformed_18 : decode cL_hasPerformed 18 = .ok (.invokestatic 66, 3) := by decide +kernel
theorem dL_hasPerformed_21 : decode cL_hasPerformed 21 = .ok (.istore 5, 2) := by decide +kernel
theorem dL_hasPerformed_23 : decode cL_hasPerformed 23 = .ok (.iload 5, 2) := by decide +kernel
theorem dL_hasPerformed_25 : decode cL_hasPerformed 25 = .ok (.sipush (-200), 3) := by decide +kernel
theorem dL_hasPerformed_28 : decode cL_hasPerformed 28 = .ok (.if_icmp .ne 30, 3) := by decide +kernel
theorem dL_hasPerformed_31 : decode cL_hasPerformed 31 = .ok (.iload_n 3, 1) := by decide +kernel
theorem dL_hasPerformed_32 : decode cL_hasPerformed 32 = .ok (.iconst (-1), 1) := by decide +kernel
theorem dL_hasPerformed_33 : decode cL_hasPerformed 33 = .ok (.if_icmp .ne 9, 3) := by decide +kernel
theorem dL_hasPerformed_36 : decode cL_hasPerformed 36 = .ok (.iload 4, 2) := by decide +kernel
theorem dL_hasPerformed_38 : decode cL_hasPerformed 38 = .ok (.iconst (-1), 1) := by decide +kernel
theorem dL_hasPerformed_39 : decode cL_hasPerformed 39 = .ok (.if_icmp .ne 17, 3) := by decide +kernel
theorem dL_hasPerformed_42 : decode cL_hasPerformed 42 = .ok (.aload_n 0, 1) := by decide +kernel
theorem dL_hasPerformed_43 : decode cL_hasPerformed 43 = .ok (.iload_n 1, 1) := by decide +kernel
theorem dL_hasPerformed_44 : decode cL_hasPerformed 44 = .ok (.iconst 3, 1) := by decide +kernel
theorem dL_hasPerformed_45 : decode cL_hasPerformed 45 = .ok (.invokevirtual 84, 3) := by decide +kernel
theorem dL_hasPerformed_48 : decode cL_hasPerformed 48 = .ok (.iload_n 3, 1) := by decide +kernel
theorem dL_hasPerformed_49 : decode cL_hasPerformed 49 = .ok (.if_icmp .ne 7, 3) := by decide +kernel
theorem dL_hasPerformed_52 : decode cL_hasPerformed 52 = .ok (.iconst 1, 1) := by decide +kernel
theorem dL_hasPerformed_53 : decode cL_hasPerformed 53 = .ok (.goto 4, 3) := by decide +kernel
theorem dL_hasPerformed_56 : decode cL_hasPerformed 56 = .ok (.iconst 0, 1) := by decide +kernel
theorem dL_hasPerformed_57 : decode cL_hasPerformed 57 = .ok (.ireturn, 1) := by decide +kernel
theorem dL_hasPerformed_58 : decode cL_hasPerformed 58 = .ok (.iload_n 3, 1) := by decide +kernel
theorem dL_hasPerformed_59 : decode cL_hasPerformed 59 = .ok (.iconst (-1), 1) := by decide +kernel
theorem dL_hasPerformed_60 : decode cL_hasPerformed 60 = .ok (.if_icmp .ne 49, 3) := by decide +kernel
theorem dL_hasPerformed_63 : decode cL_hasPerformed 63 = .ok (.iload 5, 2) := by decide +kernel
theorem dL_hasPerformed_65 : decode cL_hasPerformed 65 = .ok (.iload 4, 2) := by decide +kernel
theorem dL_hasPerformed_67 : decode cL_hasPerformed 67 = .ok (.if_icmp .lt 42, 3) := by decide +kernel
theorem dL_hasPerformed_70 : decode cL_hasPerformed 70 = .ok (.iload 5, 2) := by decide +kernel
theorem dL_hasPerformed_72 : decode cL_hasPerformed 72 = .ok (.iload 4, 2) := by decide +kernel
theorem dL_hasPerformed_74 : decode cL_hasPerformed 74 = .ok (.isub, 1) := by decide +kernel
theorem dL_hasPerformed_75 : decode cL_hasPerformed 75 = .ok (.bipush 10, 2) := by decide +kernel
theorem dL_hasPerformed_77 : decode cL_hasPerformed 77 = .ok (.irem, 1) := by decide +kernel
theorem dL_hasPerformed_78 : decode cL_hasPerformed 78 = .ok (.ifCond .ne 31, 3) := by decide +kernel
theorem dL_hasPerformed_81 : decode cL_hasPerformed 81 = .ok (.aload_n 0, 1) := by decide +kernel
theorem dL_hasPerformed_82 : decode cL_hasPerformed 82 = .ok (.iload_n 1, 1) := by decide +kernel
theorem dL_hasPerformed_83 : decode cL_hasPerformed 83 = .ok (.iconst 3, 1) := by decide +kernel
theorem dL_hasPerformed_84 : decode cL_hasPerformed 84 = .ok (.invokevirtual 84, 3) := by decide +kernel
theorem dL_hasPerformed_87 : decode cL_hasPerformed 87 = .ok (.iload 5, 2) := by decide +kernel
theorem dL_hasPerformed_89 : decode cL_hasPerformed 89 = .ok (.if_icmp .ne 20, 3) := by decide +kernel
theorem dL_hasPerformed_92 : decode cL_hasPerformed 92 = .ok (.aload_n 0, 1) := by decide +kernel
theorem dL_hasPerformed_93 : decode cL_hasPerformed 93 = .ok (.iload_n 1, 1) := by decide +kernel
theorem dL_hasPerformed_94 : decode cL_hasPerformed 94 = .ok (.iload_n 2, 1) := by decide +kernel
theorem dL_hasPerformed_95 : decode cL_hasPerformed 95 = .ok (.iconst 4, 1) := by decide +kernel
theorem dL_hasPerformed_96 : decode cL_hasPerformed 96 = .ok (.invokestatic 66, 3) := by decide +kernel
theorem dL_hasPerformed_99 : decode cL_hasPerformed 99 = .ok (.sipush (-200), 3) := by decide +kernel
theorem dL_hasPerformed_102 : decode cL_hasPerformed 102 = .ok (.if_icmp .ne 7, 3) := by decide +kernel
theorem dL_hasPerformed_105 : decode cL_hasPerformed 105 = .ok (.iconst 1, 1) := by decide +kernel
theorem dL_hasPerformed_106 : decode cL_hasPerformed 106 = .ok (.goto 4, 3) := by decide +kernel
theorem dL_hasPerformed_109 : decode cL_hasPerformed 109 = .ok (.iconst 0, 1) := by decide +kernel
theorem dL_hasPerformed_110 : decode cL_hasPerformed 110 = .ok (.ireturn, 1) := by decide +kernel
set_option maxRecDepth 20000 in
theorem ggL_areRanked_X6_rank : GoodIn wsL_areRanked wsX6_rank := goodIn_ca (goodIn_r _ [5, 6, 7, 8, 9, 4, 10, 11, 12, 13, 14, 15, 16, 17, 18, 19, 20, 21, 22, 23, 24, 25, 26, 27, 28, 29, 30, 31, 32, 33, 34, 35, 36, 37, 38, 39, 40, 41, 42, 43, 44, 45, 46, 47, 48, 49, 50, 51, 52, 53, 54, 55, 56, 57, 58, 59, 60, 61, 62, 63, 64, 65, 66, 67, 68, 69, 70, 103, 104, 105, 106, 107, 108, 109, 110, 111, 112, 113, 114, 115, 116, 117, 118, 119] (by decide +kernel) (by decide +kernel)) (goodIn_sub (fun _ h => List.mem_cons_of_mem _ (List.mem_append_left _ (List.mem_append_left _ (List.mem_append_right _ h)))) (by decide +kernel))
set_option maxRecDepth 20000 in
theorem gL_areRanked_X6_rank : GoodIn wsL_areRanked (wsV RL 150 RX6 yX6_rank wsX6_rank) := goodIn_app (goodIn_of _ (by decide +kernel)) ggL_areRanked_X6_rank
set_option maxRecDepth 20000 in
theorem ggL_areRanked_L_scores : GoodIn wsL_areRanked wsL_scores := goodIn_ca (goodIn_ca (goodIn_r _ [74, 75, 76, 77, 78, 4, 79, 55, 56, 57, 58, 6, 7, 13, 14, 15, 16, 17, 18, 8, 9, 10, 11, 12, 19, 20, 21, 22, 23, 24, 25, 26, 27, 28, 29, 30, 31, 32, 33, 34, 35, 36, 37, 38, 39, 40, 41, 42, 43, 44, 45, 80, 81, 82, 83, 84, 59, 60, 61, 62, 63, 64, 65, 66, 67, 68, 69, 70, 103, 104, 105, 106, 107, 108, 109, 110, 111, 112, 113, 114, 115, 116, 117, 118, 119] (by decide +kernel) (by decide +kernel)) (goodIn_sub (fun _ h => List.mem_cons_of_mem _ (List.mem_append_left _ (List.mem_append_left _ (List.mem_append_right _ h)))) (by decide +kernel))) (goodIn_sub (fun _ h => List.mem_cons_of_mem _ (List.mem_append_left _ (List.mem_append_right _ h))) (by decide +kernel))
set_option maxRecDepth 20000 in
theorem gL_areRanked_L_scores : GoodIn wsL_areRanked (va_wsS RL 119 yL_scores wsL_scores) := goodIn_app (goodIn_of _ (by decide +kernel)) ggL_areRanked_L_scores
set_option maxRecDepth 20000 in
theorem ggL_areRanked_X6_ofBand : GoodIn wsL_areRanked wsX6_ofBand := goodIn_ca (goodIn_ca (goodIn_r _ [88, 89, 90, 54, 91, 92, 55, 56, 57, 4, 58, 6, 7, 13, 14, 15, 16, 17, 18, 8, 9, 10, 11, 12, 19, 20, 21, 22, 23, 24, 25, 26, 27, 28, 29, 30, 31, 32, 33, 34, 35, 93, 94, 95, 96, 97, 98, 99, 100, 39, 101, 102, 113, 114, 115, 116, 117, 118, 119, 103, 104, 105, 106, 107, 108, 109, 110, 111, 112] (by decide +kernel) (by decide +kernel)) (goodIn_sub (fun _ h => List.mem_cons_of_mem _ (List.mem_append_left _ (List.mem_append_left _ (List.mem_append_right _ h)))) (by decide +kernel))) (goodIn_sub (fun _ h => List.mem_cons_of_mem _ (List.mem_append_right _ h)) (by decide +kernel))
set_option maxRecDepth 20000 in
theorem gL_areRanked_X6_ofBand : GoodIn wsL_areRanked (wsV RL 84 RX6 yX6_ofBand wsX6_ofBand) := goodIn_app (goodIn_of _ (by decide +kernel)) ggL_areRanked_X6_ofBand
theorem dL_areRanked_0 : decode cL_areRanked 0 = .ok (.iconst 1, 1) := by decide +kernel
theorem dL_areRanked_1 : decode cL_areRanked 1 = .ok (.istore_n 1, 1) := by decide +kernel
theorem dL_areRanked_2 : decode cL_areRanked 2 = .ok (.iconst 0, 1) := by decide +kernel
theorem dL_areRanked_3 : decode cL_areRanked 3 = .ok (.istore_n 2, 1) := by decide +kernel
theorem dL_areRanked_4 : decode cL_areRanked 4 = .ok (.iload_n 2, 1) := by decide +kernel
theorem dL_areRanked_5 : decode cL_areRanked 5 = .ok (.iconst 3, 1) := by decide +kernel
theorem dL_areRanked_6 : decode cL_areRanked 6 = .ok (.if_icmp .ge 125, 3) := by decide +kernel
theorem dL_areRanked_9 : decode cL_areRanked 9 = .ok (.iload_n 1, 1) := by decide +kernel
theorem dL_areRanked_10 : decode cL_areRanked 10 = .ok (.ifCond .eq 121, 3) := by decide +kernel
theorem dL_areRanked_13 : decode cL_areRanked 13 = .ok (.aload_n 0, 1) := by decide +kernel
theorem dL_areRanked_14 : decode cL_areRanked 14 = .ok (.iload_n 2, 1) := by decide +kernel
theorem dL_areRanked_15 : decode cL_areRanked 15 = .ok (.invokevirtual 150, 3) := by decide +kernel
theorem dL_areRanked_18 : decode cL_areRanked 18 = .ok (.istore_n 3, 1) := by decide +kernel
theorem dL_areRanked_19 : decode cL_areRanked 19 = .ok (.aload_n 0, 1) := by decide +kernel
theorem dL_areRanked_20 : decode cL_areRanked 20 = .ok (.iload_n 2, 1) := by decide +kernel
theorem dL_areRanked_21 : decode cL_areRanked 21 = .ok (.iconst 1, 1) := by decide +kernel
theorem dL_areRanked_22 : decode cL_areRanked 22 = .ok (.iadd, 1) := by decide +kernel
theorem dL_areRanked_23 : decode cL_areRanked 23 = .ok (.invokevirtual 150, 3) := by decide +kernel
theorem dL_areRanked_26 : decode cL_areRanked 26 = .ok (.istore 4, 2) := by decide +kernel
theorem dL_areRanked_28 : decode cL_areRanked 28 = .ok (.iload_n 3, 1) := by decide +kernel
theorem dL_areRanked_29 : decode cL_areRanked 29 = .ok (.iconst (-1), 1) := by decide +kernel
theorem dL_areRanked_30 : decode cL_areRanked 30 = .ok (.if_icmp .ne 17, 3) := by decide +kernel
theorem dL_areRanked_33 : decode cL_areRanked 33 = .ok (.iload 4, 2) := by decide +kernel
theorem dL_areRanked_35 : decode cL_areRanked 35 = .ok (.iconst (-1), 1) := by decide +kernel
theorem dL_areRanked_36 : decode cL_areRanked 36 = .ok (.if_icmp .ne 7, 3) := by decide +kernel
theorem dL_areRanked_39 : decode cL_areRanked 39 = .ok (.iconst 1, 1) := by decide +kernel
theorem dL_areRanked_40 : decode cL_areRanked 40 = .ok (.goto 84, 3) := by decide +kernel
theorem dL_areRanked_43 : decode cL_areRanked 43 = .ok (.iconst 0, 1) := by decide +kernel
theorem dL_areRanked_44 : decode cL_areRanked 44 = .ok (.goto 80, 3) := by decide +kernel
theorem dL_areRanked_47 : decode cL_areRanked 47 = .ok (.iload 4, 2) := by decide +kernel
theorem dL_areRanked_49 : decode cL_areRanked 49 = .ok (.iconst (-1), 1) := by decide +kernel
theorem dL_areRanked_50 : decode cL_areRanked 50 = .ok (.if_icmp .eq 69, 3) := by decide +kernel
theorem dL_areRanked_53 : decode cL_areRanked 53 = .ok (.aload_n 0, 1) := by decide +kernel
theorem dL_areRanked_54 : decode cL_areRanked 54 = .ok (.iload_n 3, 1) := by decide +kernel
theorem dL_areRanked_55 : decode cL_areRanked 55 = .ok (.invokestatic 119, 3) := by decide +kernel
theorem dL_areRanked_58 : decode cL_areRanked 58 = .ok (.aload_n 0, 1) := by decide +kernel
theorem dL_areRanked_59 : decode cL_areRanked 59 = .ok (.iload 4, 2) := by decide +kernel
theorem dL_areRanked_61 : decode cL_areRanked 61 = .ok (.invokestatic 119, 3) := by decide +kernel
theorem dL_areRanked_64 : decode cL_areRanked 64 = .ok (.if_icmp .gt 55, 3) := by decide +kernel
theorem dL_areRanked_67 : decode cL_areRanked 67 = .ok (.aload_n 0, 1) := by decide +kernel
theorem dL_areRanked_68 : decode cL_areRanked 68 = .ok (.iload_n 3, 1) := by decide +kernel
theorem dL_areRanked_69 : decode cL_areRanked 69 = .ok (.invokestatic 119, 3) := by decide +kernel
theorem dL_areRanked_72 : decode cL_areRanked 72 = .ok (.aload_n 0, 1) := by decide +kernel
theorem dL_areRanked_73 : decode cL_areRanked 73 = .ok (.iload 4, 2) := by decide +kernel
theorem dL_areRanked_75 : decode cL_areRanked 75 = .ok (.invokestatic 119, 3) := by decide +kernel
theorem dL_areRanked_78 : decode cL_areRanked 78 = .ok (.if_icmp .ne 45, 3) := by decide +kernel
theorem dL_areRanked_81 : decode cL_areRanked 81 = .ok (.aload_n 0, 1) := by decide +kernel
theorem dL_areRanked_82 : decode cL_areRanked 82 = .ok (.iload_n 3, 1) := by decide +kernel
theorem dL_areRanked_83 : decode cL_areRanked 83 = .ok (.iconst 3, 1) := by decide +kernel
theorem dL_areRanked_84 : decode cL_areRanked 84 = .ok (.invokevirtual 84, 3) := by decide +kernel
theorem dL_areRanked_87 : decode cL_areRanked 87 = .ok (.aload_n 0, 1) := by decide +kernel
theorem dL_areRanked_88 : decode cL_areRanked 88 = .ok (.iload 4, 2) := by decide +kernel
theorem dL_areRanked_90 : decode cL_areRanked 90 = .ok (.iconst 3, 1) := by decide +kernel
theorem dL_areRanked_91 : decode cL_areRanked 91 = .ok (.invokevirtual 84, 3) := by decide +kernel
theorem dL_areRanked_94 : decode cL_areRanked 94 = .ok (.if_icmp .lt 25, 3) := by decide +kernel
theorem dL_areRanked_97 : decode cL_areRanked 97 = .ok (.aload_n 0, 1) := by decide +kernel
theorem dL_areRanked_98 : decode cL_areRanked 98 = .ok (.iload_n 3, 1) := by decide +kernel
theorem dL_areRanked_99 : decode cL_areRanked 99 = .ok (.iconst 3, 1) := by decide +kernel
theorem dL_areRanked_100 : decode cL_areRanked 100 = .ok (.invokevirtual 84, 3) := by decide +kernel
theorem dL_areRanked_103 : decode cL_areRanked 103 = .ok (.aload_n 0, 1) := by decide +kernel
theorem dL_areRanked_104 : decode cL_areRanked 104 = .ok (.iload 4, 2) := by decide +kernel
theorem dL_areRanked_106 : decode cL_areRanked 106 = .ok (.iconst 3, 1) := by decide +kernel
theorem dL_areRanked_107 : decode cL_areRanked 107 = .ok (.invokevirtual 84, 3) := by decide +kernel
theorem dL_areRanked_110 : decode cL_areRanked 110 = .ok (.if_icmp .ne 13, 3) := by decide +kernel
theorem dL_areRanked_113 : decode cL_areRanked 113 = .ok (.iload_n 3, 1) := by decide +kernel
theorem dL_areRanked_114 : decode cL_areRanked 114 = .ok (.iload 4, 2) := by decide +kernel
theorem dL_areRanked_116 : decode cL_areRanked 116 = .ok (.if_icmp .ge 7, 3) := by decide +kernel
theorem dL_areRanked_119 : decode cL_areRanked 119 = .ok (.iconst 1, 1) := by decide +kernel
theorem dL_areRanked_120 : decode cL_areRanked 120 = .ok (.goto 4, 3) := by decide +kernel
theorem dL_areRanked_123 : decode cL_areRanked 123 = .ok (.iconst 0, 1) := by decide +kernel
theorem dL_areRanked_124 : decode cL_areRanked 124 = .ok (.istore_n 1, 1) := by decide +kernel
theorem dL_areRanked_125 : decode cL_areRanked 125 = .ok (.iinc 2 1, 3) := by decide +kernel
theorem dL_areRanked_128 : decode cL_areRanked 128 = .ok (.goto (-124), 3) := by decide +kernel
theorem dL_areRanked_131 : decode cL_areRanked 131 = .ok (.iload_n 1, 1) := by decide +kernel
theorem dL_areRanked_132 : decode cL_areRanked 132 = .ok (.ireturn, 1) := by decide +kernel
set_option maxRecDepth 20000 in
theorem ggL_law_X6_init : GoodIn wsL_law wsX6_init := goodIn_r _ [6, 7, 8, 9, 10, 11, 12, 13, 14, 15, 16, 17, 18, 19, 20, 21, 22, 23, 24, 25, 26, 27, 28, 29, 30, 31, 32, 33, 34, 35, 36, 37, 38, 39, 40, 41, 42, 43, 44, 45, 3, 46, 47, 48, 49, 50, 51, 52, 53, 54, 55, 56, 57, 58, 59, 60, 61, 62, 63, 64, 65, 66, 67, 68, 69, 70, 71, 72, 73, 74, 75, 76, 77, 78, 79, 80, 81, 82, 83, 84, 85, 86, 87, 88, 89, 90, 91, 92, 93, 94, 95, 96, 97, 98, 99, 100, 101, 102, 103, 104, 105, 106, 107, 108, 109, 110, 111, 112, 113, 114, 115, 116, 117, 118, 119, 120, 121, 122, 123, 124, 125, 126, 127, 128, 129, 130, 131, 132, 133, 134, 135, 584, 585, 586, 577, 578, 579, 580, 581, 582, 583, 587, 588, 589, 590, 591, 592, 593, 594, 595, 596, 597, 598, 599, 600, 601, 602] (by decide +kernel) (by decide +kernel)
set_option maxRecDepth 20000 in
theorem gL_law_X6_init : GoodIn wsL_law (wsX6_init) := ggL_law_X6_init
set_option maxRecDepth 20000 in
theorem ggL_law_X6_night : GoodIn wsL_law wsX6_night := goodIn_r _ [139, 140, 577, 578, 579, 580, 581, 582, 583] (by decide +kernel) (by decide +kernel)
set_option maxRecDepth 20000 in
theorem gL_law_X6_night : GoodIn wsL_law (wsV RL 154 RX6 yX6_night wsX6_night) := goodIn_app (goodIn_of _ (by decide +kernel)) ggL_law_X6_night
set_option maxRecDepth 20000 in
theorem ggL_law_X6_rank : GoodIn wsL_law wsX6_rank := goodIn_ca (goodIn_r _ [144, 15, 145, 146, 147, 2, 148, 149, 150, 151, 152, 153, 12, 154, 68, 155, 156, 157, 158, 159, 160, 161, 162, 163, 164, 165, 166, 167, 168, 169, 170, 31, 171, 172, 173, 26, 174, 175, 176, 177, 178, 128, 179, 180, 181, 182, 183, 184, 185, 186, 187, 188, 189, 190, 191, 192, 193, 194, 195, 196, 109, 83, 110, 197, 82, 84, 198, 577, 578, 579, 580, 581, 582, 583, 584, 585, 586, 591, 592, 593, 594, 595, 596, 597] (by decide +kernel) (by decide +kernel)) (goodIn_sub (fun _ h => List.mem_append_left _ (List.mem_append_left _ (List.mem_append_right _ h))) (by decide +kernel))
set_option maxRecDepth 20000 in
theorem gL_law_X6_rank : GoodIn wsL_law (wsV RL 150 RX6 yX6_rank wsX6_rank) := goodIn_app (goodIn_of _ (by decide +kernel)) ggL_law_X6_rank
set_option maxRecDepth 20000 in
theorem ggL_law_X6_leaps : GoodIn wsL_law wsX6_leaps := goodIn_ca (goodIn_r _ [202, 23, 188, 189, 190, 2, 191, 15, 145, 151, 152, 153, 12, 154, 68, 146, 147, 148, 149, 150, 155, 156, 157, 158, 159, 160, 161, 162, 163, 164, 165, 166, 167, 168, 169, 170, 31, 203, 204, 205, 22, 206, 118, 120, 207, 208, 209, 26, 210, 211, 212, 213, 214, 215, 216, 217, 218, 219, 220, 221, 222, 223, 224, 225, 226, 227, 228, 229, 230, 231, 232, 233, 234, 235, 83, 236, 237, 109, 110, 238, 239, 240, 241, 242, 243, 577, 578, 579, 580, 581, 582, 583, 584, 585, 586, 589, 590, 591, 592, 593, 594, 595, 596, 597, 603, 604, 605, 606, 607, 608, 609, 610] (by decide +kernel) (by decide +kernel)) (goodIn_sub (fun _ h => List.mem_append_left _ (List.mem_append_left _ (List.mem_append_right _ h))) (by decide +kernel))
set_option maxRecDepth 20000 in
theorem gL_law_X6_leaps : GoodIn wsL_law (wsV RL 98 RX6 yX6_leaps wsX6_leaps) := goodIn_app (goodIn_of _ (by decide +kernel)) ggL_law_X6_leaps
set_option maxRecDepth 20000 in
theorem ggL_law_X6_ofBand : GoodIn wsL_law wsX6_ofBand := goodIn_ca (goodIn_ca (goodIn_r _ [247, 248, 249, 187, 250, 140, 188, 189, 190, 2, 191, 15, 145, 151, 152, 153, 12, 154, 68, 146, 147, 148, 149, 150, 155, 156, 157, 158, 159, 160, 161, 162, 163, 164, 165, 166, 167, 168, 169, 170, 31, 251, 252, 253, 254, 255, 256, 208, 209, 26, 210, 211, 591, 592, 593, 594, 595, 596, 597, 577, 578, 579, 580, 581, 582, 583, 584, 585, 586] (by decide +kernel) (by decide +kernel)) (goodIn_sub (fun _ h => List.mem_append_left _ (List.mem_append_left _ (List.mem_append_right _ h))) (by decide +kernel))) (goodIn_sub (fun _ h => List.mem_append_left _ (List.mem_append_right _ h)) (by decide +kernel))
set_option maxRecDepth 20000 in
theorem gL_law_X6_ofBand : GoodIn wsL_law (wsV RL 84 RX6 yX6_ofBand wsX6_ofBand) := goodIn_app (goodIn_of _ (by decide +kernel)) ggL_law_X6_ofBand
set_option maxRecDepth 20000 in
theorem ggL_law_L_draw : GoodIn wsL_law wsL_draw := goodIn_r _ [260, 261, 262, 263] (by decide +kernel) (by decide +kernel)
set_option maxRecDepth 20000 in
theorem gL_law_L_draw : GoodIn wsL_law (va_wsS RL 158 yL_draw wsL_draw) := goodIn_app (goodIn_of _ (by decide +kernel)) ggL_law_L_draw
set_option maxRecDepth 20000 in
theorem ggL_law_L_step : GoodIn wsL_law wsL_step := goodIn_ca (goodIn_ca (goodIn_ca (goodIn_r _ [266, 267, 268, 259, 269, 270, 271, 272, 273, 2, 274, 13, 275, 50, 51, 276, 277, 251, 252, 253, 254, 255, 151, 152, 153, 12, 154, 68, 278, 279, 280, 281, 282, 283, 54, 55, 56, 8, 9, 3, 57, 58, 59, 60, 61, 135, 63, 64, 65, 66, 67, 31, 69, 70, 71, 72, 73, 74, 75, 76, 77, 78, 79, 80, 30, 81, 82, 83, 84, 85, 86, 87, 88, 89, 90, 91, 92, 93, 94, 95, 96, 97, 98, 99, 100, 101, 102, 103, 104, 105, 106, 107, 108, 109, 110, 111, 112, 113, 114, 284, 285, 286, 287, 288, 289, 290, 291, 292, 293, 294, 295, 146, 147, 148, 149, 150, 155, 156, 157, 158, 159, 160, 161, 162, 163, 164, 165, 166, 167, 168, 169, 170, 296, 297, 298, 299, 300, 301, 302, 303, 304, 305, 306, 307, 248, 308, 309, 310, 311, 312, 313, 314, 14, 315, 188, 189, 190, 191, 15, 145, 316, 317, 318, 26, 319, 126, 320, 321, 322, 323, 324, 325, 326, 327, 140, 328, 329, 330, 331, 332, 333, 334, 335, 336, 337, 338, 339, 340, 341, 342, 343, 344, 345, 346, 347, 348, 349, 350, 351, 352, 353, 354, 355, 356, 357, 358, 359, 360, 361, 362, 363, 364, 365, 250, 366, 367, 368, 256, 208, 209, 210, 211, 369, 370, 371, 372, 373, 374, 375, 376, 377, 378, 379, 380, 381, 382, 383, 384, 385, 386, 387, 388, 389, 390, 391, 392, 393, 394, 395, 396, 397, 398, 399, 187, 23, 400, 401, 203, 204, 205, 22, 206, 118, 120, 207, 212, 213, 214, 215, 216, 217, 218, 219, 220, 221, 222, 223, 224, 225, 226, 227, 228, 229, 230, 231, 232, 233, 234, 235, 236, 237, 238, 239, 240, 241, 242, 243, 402, 403, 404, 405, 406, 407, 408, 409, 410, 411, 412, 413, 414, 415, 416, 417, 418, 419, 420, 421, 422, 423, 424, 249, 425, 426, 427, 428, 429, 430, 431, 432, 433, 434, 435, 436, 437, 438, 439, 440, 441, 442, 443, 444, 445, 446, 447, 448, 449, 450, 451, 452, 453, 454, 455, 456, 457, 458, 459, 460, 461, 462, 463, 464, 465, 466, 467, 468, 469, 470, 471, 472, 473, 19, 474, 475, 476, 477, 18, 478, 48, 46, 479, 480, 481, 482, 483, 484, 485, 486, 487, 488, 489, 490, 491, 492, 493, 494, 495, 496, 244, 245, 246, 247, 497, 498, 499, 500, 501, 502, 503, 504, 505, 506, 507, 508, 509, 510, 511, 512, 513, 514, 515, 516, 517, 518, 519, 520, 521, 522, 523, 524, 525, 526, 527, 528, 199, 200, 201, 202, 529, 530, 531, 532, 533, 534, 535, 536, 537, 538, 539, 540, 541, 542, 543, 544, 545, 546, 547, 548, 549, 550, 551, 552, 553, 554, 176, 177, 178, 128, 555, 556, 557, 558, 559, 560, 561, 171, 172, 173, 174, 175, 192, 193, 194, 195, 196, 197, 198, 562, 563, 564, 565, 566, 567, 568, 569, 570, 571, 572, 573, 577, 578, 579, 580, 581, 582, 583, 598, 599, 600, 601, 602, 584, 585, 586, 605, 606, 607, 608, 609, 610, 591, 592, 593, 594, 595, 596, 597, 603, 604, 589, 590, 587, 588] (by decide +kernel) (by decide +kernel)) (goodIn_sub (fun _ h => List.mem_append_left _ (List.mem_append_right _ h)) (by decide +kernel))) (goodIn_sub (fun _ h => List.mem_append_right _ h) (by decide +kernel))) (goodIn_sub (fun _ h => List.mem_append_left _ (List.mem_append_left _ (List.mem_append_right _ h))) (by decide +kernel))
set_option maxRecDepth 20000 in
theorem gL_law_L_step : GoodIn wsL_law (va_wsS RL 162 yL_step wsL_step) := goodIn_app (goodIn_of _ (by decide +kernel)) ggL_law_L_step
set_option maxRecDepth 20000 in
theorem ggL_law_L_areRanked : GoodIn wsL_law wsL_areRanked := goodIn_ca (goodIn_ca (goodIn_ca (goodIn_r _ [576, 141, 142, 143, 2, 144, 15, 145, 146, 147, 148, 149, 150, 151, 152, 153, 12, 154, 68, 155, 156, 157, 158, 159, 160, 161, 162, 163, 164, 165, 166, 167, 168, 169, 170, 31, 171, 172, 173, 26, 174, 175, 176, 177, 178, 128, 179, 180, 181, 182, 183, 184, 185, 186, 187, 188, 189, 190, 191, 192, 193, 194, 195, 196, 109, 83, 110, 197, 82, 84, 198, 555, 556, 259, 557, 270, 558, 559, 560, 561, 278, 279, 280, 281, 282, 244, 245, 246, 247, 248, 249, 250, 140, 251, 252, 253, 254, 255, 256, 208, 209, 210, 211, 577, 578, 579, 580, 581, 582, 583, 584, 585, 586, 591, 592, 593, 594, 595, 596, 597] (by decide +kernel) (by decide +kernel)) (goodIn_sub (fun _ h => List.mem_append_left _ (List.mem_append_left _ (List.mem_append_right _ h))) (by decide +kernel))) (goodIn_sub (fun _ h => List.mem_append_right _ h) (by decide +kernel))) (goodIn_sub (fun _ h => List.mem_append_left _ (List.mem_append_right _ h)) (by decide +kernel))
set_option maxRecDepth 20000 in
theorem gL_law_L_areRanked : GoodIn wsL_law (va_wsS RL 166 yL_areRanked wsL_areRanked) := goodIn_app (goodIn_of _ (by decide +kernel)) ggL_law_L_areRanked
theorem dL_law_0 : decode cL_law 0 = .ok (.new 11, 3) := by decide +kernel
theorem dL_law_3 : decode cL_law 3 = .ok (.dup, 1) := by decide +kernel
theorem dL_law_4 : decode cL_law 4 = .ok (.invokespecial 153, 3) := by decide +kernel
theorem dL_law_7 : decode cL_law 7 = .ok (.astore_n 1, 1) := by decide +kernel
theorem dL_law_8 : decode cL_law 8 = .ok (.iconst 5, 1) := by decide +kernel
theorem dL_law_9 : decode cL_law 9 = .ok (.newarray .int, 2) := by decide +kernel
theorem dL_law_11 : decode cL_law 11 = .ok (.astore_n 2, 1) := by decide +kernel
theorem dL_law_12 : decode cL_law 12 = .ok (.aload_n 1, 1) := by decide +kernel
theorem dL_law_13 : decode cL_law 13 = .ok (.invokevirtual 154, 3) := by decide +kernel
theorem dL_law_16 : decode cL_law 16 = .ok (.ifCond .ne 44, 3) := by decide +kernel
theorem dL_law_19 : decode cL_law 19 = .ok (.aload_n 1, 1) := by decide +kernel
theorem dL_law_20 : decode cL_law 20 = .ok (.iconst 0, 1) := by decide +kernel
theorem dL_law_21 : decode cL_law 21 = .ok (.invokevirtual 150, 3) := by decide +kernel
theorem dL_law_24 : decode cL_law 24 = .ok (.iconst (-1), 1) := by decide +kernel
theorem dL_law_25 : decode cL_law 25 = .ok (.if_icmp .ne 35, 3) := by decide +kernel
theorem dL_law_28 : decode cL_law 28 = .ok (.aload_n 1, 1) := by decide +kernel
theorem dL_law_29 : decode cL_law 29 = .ok (.iconst 3, 1) := by decide +kernel
theorem dL_law_30 : decode cL_law 30 = .ok (.invokevirtual 98, 3) := by decide +kernel
theorem dL_law_33 : decode cL_law 33 = .ok (.iconst (-1), 1) := by decide +kernel
theorem dL_law_34 : decode cL_law 34 = .ok (.if_icmp .ne 26, 3) := by decide +kernel
theorem dL_law_37 : decode cL_law 37 = .ok (.aload_n 1, 1) := by decide +kernel
theorem dL_law_38 : decode cL_law 38 = .ok (.iconst 2, 1) := by decide +kernel
theorem dL_law_39 : decode cL_law 39 = .ok (.iconst 3, 1) := by decide +kernel
theorem dL_law_40 : decode cL_law 40 = .ok (.invokevirtual 84, 3) := by decide +kernel
theorem dL_law_43 : decode cL_law 43 = .ok (.iconst (-1), 1) := by decide +kernel
theorem dL_law_44 : decode cL_law 44 = .ok (.if_icmp .ne 16, 3) := by decide +kernel
theorem dL_law_47 : decode cL_law 47 = .ok (.aload_n 1, 1) := by decide +kernel
theorem dL_law_48 : decode cL_law 48 = .ok (.iconst 2, 1) := by decide +kernel
theorem dL_law_49 : decode cL_law 49 = .ok (.iconst 4, 1) := by decide +kernel
theorem dL_law_50 : decode cL_law 50 = .ok (.invokevirtual 84, 3) := by decide +kernel
theorem dL_law_53 : decode cL_law 53 = .ok (.ifCond .ne 7, 3) := by decide +kernel
theorem dL_law_56 : decode cL_law 56 = .ok (.iconst 1, 1) := by decide +kernel
theorem dL_law_57 : decode cL_law 57 = .ok (.goto 4, 3) := by decide +kernel
theorem dL_law_60 : decode cL_law 60 = .ok (.iconst 0, 1) := by decide +kernel
theorem dL_law_61 : decode cL_law 61 = .ok (.istore_n 3, 1) := by decide +kernel
theorem dL_law_62 : decode cL_law 62 = .ok (.aload_n 0, 1) := by decide +kernel
theorem dL_law_63 : decode cL_law 63 = .ok (.arraylength, 1) := by decide +kernel
theorem dL_law_64 : decode cL_law 64 = .ok (.iconst 3, 1) := by decide +kernel
theorem dL_law_65 : decode cL_law 65 = .ok (.idiv, 1) := by decide +kernel
theorem dL_law_66 : decode cL_law 66 = .ok (.bipush 80, 2) := by decide +kernel
theorem dL_law_68 : decode cL_law 68 = .ok (.if_icmp .le 8, 3) := by decide +kernel
theorem dL_law_71 : decode cL_law 71 = .ok (.bipush 80, 2) := by decide +kernel
theorem dL_law_73 : decode cL_law 73 = .ok (.goto 7, 3) := by decide +kernel
theorem dL_law_76 : decode cL_law 76 = .ok (.aload_n 0, 1) := by decide +kernel
theorem dL_law_77 : decode cL_law 77 = .ok (.arraylength, 1) := by decide +kernel
theorem dL_law_78 : decode cL_law 78 = .ok (.iconst 3, 1) := by decide +kernel
theorem dL_law_79 : decode cL_law 79 = .ok (.idiv, 1) := by decide +kernel
theorem dL_law_80 : decode cL_law 80 = .ok (.istore 4, 2) := by decide +kernel
theorem dL_law_82 : decode cL_law 82 = .ok (.iconst 0, 1) := by decide +kernel
theorem dL_law_83 : decode cL_law 83 = .ok (.istore 5, 2) := by decide +kernel
theorem dL_law_85 : decode cL_law 85 = .ok (.iload 5, 2) := by decide +kernel
theorem dL_law_87 : decode cL_law 87 = .ok (.iload 4, 2) := by decide +kernel
theorem dL_law_89 : decode cL_law 89 = .ok (.if_icmp .ge 70, 3) := by decide +kernel
theorem dL_law_92 : decode cL_law 92 = .ok (.iload_n 3, 1) := by decide +kernel
theorem dL_law_93 : decode cL_law 93 = .ok (.ifCond .eq 66, 3) := by decide +kernel
theorem dL_law_96 : decode cL_law 96 = .ok (.aload_n 1, 1) := by decide +kernel
theorem dL_law_97 : decode cL_law 97 = .ok (.aload_n 2, 1) := by decide +kernel
theorem dL_law_98 : decode cL_law 98 = .ok (.aload_n 0, 1) := by decide +kernel
theorem dL_law_99 : decode cL_law 99 = .ok (.iconst 3, 1) := by decide +kernel
theorem dL_law_100 : decode cL_law 100 = .ok (.iload 5, 2) := by decide +kernel
theorem dL_law_102 : decode cL_law 102 = .ok (.imul, 1) := by decide +kernel
theorem dL_law_103 : decode cL_law 103 = .ok (.invokestatic 158, 3) := by decide +kernel
theorem dL_law_106 : decode cL_law 106 = .ok (.aload_n 0, 1) := by decide +kernel
theorem dL_law_107 : decode cL_law 107 = .ok (.iconst 3, 1) := by decide +kernel
theorem dL_law_108 : decode cL_law 108 = .ok (.iload 5, 2) := by decide +kernel
theorem dL_law_110 : decode cL_law 110 = .ok (.imul, 1) := by decide +kernel
theorem dL_law_111 : decode cL_law 111 = .ok (.iconst 1, 1) := by decide +kernel
theorem dL_law_112 : decode cL_law 112 = .ok (.iadd, 1) := by decide +kernel
theorem dL_law_113 : decode cL_law 113 = .ok (.invokestatic 158, 3) := by decide +kernel
theorem dL_law_116 : decode cL_law 116 = .ok (.aload_n 0, 1) := by decide +kernel
theorem dL_law_117 : decode cL_law 117 = .ok (.iconst 3, 1) := by decide +kernel
theorem dL_law_118 : decode cL_law 118 = .ok (.iload 5, 2) := by decide +kernel
theorem dL_law_120 : decode cL_law 120 = .ok (.imul, 1) := by decide +kernel
theorem dL_law_121 : decode cL_law 121 = .ok (.iconst 2, 1) := by decide +kernel
theorem dL_law_122 : decode cL_law 122 = .ok (.iadd, 1) := by decide +kernel
theorem dL_law_123 : decode cL_law 123 = .ok (.invokestatic 158, 3) := by decide +kernel
theorem dL_law_126 : decode cL_law 126 = .ok (.invokestatic 162, 3) := by decide +kernel
theorem dL_law_129 : decode cL_law 129 = .ok (.ifCond .eq 22, 3) := by decide +kernel
theorem dL_law_132 : decode cL_law 132 = .ok (.iload 5, 2) := by decide +kernel
theorem dL_law_134 : decode cL_law 134 = .ok (.bipush 8, 2) := by decide +kernel
theorem dL_law_136 : decode cL_law 136 = .ok (.irem, 1) := by decide +kernel
theorem dL_law_137 : decode cL_law 137 = .ok (.ifCond .gt 10, 3) := by decide +kernel
theorem dL_law_140 : decode cL_law 140 = .ok (.aload_n 1, 1) := by decide +kernel
theorem dL_law_141 : decode cL_law 141 = .ok (.invokestatic 166, 3) := by decide +kernel
theorem dL_law_144 : decode cL_law 144 = .ok (.ifCond .eq 7, 3) := by decide +kernel
theorem dL_law_147 : decode cL_law 147 = .ok (.iconst 1, 1) := by decide +kernel
theorem dL_law_148 : decode cL_law 148 = .ok (.goto 4, 3) := by decide +kernel
theorem dL_law_151 : decode cL_law 151 = .ok (.iconst 0, 1) := by decide +kernel
theorem dL_law_152 : decode cL_law 152 = .ok (.istore_n 3, 1) := by decide +kernel
theorem dL_law_153 : decode cL_law 153 = .ok (.iinc 5 1, 3) := by decide +kernel
theorem dL_law_156 : decode cL_law 156 = .ok (.goto (-71), 3) := by decide +kernel
theorem dL_law_159 : decode cL_law 159 = .ok (.iload_n 3, 1) := by decide +kernel
theorem dL_law_160 : decode cL_law 160 = .ok (.ireturn, 1) := by decide +kernel
