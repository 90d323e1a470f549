theorem dX6_drill_0 : decode cX6_drill 0 = .ok (.aload_n 0, 1) := by decide +kernel
theorem dX6_drill_1 : decode cX6_drill 1 = .ok (.iload_n 1, 1) := by decide +kernel
theorem dX6_drill_2 : decode cX6_drill 2 = .ok (.invokevirtual 118, 3) := by decide +kernel
theorem dX6_drill_5 : decode cX6_drill 5 = .ok (.astore_n 3, 1) := by decide +kernel
theorem dX6_drill_6 : decode cX6_drill 6 = .ok (.aload_n 3, 1) := by decide +kernel
theorem dX6_drill_7 : decode cX6_drill 7 = .ok (.iload_n 2, 1) := by decide +kernel
theorem dX6_drill_8 : decode cX6_drill 8 = .ok (.invokestatic 184, 3) := by decide +kernel
theorem dX6_drill_11 : decode cX6_drill 11 = .ok (.aload_n 3, 1) := by decide +kernel
theorem dX6_drill_12 : decode cX6_drill 12 = .ok (.getfield 129, 3) := by decide +kernel
theorem dX6_drill_15 : decode cX6_drill 15 = .ok (.invokevirtual 191, 3) := by decide +kernel
theorem dX6_drill_18 : decode cX6_drill 18 = .ok (.ifCond .ne 18, 3) := by decide +kernel
theorem dX6_drill_21 : decode cX6_drill 21 = .ok (.aload_n 3, 1) := by decide +kernel
theorem dX6_drill_22 : decode cX6_drill 22 = .ok (.getfield 195, 3) := by decide +kernel
theorem dX6_drill_25 : decode cX6_drill 25 = .ok (.aload_n 0, 1) := by decide +kernel
theorem dX6_drill_26 : decode cX6_drill 26 = .ok (.getfield 198, 3) := by decide +kernel
theorem dX6_drill_29 : decode cX6_drill 29 = .ok (.if_icmp .eq 7, 3) := by decide +kernel
theorem dX6_drill_32 : decode cX6_drill 32 = .ok (.iconst 1, 1) := by decide +kernel
theorem dX6_drill_33 : decode cX6_drill 33 = .ok (.goto 4, 3) := by decide +kernel
theorem dX6_drill_36 : decode cX6_drill 36 = .ok (.iconst 0, 1) := by decide +kernel
theorem dX6_drill_37 : decode cX6_drill 37 = .ok (.invokestatic 51, 3) := by decide +kernel
theorem dX6_drill_40 : decode cX6_drill 40 = .ok (.aload_n 3, 1) := by decide +kernel
theorem dX6_drill_41 : decode cX6_drill 41 = .ok (.iload_n 2, 1) := by decide +kernel
theorem dX6_drill_42 : decode cX6_drill 42 = .ok (.invokevirtual 201, 3) := by decide +kernel
theorem dX6_drill_45 : decode cX6_drill 45 = .ok (.aload_n 3, 1) := by decide +kernel
theorem dX6_drill_46 : decode cX6_drill 46 = .ok (.invokevirtual 204, 3) := by decide +kernel
theorem dX6_drill_49 : decode cX6_drill 49 = .ok (.aload_n 3, 1) := by decide +kernel
theorem dX6_drill_50 : decode cX6_drill 50 = .ok (.aload_n 0, 1) := by decide +kernel
theorem dX6_drill_51 : decode cX6_drill 51 = .ok (.getfield 198, 3) := by decide +kernel
theorem dX6_drill_54 : decode cX6_drill 54 = .ok (.putfield 195, 3) := by decide +kernel
theorem dX6_drill_57 : decode cX6_drill 57 = .ok (.aload_n 3, 1) := by decide +kernel
theorem dX6_drill_58 : decode cX6_drill 58 = .ok (.iload_n 2, 1) := by decide +kernel
theorem dX6_drill_59 : decode cX6_drill 59 = .ok (.invokevirtual 207, 3) := by decide +kernel
theorem dX6_drill_62 : decode cX6_drill 62 = .ok (.ireturn, 1) := by decide +kernel
set_option maxRecDepth 20000 in
theorem ggX6_pass_X6_requireRange : GoodIn wsX6_pass wsX6_requireRange := goodIn_ca (goodIn_r _ [5, 6, 7] (by decide +kernel) (by decide +kernel)) (goodIn_sub (fun _ h => List.mem_cons_of_mem _ (List.mem_append_left _ (List.mem_append_right _ h))) (by decide +kernel))
set_option maxRecDepth 20000 in
theorem gX6_pass_X6_requireRange : GoodIn wsX6_pass (va_wsS RX6 43 yX6_requireRange wsX6_requireRange) := goodIn_app (goodIn_of _ (by decide +kernel)) ggX6_pass_X6_requireRange
set_option maxRecDepth 20000 in
theorem ggX6_pass_X6_requireState : GoodIn wsX6_pass wsX6_requireState := goodIn_ca (goodIn_r _ [10, 11, 12] (by decide +kernel) (by decide +kernel)) (goodIn_sub (fun _ h => List.mem_cons_of_mem _ (List.mem_append_right _ h)) (by decide +kernel))
set_option maxRecDepth 20000 in
theorem gX6_pass_X6_requireState : GoodIn wsX6_pass (va_wsS RX6 51 yX6_requireState wsX6_requireState) := goodIn_app (goodIn_of _ (by decide +kernel)) ggX6_pass_X6_requireState
theorem dX6_pass_0 : decode cX6_pass 0 = .ok (.iload_n 1, 1) := by decide +kernel
theorem dX6_pass_1 : decode cX6_pass 1 = .ok (.iconst 1, 1) := by decide +kernel
theorem dX6_pass_2 : decode cX6_pass 2 = .ok (.bipush 30, 2) := by decide +kernel
theorem dX6_pass_4 : decode cX6_pass 4 = .ok (.invokestatic 43, 3) := by decide +kernel
theorem dX6_pass_7 : decode cX6_pass 7 = .ok (.aload_n 0, 1) := by decide +kernel
theorem dX6_pass_8 : decode cX6_pass 8 = .ok (.getfield 198, 3) := by decide +kernel
theorem dX6_pass_11 : decode cX6_pass 11 = .ok (.iload_n 1, 1) := by decide +kernel
theorem dX6_pass_12 : decode cX6_pass 12 = .ok (.iadd, 1) := by decide +kernel
theorem dX6_pass_13 : decode cX6_pass 13 = .ok (.sipush 1000, 3) := by decide +kernel
theorem dX6_pass_16 : decode cX6_pass 16 = .ok (.if_icmp .gt 7, 3) := by decide +kernel
theorem dX6_pass_19 : decode cX6_pass 19 = .ok (.iconst 1, 1) := by decide +kernel
theorem dX6_pass_20 : decode cX6_pass 20 = .ok (.goto 4, 3) := by decide +kernel
theorem dX6_pass_23 : decode cX6_pass 23 = .ok (.iconst 0, 1) := by decide +kernel
theorem dX6_pass_24 : decode cX6_pass 24 = .ok (.invokestatic 51, 3) := by decide +kernel
theorem dX6_pass_27 : decode cX6_pass 27 = .ok (.aload_n 0, 1) := by decide +kernel
theorem dX6_pass_28 : decode cX6_pass 28 = .ok (.dup, 1) := by decide +kernel
theorem dX6_pass_29 : decode cX6_pass 29 = .ok (.getfield 198, 3) := by decide +kernel
theorem dX6_pass_32 : decode cX6_pass 32 = .ok (.iload_n 1, 1) := by decide +kernel
theorem dX6_pass_33 : decode cX6_pass 33 = .ok (.iadd, 1) := by decide +kernel
theorem dX6_pass_34 : decode cX6_pass 34 = .ok (.putfield 198, 3) := by decide +kernel
theorem dX6_pass_37 : decode cX6_pass 37 = .ok (.aload_n 0, 1) := by decide +kernel
theorem dX6_pass_38 : decode cX6_pass 38 = .ok (.getfield 198, 3) := by decide +kernel
theorem dX6_pass_41 : decode cX6_pass 41 = .ok (.ireturn, 1) := by decide +kernel
set_option maxRecDepth 20000 in
theorem ggX6_seat_X6_bandAt : GoodIn wsX6_seat wsX6_bandAt := goodIn_ca (goodIn_r _ [7, 8, 9, 10, 11, 12, 13, 14, 15, 16, 17, 6, 18, 19, 20, 21, 22, 23, 24, 25, 26, 27, 28, 29, 30, 31, 32, 33, 34, 35, 36, 37, 51, 52, 53, 54, 55, 56, 57, 58, 59, 60] (by decide +kernel) (by decide +kernel)) (goodIn_sub (fun _ h => List.mem_cons_of_mem _ (List.mem_append_right _ h)) (by decide +kernel))
set_option maxRecDepth 20000 in
theorem gX6_seat_X6_bandAt : GoodIn wsX6_seat (wsV RX6 118 RX6 yX6_bandAt wsX6_bandAt) := goodIn_app (goodIn_of _ (by decide +kernel)) ggX6_seat_X6_bandAt
set_option maxRecDepth 20000 in
theorem ggX6_seat_X6_seatAt : GoodIn wsX6_seat wsX6_seatAt := goodIn_ca (goodIn_r _ [40, 41, 42, 10, 11, 12, 13, 14, 15, 16, 17, 6, 18, 19, 20, 21, 22, 23, 24, 25, 26, 27, 28, 29, 30, 31, 32, 33, 34, 35, 36, 37, 61, 62, 63, 64, 65, 66, 67, 58, 59, 60] (by decide +kernel) (by decide +kernel)) (goodIn_sub (fun _ h => List.mem_cons_of_mem _ (List.mem_append_right _ h)) (by decide +kernel))
set_option maxRecDepth 20000 in
theorem gX6_seat_X6_seatAt : GoodIn wsX6_seat (va_wsS RX6 180 yX6_seatAt wsX6_seatAt) := goodIn_app (goodIn_of _ (by decide +kernel)) ggX6_seat_X6_seatAt
theorem dX6_seat_0 : decode cX6_seat 0 = .ok (.aload_n 0, 1) := by decide +kernel
theorem dX6_seat_1 : decode cX6_seat 1 = .ok (.iload_n 1, 1) := by decide +kernel
theorem dX6_seat_2 : decode cX6_seat 2 = .ok (.invokevirtual 118, 3) := by decide +kernel
theorem dX6_seat_5 : decode cX6_seat 5 = .ok (.iload_n 2, 1) := by decide +kernel
theorem dX6_seat_6 : decode cX6_seat 6 = .ok (.invokestatic 180, 3) := by decide +kernel
theorem dX6_seat_9 : decode cX6_seat 9 = .ok (.getfield 211, 3) := by decide +kernel
theorem dX6_seat_12 : decode cX6_seat 12 = .ok (.getfield 113, 3) := by decide +kernel
theorem dX6_seat_15 : decode cX6_seat 15 = .ok (.ireturn, 1) := by decide +kernel
set_option maxRecDepth 20000 in
theorem ggX6_knows_X6_bandAt : GoodIn wsX6_knows wsX6_bandAt := goodIn_ca (goodIn_r _ [6, 7, 8, 9, 10, 11, 12, 13, 14, 15, 16, 5, 17, 18, 19, 20, 21, 22, 23, 24, 25, 26, 27, 28, 29, 30, 31, 32, 33, 34, 35, 36, 53, 54, 55, 56, 57, 58, 59, 60, 61, 62] (by decide +kernel) (by decide +kernel)) (goodIn_sub (fun _ h => List.mem_cons_of_mem _ (List.mem_append_right _ h)) (by decide +kernel))
set_option maxRecDepth 20000 in
theorem gX6_knows_X6_bandAt : GoodIn wsX6_knows (wsV RX6 118 RX6 yX6_bandAt wsX6_bandAt) := goodIn_app (goodIn_of _ (by decide +kernel)) ggX6_knows_X6_bandAt
set_option maxRecDepth 20000 in
theorem ggX6_knows_X6_seatAt : GoodIn wsX6_knows wsX6_seatAt := goodIn_ca (goodIn_r _ [39, 40, 41, 9, 10, 11, 12, 13, 14, 15, 16, 5, 17, 18, 19, 20, 21, 22, 23, 24, 25, 26, 27, 28, 29, 30, 31, 32, 33, 34, 35, 36, 63, 64, 65, 66, 67, 68, 69, 60, 61, 62] (by decide +kernel) (by decide +kernel)) (goodIn_sub (fun _ h => List.mem_cons_of_mem _ (List.mem_append_right _ h)) (by decide +kernel))
set_option maxRecDepth 20000 in
theorem gX6_knows_X6_seatAt : GoodIn wsX6_knows (va_wsS RX6 180 yX6_seatAt wsX6_seatAt) := goodIn_app (goodIn_of _ (by decide +kernel)) ggX6_knows_X6_seatAt
set_option maxRecDepth 20000 in
theorem ggX6_knows_X6_requirePhrase : GoodIn wsX6_knows wsX6_requirePhrase := goodIn_ca (goodIn_r _ [44, 45, 46, 47, 48, 49, 50, 15, 16, 5, 17, 18, 19, 63, 64, 65, 66, 67, 68, 69] (by decide +kernel) (by decide +kernel)) (goodIn_sub (fun _ h => List.mem_cons_of_mem _ (List.mem_append_right _ h)) (by decide +kernel))
set_option maxRecDepth 20000 in
theorem gX6_knows_X6_requirePhrase : GoodIn wsX6_knows (va_wsS RX6 184 yX6_requirePhrase wsX6_requirePhrase) := goodIn_app (goodIn_of _ (by decide +kernel)) ggX6_knows_X6_requirePhrase
theorem dX6_knows_0 : decode cX6_knows 0 = .ok (.aload_n 0, 1) := by decide +kernel
theorem dX6_knows_1 : decode cX6_knows 1 = .ok (.iload_n 1, 1) := by decide +kernel
theorem dX6_knows_2 : decode cX6_knows 2 = .ok (.invokevirtual 118, 3) := by decide +kernel
theorem dX6_knows_5 : decode cX6_knows 5 = .ok (.iload_n 2, 1) := by decide +kernel
theorem dX6_knows_6 : decode cX6_knows 6 = .ok (.invokestatic 180, 3) := by decide +kernel
theorem dX6_knows_9 : decode cX6_knows 9 = .ok (.astore 4, 2) := by decide +kernel
theorem dX6_knows_11 : decode cX6_knows 11 = .ok (.aload_n 0, 1) := by decide +kernel
theorem dX6_knows_12 : decode cX6_knows 12 = .ok (.iload_n 1, 1) := by decide +kernel
theorem dX6_knows_13 : decode cX6_knows 13 = .ok (.invokevirtual 118, 3) := by decide +kernel
theorem dX6_knows_16 : decode cX6_knows 16 = .ok (.iload_n 3, 1) := by decide +kernel
theorem dX6_knows_17 : decode cX6_knows 17 = .ok (.invokestatic 184, 3) := by decide +kernel
theorem dX6_knows_20 : decode cX6_knows 20 = .ok (.aload 4, 2) := by decide +kernel
theorem dX6_knows_22 : decode cX6_knows 22 = .ok (.getfield 188, 3) := by decide +kernel
theorem dX6_knows_25 : decode cX6_knows 25 = .ok (.iload_n 3, 1) := by decide +kernel
theorem dX6_knows_26 : decode cX6_knows 26 = .ok (.iaload, 1) := by decide +kernel
theorem dX6_knows_27 : decode cX6_knows 27 = .ok (.ireturn, 1) := by decide +kernel
set_option maxRecDepth 20000 in
theorem ggX6_ofBand_X6_bandAt : GoodIn wsX6_ofBand wsX6_bandAt := goodIn_ca (goodIn_r _ [10, 11, 12, 13, 14, 15, 16, 17, 18, 19, 20, 9, 21, 22, 23, 24, 25, 26, 27, 28, 29, 30, 31, 32, 33, 34, 35, 36, 37, 38, 39, 40, 59, 60, 61, 62, 63, 64, 65, 66, 67, 68] (by decide +kernel) (by decide +kernel)) (goodIn_sub (fun _ h => List.mem_cons_of_mem _ (List.mem_append_left _ (List.mem_append_right _ h))) (by decide +kernel))
set_option maxRecDepth 20000 in
theorem gX6_ofBand_X6_bandAt : GoodIn wsX6_ofBand (wsV RX6 118 RX6 yX6_bandAt wsX6_bandAt) := goodIn_app (goodIn_of _ (by decide +kernel)) ggX6_ofBand_X6_bandAt
set_option maxRecDepth 20000 in
theorem ggX6_ofBand_X6_requireRange : GoodIn wsX6_ofBand wsX6_requireRange := goodIn_ca (goodIn_r _ [43, 44, 45] (by decide +kernel) (by decide +kernel)) (goodIn_sub (fun _ h => List.mem_cons_of_mem _ (List.mem_append_right _ h)) (by decide +kernel))
set_option maxRecDepth 20000 in
theorem gX6_ofBand_X6_requireRange : GoodIn wsX6_ofBand (va_wsS RX6 43 yX6_requireRange wsX6_requireRange) := goodIn_app (goodIn_of _ (by decide +kernel)) ggX6_ofBand_X6_requireRange
set_option maxRecDepth 20000 in
theorem ggX6_ofBand_Jx4a65c_size_8abf5 : GoodIn wsX6_ofBand wsJx4a65c_size_8abf5 := goodIn_r _ [17, 18, 66, 67, 68] (by decide +kernel) (by decide +kernel)
set_option maxRecDepth 20000 in
theorem gX6_ofBand_Jx4a65c_size_8abf5 : GoodIn wsX6_ofBand (wsV RX6 47 RJx4a65c yJx4a65c_size_8abf5 wsJx4a65c_size_8abf5) := goodIn_app (goodIn_of _ (by decide +kernel)) ggX6_ofBand_Jx4a65c_size_8abf5
set_option maxRecDepth 20000 in
theorem ggX6_ofBand_X0_phraseCount : GoodIn wsX6_ofBand wsX0_phraseCount := goodIn_r _ [50, 51, 52, 53, 54, 55, 56, 57, 58] (by decide +kernel) (by decide +kernel)
set_option maxRecDepth 20000 in
theorem gX6_ofBand_X0_phraseCount : GoodIn wsX6_ofBand (wsV RX6 215 RX0 yX0_phraseCount wsX0_phraseCount) := goodIn_app (goodIn_of _ (by decide +kernel)) ggX6_ofBand_X0_phraseCount
theorem dX6_ofBand_0 : decode cX6_ofBand 0 = .ok (.aload_n 0, 1) := by decide +kernel
theorem dX6_ofBand_1 : decode cX6_ofBand 1 = .ok (.iload_n 1, 1) := by decide +kernel
theorem dX6_ofBand_2 : decode cX6_ofBand 2 = .ok (.invokevirtual 118, 3) := by decide +kernel
theorem dX6_ofBand_5 : decode cX6_ofBand 5 = .ok (.astore_n 3, 1) := by decide +kernel
theorem dX6_ofBand_6 : decode cX6_ofBand 6 = .ok (.iload_n 2, 1) := by decide +kernel
theorem dX6_ofBand_7 : decode cX6_ofBand 7 = .ok (.iconst 0, 1) := by decide +kernel
theorem dX6_ofBand_8 : decode cX6_ofBand 8 = .ok (.iconst 4, 1) := by decide +kernel
theorem dX6_ofBand_9 : decode cX6_ofBand 9 = .ok (.invokestatic 43, 3) := by decide +kernel
theorem dX6_ofBand_12 : decode cX6_ofBand 12 = .ok (.iload_n 2, 1) := by decide +kernel
theorem dX6_ofBand_13 : decode cX6_ofBand 13 = .ok (.tableswitch 54 0 3 #[31, 39, 44, 49], 31) := by decide +kernel
theorem dX6_ofBand_44 : decode cX6_ofBand 44 = .ok (.aload_n 3, 1) := by decide +kernel
theorem dX6_ofBand_45 : decode cX6_ofBand 45 = .ok (.getfield 129, 3) := by decide +kernel
theorem dX6_ofBand_48 : decode cX6_ofBand 48 = .ok (.invokevirtual 47, 3) := by decide +kernel
theorem dX6_ofBand_51 : decode cX6_ofBand 51 = .ok (.ireturn, 1) := by decide +kernel
theorem dX6_ofBand_52 : decode cX6_ofBand 52 = .ok (.aload_n 3, 1) := by decide +kernel
theorem dX6_ofBand_53 : decode cX6_ofBand 53 = .ok (.getfield 171, 3) := by decide +kernel
theorem dX6_ofBand_56 : decode cX6_ofBand 56 = .ok (.ireturn, 1) := by decide +kernel
theorem dX6_ofBand_57 : decode cX6_ofBand 57 = .ok (.aload_n 3, 1) := by decide +kernel
theorem dX6_ofBand_58 : decode cX6_ofBand 58 = .ok (.invokevirtual 215, 3) := by decide +kernel
theorem dX6_ofBand_61 : decode cX6_ofBand 61 = .ok (.ireturn, 1) := by decide +kernel
theorem dX6_ofBand_62 : decode cX6_ofBand 62 = .ok (.aload_n 3, 1) := by decide +kernel
theorem dX6_ofBand_63 : decode cX6_ofBand 63 = .ok (.getfield 218, 3) := by decide +kernel
theorem dX6_ofBand_66 : decode cX6_ofBand 66 = .ok (.ireturn, 1) := by decide +kernel
theorem dX6_ofBand_67 : decode cX6_ofBand 67 = .ok (.aload_n 3, 1) := by decide +kernel
theorem dX6_ofBand_68 : decode cX6_ofBand 68 = .ok (.getfield 195, 3) := by decide +kernel
theorem dX6_ofBand_71 : decode cX6_ofBand 71 = .ok (.aload_n 0, 1) := by decide +kernel
theorem dX6_ofBand_72 : decode cX6_ofBand 72 = .ok (.getfield 198, 3) := by decide +kernel
theorem dX6_ofBand_75 : decode cX6_ofBand 75 = .ok (.if_icmp .ne 7, 3) := by decide +kernel
theorem dX6_ofBand_78 : decode cX6_ofBand 78 = .ok (.iconst 1, 1) := by decide +kernel
theorem dX6_ofBand_79 : decode cX6_ofBand 79 = .ok (.goto 4, 3) := by decide +kernel
theorem dX6_ofBand_82 : decode cX6_ofBand 82 = .ok (.iconst 0, 1) := by decide +kernel
theorem dX6_ofBand_83 : decode cX6_ofBand 83 = .ok (.ireturn, 1) := by decide +kernel
set_option maxRecDepth 20000 in
theorem ggX6_leaps_X6_bandAt : GoodIn wsX6_leaps wsX6_bandAt := goodIn_ca (goodIn_r _ [6, 7, 8, 9, 10, 11, 12, 13, 14, 15, 16, 5, 17, 18, 19, 20, 21, 22, 23, 24, 25, 26, 27, 28, 29, 30, 31, 32, 33, 34, 35, 36, 85, 86, 87, 88, 89, 90, 91, 92, 93, 94] (by decide +kernel) (by decide +kernel)) (goodIn_sub (fun _ h => List.mem_cons_of_mem _ (List.mem_append_right _ h)) (by decide +kernel))
set_option maxRecDepth 20000 in
theorem gX6_leaps_X6_bandAt : GoodIn wsX6_leaps (wsV RX6 118 RX6 yX6_bandAt wsX6_bandAt) := goodIn_app (goodIn_of _ (by decide +kernel)) ggX6_leaps_X6_bandAt
set_option maxRecDepth 20000 in
theorem ggX6_leaps_X2_findBest : GoodIn wsX6_leaps wsX2_findBest := goodIn_r _ [41, 42, 43, 44, 45, 46, 47, 48, 49, 50, 51, 52, 40, 53, 54, 55, 56, 57, 58, 59, 10, 11, 12, 13, 14, 60, 21, 22, 23, 24, 25, 26, 27, 28, 29, 30, 31, 32, 33, 34, 35, 36, 61, 62, 63, 64, 65, 66, 67, 68, 69, 70, 71, 72, 73, 74, 75, 76, 77, 78, 79, 80, 81, 82, 83, 84, 95, 96, 97, 98, 99, 100, 101, 102, 103, 104, 105, 106, 107, 108, 109, 110, 111, 92, 93, 94] (by decide +kernel) (by decide +kernel)
set_option maxRecDepth 20000 in
theorem gX6_leaps_X2_findBest : GoodIn wsX6_leaps (wsV RX6 221 RX2 yX2_findBest wsX2_findBest) := goodIn_app (goodIn_of _ (by decide +kernel)) ggX6_leaps_X2_findBest
theorem dX6_leaps_0 : decode cX6_leaps 0 = .ok (.aload_n 0, 1) := by decide +kernel
theorem dX6_leaps_1 : decode cX6_leaps 1 = .ok (.getfield 32, 3) := by decide +kernel
theorem dX6_leaps_4 : decode cX6_leaps 4 = .ok (.aload_n 0, 1) := by decide +kernel
theorem dX6_leaps_5 : decode cX6_leaps 5 = .ok (.iload_n 1, 1) := by decide +kernel
theorem dX6_leaps_6 : decode cX6_leaps 6 = .ok (.invokevirtual 118, 3) := by decide +kernel
theorem dX6_leaps_9 : decode cX6_leaps 9 = .ok (.iconst (-1), 1) := by decide +kernel
theorem dX6_leaps_10 : decode cX6_leaps 10 = .ok (.invokevirtual 221, 3) := by decide +kernel
theorem dX6_leaps_13 : decode cX6_leaps 13 = .ok (.ireturn, 1) := by decide +kernel
set_option maxRecDepth 20000 in
theorem ggX6_part_X6_bandAt : GoodIn wsX6_part wsX6_bandAt := goodIn_ca (goodIn_r _ [7, 8, 9, 10, 11, 12, 13, 14, 15, 16, 17, 6, 18, 19, 20, 21, 22, 23, 24, 25, 26, 27, 28, 29, 30, 31, 32, 33, 34, 35, 36, 37, 90, 91, 92, 93, 94, 95, 96, 99, 100, 101] (by decide +kernel) (by decide +kernel)) (goodIn_sub (fun _ h => List.mem_cons_of_mem _ (List.mem_append_right _ h)) (by decide +kernel))
set_option maxRecDepth 20000 in
theorem gX6_part_X6_bandAt : GoodIn wsX6_part (wsV RX6 118 RX6 yX6_bandAt wsX6_bandAt) := goodIn_app (goodIn_of _ (by decide +kernel)) ggX6_part_X6_bandAt
set_option maxRecDepth 20000 in
theorem ggX6_part_X6_requirePhrase : GoodIn wsX6_part wsX6_requirePhrase := goodIn_ca (goodIn_r _ [40, 41, 42, 43, 44, 45, 46, 16, 17, 6, 18, 19, 20, 102, 103, 104, 105, 106, 107, 108] (by decide +kernel) (by decide +kernel)) (goodIn_sub (fun _ h => List.mem_cons_of_mem _ (List.mem_append_right _ h)) (by decide +kernel))
set_option maxRecDepth 20000 in
theorem gX6_part_X6_requirePhrase : GoodIn wsX6_part (va_wsS RX6 184 yX6_requirePhrase wsX6_requirePhrase) := goodIn_app (goodIn_of _ (by decide +kernel)) ggX6_part_X6_requirePhrase
set_option maxRecDepth 20000 in
theorem ggX6_part_X2_findBest : GoodIn wsX6_part wsX2_findBest := goodIn_r _ [51, 52, 53, 54, 42, 43, 44, 45, 46, 55, 56, 57, 50, 58, 59, 60, 61, 62, 63, 64, 11, 12, 13, 14, 15, 65, 22, 23, 24, 25, 26, 27, 28, 29, 30, 31, 32, 33, 34, 35, 36, 37, 66, 67, 68, 69, 70, 71, 72, 73, 74, 75, 76, 77, 78, 79, 80, 81, 82, 83, 84, 85, 86, 87, 88, 89, 97, 98, 102, 103, 104, 105, 106, 107, 108, 109, 110, 111, 112, 113, 114, 115, 116, 99, 100, 101] (by decide +kernel) (by decide +kernel)
set_option maxRecDepth 20000 in
theorem gX6_part_X2_findBest : GoodIn wsX6_part (wsV RX6 221 RX2 yX2_findBest wsX2_findBest) := goodIn_app (goodIn_of _ (by decide +kernel)) ggX6_part_X2_findBest
theorem dX6_part_0 : decode cX6_part 0 = .ok (.aload_n 0, 1) := by decide +kernel
theorem dX6_part_1 : decode cX6_part 1 = .ok (.iload_n 1, 1) := by decide +kernel
theorem dX6_part_2 : decode cX6_part 2 = .ok (.invokevirtual 118, 3) := by decide +kernel
theorem dX6_part_5 : decode cX6_part 5 = .ok (.astore_n 3, 1) := by decide +kernel
theorem dX6_part_6 : decode cX6_part 6 = .ok (.aload_n 3, 1) := by decide +kernel
theorem dX6_part_7 : decode cX6_part 7 = .ok (.iload_n 2, 1) := by decide +kernel
theorem dX6_part_8 : decode cX6_part 8 = .ok (.invokestatic 184, 3) := by decide +kernel
theorem dX6_part_11 : decode cX6_part 11 = .ok (.aload_n 0, 1) := by decide +kernel
theorem dX6_part_12 : decode cX6_part 12 = .ok (.getfield 32, 3) := by decide +kernel
theorem dX6_part_15 : decode cX6_part 15 = .ok (.aload_n 3, 1) := by decide +kernel
theorem dX6_part_16 : decode cX6_part 16 = .ok (.iconst (-1), 1) := by decide +kernel
theorem dX6_part_17 : decode cX6_part 17 = .ok (.invokevirtual 221, 3) := by decide +kernel
theorem dX6_part_20 : decode cX6_part 20 = .ok (.iconst (-1), 1) := by decide +kernel
theorem dX6_part_21 : decode cX6_part 21 = .ok (.if_icmp .ne 7, 3) := by decide +kernel
theorem dX6_part_24 : decode cX6_part 24 = .ok (.iconst (-1), 1) := by decide +kernel
theorem dX6_part_25 : decode cX6_part 25 = .ok (.goto 12, 3) := by decide +kernel
theorem dX6_part_28 : decode cX6_part 28 = .ok (.aload_n 0, 1) := by decide +kernel
theorem dX6_part_29 : decode cX6_part 29 = .ok (.getfield 32, 3) := by decide +kernel
theorem dX6_part_32 : decode cX6_part 32 = .ok (.getfield 225, 3) := by decide +kernel
theorem dX6_part_35 : decode cX6_part 35 = .ok (.iload_n 2, 1) := by decide +kernel
theorem dX6_part_36 : decode cX6_part 36 = .ok (.iaload, 1) := by decide +kernel
theorem dX6_part_37 : decode cX6_part 37 = .ok (.ireturn, 1) := by decide +kernel
set_option maxRecDepth 20000 in
theorem ggX6_without_X6_bandAt : GoodIn wsX6_without wsX6_bandAt := goodIn_ca (goodIn_r _ [7, 8, 9, 10, 11, 12, 13, 14, 15, 16, 17, 6, 18, 19, 20, 21, 22, 23, 24, 25, 26, 27, 28, 29, 30, 31, 32, 33, 34, 35, 36, 37, 93, 94, 95, 96, 97, 98, 99, 100, 101, 102] (by decide +kernel) (by decide +kernel)) (goodIn_sub (fun _ h => List.mem_cons_of_mem _ (List.mem_append_right _ h)) (by decide +kernel))
set_option maxRecDepth 20000 in
theorem gX6_without_X6_bandAt : GoodIn wsX6_without (wsV RX6 118 RX6 yX6_bandAt wsX6_bandAt) := goodIn_app (goodIn_of _ (by decide +kernel)) ggX6_without_X6_bandAt
set_option maxRecDepth 20000 in
theorem ggX6_without_Jx4a65c_size_8abf5 : GoodIn wsX6_without wsJx4a65c_size_8abf5 := goodIn_r _ [14, 15, 100, 101, 102] (by decide +kernel) (by decide +kernel)
set_option maxRecDepth 20000 in
theorem gX6_without_Jx4a65c_size_8abf5 : GoodIn wsX6_without (wsV RX6 47 RJx4a65c yJx4a65c_size_8abf5 wsJx4a65c_size_8abf5) := goodIn_app (goodIn_of _ (by decide +kernel)) ggX6_without_Jx4a65c_size_8abf5
set_option maxRecDepth 20000 in
theorem ggX6_without_X6_requireIndex : GoodIn wsX6_without wsX6_requireIndex := goodIn_ca (goodIn_r _ [18, 19, 20] (by decide +kernel) (by decide +kernel)) (goodIn_sub (fun _ h => List.mem_cons_of_mem _ (List.mem_append_right _ h)) (by decide +kernel))
set_option maxRecDepth 20000 in
theorem gX6_without_X6_requireIndex : GoodIn wsX6_without (va_wsS RX6 72 yX6_requireIndex wsX6_requireIndex) := goodIn_app (goodIn_of _ (by decide +kernel)) ggX6_without_X6_requireIndex
set_option maxRecDepth 20000 in
theorem ggX6_without_X2_findBest : GoodIn wsX6_without wsX2_findBest := goodIn_r _ [42, 43, 44, 45, 46, 47, 48, 49, 50, 51, 52, 53, 41, 54, 55, 56, 57, 58, 59, 60, 11, 12, 13, 14, 15, 61, 22, 23, 24, 25, 26, 27, 28, 29, 30, 31, 32, 33, 34, 35, 36, 37, 62, 63, 64, 65, 66, 67, 68, 69, 70, 71, 72, 73, 74, 75, 76, 77, 78, 79, 80, 81, 82, 83, 84, 85, 103, 104, 86, 87, 88, 89, 90, 91, 92, 105, 106, 107, 108, 109, 110, 111, 112, 100, 101, 102] (by decide +kernel) (by decide +kernel)
set_option maxRecDepth 20000 in
theorem gX6_without_X2_findBest : GoodIn wsX6_without (wsV RX6 221 RX2 yX2_findBest wsX2_findBest) := goodIn_app (goodIn_of _ (by decide +kernel)) ggX6_without_X2_findBest
theorem dX6_without_0 : decode cX6_without 0 = .ok (.aload_n 0, 1) := by decide +kernel
theorem dX6_without_1 : decode cX6_without 1 = .ok (.iload_n 1, 1) := by decide +kernel
theorem dX6_without_2 : decode cX6_without 2 = .ok (.invokevirtual 118, 3) := by decide +kernel
theorem dX6_without_5 : decode cX6_without 5 = .ok (.astore_n 3, 1) := by decide +kernel
theorem dX6_without_6 : decode cX6_without 6 = .ok (.iload_n 2, 1) := by decide +kernel
theorem dX6_without_7 : decode cX6_without 7 = .ok (.aload_n 3, 1) := by decide +kernel
theorem dX6_without_8 : decode cX6_without 8 = .ok (.getfield 129, 3) := by decide +kernel
theorem dX6_without_11 : decode cX6_without 11 = .ok (.invokevirtual 47, 3) := by decide +kernel
theorem dX6_without_14 : decode cX6_without 14 = .ok (.invokestatic 72, 3) := by decide +kernel
theorem dX6_without_17 : decode cX6_without 17 = .ok (.aload_n 0, 1) := by decide +kernel
theorem dX6_without_18 : decode cX6_without 18 = .ok (.getfield 32, 3) := by decide +kernel
theorem dX6_without_21 : decode cX6_without 21 = .ok (.aload_n 3, 1) := by decide +kernel
theorem dX6_without_22 : decode cX6_without 22 = .ok (.iload_n 2, 1) := by decide +kernel
theorem dX6_without_23 : decode cX6_without 23 = .ok (.invokevirtual 221, 3) := by decide +kernel
theorem dX6_without_26 : decode cX6_without 26 = .ok (.ireturn, 1) := by decide +kernel
set_option maxRecDepth 20000 in
theorem ggX6_perform_X6_bandAt : GoodIn wsX6_perform wsX6_bandAt := goodIn_ca (goodIn_r _ [13, 14, 15, 16, 17, 18, 19, 20, 21, 22, 23, 12, 24, 25, 26, 27, 28, 29, 30, 31, 32, 33, 34, 35, 36, 37, 38, 39, 40, 41, 42, 43, 134, 135, 136, 137, 138, 139, 140, 141, 142, 143] (by decide +kernel) (by decide +kernel)) (goodIn_sub (fun _ h => List.mem_cons_of_mem _ (List.mem_append_left _ (List.mem_append_left _ (List.mem_append_right _ h)))) (by decide +kernel))
set_option maxRecDepth 20000 in
theorem gX6_perform_X6_bandAt : GoodIn wsX6_perform (wsV RX6 118 RX6 yX6_bandAt wsX6_bandAt) := goodIn_app (goodIn_of _ (by decide +kernel)) ggX6_perform_X6_bandAt
set_option maxRecDepth 20000 in
theorem ggX6_perform_X6_requireRange : GoodIn wsX6_perform wsX6_requireRange := goodIn_ca (goodIn_r _ [46, 47, 48] (by decide +kernel) (by decide +kernel)) (goodIn_sub (fun _ h => List.mem_cons_of_mem _ (List.mem_append_left _ (List.mem_append_right _ h))) (by decide +kernel))
set_option maxRecDepth 20000 in
theorem gX6_perform_X6_requireRange : GoodIn wsX6_perform (va_wsS RX6 43 yX6_requireRange wsX6_requireRange) := goodIn_app (goodIn_of _ (by decide +kernel)) ggX6_perform_X6_requireRange
set_option maxRecDepth 20000 in
theorem ggX6_perform_X6_requireState : GoodIn wsX6_perform wsX6_requireState := goodIn_ca (goodIn_r _ [51, 52, 53] (by decide +kernel) (by decide +kernel)) (goodIn_sub (fun _ h => List.mem_cons_of_mem _ (List.mem_append_right _ h)) (by decide +kernel))
set_option maxRecDepth 20000 in
theorem gX6_perform_X6_requireState : GoodIn wsX6_perform (va_wsS RX6 51 yX6_requireState wsX6_requireState) := goodIn_app (goodIn_of _ (by decide +kernel)) ggX6_perform_X6_requireState
set_option maxRecDepth 20000 in
theorem ggX6_perform_X2_findBest : GoodIn wsX6_perform wsX2_findBest := goodIn_r _ [58, 59, 60, 61, 62, 63, 64, 65, 66, 67, 68, 69, 57, 70, 71, 72, 73, 74, 75, 76, 17, 18, 19, 20, 21, 77, 28, 29, 30, 31, 32, 33, 34, 35, 36, 37, 38, 39, 40, 41, 42, 43, 78, 79, 80, 81, 82, 83, 84, 85, 86, 87, 88, 89, 90, 6, 91, 92, 93, 94, 95, 96, 97, 98, 99, 100, 144, 145, 127, 128, 129, 130, 131, 132, 133, 146, 147, 148, 149, 150, 151, 152, 153, 141, 142, 143] (by decide +kernel) (by decide +kernel)
set_option maxRecDepth 20000 in
theorem gX6_perform_X2_findBest : GoodIn wsX6_perform (wsV RX6 221 RX2 yX2_findBest wsX2_findBest) := goodIn_app (goodIn_of _ (by decide +kernel)) ggX6_perform_X2_findBest
set_option maxRecDepth 20000 in
theorem ggX6_perform_X2_countUntuned : GoodIn wsX6_perform wsX2_countUntuned := goodIn_r _ [104, 71, 72, 74, 76, 17, 18, 19, 20, 21, 61, 62, 63, 64, 65, 66, 105, 106, 107, 57, 108, 59, 77, 28, 29, 30, 31, 32, 33, 34, 35, 36, 37, 38, 39, 40, 41, 42, 43, 109, 110, 111, 112, 113, 114, 115, 116, 117, 118, 119, 120, 121, 90, 6, 91, 122, 123, 124, 125, 126, 127, 128, 129, 130, 131, 132, 133, 146, 147, 141, 142, 143, 144, 145, 148, 149, 150, 151, 152, 153, 154, 155, 156, 157, 158] (by decide +kernel) (by decide +kernel)
set_option maxRecDepth 20000 in
theorem gX6_perform_X2_countUntuned : GoodIn wsX6_perform (wsV RX6 228 RX2 yX2_countUntuned wsX2_countUntuned) := goodIn_app (goodIn_of _ (by decide +kernel)) ggX6_perform_X2_countUntuned
theorem dX6_perform_0 : decode cX6_perform 0 = .ok (.aload_n 0, 1) := by decide +kernel
theorem dX6_perform_1 : decode cX6_perform 1 = .ok (.iload_n 1, 1) := by decide +kernel
theorem dX6_perform_2 : decode cX6_perform 2 = .ok (.invokevirtual 118, 3) := by decide +kernel
theorem dX6_perform_5 : decode cX6_perform 5 = .ok (.astore_n 3, 1) := by decide +kernel
theorem dX6_perform_6 : decode cX6_perform 6 = .ok (.iload_n 2, 1) := by decide +kernel
theorem dX6_perform_7 : decode cX6_perform 7 = .ok (.iconst 1, 1) := by decide +kernel
theorem dX6_perform_8 : decode cX6_perform 8 = .ok (.bipush 30, 2) := by decide +kernel
theorem dX6_perform_10 : decode cX6_perform 10 = .ok (.invokestatic 43, 3) := by decide +kernel
theorem dX6_perform_13 : decode cX6_perform 13 = .ok (.aload_n 3, 1) := by decide +kernel
theorem dX6_perform_14 : decode cX6_perform 14 = .ok (.getfield 218, 3) := by decide +kernel
theorem dX6_perform_17 : decode cX6_perform 17 = .ok (.iconst (-1), 1) := by decide +kernel
theorem dX6_perform_18 : decode cX6_perform 18 = .ok (.if_icmp .ne 7, 3) := by decide +kernel
theorem dX6_perform_21 : decode cX6_perform 21 = .ok (.iconst 1, 1) := by decide +kernel
theorem dX6_perform_22 : decode cX6_perform 22 = .ok (.goto 4, 3) := by decide +kernel
theorem dX6_perform_25 : decode cX6_perform 25 = .ok (.iconst 0, 1) := by decide +kernel
theorem dX6_perform_26 : decode cX6_perform 26 = .ok (.invokestatic 51, 3) := by decide +kernel
theorem dX6_perform_29 : decode cX6_perform 29 = .ok (.aload_n 0, 1) := by decide +kernel
theorem dX6_perform_30 : decode cX6_perform 30 = .ok (.getfield 32, 3) := by decide +kernel
theorem dX6_perform_33 : decode cX6_perform 33 = .ok (.aload_n 3, 1) := by decide +kernel
theorem dX6_perform_34 : decode cX6_perform 34 = .ok (.iconst (-1), 1) := by decide +kernel
theorem dX6_perform_35 : decode cX6_perform 35 = .ok (.invokevirtual 221, 3) := by decide +kernel
theorem dX6_perform_38 : decode cX6_perform 38 = .ok (.istore 4, 2) := by decide +kernel
theorem dX6_perform_40 : decode cX6_perform 40 = .ok (.iload 4, 2) := by decide +kernel
theorem dX6_perform_42 : decode cX6_perform 42 = .ok (.iconst (-1), 1) := by decide +kernel
theorem dX6_perform_43 : decode cX6_perform 43 = .ok (.if_icmp .eq 7, 3) := by decide +kernel
theorem dX6_perform_46 : decode cX6_perform 46 = .ok (.iconst 1, 1) := by decide +kernel
theorem dX6_perform_47 : decode cX6_perform 47 = .ok (.goto 4, 3) := by decide +kernel
theorem dX6_perform_50 : decode cX6_perform 50 = .ok (.iconst 0, 1) := by decide +kernel
theorem dX6_perform_51 : decode cX6_perform 51 = .ok (.invokestatic 51, 3) := by decide +kernel
theorem dX6_perform_54 : decode cX6_perform 54 = .ok (.aload_n 3, 1) := by decide +kernel
theorem dX6_perform_55 : decode cX6_perform 55 = .ok (.iload 4, 2) := by decide +kernel
theorem dX6_perform_57 : decode cX6_perform 57 = .ok (.bipush 10, 2) := by decide +kernel
theorem dX6_perform_59 : decode cX6_perform 59 = .ok (.aload_n 0, 1) := by decide +kernel
theorem dX6_perform_60 : decode cX6_perform 60 = .ok (.getfield 32, 3) := by decide +kernel
theorem dX6_perform_63 : decode cX6_perform 63 = .ok (.aload_n 3, 1) := by decide +kernel
theorem dX6_perform_64 : decode cX6_perform 64 = .ok (.aload_n 0, 1) := by decide +kernel
theorem dX6_perform_65 : decode cX6_perform 65 = .ok (.getfield 84, 3) := by decide +kernel
theorem dX6_perform_68 : decode cX6_perform 68 = .ok (.invokevirtual 228, 3) := by decide +kernel
theorem dX6_perform_71 : decode cX6_perform 71 = .ok (.imul, 1) := by decide +kernel
theorem dX6_perform_72 : decode cX6_perform 72 = .ok (.iadd, 1) := by decide +kernel
theorem dX6_perform_73 : decode cX6_perform 73 = .ok (.putfield 218, 3) := by decide +kernel
theorem dX6_perform_76 : decode cX6_perform 76 = .ok (.aload_n 3, 1) := by decide +kernel
theorem dX6_perform_77 : decode cX6_perform 77 = .ok (.iconst 2, 1) := by decide +kernel
theorem dX6_perform_78 : decode cX6_perform 78 = .ok (.iconst 0, 1) := by decide +kernel
theorem dX6_perform_79 : decode cX6_perform 79 = .ok (.iload_n 2, 1) := by decide +kernel
theorem dX6_perform_80 : decode cX6_perform 80 = .ok (.bipush 10, 2) := by decide +kernel
theorem dX6_perform_82 : decode cX6_perform 82 = .ok (.isub, 1) := by decide +kernel
theorem dX6_perform_83 : decode cX6_perform 83 = .ok (.invokestatic 231, 3) := by decide +kernel
theorem dX6_perform_86 : decode cX6_perform 86 = .ok (.imul, 1) := by decide +kernel
theorem dX6_perform_87 : decode cX6_perform 87 = .ok (.putfield 237, 3) := by decide +kernel
theorem dX6_perform_90 : decode cX6_perform 90 = .ok (.aload_n 3, 1) := by decide +kernel
theorem dX6_perform_91 : decode cX6_perform 91 = .ok (.getfield 218, 3) := by decide +kernel
theorem dX6_perform_94 : decode cX6_perform 94 = .ok (.ireturn, 1) := by decide +kernel
set_option maxRecDepth 20000 in
theorem ggX6_mark_X6_bandAt : GoodIn wsX6_mark wsX6_bandAt := goodIn_ca (goodIn_r _ [7, 8, 9, 10, 11, 12, 13, 14, 15, 16, 17, 6, 18, 19, 20, 21, 22, 23, 24, 25, 26, 27, 28, 29, 30, 31, 32, 33, 34, 35, 36, 37, 61, 62, 63, 64, 65, 66, 67, 68, 69, 70] (by decide +kernel) (by decide +kernel)) (goodIn_sub (fun _ h => List.mem_cons_of_mem _ (List.mem_append_left _ (List.mem_append_left _ (List.mem_append_right _ h)))) (by decide +kernel))
set_option maxRecDepth 20000 in
theorem gX6_mark_X6_bandAt : GoodIn wsX6_mark (wsV RX6 118 RX6 yX6_bandAt wsX6_bandAt) := goodIn_app (goodIn_of _ (by decide +kernel)) ggX6_mark_X6_bandAt
set_option maxRecDepth 20000 in
theorem ggX6_mark_X6_requireIndex : GoodIn wsX6_mark wsX6_requireIndex := goodIn_ca (goodIn_r _ [18, 19, 20] (by decide +kernel) (by decide +kernel)) (goodIn_sub (fun _ h => List.mem_cons_of_mem _ (List.mem_append_left _ (List.mem_append_left _ (List.mem_append_right _ h)))) (by decide +kernel))
set_option maxRecDepth 20000 in
theorem gX6_mark_X6_requireIndex : GoodIn wsX6_mark (va_wsS RX6 72 yX6_requireIndex wsX6_requireIndex) := goodIn_app (goodIn_of _ (by decide +kernel)) ggX6_mark_X6_requireIndex
set_option maxRecDepth 20000 in
theorem ggX6_mark_X6_requireRange : GoodIn wsX6_mark wsX6_requireRange := goodIn_ca (goodIn_r _ [40, 41, 42] (by decide +kernel) (by decide +kernel)) (goodIn_sub (fun _ h => List.mem_cons_of_mem _ (List.mem_append_left _ (List.mem_append_right _ h))) (by decide +kernel))
set_option maxRecDepth 20000 in
theorem gX6_mark_X6_requireRange : GoodIn wsX6_mark (va_wsS RX6 43 yX6_requireRange wsX6_requireRange) := goodIn_app (goodIn_of _ (by decide +kernel)) ggX6_mark_X6_requireRange
set_option maxRecDepth 20000 in
theorem ggX6_mark_X6_requireState : GoodIn wsX6_mark wsX6_requireState := goodIn_ca (goodIn_r _ [45, 46, 47] (by decide +kernel) (by decide +kernel)) (goodIn_sub (fun _ h => List.mem_cons_of_mem _ (List.mem_append_right _ h)) (by decide +kernel))
set_option maxRecDepth 20000 in
theorem gX6_mark_X6_requireState : GoodIn wsX6_mark (va_wsS RX6 51 yX6_requireState wsX6_requireState) := goodIn_app (goodIn_of _ (by decide +kernel)) ggX6_mark_X6_requireState
set_option maxRecDepth 20000 in
theorem ggX6_mark_X0_countMarks : GoodIn wsX6_mark wsX0_countMarks := goodIn_r _ [52, 53, 54, 55, 56, 57, 58, 59, 60] (by decide +kernel) (by decide +kernel)
set_option maxRecDepth 20000 in
theorem gX6_mark_X0_countMarks : GoodIn wsX6_mark (wsV RX6 243 RX0 yX0_countMarks wsX0_countMarks) := goodIn_app (goodIn_of _ (by decide +kernel)) ggX6_mark_X0_countMarks
theorem dX6_mark_0 : decode cX6_mark 0 = .ok (.aload_n 0, 1) := by decide +kernel
theorem dX6_mark_1 : decode cX6_mark 1 = .ok (.iload_n 1, 1) := by decide +kernel
theorem dX6_mark_2 : decode cX6_mark 2 = .ok (.invokevirtual 118, 3) := by decide +kernel
theorem dX6_mark_5 : decode cX6_mark 5 = .ok (.astore 4, 2) := by decide +kernel
theorem dX6_mark_7 : decode cX6_mark 7 = .ok (.iload_n 2, 1) := by decide +kernel
theorem dX6_mark_8 : decode cX6_mark 8 = .ok (.iconst 5, 1) := by decide +kernel
theorem dX6_mark_9 : decode cX6_mark 9 = .ok (.invokestatic 72, 3) := by decide +kernel
theorem dX6_mark_12 : decode cX6_mark 12 = .ok (.iload_n 3, 1) := by decide +kernel
theorem dX6_mark_13 : decode cX6_mark 13 = .ok (.iconst 0, 1) := by decide +kernel
theorem dX6_mark_14 : decode cX6_mark 14 = .ok (.bipush 100, 2) := by decide +kernel
theorem dX6_mark_16 : decode cX6_mark 16 = .ok (.invokestatic 43, 3) := by decide +kernel
theorem dX6_mark_19 : decode cX6_mark 19 = .ok (.aload 4, 2) := by decide +kernel
theorem dX6_mark_21 : decode cX6_mark 21 = .ok (.getfield 218, 3) := by decide +kernel
theorem dX6_mark_24 : decode cX6_mark 24 = .ok (.iconst (-1), 1) := by decide +kernel
theorem dX6_mark_25 : decode cX6_mark 25 = .ok (.if_icmp .eq 18, 3) := by decide +kernel
theorem dX6_mark_28 : decode cX6_mark 28 = .ok (.aload 4, 2) := by decide +kernel
theorem dX6_mark_30 : decode cX6_mark 30 = .ok (.getfield 240, 3) := by decide +kernel
theorem dX6_mark_33 : decode cX6_mark 33 = .ok (.iload_n 2, 1) := by decide +kernel
theorem dX6_mark_34 : decode cX6_mark 34 = .ok (.iaload, 1) := by decide +kernel
theorem dX6_mark_35 : decode cX6_mark 35 = .ok (.iconst (-1), 1) := by decide +kernel
theorem dX6_mark_36 : decode cX6_mark 36 = .ok (.if_icmp .ne 7, 3) := by decide +kernel
theorem dX6_mark_39 : decode cX6_mark 39 = .ok (.iconst 1, 1) := by decide +kernel
theorem dX6_mark_40 : decode cX6_mark 40 = .ok (.goto 4, 3) := by decide +kernel
theorem dX6_mark_43 : decode cX6_mark 43 = .ok (.iconst 0, 1) := by decide +kernel
theorem dX6_mark_44 : decode cX6_mark 44 = .ok (.invokestatic 51, 3) := by decide +kernel
theorem dX6_mark_47 : decode cX6_mark 47 = .ok (.aload 4, 2) := by decide +kernel
theorem dX6_mark_49 : decode cX6_mark 49 = .ok (.getfield 240, 3) := by decide +kernel
theorem dX6_mark_52 : decode cX6_mark 52 = .ok (.iload_n 2, 1) := by decide +kernel
theorem dX6_mark_53 : decode cX6_mark 53 = .ok (.iload_n 3, 1) := by decide +kernel
theorem dX6_mark_54 : decode cX6_mark 54 = .ok (.iastore, 1) := by decide +kernel
theorem dX6_mark_55 : decode cX6_mark 55 = .ok (.aload 4, 2) := by decide +kernel
theorem dX6_mark_57 : decode cX6_mark 57 = .ok (.invokevirtual 243, 3) := by decide +kernel
theorem dX6_mark_60 : decode cX6_mark 60 = .ok (.ireturn, 1) := by decide +kernel
set_option maxRecDepth 20000 in
theorem ggX6_score_X6_bandAt : GoodIn wsX6_score wsX6_bandAt := goodIn_ca (goodIn_r _ [5, 6, 7, 8, 9, 10, 11, 12, 13, 14, 15, 4, 16, 17, 18, 19, 20, 21, 22, 23, 24, 25, 26, 27, 28, 29, 30, 31, 32, 33, 34, 35, 63, 64, 65, 66, 67, 68, 69, 70, 71, 72] (by decide +kernel) (by decide +kernel)) (goodIn_sub (fun _ h => List.mem_cons_of_mem _ (List.mem_append_left _ (List.mem_append_right _ h))) (by decide +kernel))
set_option maxRecDepth 20000 in
theorem gX6_score_X6_bandAt : GoodIn wsX6_score (wsV RX6 118 RX6 yX6_bandAt wsX6_bandAt) := goodIn_app (goodIn_of _ (by decide +kernel)) ggX6_score_X6_bandAt
set_option maxRecDepth 20000 in
theorem ggX6_score_X0_isRanked : GoodIn wsX6_score wsX0_isRanked := goodIn_r _ [40, 41, 42, 43, 39, 44, 45, 73, 74, 75, 76, 77, 78, 79] (by decide +kernel) (by decide +kernel)
set_option maxRecDepth 20000 in
theorem gX6_score_X0_isRanked : GoodIn wsX6_score (wsV RX6 246 RX0 yX0_isRanked wsX0_isRanked) := goodIn_app (goodIn_of _ (by decide +kernel)) ggX6_score_X0_isRanked
set_option maxRecDepth 20000 in
theorem ggX6_score_X6_requireState : GoodIn wsX6_score wsX6_requireState := goodIn_ca (goodIn_r _ [48, 49, 50] (by decide +kernel) (by decide +kernel)) (goodIn_sub (fun _ h => List.mem_cons_of_mem _ (List.mem_append_right _ h)) (by decide +kernel))
set_option maxRecDepth 20000 in
theorem gX6_score_X6_requireState : GoodIn wsX6_score (va_wsS RX6 51 yX6_requireState wsX6_requireState) := goodIn_app (goodIn_of _ (by decide +kernel)) ggX6_score_X6_requireState
set_option maxRecDepth 20000 in
theorem ggX6_score_X0_countScore : GoodIn wsX6_score wsX0_countScore := goodIn_r _ [54, 45, 55, 56, 57, 58, 59, 60, 61, 62, 73, 74, 75, 76, 77, 78, 79] (by decide +kernel) (by decide +kernel)
set_option maxRecDepth 20000 in
theorem gX6_score_X0_countScore : GoodIn wsX6_score (wsV RX6 249 RX0 yX0_countScore wsX0_countScore) := goodIn_app (goodIn_of _ (by decide +kernel)) ggX6_score_X0_countScore
theorem dX6_score_0 : decode cX6_score 0 = .ok (.aload_n 0, 1) := by decide +kernel
theorem dX6_score_1 : decode cX6_score 1 = .ok (.iload_n 1, 1) := by decide +kernel
theorem dX6_score_2 : decode cX6_score 2 = .ok (.invokevirtual 118, 3) := by decide +kernel
theorem dX6_score_5 : decode cX6_score 5 = .ok (.astore_n 2, 1) := by decide +kernel
theorem dX6_score_6 : decode cX6_score 6 = .ok (.aload_n 2, 1) := by decide +kernel
theorem dX6_score_7 : decode cX6_score 7 = .ok (.invokevirtual 246, 3) := by decide +kernel
theorem dX6_score_10 : decode cX6_score 10 = .ok (.invokestatic 51, 3) := by decide +kernel
theorem dX6_score_13 : decode cX6_score 13 = .ok (.aload_n 2, 1) := by decide +kernel
theorem dX6_score_14 : decode cX6_score 14 = .ok (.invokevirtual 249, 3) := by decide +kernel
theorem dX6_score_17 : decode cX6_score 17 = .ok (.ireturn, 1) := by decide +kernel
set_option maxRecDepth 20000 in
theorem ggX6_rank_X6_requireIndex : GoodIn wsX6_rank wsX6_requireIndex := goodIn_ca (goodIn_r _ [6, 7, 8] (by decide +kernel) (by decide +kernel)) (goodIn_sub (fun _ h => List.mem_cons_of_mem _ (List.mem_append_right _ h)) (by decide +kernel))
set_option maxRecDepth 20000 in
theorem gX6_rank_X6_requireIndex : GoodIn wsX6_rank (va_wsS RX6 72 yX6_requireIndex wsX6_requireIndex) := goodIn_app (goodIn_of _ (by decide +kernel)) ggX6_rank_X6_requireIndex
set_option maxRecDepth 20000 in
theorem ggX6_rank_Jx4a65c_size_8abf5 : GoodIn wsX6_rank wsJx4a65c_size_8abf5 := goodIn_r _ [13, 14, 74, 75, 76] (by decide +kernel) (by decide +kernel)
set_option maxRecDepth 20000 in
theorem gX6_rank_Jx4a65c_size_8abf5 : GoodIn wsX6_rank (wsV RX6 47 RJx4a65c yJx4a65c_size_8abf5 wsJx4a65c_size_8abf5) := goodIn_app (goodIn_of _ (by decide +kernel)) ggX6_rank_Jx4a65c_size_8abf5
set_option maxRecDepth 20000 in
theorem ggX6_rank_Jx4a65c_get_915e3 : GoodIn wsX6_rank wsJx4a65c_get_915e3 := goodIn_r _ [18, 14, 19, 20, 21, 22, 23, 24, 25, 26, 27, 28, 29, 12, 30, 31, 74, 75, 76] (by decide +kernel) (by decide +kernel)
set_option maxRecDepth 20000 in
theorem gX6_rank_Jx4a65c_get_915e3 : GoodIn wsX6_rank (wsV RX6 252 RJx4a65c yJx4a65c_get_915e3 wsJx4a65c_get_915e3) := goodIn_app (goodIn_of _ (by decide +kernel)) ggX6_rank_Jx4a65c_get_915e3
set_option maxRecDepth 20000 in
theorem ggX6_rank_X0_isRanked : GoodIn wsX6_rank wsX0_isRanked := goodIn_r _ [36, 37, 38, 39, 35, 40, 41, 77, 78, 79, 80, 81, 82, 83] (by decide +kernel) (by decide +kernel)
set_option maxRecDepth 20000 in
theorem gX6_rank_X0_isRanked : GoodIn wsX6_rank (wsV RX6 246 RX0 yX0_isRanked wsX0_isRanked) := goodIn_app (goodIn_of _ (by decide +kernel)) ggX6_rank_X0_isRanked
set_option maxRecDepth 20000 in
theorem ggX6_rank_X6_countAhead : GoodIn wsX6_rank wsX6_countAhead := goodIn_ca (goodIn_r _ [45, 1, 9, 10, 11, 12, 13, 14, 46, 47, 48, 5, 49, 50, 51, 52, 53, 54, 2, 3, 4, 6, 7, 8, 15, 16, 17, 18, 19, 20, 21, 22, 23, 24, 25, 26, 27, 28, 29, 30, 31, 32, 33, 34, 35, 36, 37, 38, 39, 40, 41, 55, 56, 57, 58, 59, 60, 61, 62, 63, 64, 65, 66, 67, 68, 69, 70, 71, 72, 73, 74, 75, 76, 77, 78, 79, 80, 81, 82, 83] (by decide +kernel) (by decide +kernel)) (goodIn_sub (fun _ h => List.mem_cons_of_mem _ (List.mem_append_right _ h)) (by decide +kernel))
set_option maxRecDepth 20000 in
theorem gX6_rank_X6_countAhead : GoodIn wsX6_rank (wsV RX6 255 RX6 yX6_countAhead wsX6_countAhead) := goodIn_app (goodIn_of _ (by decide +kernel)) ggX6_rank_X6_countAhead
theorem dX6_rank_0 : decode cX6_rank 0 = .ok (.iload_n 1, 1) := by decide +kernel
theorem dX6_rank_1 : decode cX6_rank 1 = .ok (.iconst 4, 1) := by decide +kernel
theorem dX6_rank_2 : decode cX6_rank 2 = .ok (.invokestatic 72, 3) := by decide +kernel
theorem dX6_rank_5 : decode cX6_rank 5 = .ok (.iconst 0, 1) := by decide +kernel
theorem dX6_rank_6 : decode cX6_rank 6 = .ok (.istore_n 2, 1) := by decide +kernel
theorem dX6_rank_7 : decode cX6_rank 7 = .ok (.iload_n 2, 1) := by decide +kernel
theorem dX6_rank_8 : decode cX6_rank 8 = .ok (.aload_n 0, 1) := by decide +kernel
theorem dX6_rank_9 : decode cX6_rank 9 = .ok (.getfield 19, 3) := by decide +kernel
theorem dX6_rank_12 : decode cX6_rank 12 = .ok (.invokevirtual 47, 3) := by decide +kernel
theorem dX6_rank_15 : decode cX6_rank 15 = .ok (.if_icmp .ge 37, 3) := by decide +kernel
theorem dX6_rank_18 : decode cX6_rank 18 = .ok (.aload_n 0, 1) := by decide +kernel
theorem dX6_rank_19 : decode cX6_rank 19 = .ok (.getfield 19, 3) := by decide +kernel
theorem dX6_rank_22 : decode cX6_rank 22 = .ok (.iload_n 2, 1) := by decide +kernel
theorem dX6_rank_23 : decode cX6_rank 23 = .ok (.invokevirtual 252, 3) := by decide +kernel
theorem dX6_rank_26 : decode cX6_rank 26 = .ok (.checkcast 36, 3) := by decide +kernel
theorem dX6_rank_29 : decode cX6_rank 29 = .ok (.invokevirtual 246, 3) := by decide +kernel
theorem dX6_rank_32 : decode cX6_rank 32 = .ok (.ifCond .eq 14, 3) := by decide +kernel
theorem dX6_rank_35 : decode cX6_rank 35 = .ok (.aload_n 0, 1) := by decide +kernel
theorem dX6_rank_36 : decode cX6_rank 36 = .ok (.iload_n 2, 1) := by decide +kernel
theorem dX6_rank_37 : decode cX6_rank 37 = .ok (.invokevirtual 255, 3) := by decide +kernel
theorem dX6_rank_40 : decode cX6_rank 40 = .ok (.iload_n 1, 1) := by decide +kernel
theorem dX6_rank_41 : decode cX6_rank 41 = .ok (.if_icmp .ne 5, 3) := by decide +kernel
theorem dX6_rank_44 : decode cX6_rank 44 = .ok (.iload_n 2, 1) := by decide +kernel
theorem dX6_rank_45 : decode cX6_rank 45 = .ok (.ireturn, 1) := by decide +kernel
theorem dX6_rank_46 : decode cX6_rank 46 = .ok (.iinc 2 1, 3) := by decide +kernel
theorem dX6_rank_49 : decode cX6_rank 49 = .ok (.goto (-42), 3) := by decide +kernel
theorem dX6_rank_52 : decode cX6_rank 52 = .ok (.iconst (-1), 1) := by decide +kernel
theorem dX6_rank_53 : decode cX6_rank 53 = .ok (.ireturn, 1) := by decide +kernel
theorem dX6_night_0 : decode cX6_night 0 = .ok (.aload_n 0, 1) := by decide +kernel
theorem dX6_night_1 : decode cX6_night 1 = .ok (.getfield 198, 3) := by decide +kernel
theorem dX6_night_4 : decode cX6_night 4 = .ok (.ireturn, 1) := by decide +kernel
theorem dX6_requireIndex_0 : decode cX6_requireIndex 0 = .ok (.iload_n 0, 1) := by decide +kernel
theorem dX6_requireIndex_1 : decode cX6_requireIndex 1 = .ok (.ifCond .lt 8, 3) := by decide +kernel
theorem dX6_requireIndex_4 : decode cX6_requireIndex 4 = .ok (.iload_n 0, 1) := by decide +kernel
theorem dX6_requireIndex_5 : decode cX6_requireIndex 5 = .ok (.iload_n 1, 1) := by decide +kernel
theorem dX6_requireIndex_6 : decode cX6_requireIndex 6 = .ok (.if_icmp .lt 14, 3) := by decide +kernel
theorem dX6_requireIndex_9 : decode cX6_requireIndex 9 = .ok (.new 258, 3) := by decide +kernel
theorem dX6_requireIndex_12 : decode cX6_requireIndex 12 = .ok (.dup, 1) := by decide +kernel
theorem dX6_requireIndex_13 : decode cX6_requireIndex 13 = .ok (.ldc_w 260, 3) := by decide +kernel
theorem dX6_requireIndex_16 : decode cX6_requireIndex 16 = .ok (.invokespecial 262, 3) := by decide +kernel
theorem dX6_requireIndex_19 : decode cX6_requireIndex 19 = .ok (.athrow, 1) := by decide +kernel
theorem dX6_requireIndex_20 : decode cX6_requireIndex 20 = .ok (.return_, 1) := by decide +kernel
theorem dX6_requireRange_0 : decode cX6_requireRange 0 = .ok (.iload_n 0, 1) := by decide +kernel
theorem dX6_requireRange_1 : decode cX6_requireRange 1 = .ok (.iload_n 1, 1) := by decide +kernel
theorem dX6_requireRange_2 : decode cX6_requireRange 2 = .ok (.if_icmp .lt 8, 3) := by decide +kernel
theorem dX6_requireRange_5 : decode cX6_requireRange 5 = .ok (.iload_n 0, 1) := by decide +kernel
theorem dX6_requireRange_6 : decode cX6_requireRange 6 = .ok (.iload_n 2, 1) := by decide +kernel
theorem dX6_requireRange_7 : decode cX6_requireRange 7 = .ok (.if_icmp .le 14, 3) := by decide +kernel
theorem dX6_requireRange_10 : decode cX6_requireRange 10 = .ok (.new 263, 3) := by decide +kernel
theorem dX6_requireRange_13 : decode cX6_requireRange 13 = .ok (.dup, 1) := by decide +kernel
theorem dX6_requireRange_14 : decode cX6_requireRange 14 = .ok (.ldc_w 265, 3) := by decide +kernel
theorem dX6_requireRange_17 : decode cX6_requireRange 17 = .ok (.invokespecial 267, 3) := by decide +kernel
theorem dX6_requireRange_20 : decode cX6_requireRange 20 = .ok (.athrow, 1) := by decide +kernel
theorem dX6_requireRange_21 : decode cX6_requireRange 21 = .ok (.return_, 1) := by decide +kernel
theorem dX6_requireState_0 : decode cX6_requireState 0 = .ok (.iload_n 0, 1) := by decide +kernel
theorem dX6_requireState_1 : decode cX6_requireState 1 = .ok (.ifCond .ne 14, 3) := by decide +kernel
theorem dX6_requireState_4 : decode cX6_requireState 4 = .ok (.new 161, 3) := by decide +kernel
theorem dX6_requireState_7 : decode cX6_requireState 7 = .ok (.dup, 1) := by decide +kernel
theorem dX6_requireState_8 : decode cX6_requireState 8 = .ok (.ldc_w 268, 3) := by decide +kernel
theorem dX6_requireState_11 : decode cX6_requireState 11 = .ok (.invokespecial 165, 3) := by decide +kernel
theorem dX6_requireState_14 : decode cX6_requireState 14 = .ok (.athrow, 1) := by decide +kernel
theorem dX6_requireState_15 : decode cX6_requireState 15 = .ok (.return_, 1) := by decide +kernel
set_option maxRecDepth 20000 in
theorem ggX6_requirePhrase_X0_phraseCount : GoodIn wsX6_requirePhrase wsX0_phraseCount := goodIn_r _ [5, 6, 13, 14, 15, 16, 17, 18, 19] (by decide +kernel) (by decide +kernel)
set_option maxRecDepth 20000 in
theorem gX6_requirePhrase_X0_phraseCount : GoodIn wsX6_requirePhrase (wsV RX6 215 RX0 yX0_phraseCount wsX0_phraseCount) := goodIn_app (goodIn_of _ (by decide +kernel)) ggX6_requirePhrase_X0_phraseCount
set_option maxRecDepth 20000 in
theorem ggX6_requirePhrase_X6_requireIndex : GoodIn wsX6_requirePhrase wsX6_requireIndex := goodIn_ca (goodIn_r _ [10, 11, 12] (by decide +kernel) (by decide +kernel)) (goodIn_sub (fun _ h => List.mem_cons_of_mem _ (List.mem_append_right _ h)) (by decide +kernel))
set_option maxRecDepth 20000 in
theorem gX6_requirePhrase_X6_requireIndex : GoodIn wsX6_requirePhrase (va_wsS RX6 72 yX6_requireIndex wsX6_requireIndex) := goodIn_app (goodIn_of _ (by decide +kernel)) ggX6_requirePhrase_X6_requireIndex
theorem dX6_requirePhrase_0 : decode cX6_requirePhrase 0 = .ok (.iload_n 1, 1) := by decide +kernel
theorem dX6_requirePhrase_1 : decode cX6_requirePhrase 1 = .ok (.aload_n 0, 1) := by decide +kernel
theorem dX6_requirePhrase_2 : decode cX6_requirePhrase 2 = .ok (.invokevirtual 215, 3) := by decide +kernel
theorem dX6_requirePhrase_5 : decode cX6_requirePhrase 5 = .ok (.invokestatic 72, 3) := by decide +kernel
theorem dX6_requirePhrase_8 : decode cX6_requirePhrase 8 = .ok (.return_, 1) := by decide +kernel
set_option maxRecDepth 20000 in
theorem ggX6_panAt_Jx4a65c_size_8abf5 : GoodIn wsX6_panAt wsJx4a65c_size_8abf5 := goodIn_r _ [7, 8, 39, 40, 41] (by decide +kernel) (by decide +kernel)
set_option maxRecDepth 20000 in
theorem gX6_panAt_Jx4a65c_size_8abf5 : GoodIn wsX6_panAt (wsV RX6 47 RJx4a65c yJx4a65c_size_8abf5 wsJx4a65c_size_8abf5) := goodIn_app (goodIn_of _ (by decide +kernel)) ggX6_panAt_Jx4a65c_size_8abf5
set_option maxRecDepth 20000 in
theorem ggX6_panAt_X6_requireIndex : GoodIn wsX6_panAt wsX6_requireIndex := goodIn_ca (goodIn_r _ [12, 13, 14] (by decide +kernel) (by decide +kernel)) (goodIn_sub (fun _ h => List.mem_cons_of_mem _ (List.mem_append_right _ h)) (by decide +kernel))
set_option maxRecDepth 20000 in
theorem gX6_panAt_X6_requireIndex : GoodIn wsX6_panAt (va_wsS RX6 72 yX6_requireIndex wsX6_requireIndex) := goodIn_app (goodIn_of _ (by decide +kernel)) ggX6_panAt_X6_requireIndex
set_option maxRecDepth 20000 in
theorem ggX6_panAt_Jx4a65c_get_915e3 : GoodIn wsX6_panAt wsJx4a65c_get_915e3 := goodIn_r _ [18, 8, 19, 20, 21, 22, 23, 24, 25, 26, 27, 28, 29, 6, 30, 31, 39, 40, 41] (by decide +kernel) (by decide +kernel)
set_option maxRecDepth 20000 in
theorem gX6_panAt_Jx4a65c_get_915e3 : GoodIn wsX6_panAt (wsV RX6 252 RJx4a65c yJx4a65c_get_915e3 wsJx4a65c_get_915e3) := goodIn_app (goodIn_of _ (by decide +kernel)) ggX6_panAt_Jx4a65c_get_915e3
theorem dX6_panAt_0 : decode cX6_panAt 0 = .ok (.iload_n 1, 1) := by decide +kernel
theorem dX6_panAt_1 : decode cX6_panAt 1 = .ok (.aload_n 0, 1) := by decide +kernel
theorem dX6_panAt_2 : decode cX6_panAt 2 = .ok (.getfield 10, 3) := by decide +kernel
theorem dX6_panAt_5 : decode cX6_panAt 5 = .ok (.invokevirtual 47, 3) := by decide +kernel
theorem dX6_panAt_8 : decode cX6_panAt 8 = .ok (.invokestatic 72, 3) := by decide +kernel
theorem dX6_panAt_11 : decode cX6_panAt 11 = .ok (.aload_n 0, 1) := by decide +kernel
theorem dX6_panAt_12 : decode cX6_panAt 12 = .ok (.getfield 10, 3) := by decide +kernel
theorem dX6_panAt_15 : decode cX6_panAt 15 = .ok (.iload_n 1, 1) := by decide +kernel
theorem dX6_panAt_16 : decode cX6_panAt 16 = .ok (.invokevirtual 252, 3) := by decide +kernel
theorem dX6_panAt_19 : decode cX6_panAt 19 = .ok (.checkcast 55, 3) := by decide +kernel
theorem dX6_panAt_22 : decode cX6_panAt 22 = .ok (.areturn, 1) := by decide +kernel
set_option maxRecDepth 20000 in
theorem ggX6_playerAt_Jx4a65c_size_8abf5 : GoodIn wsX6_playerAt wsJx4a65c_size_8abf5 := goodIn_r _ [7, 8, 39, 40, 41] (by decide +kernel) (by decide +kernel)
set_option maxRecDepth 20000 in
theorem gX6_playerAt_Jx4a65c_size_8abf5 : GoodIn wsX6_playerAt (wsV RX6 47 RJx4a65c yJx4a65c_size_8abf5 wsJx4a65c_size_8abf5) := goodIn_app (goodIn_of _ (by decide +kernel)) ggX6_playerAt_Jx4a65c_size_8abf5
set_option maxRecDepth 20000 in
theorem ggX6_playerAt_X6_requireIndex : GoodIn wsX6_playerAt wsX6_requireIndex := goodIn_ca (goodIn_r _ [12, 13, 14] (by decide +kernel) (by decide +kernel)) (goodIn_sub (fun _ h => List.mem_cons_of_mem _ (List.mem_append_right _ h)) (by decide +kernel))
set_option maxRecDepth 20000 in
theorem gX6_playerAt_X6_requireIndex : GoodIn wsX6_playerAt (va_wsS RX6 72 yX6_requireIndex wsX6_requireIndex) := goodIn_app (goodIn_of _ (by decide +kernel)) ggX6_playerAt_X6_requireIndex
set_option maxRecDepth 20000 in
theorem ggX6_playerAt_Jx4a65c_get_915e3 : GoodIn wsX6_playerAt wsJx4a65c_get_915e3 := goodIn_r _ [18, 8, 19, 20, 21, 22, 23, 24, 25, 26, 27, 28, 29, 6, 30, 31, 39, 40, 41] (by decide +kernel) (by decide +kernel)
set_option maxRecDepth 20000 in
theorem gX6_playerAt_Jx4a65c_get_915e3 : GoodIn wsX6_playerAt (wsV RX6 252 RJx4a65c yJx4a65c_get_915e3 wsJx4a65c_get_915e3) := goodIn_app (goodIn_of _ (by decide +kernel)) ggX6_playerAt_Jx4a65c_get_915e3
theorem dX6_playerAt_0 : decode cX6_playerAt 0 = .ok (.iload_n 1, 1) := by decide +kernel
theorem dX6_playerAt_1 : decode cX6_playerAt 1 = .ok (.aload_n 0, 1) := by decide +kernel
theorem dX6_playerAt_2 : decode cX6_playerAt 2 = .ok (.getfield 16, 3) := by decide +kernel
theorem dX6_playerAt_5 : decode cX6_playerAt 5 = .ok (.invokevirtual 47, 3) := by decide +kernel
theorem dX6_playerAt_8 : decode cX6_playerAt 8 = .ok (.invokestatic 72, 3) := by decide +kernel
theorem dX6_playerAt_11 : decode cX6_playerAt 11 = .ok (.aload_n 0, 1) := by decide +kernel
theorem dX6_playerAt_12 : decode cX6_playerAt 12 = .ok (.getfield 16, 3) := by decide +kernel
theorem dX6_playerAt_15 : decode cX6_playerAt 15 = .ok (.iload_n 1, 1) := by decide +kernel
theorem dX6_playerAt_16 : decode cX6_playerAt 16 = .ok (.invokevirtual 252, 3) := by decide +kernel
theorem dX6_playerAt_19 : decode cX6_playerAt 19 = .ok (.checkcast 109, 3) := by decide +kernel
theorem dX6_playerAt_22 : decode cX6_playerAt 22 = .ok (.areturn, 1) := by decide +kernel
set_option maxRecDepth 20000 in
theorem ggX6_bandAt_Jx4a65c_size_8abf5 : GoodIn wsX6_bandAt wsJx4a65c_size_8abf5 := goodIn_r _ [7, 8, 39, 40, 41] (by decide +kernel) (by decide +kernel)
set_option maxRecDepth 20000 in
theorem gX6_bandAt_Jx4a65c_size_8abf5 : GoodIn wsX6_bandAt (wsV RX6 47 RJx4a65c yJx4a65c_size_8abf5 wsJx4a65c_size_8abf5) := goodIn_app (goodIn_of _ (by decide +kernel)) ggX6_bandAt_Jx4a65c_size_8abf5
set_option maxRecDepth 20000 in
theorem ggX6_bandAt_X6_requireIndex : GoodIn wsX6_bandAt wsX6_requireIndex := goodIn_ca (goodIn_r _ [12, 13, 14] (by decide +kernel) (by decide +kernel)) (goodIn_sub (fun _ h => List.mem_cons_of_mem _ (List.mem_append_right _ h)) (by decide +kernel))
set_option maxRecDepth 20000 in
theorem gX6_bandAt_X6_requireIndex : GoodIn wsX6_bandAt (va_wsS RX6 72 yX6_requireIndex wsX6_requireIndex) := goodIn_app (goodIn_of _ (by decide +kernel)) ggX6_bandAt_X6_requireIndex
set_option maxRecDepth 20000 in
theorem ggX6_bandAt_Jx4a65c_get_915e3 : GoodIn wsX6_bandAt wsJx4a65c_get_915e3 := goodIn_r _ [18, 8, 19, 20, 21, 22, 23, 24, 25, 26, 27, 28, 29, 6, 30, 31, 39, 40, 41] (by decide +kernel) (by decide +kernel)
set_option maxRecDepth 20000 in
theorem gX6_bandAt_Jx4a65c_get_915e3 : GoodIn wsX6_bandAt (wsV RX6 252 RJx4a65c yJx4a65c_get_915e3 wsJx4a65c_get_915e3) := goodIn_app (goodIn_of _ (by decide +kernel)) ggX6_bandAt_Jx4a65c_get_915e3
theorem dX6_bandAt_0 : decode cX6_bandAt 0 = .ok (.iload_n 1, 1) := by decide +kernel
theorem dX6_bandAt_1 : decode cX6_bandAt 1 = .ok (.aload_n 0, 1) := by decide +kernel
theorem dX6_bandAt_2 : decode cX6_bandAt 2 = .ok (.getfield 19, 3) := by decide +kernel
theorem dX6_bandAt_5 : decode cX6_bandAt 5 = .ok (.invokevirtual 47, 3) := by decide +kernel
theorem dX6_bandAt_8 : decode cX6_bandAt 8 = .ok (.invokestatic 72, 3) := by decide +kernel
theorem dX6_bandAt_11 : decode cX6_bandAt 11 = .ok (.aload_n 0, 1) := by decide +kernel
theorem dX6_bandAt_12 : decode cX6_bandAt 12 = .ok (.getfield 19, 3) := by decide +kernel
theorem dX6_bandAt_15 : decode cX6_bandAt 15 = .ok (.iload_n 1, 1) := by decide +kernel
theorem dX6_bandAt_16 : decode cX6_bandAt 16 = .ok (.invokevirtual 252, 3) := by decide +kernel
theorem dX6_bandAt_19 : decode cX6_bandAt 19 = .ok (.checkcast 36, 3) := by decide +kernel
theorem dX6_bandAt_22 : decode cX6_bandAt 22 = .ok (.areturn, 1) := by decide +kernel
set_option maxRecDepth 20000 in
theorem ggX6_seatAt_Jx4a65c_size_8abf5 : GoodIn wsX6_seatAt wsJx4a65c_size_8abf5 := goodIn_r _ [7, 8, 39, 40, 41] (by decide +kernel) (by decide +kernel)
set_option maxRecDepth 20000 in
theorem gX6_seatAt_Jx4a65c_size_8abf5 : GoodIn wsX6_seatAt (wsV RX6 47 RJx4a65c yJx4a65c_size_8abf5 wsJx4a65c_size_8abf5) := goodIn_app (goodIn_of _ (by decide +kernel)) ggX6_seatAt_Jx4a65c_size_8abf5
set_option maxRecDepth 20000 in
theorem ggX6_seatAt_X6_requireIndex : GoodIn wsX6_seatAt wsX6_requireIndex := goodIn_ca (goodIn_r _ [12, 13, 14] (by decide +kernel) (by decide +kernel)) (goodIn_sub (fun _ h => List.mem_cons_of_mem _ (List.mem_append_right _ h)) (by decide +kernel))
set_option maxRecDepth 20000 in
theorem gX6_seatAt_X6_requireIndex : GoodIn wsX6_seatAt (va_wsS RX6 72 yX6_requireIndex wsX6_requireIndex) := goodIn_app (goodIn_of _ (by decide +kernel)) ggX6_seatAt_X6_requireIndex
set_option maxRecDepth 20000 in
theorem ggX6_seatAt_Jx4a65c_get_915e3 : GoodIn wsX6_seatAt wsJx4a65c_get_915e3 := goodIn_r _ [18, 8, 19, 20, 21, 22, 23, 24, 25, 26, 27, 28, 29, 6, 30, 31, 39, 40, 41] (by decide +kernel) (by decide +kernel)
set_option maxRecDepth 20000 in
theorem gX6_seatAt_Jx4a65c_get_915e3 : GoodIn wsX6_seatAt (wsV RX6 252 RJx4a65c yJx4a65c_get_915e3 wsJx4a65c_get_915e3) := goodIn_app (goodIn_of _ (by decide +kernel)) ggX6_seatAt_Jx4a65c_get_915e3
theorem dX6_seatAt_0 : decode cX6_seatAt 0 = .ok (.iload_n 1, 1) := by decide +kernel
theorem dX6_seatAt_1 : decode cX6_seatAt 1 = .ok (.aload_n 0, 1) := by decide +kernel
theorem dX6_seatAt_2 : decode cX6_seatAt 2 = .ok (.getfield 129, 3) := by decide +kernel
theorem dX6_seatAt_5 : decode cX6_seatAt 5 = .ok (.invokevirtual 47, 3) := by decide +kernel
theorem dX6_seatAt_8 : decode cX6_seatAt 8 = .ok (.invokestatic 72, 3) := by decide +kernel
theorem dX6_seatAt_11 : decode cX6_seatAt 11 = .ok (.aload_n 0, 1) := by decide +kernel
theorem dX6_seatAt_12 : decode cX6_seatAt 12 = .ok (.getfield 129, 3) := by decide +kernel
theorem dX6_seatAt_15 : decode cX6_seatAt 15 = .ok (.iload_n 1, 1) := by decide +kernel
theorem dX6_seatAt_16 : decode cX6_seatAt 16 = .ok (.invokevirtual 252, 3) := by decide +kernel
theorem dX6_seatAt_19 : decode cX6_seatAt 19 = .ok (.checkcast 138, 3) := by decide +kernel
theorem dX6_seatAt_22 : decode cX6_seatAt 22 = .ok (.areturn, 1) := by decide +kernel
theorem dX6_seasonNow_0 : decode cX6_seasonNow 0 = .ok (.aload_n 0, 1) := by decide +kernel
theorem dX6_seasonNow_1 : decode cX6_seasonNow 1 = .ok (.getfield 198, 3) := by decide +kernel
theorem dX6_seasonNow_4 : decode cX6_seasonNow 4 = .ok (.bipush 30, 2) := by decide +kernel
theorem dX6_seasonNow_6 : decode cX6_seasonNow 6 = .ok (.idiv, 1) := by decide +kernel
theorem dX6_seasonNow_7 : decode cX6_seasonNow 7 = .ok (.ireturn, 1) := by decide +kernel
set_option maxRecDepth 20000 in
theorem ggX6_countAhead_Jx4a65c_size_8abf5 : GoodIn wsX6_countAhead wsJx4a65c_size_8abf5 := goodIn_r _ [6, 7, 70, 71, 72] (by decide +kernel) (by decide +kernel)
set_option maxRecDepth 20000 in
theorem gX6_countAhead_Jx4a65c_size_8abf5 : GoodIn wsX6_countAhead (wsV RX6 47 RJx4a65c yJx4a65c_size_8abf5 wsJx4a65c_size_8abf5) := goodIn_app (goodIn_of _ (by decide +kernel)) ggX6_countAhead_Jx4a65c_size_8abf5
set_option maxRecDepth 20000 in
theorem ggX6_countAhead_X6_isAhead : GoodIn wsX6_countAhead wsX6_isAhead := goodIn_ca (goodIn_r _ [12, 13, 14, 15, 16, 11, 17, 1, 18, 2, 3, 4, 5, 6, 7, 19, 20, 21, 22, 23, 24, 25, 26, 27, 28, 29, 30, 31, 32, 33, 34, 35, 36, 37, 38, 39, 40, 41, 42, 43, 44, 45, 46, 47, 48, 49, 50, 51, 52, 53, 54, 55, 56, 57, 58, 59, 60, 61, 62, 73, 74, 75, 76, 77, 78, 79, 63, 64, 65, 66, 67, 68, 69, 70, 71, 72] (by decide +kernel) (by decide +kernel)) (goodIn_sub (fun _ h => List.mem_cons_of_mem _ (List.mem_append_right _ h)) (by decide +kernel))
set_option maxRecDepth 20000 in
theorem gX6_countAhead_X6_isAhead : GoodIn wsX6_countAhead (wsV RX6 270 RX6 yX6_isAhead wsX6_isAhead) := goodIn_app (goodIn_of _ (by decide +kernel)) ggX6_countAhead_X6_isAhead
theorem dX6_countAhead_0 : decode cX6_countAhead 0 = .ok (.iconst 0, 1) := by decide +kernel
theorem dX6_countAhead_1 : decode cX6_countAhead 1 = .ok (.istore_n 2, 1) := by decide +kernel
theorem dX6_countAhead_2 : decode cX6_countAhead 2 = .ok (.iconst 0, 1) := by decide +kernel
theorem dX6_countAhead_3 : decode cX6_countAhead 3 = .ok (.istore_n 3, 1) := by decide +kernel
theorem dX6_countAhead_4 : decode cX6_countAhead 4 = .ok (.iload_n 3, 1) := by decide +kernel
theorem dX6_countAhead_5 : decode cX6_countAhead 5 = .ok (.aload_n 0, 1) := by decide +kernel
theorem dX6_countAhead_6 : decode cX6_countAhead 6 = .ok (.getfield 19, 3) := by decide +kernel
theorem dX6_countAhead_9 : decode cX6_countAhead 9 = .ok (.invokevirtual 47, 3) := by decide +kernel
theorem dX6_countAhead_12 : decode cX6_countAhead 12 = .ok (.if_icmp .ge 26, 3) := by decide +kernel
theorem dX6_countAhead_15 : decode cX6_countAhead 15 = .ok (.iload_n 3, 1) := by decide +kernel
theorem dX6_countAhead_16 : decode cX6_countAhead 16 = .ok (.iload_n 1, 1) := by decide +kernel
theorem dX6_countAhead_17 : decode cX6_countAhead 17 = .ok (.if_icmp .eq 15, 3) := by decide +kernel
theorem dX6_countAhead_20 : decode cX6_countAhead 20 = .ok (.aload_n 0, 1) := by decide +kernel
theorem dX6_countAhead_21 : decode cX6_countAhead 21 = .ok (.iload_n 3, 1) := by decide +kernel
theorem dX6_countAhead_22 : decode cX6_countAhead 22 = .ok (.iload_n 1, 1) := by decide +kernel
theorem dX6_countAhead_23 : decode cX6_countAhead 23 = .ok (.invokevirtual 270, 3) := by decide +kernel
theorem dX6_countAhead_26 : decode cX6_countAhead 26 = .ok (.ifCond .eq 6, 3) := by decide +kernel
theorem dX6_countAhead_29 : decode cX6_countAhead 29 = .ok (.iinc 2 1, 3) := by decide +kernel
theorem dX6_countAhead_32 : decode cX6_countAhead 32 = .ok (.iinc 3 1, 3) := by decide +kernel
theorem dX6_countAhead_35 : decode cX6_countAhead 35 = .ok (.goto (-31), 3) := by decide +kernel
theorem dX6_countAhead_38 : decode cX6_countAhead 38 = .ok (.iload_n 2, 1) := by decide +kernel
theorem dX6_countAhead_39 : decode cX6_countAhead 39 = .ok (.ireturn, 1) := by decide +kernel
set_option maxRecDepth 20000 in
theorem ggX6_isAhead_X6_bandAt : GoodIn wsX6_isAhead wsX6_bandAt := goodIn_ca (goodIn_r _ [6, 7, 8, 9, 10, 11, 12, 13, 14, 15, 16, 5, 17, 18, 19, 20, 21, 22, 23, 24, 25, 26, 27, 28, 29, 30, 31, 32, 33, 34, 35, 36, 66, 67, 68, 69, 70, 71, 72, 73, 74, 75] (by decide +kernel) (by decide +kernel)) (goodIn_sub (fun _ h => List.mem_cons_of_mem _ (List.mem_append_right _ h)) (by decide +kernel))
set_option maxRecDepth 20000 in
theorem gX6_isAhead_X6_bandAt : GoodIn wsX6_isAhead (wsV RX6 118 RX6 yX6_bandAt wsX6_bandAt) := goodIn_app (goodIn_of _ (by decide +kernel)) ggX6_isAhead_X6_bandAt
set_option maxRecDepth 20000 in
theorem ggX6_isAhead_X0_isRanked : GoodIn wsX6_isAhead wsX0_isRanked := goodIn_r _ [41, 42, 43, 44, 40, 45, 46, 59, 60, 61, 62, 63, 64, 65] (by decide +kernel) (by decide +kernel)
set_option maxRecDepth 20000 in
theorem gX6_isAhead_X0_isRanked : GoodIn wsX6_isAhead (wsV RX6 246 RX0 yX0_isRanked wsX0_isRanked) := goodIn_app (goodIn_of _ (by decide +kernel)) ggX6_isAhead_X0_isRanked
set_option maxRecDepth 20000 in
theorem ggX6_isAhead_X0_countScore : GoodIn wsX6_isAhead wsX0_countScore := goodIn_r _ [50, 46, 51, 52, 53, 54, 55, 56, 57, 58, 59, 60, 61, 62, 63, 64, 65] (by decide +kernel) (by decide +kernel)
set_option maxRecDepth 20000 in
theorem gX6_isAhead_X0_countScore : GoodIn wsX6_isAhead (wsV RX6 249 RX0 yX0_countScore wsX0_countScore) := goodIn_app (goodIn_of _ (by decide +kernel)) ggX6_isAhead_X0_countScore
theorem dX6_isAhead_0 : decode cX6_isAhead 0 = .ok (.aload_n 0, 1) := by decide +kernel
theorem dX6_isAhead_1 : decode cX6_isAhead 1 = .ok (.iload_n 1, 1) := by decide +kernel
theorem dX6_isAhead_2 : decode cX6_isAhead 2 = .ok (.invokevirtual 118, 3) := by decide +kernel
theorem dX6_isAhead_5 : decode cX6_isAhead 5 = .ok (.astore_n 3, 1) := by decide +kernel
theorem dX6_isAhead_6 : decode cX6_isAhead 6 = .ok (.aload_n 0, 1) := by decide +kernel
theorem dX6_isAhead_7 : decode cX6_isAhead 7 = .ok (.iload_n 2, 1) := by decide +kernel
theorem dX6_isAhead_8 : decode cX6_isAhead 8 = .ok (.invokevirtual 118, 3) := by decide +kernel
theorem dX6_isAhead_11 : decode cX6_isAhead 11 = .ok (.astore 4, 2) := by decide +kernel
theorem dX6_isAhead_13 : decode cX6_isAhead 13 = .ok (.aload_n 3, 1) := by decide +kernel
theorem dX6_isAhead_14 : decode cX6_isAhead 14 = .ok (.invokevirtual 246, 3) := by decide +kernel
theorem dX6_isAhead_17 : decode cX6_isAhead 17 = .ok (.ifCond .ne 5, 3) := by decide +kernel
theorem dX6_isAhead_20 : decode cX6_isAhead 20 = .ok (.iconst 0, 1) := by decide +kernel
theorem dX6_isAhead_21 : decode cX6_isAhead 21 = .ok (.ireturn, 1) := by decide +kernel
theorem dX6_isAhead_22 : decode cX6_isAhead 22 = .ok (.aload_n 3, 1) := by decide +kernel
theorem dX6_isAhead_23 : decode cX6_isAhead 23 = .ok (.invokevirtual 249, 3) := by decide +kernel
theorem dX6_isAhead_26 : decode cX6_isAhead 26 = .ok (.istore 5, 2) := by decide +kernel
theorem dX6_isAhead_28 : decode cX6_isAhead 28 = .ok (.aload 4, 2) := by decide +kernel
theorem dX6_isAhead_30 : decode cX6_isAhead 30 = .ok (.invokevirtual 249, 3) := by decide +kernel
theorem dX6_isAhead_33 : decode cX6_isAhead 33 = .ok (.istore 6, 2) := by decide +kernel
theorem dX6_isAhead_35 : decode cX6_isAhead 35 = .ok (.iload 5, 2) := by decide +kernel
theorem dX6_isAhead_37 : decode cX6_isAhead 37 = .ok (.iload 6, 2) := by decide +kernel
theorem dX6_isAhead_39 : decode cX6_isAhead 39 = .ok (.if_icmp .eq 16, 3) := by decide +kernel
theorem dX6_isAhead_42 : decode cX6_isAhead 42 = .ok (.iload 5, 2) := by decide +kernel
theorem dX6_isAhead_44 : decode cX6_isAhead 44 = .ok (.iload 6, 2) := by decide +kernel
theorem dX6_isAhead_46 : decode cX6_isAhead 46 = .ok (.if_icmp .le 7, 3) := by decide +kernel
theorem dX6_isAhead_49 : decode cX6_isAhead 49 = .ok (.iconst 1, 1) := by decide +kernel
theorem dX6_isAhead_50 : decode cX6_isAhead 50 = .ok (.goto 4, 3) := by decide +kernel
theorem dX6_isAhead_53 : decode cX6_isAhead 53 = .ok (.iconst 0, 1) := by decide +kernel
theorem dX6_isAhead_54 : decode cX6_isAhead 54 = .ok (.ireturn, 1) := by decide +kernel
theorem dX6_isAhead_55 : decode cX6_isAhead 55 = .ok (.aload_n 3, 1) := by decide +kernel
theorem dX6_isAhead_56 : decode cX6_isAhead 56 = .ok (.getfield 218, 3) := by decide +kernel
theorem dX6_isAhead_59 : decode cX6_isAhead 59 = .ok (.aload 4, 2) := by decide +kernel
theorem dX6_isAhead_61 : decode cX6_isAhead 61 = .ok (.getfield 218, 3) := by decide +kernel
theorem dX6_isAhead_64 : decode cX6_isAhead 64 = .ok (.if_icmp .eq 23, 3) := by decide +kernel
theorem dX6_isAhead_67 : decode cX6_isAhead 67 = .ok (.aload_n 3, 1) := by decide +kernel
theorem dX6_isAhead_68 : decode cX6_isAhead 68 = .ok (.getfield 218, 3) := by decide +kernel
theorem dX6_isAhead_71 : decode cX6_isAhead 71 = .ok (.aload 4, 2) := by decide +kernel
theorem dX6_isAhead_73 : decode cX6_isAhead 73 = .ok (.getfield 218, 3) := by decide +kernel
theorem dX6_isAhead_76 : decode cX6_isAhead 76 = .ok (.if_icmp .ge 7, 3) := by decide +kernel
theorem dX6_isAhead_79 : decode cX6_isAhead 79 = .ok (.iconst 1, 1) := by decide +kernel
theorem dX6_isAhead_80 : decode cX6_isAhead 80 = .ok (.goto 17, 3) := by decide +kernel
theorem dX6_isAhead_83 : decode cX6_isAhead 83 = .ok (.iconst 0, 1) := by decide +kernel
theorem dX6_isAhead_84 : decode cX6_isAhead 84 = .ok (.goto 13, 3) := by decide +kernel
theorem dX6_isAhead_87 : decode cX6_isAhead 87 = .ok (.iload_n 1, 1) := by decide +kernel
theorem dX6_isAhead_88 : decode cX6_isAhead 88 = .ok (.iload_n 2, 1) := by decide +kernel
theorem dX6_isAhead_89 : decode cX6_isAhead 89 = .ok (.if_icmp .ge 7, 3) := by decide +kernel
theorem dX6_isAhead_92 : decode cX6_isAhead 92 = .ok (.iconst 1, 1) := by decide +kernel
theorem dX6_isAhead_93 : decode cX6_isAhead 93 = .ok (.goto 4, 3) := by decide +kernel
theorem dX6_isAhead_96 : decode cX6_isAhead 96 = .ok (.iconst 0, 1) := by decide +kernel
theorem dX6_isAhead_97 : decode cX6_isAhead 97 = .ok (.ireturn, 1) := by decide +kernel
theorem dJ9_abs_0f7a4_0 : decode cJ9_abs_0f7a4 0 = .ok (.iload_n 0, 1) := by decide +kernel
theorem dJ9_abs_0f7a4_1 : decode cJ9_abs_0f7a4 1 = .ok (.ifCond .ge 8, 3) := by decide +kernel
theorem dJ9_abs_0f7a4_4 : decode cJ9_abs_0f7a4 4 = .ok (.iload_n 0, 1) := by decide +kernel
theorem dJ9_abs_0f7a4_5 : decode cJ9_abs_0f7a4 5 = .ok (.ineg, 1) := by decide +kernel
theorem dJ9_abs_0f7a4_6 : decode cJ9_abs_0f7a4 6 = .ok (.goto 4, 3) := by decide +kernel
theorem dJ9_abs_0f7a4_9 : decode cJ9_abs_0f7a4 9 = .ok (.iload_n 0, 1) := by decide +kernel
theorem dJ9_abs_0f7a4_10 : decode cJ9_abs_0f7a4 10 = .ok (.ireturn, 1) := by decide +kernel
theorem dJ9_max_7cf53_0 : decode cJ9_max_7cf53 0 = .ok (.iload_n 0, 1) := by decide +kernel
theorem dJ9_max_7cf53_1 : decode cJ9_max_7cf53 1 = .ok (.iload_n 1, 1) := by decide +kernel
theorem dJ9_max_7cf53_2 : decode cJ9_max_7cf53 2 = .ok (.if_icmp .lt 7, 3) := by decide +kernel
theorem dJ9_max_7cf53_5 : decode cJ9_max_7cf53 5 = .ok (.iload_n 0, 1) := by decide +kernel
theorem dJ9_max_7cf53_6 : decode cJ9_max_7cf53 6 = .ok (.goto 4, 3) := by decide +kernel
theorem dJ9_max_7cf53_9 : decode cJ9_max_7cf53 9 = .ok (.iload_n 1, 1) := by decide +kernel
theorem dJ9_max_7cf53_10 : decode cJ9_max_7cf53 10 = .ok (.ireturn, 1) := by decide +kernel
theorem dJ9_min_7cf53_0 : decode cJ9_min_7cf53 0 = .ok (.iload_n 0, 1) := by decide +kernel
theorem dJ9_min_7cf53_1 : decode cJ9_min_7cf53 1 = .ok (.iload_n 1, 1) := by decide +kernel
theorem dJ9_min_7cf53_2 : decode cJ9_min_7cf53 2 = .ok (.if_icmp .gt 7, 3) := by decide +kernel
theorem dJ9_min_7cf53_5 : decode cJ9_min_7cf53 5 = .ok (.iload_n 0, 1) := by decide +kernel
theorem dJ9_min_7cf53_6 : decode cJ9_min_7cf53 6 = .ok (.goto 4, 3) := by decide +kernel
theorem dJ9_min_7cf53_9 : decode cJ9_min_7cf53 9 = .ok (.iload_n 1, 1) := by decide +kernel
theorem dJ9_min_7cf53_10 : decode cJ9_min_7cf53 10 = .ok (.ireturn, 1) := by decide +kernel
theorem dJxa1e45_init_da8c8_0 : decode cJxa1e45_init_da8c8 0 = .ok (.aload_n 0, 1) := by decide +kernel
theorem dJxa1e45_init_da8c8_1 : decode cJxa1e45_init_da8c8 1 = .ok (.invokespecial 1, 3) := by decide +kernel
theorem dJxa1e45_init_da8c8_4 : decode cJxa1e45_init_da8c8 4 = .ok (.return_, 1) := by decide +kernel
set_option maxRecDepth 20000 in
theorem ggJxc12de_init_da8c8_Jxa1e45_init_da8c8 : GoodIn wsJxc12de_init_da8c8 wsJxa1e45_init_da8c8 := goodIn_r _ [5, 6, 7, 8] (by decide +kernel) (by decide +kernel)
set_option maxRecDepth 20000 in
theorem gJxc12de_init_da8c8_Jxa1e45_init_da8c8 : GoodIn wsJxc12de_init_da8c8 (wsJxa1e45_init_da8c8) := ggJxc12de_init_da8c8_Jxa1e45_init_da8c8
theorem dJxc12de_init_da8c8_0 : decode cJxc12de_init_da8c8 0 = .ok (.aload_n 0, 1) := by decide +kernel
theorem dJxc12de_init_da8c8_1 : decode cJxc12de_init_da8c8 1 = .ok (.invokespecial 1, 3) := by decide +kernel
theorem dJxc12de_init_da8c8_4 : decode cJxc12de_init_da8c8 4 = .ok (.aload_n 0, 1) := by decide +kernel
theorem dJxc12de_init_da8c8_5 : decode cJxc12de_init_da8c8 5 = .ok (.iconst 0, 1) := by decide +kernel
theorem dJxc12de_init_da8c8_6 : decode cJxc12de_init_da8c8 6 = .ok (.putfield 7, 3) := by decide +kernel
theorem dJxc12de_init_da8c8_9 : decode cJxc12de_init_da8c8 9 = .ok (.return_, 1) := by decide +kernel
set_option maxRecDepth 20000 in
theorem ggJx4a65c_init_da8c8_Jxc12de_init_da8c8 : GoodIn wsJx4a65c_init_da8c8 wsJxc12de_init_da8c8 := goodIn_r _ [6, 7, 8, 9, 10, 11, 12, 13, 14, 15, 16, 17] (by decide +kernel) (by decide +kernel)
set_option maxRecDepth 20000 in
theorem gJx4a65c_init_da8c8_Jxc12de_init_da8c8 : GoodIn wsJx4a65c_init_da8c8 (wsJxc12de_init_da8c8) := ggJx4a65c_init_da8c8_Jxc12de_init_da8c8
theorem dJx4a65c_init_da8c8_0 : decode cJx4a65c_init_da8c8 0 = .ok (.aload_n 0, 1) := by decide +kernel
theorem dJx4a65c_init_da8c8_1 : decode cJx4a65c_init_da8c8 1 = .ok (.invokespecial 1, 3) := by decide +kernel
theorem dJx4a65c_init_da8c8_4 : decode cJx4a65c_init_da8c8 4 = .ok (.aload_n 0, 1) := by decide +kernel
theorem dJx4a65c_init_da8c8_5 : decode cJx4a65c_init_da8c8 5 = .ok (.getstatic 39, 3) := by decide +kernel
theorem dJx4a65c_init_da8c8_8 : decode cJx4a65c_init_da8c8 8 = .ok (.putfield 9, 3) := by decide +kernel
theorem dJx4a65c_init_da8c8_11 : decode cJx4a65c_init_da8c8 11 = .ok (.return_, 1) := by decide +kernel
set_option maxRecDepth 20000 in
theorem ggJx4a65c_grow_92f84_J8_newLength_cabcc : GoodIn wsJx4a65c_grow_92f84 wsJ8_newLength_cabcc := goodIn_r _ [11, 12, 4, 5, 6, 13, 14, 15, 10, 16] (by decide +kernel) (by decide +kernel)
set_option maxRecDepth 20000 in
theorem gJx4a65c_grow_92f84_J8_newLength_cabcc : GoodIn wsJx4a65c_grow_92f84 (va_wsS RJx4a65c 73 yJ8_newLength_cabcc wsJ8_newLength_cabcc) := goodIn_app (goodIn_of _ (by decide +kernel)) ggJx4a65c_grow_92f84_J8_newLength_cabcc
set_option maxRecDepth 20000 in
theorem ggJx4a65c_grow_92f84_J7_copyOf_1904c : GoodIn wsJx4a65c_grow_92f84 wsJ7_copyOf_1904c := goodIn_r _ [20, 21, 22, 23, 24, 25, 26, 19, 27, 28, 29, 30, 31, 5, 32, 33, 34, 35, 36] (by decide +kernel) (by decide +kernel)
set_option maxRecDepth 20000 in
theorem gJx4a65c_grow_92f84_J7_copyOf_1904c : GoodIn wsJx4a65c_grow_92f84 (va_wsS RJx4a65c 66 yJ7_copyOf_1904c wsJ7_copyOf_1904c) := goodIn_app (goodIn_of _ (by decide +kernel)) ggJx4a65c_grow_92f84_J7_copyOf_1904c
theorem dJx4a65c_grow_92f84_0 : decode cJx4a65c_grow_92f84 0 = .ok (.aload_n 0, 1) := by decide +kernel
theorem dJx4a65c_grow_92f84_1 : decode cJx4a65c_grow_92f84 1 = .ok (.getfield 9, 3) := by decide +kernel
theorem dJx4a65c_grow_92f84_4 : decode cJx4a65c_grow_92f84 4 = .ok (.arraylength, 1) := by decide +kernel
theorem dJx4a65c_grow_92f84_5 : decode cJx4a65c_grow_92f84 5 = .ok (.istore_n 2, 1) := by decide +kernel
theorem dJx4a65c_grow_92f84_6 : decode cJx4a65c_grow_92f84 6 = .ok (.iload_n 2, 1) := by decide +kernel
theorem dJx4a65c_grow_92f84_7 : decode cJx4a65c_grow_92f84 7 = .ok (.ifCond .gt 13, 3) := by decide +kernel
theorem dJx4a65c_grow_92f84_10 : decode cJx4a65c_grow_92f84 10 = .ok (.aload_n 0, 1) := by decide +kernel
theorem dJx4a65c_grow_92f84_11 : decode cJx4a65c_grow_92f84 11 = .ok (.getfield 9, 3) := by decide +kernel
theorem dJx4a65c_grow_92f84_14 : decode cJx4a65c_grow_92f84 14 = .ok (.getstatic 39, 3) := by decide +kernel
theorem dJx4a65c_grow_92f84_17 : decode cJx4a65c_grow_92f84 17 = .ok (.if_acmp .eq 28, 3) := by decide +kernel
theorem dJx4a65c_grow_92f84_20 : decode cJx4a65c_grow_92f84 20 = .ok (.iload_n 2, 1) := by decide +kernel
theorem dJx4a65c_grow_92f84_21 : decode cJx4a65c_grow_92f84 21 = .ok (.iload_n 1, 1) := by decide +kernel
theorem dJx4a65c_grow_92f84_22 : decode cJx4a65c_grow_92f84 22 = .ok (.iload_n 2, 1) := by decide +kernel
theorem dJx4a65c_grow_92f84_23 : decode cJx4a65c_grow_92f84 23 = .ok (.isub, 1) := by decide +kernel
theorem dJx4a65c_grow_92f84_24 : decode cJx4a65c_grow_92f84 24 = .ok (.iload_n 2, 1) := by decide +kernel
theorem dJx4a65c_grow_92f84_25 : decode cJx4a65c_grow_92f84 25 = .ok (.iconst 1, 1) := by decide +kernel
theorem dJx4a65c_grow_92f84_26 : decode cJx4a65c_grow_92f84 26 = .ok (.ishr, 1) := by decide +kernel
theorem dJx4a65c_grow_92f84_27 : decode cJx4a65c_grow_92f84 27 = .ok (.invokestatic 73, 3) := by decide +kernel
theorem dJx4a65c_grow_92f84_30 : decode cJx4a65c_grow_92f84 30 = .ok (.istore_n 3, 1) := by decide +kernel
theorem dJx4a65c_grow_92f84_31 : decode cJx4a65c_grow_92f84 31 = .ok (.aload_n 0, 1) := by decide +kernel
theorem dJx4a65c_grow_92f84_32 : decode cJx4a65c_grow_92f84 32 = .ok (.aload_n 0, 1) := by decide +kernel
theorem dJx4a65c_grow_92f84_33 : decode cJx4a65c_grow_92f84 33 = .ok (.getfield 9, 3) := by decide +kernel
theorem dJx4a65c_grow_92f84_36 : decode cJx4a65c_grow_92f84 36 = .ok (.iload_n 3, 1) := by decide +kernel
theorem dJx4a65c_grow_92f84_37 : decode cJx4a65c_grow_92f84 37 = .ok (.invokestatic 66, 3) := by decide +kernel
theorem dJx4a65c_grow_92f84_40 : decode cJx4a65c_grow_92f84 40 = .ok (.dup_x1, 1) := by decide +kernel
theorem dJx4a65c_grow_92f84_41 : decode cJx4a65c_grow_92f84 41 = .ok (.putfield 9, 3) := by decide +kernel
theorem dJx4a65c_grow_92f84_44 : decode cJx4a65c_grow_92f84 44 = .ok (.areturn, 1) := by decide +kernel
theorem dJx4a65c_grow_92f84_45 : decode cJx4a65c_grow_92f84 45 = .ok (.aload_n 0, 1) := by decide +kernel
theorem dJx4a65c_grow_92f84_46 : decode cJx4a65c_grow_92f84 46 = .ok (.bipush 10, 2) := by decide +kernel
theorem dJx4a65c_grow_92f84_48 : decode cJx4a65c_grow_92f84 48 = .ok (.iload_n 1, 1) := by decide +kernel
theorem dJx4a65c_grow_92f84_49 : decode cJx4a65c_grow_92f84 49 = .ok (.invokestatic 79, 3) := by decide +kernel
theorem dJx4a65c_grow_92f84_52 : decode cJx4a65c_grow_92f84 52 = .ok (.anewarray 7, 3) := by decide +kernel
theorem dJx4a65c_grow_92f84_55 : decode cJx4a65c_grow_92f84 55 = .ok (.dup_x1, 1) := by decide +kernel
theorem dJx4a65c_grow_92f84_56 : decode cJx4a65c_grow_92f84 56 = .ok (.putfield 9, 3) := by decide +kernel
theorem dJx4a65c_grow_92f84_59 : decode cJx4a65c_grow_92f84 59 = .ok (.areturn, 1) := by decide +kernel
set_option maxRecDepth 20000 in
theorem ggJx4a65c_grow_d5877_Jx4a65c_grow_92f84 : GoodIn wsJx4a65c_grow_d5877 wsJx4a65c_grow_92f84 := goodIn_r _ [6, 7, 8, 9, 10, 11, 12, 13, 14, 15, 16, 17, 18, 19, 20, 21, 22, 23, 24, 25, 26, 27, 28, 29, 30, 31, 32, 33, 34, 35, 36, 37, 38, 39, 40, 41, 42, 43, 44, 45] (by decide +kernel) (by decide +kernel)
set_option maxRecDepth 20000 in
theorem gJx4a65c_grow_d5877_Jx4a65c_grow_92f84 : GoodIn wsJx4a65c_grow_d5877 (wsV RJx4a65c 69 RJx4a65c yJx4a65c_grow_92f84 wsJx4a65c_grow_92f84) := goodIn_app (goodIn_of _ (by decide +kernel)) ggJx4a65c_grow_d5877_Jx4a65c_grow_92f84
theorem dJx4a65c_grow_d5877_0 : decode cJx4a65c_grow_d5877 0 = .ok (.aload_n 0, 1) := by decide +kernel
theorem dJx4a65c_grow_d5877_1 : decode cJx4a65c_grow_d5877 1 = .ok (.aload_n 0, 1) := by decide +kernel
theorem dJx4a65c_grow_d5877_2 : decode cJx4a65c_grow_d5877 2 = .ok (.getfield 48, 3) := by decide +kernel
theorem dJx4a65c_grow_d5877_5 : decode cJx4a65c_grow_d5877 5 = .ok (.iconst 1, 1) := by decide +kernel
theorem dJx4a65c_grow_d5877_6 : decode cJx4a65c_grow_d5877 6 = .ok (.iadd, 1) := by decide +kernel
theorem dJx4a65c_grow_d5877_7 : decode cJx4a65c_grow_d5877 7 = .ok (.invokevirtual 69, 3) := by decide +kernel
theorem dJx4a65c_grow_d5877_10 : decode cJx4a65c_grow_d5877 10 = .ok (.areturn, 1) := by decide +kernel
theorem dJx4a65c_size_8abf5_0 : decode cJx4a65c_size_8abf5 0 = .ok (.aload_n 0, 1) := by decide +kernel
theorem dJx4a65c_size_8abf5_1 : decode cJx4a65c_size_8abf5 1 = .ok (.getfield 48, 3) := by decide +kernel
theorem dJx4a65c_size_8abf5_4 : decode cJx4a65c_size_8abf5 4 = .ok (.ireturn, 1) := by decide +kernel
theorem dJx4a65c_isEmpty_aae02_0 : decode cJx4a65c_isEmpty_aae02 0 = .ok (.aload_n 0, 1) := by decide +kernel
theorem dJx4a65c_isEmpty_aae02_1 : decode cJx4a65c_isEmpty_aae02 1 = .ok (.getfield 48, 3) := by decide +kernel
theorem dJx4a65c_isEmpty_aae02_4 : decode cJx4a65c_isEmpty_aae02 4 = .ok (.ifCond .ne 7, 3) := by decide +kernel
theorem dJx4a65c_isEmpty_aae02_7 : decode cJx4a65c_isEmpty_aae02 7 = .ok (.iconst 1, 1) := by decide +kernel
theorem dJx4a65c_isEmpty_aae02_8 : decode cJx4a65c_isEmpty_aae02 8 = .ok (.goto 4, 3) := by decide +kernel
theorem dJx4a65c_isEmpty_aae02_11 : decode cJx4a65c_isEmpty_aae02 11 = .ok (.iconst 0, 1) := by decide +kernel
theorem dJx4a65c_isEmpty_aae02_12 : decode cJx4a65c_isEmpty_aae02 12 = .ok (.ireturn, 1) := by decide +kernel
theorem dJx4a65c_elementData_915e3_0 : decode cJx4a65c_elementData_915e3 0 = .ok (.aload_n 0, 1) := by decide +kernel
theorem dJx4a65c_elementData_915e3_1 : decode cJx4a65c_elementData_915e3 1 = .ok (.getfield 9, 3) := by decide +kernel
theorem dJx4a65c_elementData_915e3_4 : decode cJx4a65c_elementData_915e3 4 = .ok (.iload_n 1, 1) := by decide +kernel
theorem dJx4a65c_elementData_915e3_5 : decode cJx4a65c_elementData_915e3 5 = .ok (.aaload, 1) := by decide +kernel
theorem dJx4a65c_elementData_915e3_6 : decode cJx4a65c_elementData_915e3 6 = .ok (.areturn, 1) := by decide +kernel
set_option maxRecDepth 20000 in
theorem ggJx4a65c_get_915e3_J15_checkIndex_7cf53 : GoodIn wsJx4a65c_get_915e3 wsJ15_checkIndex_7cf53 := goodIn_r _ [5, 6, 7, 8, 9] (by decide +kernel) (by decide +kernel)
set_option maxRecDepth 20000 in
theorem gJx4a65c_get_915e3_J15_checkIndex_7cf53 : GoodIn wsJx4a65c_get_915e3 (va_wsS RJx4a65c 118 yJ15_checkIndex_7cf53 wsJ15_checkIndex_7cf53) := goodIn_app (goodIn_of _ (by decide +kernel)) ggJx4a65c_get_915e3_J15_checkIndex_7cf53
set_option maxRecDepth 20000 in
theorem ggJx4a65c_get_915e3_Jx4a65c_elementData_915e3 : GoodIn wsJx4a65c_get_915e3 wsJx4a65c_elementData_915e3 := goodIn_r _ [14, 15, 16, 17, 18] (by decide +kernel) (by decide +kernel)
set_option maxRecDepth 20000 in
theorem gJx4a65c_get_915e3_Jx4a65c_elementData_915e3 : GoodIn wsJx4a65c_get_915e3 (wsV RJx4a65c 123 RJx4a65c yJx4a65c_elementData_915e3 wsJx4a65c_elementData_915e3) := goodIn_app (goodIn_of _ (by decide +kernel)) ggJx4a65c_get_915e3_Jx4a65c_elementData_915e3
theorem dJx4a65c_get_915e3_0 : decode cJx4a65c_get_915e3 0 = .ok (.iload_n 1, 1) := by decide +kernel
theorem dJx4a65c_get_915e3_1 : decode cJx4a65c_get_915e3 1 = .ok (.aload_n 0, 1) := by decide +kernel
theorem dJx4a65c_get_915e3_2 : decode cJx4a65c_get_915e3 2 = .ok (.getfield 48, 3) := by decide +kernel
theorem dJx4a65c_get_915e3_5 : decode cJx4a65c_get_915e3 5 = .ok (.invokestatic 118, 3) := by decide +kernel
theorem dJx4a65c_get_915e3_8 : decode cJx4a65c_get_915e3 8 = .ok (.pop, 1) := by decide +kernel
theorem dJx4a65c_get_915e3_9 : decode cJx4a65c_get_915e3 9 = .ok (.aload_n 0, 1) := by decide +kernel
theorem dJx4a65c_get_915e3_10 : decode cJx4a65c_get_915e3 10 = .ok (.iload_n 1, 1) := by decide +kernel
theorem dJx4a65c_get_915e3_11 : decode cJx4a65c_get_915e3 11 = .ok (.invokevirtual 123, 3) := by decide +kernel
theorem dJx4a65c_get_915e3_14 : decode cJx4a65c_get_915e3 14 = .ok (.areturn, 1) := by decide +kernel
set_option maxRecDepth 20000 in
theorem ggJx4a65c_add_72be8_Jx4a65c_grow_d5877 : GoodIn wsJx4a65c_add_72be8 wsJx4a65c_grow_d5877 := goodIn_r _ [6, 1, 7, 8, 9, 5, 10, 11, 12, 13, 14, 15, 16, 17, 18, 19, 20, 21, 22, 23, 24, 25, 26, 27, 28, 29, 30, 31, 32, 33, 34, 35, 36, 37, 38, 39, 40, 41, 42, 43, 44, 45, 46, 47, 48, 49] (by decide +kernel) (by decide +kernel)
set_option maxRecDepth 20000 in
theorem gJx4a65c_add_72be8_Jx4a65c_grow_d5877 : GoodIn wsJx4a65c_add_72be8 (wsV RJx4a65c 129 RJx4a65c yJx4a65c_grow_d5877 wsJx4a65c_grow_d5877) := goodIn_app (goodIn_of _ (by decide +kernel)) ggJx4a65c_add_72be8_Jx4a65c_grow_d5877
theorem dJx4a65c_add_72be8_0 : decode cJx4a65c_add_72be8 0 = .ok (.iload_n 3, 1) := by decide +kernel
theorem dJx4a65c_add_72be8_1 : decode cJx4a65c_add_72be8 1 = .ok (.aload_n 2, 1) := by decide +kernel
theorem dJx4a65c_add_72be8_2 : decode cJx4a65c_add_72be8 2 = .ok (.arraylength, 1) := by decide +kernel
theorem dJx4a65c_add_72be8_3 : decode cJx4a65c_add_72be8 3 = .ok (.if_icmp .ne 8, 3) := by decide +kernel
theorem dJx4a65c_add_72be8_6 : decode cJx4a65c_add_72be8 6 = .ok (.aload_n 0, 1) := by decide +kernel
theorem dJx4a65c_add_72be8_7 : decode cJx4a65c_add_72be8 7 = .ok (.invokevirtual 129, 3) := by decide +kernel
theorem dJx4a65c_add_72be8_10 : decode cJx4a65c_add_72be8 10 = .ok (.astore_n 2, 1) := by decide +kernel
theorem dJx4a65c_add_72be8_11 : decode cJx4a65c_add_72be8 11 = .ok (.aload_n 2, 1) := by decide +kernel
theorem dJx4a65c_add_72be8_12 : decode cJx4a65c_add_72be8 12 = .ok (.iload_n 3, 1) := by decide +kernel
theorem dJx4a65c_add_72be8_13 : decode cJx4a65c_add_72be8 13 = .ok (.aload_n 1, 1) := by decide +kernel
theorem dJx4a65c_add_72be8_14 : decode cJx4a65c_add_72be8 14 = .ok (.aastore, 1) := by decide +kernel
theorem dJx4a65c_add_72be8_15 : decode cJx4a65c_add_72be8 15 = .ok (.aload_n 0, 1) := by decide +kernel
theorem dJx4a65c_add_72be8_16 : decode cJx4a65c_add_72be8 16 = .ok (.iload_n 3, 1) := by decide +kernel
theorem dJx4a65c_add_72be8_17 : decode cJx4a65c_add_72be8 17 = .ok (.iconst 1, 1) := by decide +kernel
theorem dJx4a65c_add_72be8_18 : decode cJx4a65c_add_72be8 18 = .ok (.iadd, 1) := by decide +kernel
theorem dJx4a65c_add_72be8_19 : decode cJx4a65c_add_72be8 19 = .ok (.putfield 48, 3) := by decide +kernel
theorem dJx4a65c_add_72be8_22 : decode cJx4a65c_add_72be8 22 = .ok (.return_, 1) := by decide +kernel
set_option maxRecDepth 20000 in
theorem ggJx4a65c_add_9ea2d_Jx4a65c_add_72be8 : GoodIn wsJx4a65c_add_9ea2d wsJx4a65c_add_72be8 := goodIn_r _ [9, 4, 10, 11, 12, 8, 13, 14, 15, 16, 17, 3, 18, 19, 20, 21, 22, 23, 24, 25, 26, 27, 28, 29, 30, 31, 32, 33, 34, 35, 36, 37, 38, 39, 40, 41, 42, 43, 44, 45, 46, 47, 48, 49, 50, 51, 52, 53, 54, 55] (by decide +kernel) (by decide +kernel)
set_option maxRecDepth 20000 in
theorem gJx4a65c_add_9ea2d_Jx4a65c_add_72be8 : GoodIn wsJx4a65c_add_9ea2d (wsV RJx4a65c 131 RJx4a65c yJx4a65c_add_72be8 wsJx4a65c_add_72be8) := goodIn_app (goodIn_of _ (by decide +kernel)) ggJx4a65c_add_9ea2d_Jx4a65c_add_72be8
theorem dJx4a65c_add_9ea2d_0 : decode cJx4a65c_add_9ea2d 0 = .ok (.aload_n 0, 1) := by decide +kernel
theorem dJx4a65c_add_9ea2d_1 : decode cJx4a65c_add_9ea2d 1 = .ok (.dup, 1) := by decide +kernel
theorem dJx4a65c_add_9ea2d_2 : decode cJx4a65c_add_9ea2d 2 = .ok (.getfield 63, 3) := by decide +kernel
theorem dJx4a65c_add_9ea2d_5 : decode cJx4a65c_add_9ea2d 5 = .ok (.iconst 1, 1) := by decide +kernel
theorem dJx4a65c_add_9ea2d_6 : decode cJx4a65c_add_9ea2d 6 = .ok (.iadd, 1) := by decide +kernel
theorem dJx4a65c_add_9ea2d_7 : decode cJx4a65c_add_9ea2d 7 = .ok (.putfield 63, 3) := by decide +kernel
theorem dJx4a65c_add_9ea2d_10 : decode cJx4a65c_add_9ea2d 10 = .ok (.aload_n 0, 1) := by decide +kernel
theorem dJx4a65c_add_9ea2d_11 : decode cJx4a65c_add_9ea2d 11 = .ok (.aload_n 1, 1) := by decide +kernel
theorem dJx4a65c_add_9ea2d_12 : decode cJx4a65c_add_9ea2d 12 = .ok (.aload_n 0, 1) := by decide +kernel
theorem dJx4a65c_add_9ea2d_13 : decode cJx4a65c_add_9ea2d 13 = .ok (.getfield 9, 3) := by decide +kernel
theorem dJx4a65c_add_9ea2d_16 : decode cJx4a65c_add_9ea2d 16 = .ok (.aload_n 0, 1) := by decide +kernel
theorem dJx4a65c_add_9ea2d_17 : decode cJx4a65c_add_9ea2d 17 = .ok (.getfield 48, 3) := by decide +kernel
theorem dJx4a65c_add_9ea2d_20 : decode cJx4a65c_add_9ea2d 20 = .ok (.invokevirtual 131, 3) := by decide +kernel
theorem dJx4a65c_add_9ea2d_23 : decode cJx4a65c_add_9ea2d 23 = .ok (.iconst 1, 1) := by decide +kernel
theorem dJx4a65c_add_9ea2d_24 : decode cJx4a65c_add_9ea2d 24 = .ok (.ireturn, 1) := by decide +kernel
set_option maxRecDepth 20000 in
theorem ggJx4a65c_remove_915e3_J15_checkIndex_7cf53 : GoodIn wsJx4a65c_remove_915e3 wsJ15_checkIndex_7cf53 := goodIn_r _ [6, 7, 8, 9, 10] (by decide +kernel) (by decide +kernel)
set_option maxRecDepth 20000 in
theorem gJx4a65c_remove_915e3_J15_checkIndex_7cf53 : GoodIn wsJx4a65c_remove_915e3 (va_wsS RJx4a65c 118 yJ15_checkIndex_7cf53 wsJ15_checkIndex_7cf53) := goodIn_app (goodIn_of _ (by decide +kernel)) ggJx4a65c_remove_915e3_J15_checkIndex_7cf53
set_option maxRecDepth 20000 in
theorem ggJx4a65c_remove_915e3_Jx4a65c_fastRemove_b59b0 : GoodIn wsJx4a65c_remove_915e3 wsJx4a65c_fastRemove_b59b0 := goodIn_r _ [15, 16, 17, 1, 18, 19, 20, 21, 22, 23, 24] (by decide +kernel) (by decide +kernel)
set_option maxRecDepth 20000 in
theorem gJx4a65c_remove_915e3_Jx4a65c_fastRemove_b59b0 : GoodIn wsJx4a65c_remove_915e3 (wsV RJx4a65c 144 RJx4a65c yJx4a65c_fastRemove_b59b0 wsJx4a65c_fastRemove_b59b0) := goodIn_app (goodIn_of _ (by decide +kernel)) ggJx4a65c_remove_915e3_Jx4a65c_fastRemove_b59b0
theorem dJx4a65c_remove_915e3_0 : decode cJx4a65c_remove_915e3 0 = .ok (.iload_n 1, 1) := by decide +kernel
theorem dJx4a65c_remove_915e3_1 : decode cJx4a65c_remove_915e3 1 = .ok (.aload_n 0, 1) := by decide +kernel
theorem dJx4a65c_remove_915e3_2 : decode cJx4a65c_remove_915e3 2 = .ok (.getfield 48, 3) := by decide +kernel
theorem dJx4a65c_remove_915e3_5 : decode cJx4a65c_remove_915e3 5 = .ok (.invokestatic 118, 3) := by decide +kernel
theorem dJx4a65c_remove_915e3_8 : decode cJx4a65c_remove_915e3 8 = .ok (.pop, 1) := by decide +kernel
theorem dJx4a65c_remove_915e3_9 : decode cJx4a65c_remove_915e3 9 = .ok (.aload_n 0, 1) := by decide +kernel
theorem dJx4a65c_remove_915e3_10 : decode cJx4a65c_remove_915e3 10 = .ok (.getfield 9, 3) := by decide +kernel
theorem dJx4a65c_remove_915e3_13 : decode cJx4a65c_remove_915e3 13 = .ok (.astore_n 2, 1) := by decide +kernel
theorem dJx4a65c_remove_915e3_14 : decode cJx4a65c_remove_915e3 14 = .ok (.aload_n 2, 1) := by decide +kernel
theorem dJx4a65c_remove_915e3_15 : decode cJx4a65c_remove_915e3 15 = .ok (.iload_n 1, 1) := by decide +kernel
theorem dJx4a65c_remove_915e3_16 : decode cJx4a65c_remove_915e3 16 = .ok (.aaload, 1) := by decide +kernel
theorem dJx4a65c_remove_915e3_17 : decode cJx4a65c_remove_915e3 17 = .ok (.astore_n 3, 1) := by decide +kernel
theorem dJx4a65c_remove_915e3_18 : decode cJx4a65c_remove_915e3 18 = .ok (.aload_n 0, 1) := by decide +kernel
theorem dJx4a65c_remove_915e3_19 : decode cJx4a65c_remove_915e3 19 = .ok (.aload_n 2, 1) := by decide +kernel
theorem dJx4a65c_remove_915e3_20 : decode cJx4a65c_remove_915e3 20 = .ok (.iload_n 1, 1) := by decide +kernel
theorem dJx4a65c_remove_915e3_21 : decode cJx4a65c_remove_915e3 21 = .ok (.invokevirtual 144, 3) := by decide +kernel
theorem dJx4a65c_remove_915e3_24 : decode cJx4a65c_remove_915e3 24 = .ok (.aload_n 3, 1) := by decide +kernel
theorem dJx4a65c_remove_915e3_25 : decode cJx4a65c_remove_915e3 25 = .ok (.areturn, 1) := by decide +kernel
theorem dJx4a65c_fastRemove_b59b0_0 : decode cJx4a65c_fastRemove_b59b0 0 = .ok (.aload_n 0, 1) := by decide +kernel
theorem dJx4a65c_fastRemove_b59b0_1 : decode cJx4a65c_fastRemove_b59b0 1 = .ok (.dup, 1) := by decide +kernel
theorem dJx4a65c_fastRemove_b59b0_2 : decode cJx4a65c_fastRemove_b59b0 2 = .ok (.getfield 63, 3) := by decide +kernel
theorem dJx4a65c_fastRemove_b59b0_5 : decode cJx4a65c_fastRemove_b59b0 5 = .ok (.iconst 1, 1) := by decide +kernel
theorem dJx4a65c_fastRemove_b59b0_6 : decode cJx4a65c_fastRemove_b59b0 6 = .ok (.iadd, 1) := by decide +kernel
theorem dJx4a65c_fastRemove_b59b0_7 : decode cJx4a65c_fastRemove_b59b0 7 = .ok (.putfield 63, 3) := by decide +kernel
theorem dJx4a65c_fastRemove_b59b0_10 : decode cJx4a65c_fastRemove_b59b0 10 = .ok (.aload_n 0, 1) := by decide +kernel
theorem dJx4a65c_fastRemove_b59b0_11 : decode cJx4a65c_fastRemove_b59b0 11 = .ok (.getfield 48, 3) := by decide +kernel
theorem dJx4a65c_fastRemove_b59b0_14 : decode cJx4a65c_fastRemove_b59b0 14 = .ok (.iconst 1, 1) := by decide +kernel
theorem dJx4a65c_fastRemove_b59b0_15 : decode cJx4a65c_fastRemove_b59b0 15 = .ok (.isub, 1) := by decide +kernel
theorem dJx4a65c_fastRemove_b59b0_16 : decode cJx4a65c_fastRemove_b59b0 16 = .ok (.dup, 1) := by decide +kernel
theorem dJx4a65c_fastRemove_b59b0_17 : decode cJx4a65c_fastRemove_b59b0 17 = .ok (.istore_n 3, 1) := by decide +kernel
theorem dJx4a65c_fastRemove_b59b0_18 : decode cJx4a65c_fastRemove_b59b0 18 = .ok (.iload_n 2, 1) := by decide +kernel
theorem dJx4a65c_fastRemove_b59b0_19 : decode cJx4a65c_fastRemove_b59b0 19 = .ok (.if_icmp .le 15, 3) := by decide +kernel
theorem dJx4a65c_fastRemove_b59b0_22 : decode cJx4a65c_fastRemove_b59b0 22 = .ok (.aload_n 1, 1) := by decide +kernel
theorem dJx4a65c_fastRemove_b59b0_23 : decode cJx4a65c_fastRemove_b59b0 23 = .ok (.iload_n 2, 1) := by decide +kernel
theorem dJx4a65c_fastRemove_b59b0_24 : decode cJx4a65c_fastRemove_b59b0 24 = .ok (.iconst 1, 1) := by decide +kernel
theorem dJx4a65c_fastRemove_b59b0_25 : decode cJx4a65c_fastRemove_b59b0 25 = .ok (.iadd, 1) := by decide +kernel
theorem dJx4a65c_fastRemove_b59b0_26 : decode cJx4a65c_fastRemove_b59b0 26 = .ok (.aload_n 1, 1) := by decide +kernel
theorem dJx4a65c_fastRemove_b59b0_27 : decode cJx4a65c_fastRemove_b59b0 27 = .ok (.iload_n 2, 1) := by decide +kernel
theorem dJx4a65c_fastRemove_b59b0_28 : decode cJx4a65c_fastRemove_b59b0 28 = .ok (.iload_n 3, 1) := by decide +kernel
theorem dJx4a65c_fastRemove_b59b0_29 : decode cJx4a65c_fastRemove_b59b0 29 = .ok (.iload_n 2, 1) := by decide +kernel
theorem dJx4a65c_fastRemove_b59b0_30 : decode cJx4a65c_fastRemove_b59b0 30 = .ok (.isub, 1) := by decide +kernel
theorem dJx4a65c_fastRemove_b59b0_31 : decode cJx4a65c_fastRemove_b59b0 31 = .ok (.invokestatic 112, 3) := by decide +kernel
theorem dJx4a65c_fastRemove_b59b0_34 : decode cJx4a65c_fastRemove_b59b0 34 = .ok (.aload_n 1, 1) := by decide +kernel
theorem dJx4a65c_fastRemove_b59b0_35 : decode cJx4a65c_fastRemove_b59b0 35 = .ok (.aload_n 0, 1) := by decide +kernel
theorem dJx4a65c_fastRemove_b59b0_36 : decode cJx4a65c_fastRemove_b59b0 36 = .ok (.iload_n 3, 1) := by decide +kernel
theorem dJx4a65c_fastRemove_b59b0_37 : decode cJx4a65c_fastRemove_b59b0 37 = .ok (.dup_x1, 1) := by decide +kernel
theorem dJx4a65c_fastRemove_b59b0_38 : decode cJx4a65c_fastRemove_b59b0 38 = .ok (.putfield 48, 3) := by decide +kernel
theorem dJx4a65c_fastRemove_b59b0_41 : decode cJx4a65c_fastRemove_b59b0 41 = .ok (.aconst_null, 1) := by decide +kernel
theorem dJx4a65c_fastRemove_b59b0_42 : decode cJx4a65c_fastRemove_b59b0 42 = .ok (.aastore, 1) := by decide +kernel
theorem dJx4a65c_fastRemove_b59b0_43 : decode cJx4a65c_fastRemove_b59b0 43 = .ok (.return_, 1) := by decide +kernel
theorem dJ7_fill_53178_0 : decode cJ7_fill_53178 0 = .ok (.iconst 0, 1) := by decide +kernel
theorem dJ7_fill_53178_1 : decode cJ7_fill_53178 1 = .ok (.istore_n 2, 1) := by decide +kernel
theorem dJ7_fill_53178_2 : decode cJ7_fill_53178 2 = .ok (.aload_n 0, 1) := by decide +kernel
theorem dJ7_fill_53178_3 : decode cJ7_fill_53178 3 = .ok (.arraylength, 1) := by decide +kernel
theorem dJ7_fill_53178_4 : decode cJ7_fill_53178 4 = .ok (.istore_n 3, 1) := by decide +kernel
theorem dJ7_fill_53178_5 : decode cJ7_fill_53178 5 = .ok (.iload_n 2, 1) := by decide +kernel
theorem dJ7_fill_53178_6 : decode cJ7_fill_53178 6 = .ok (.iload_n 3, 1) := by decide +kernel
theorem dJ7_fill_53178_7 : decode cJ7_fill_53178 7 = .ok (.if_icmp .ge 13, 3) := by decide +kernel
theorem dJ7_fill_53178_10 : decode cJ7_fill_53178 10 = .ok (.aload_n 0, 1) := by decide +kernel
theorem dJ7_fill_53178_11 : decode cJ7_fill_53178 11 = .ok (.iload_n 2, 1) := by decide +kernel
theorem dJ7_fill_53178_12 : decode cJ7_fill_53178 12 = .ok (.iload_n 1, 1) := by decide +kernel
theorem dJ7_fill_53178_13 : decode cJ7_fill_53178 13 = .ok (.iastore, 1) := by decide +kernel
theorem dJ7_fill_53178_14 : decode cJ7_fill_53178 14 = .ok (.iinc 2 1, 3) := by decide +kernel
theorem dJ7_fill_53178_17 : decode cJ7_fill_53178 17 = .ok (.goto (-12), 3) := by decide +kernel
theorem dJ7_fill_53178_20 : decode cJ7_fill_53178 20 = .ok (.return_, 1) := by decide +kernel
set_option maxRecDepth 20000 in
theorem ggJ7_copyOf_1904c_J7_copyOf_6403c : GoodIn wsJ7_copyOf_1904c wsJ7_copyOf_6403c := goodIn_r _ [8, 9, 10, 11, 12, 13, 14, 15, 16, 17, 18] (by decide +kernel) (by decide +kernel)
set_option maxRecDepth 20000 in
theorem gJ7_copyOf_1904c_J7_copyOf_6403c : GoodIn wsJ7_copyOf_1904c (va_wsS RJ7 300 yJ7_copyOf_6403c wsJ7_copyOf_6403c) := goodIn_app (goodIn_of _ (by decide +kernel)) ggJ7_copyOf_1904c_J7_copyOf_6403c
theorem dJ7_copyOf_1904c_0 : decode cJ7_copyOf_1904c 0 = .ok (.aload_n 0, 1) := by decide +kernel
theorem dJ7_copyOf_1904c_1 : decode cJ7_copyOf_1904c 1 = .ok (.iload_n 1, 1) := by decide +kernel
theorem dJ7_copyOf_1904c_2 : decode cJ7_copyOf_1904c 2 = .ok (.aload_n 0, 1) := by decide +kernel
theorem dJ7_copyOf_1904c_3 : decode cJ7_copyOf_1904c 3 = .ok (.invokevirtual 86, 3) := by decide +kernel
theorem dJ7_copyOf_1904c_6 : decode cJ7_copyOf_1904c 6 = .ok (.invokestatic 300, 3) := by decide +kernel
theorem dJ7_copyOf_1904c_9 : decode cJ7_copyOf_1904c 9 = .ok (.areturn, 1) := by decide +kernel
theorem dJ7_copyOf_6403c_0 : decode cJ7_copyOf_6403c 0 = .ok (.aload_n 2, 1) := by decide +kernel
theorem dJ7_copyOf_6403c_1 : decode cJ7_copyOf_6403c 1 = .ok (.ldc 110, 2) := by decide +kernel
theorem dJ7_copyOf_6403c_3 : decode cJ7_copyOf_6403c 3 = .ok (.if_acmp .ne 10, 3) := by decide +kernel
theorem dJ7_copyOf_6403c_6 : decode cJ7_copyOf_6403c 6 = .ok (.iload_n 1, 1) := by decide +kernel
theorem dJ7_copyOf_6403c_7 : decode cJ7_copyOf_6403c 7 = .ok (.anewarray 2, 3) := by decide +kernel
theorem dJ7_copyOf_6403c_10 : decode cJ7_copyOf_6403c 10 = .ok (.goto 14, 3) := by decide +kernel
theorem dJ7_copyOf_6403c_13 : decode cJ7_copyOf_6403c 13 = .ok (.aload_n 2, 1) := by decide +kernel
theorem dJ7_copyOf_6403c_14 : decode cJ7_copyOf_6403c 14 = .ok (.invokevirtual 90, 3) := by decide +kernel
theorem dJ7_copyOf_6403c_17 : decode cJ7_copyOf_6403c 17 = .ok (.iload_n 1, 1) := by decide +kernel
theorem dJ7_copyOf_6403c_18 : decode cJ7_copyOf_6403c 18 = .ok (.invokestatic 95, 3) := by decide +kernel
theorem dJ7_copyOf_6403c_21 : decode cJ7_copyOf_6403c 21 = .ok (.checkcast 110, 3) := by decide +kernel
theorem dJ7_copyOf_6403c_24 : decode cJ7_copyOf_6403c 24 = .ok (.astore_n 3, 1) := by decide +kernel
theorem dJ7_copyOf_6403c_25 : decode cJ7_copyOf_6403c 25 = .ok (.aload_n 0, 1) := by decide +kernel
theorem dJ7_copyOf_6403c_26 : decode cJ7_copyOf_6403c 26 = .ok (.iconst 0, 1) := by decide +kernel
theorem dJ7_copyOf_6403c_27 : decode cJ7_copyOf_6403c 27 = .ok (.aload_n 3, 1) := by decide +kernel
theorem dJ7_copyOf_6403c_28 : decode cJ7_copyOf_6403c 28 = .ok (.iconst 0, 1) := by decide +kernel
theorem dJ7_copyOf_6403c_29 : decode cJ7_copyOf_6403c 29 = .ok (.aload_n 0, 1) := by decide +kernel
theorem dJ7_copyOf_6403c_30 : decode cJ7_copyOf_6403c 30 = .ok (.arraylength, 1) := by decide +kernel
theorem dJ7_copyOf_6403c_31 : decode cJ7_copyOf_6403c 31 = .ok (.iload_n 1, 1) := by decide +kernel
theorem dJ7_copyOf_6403c_32 : decode cJ7_copyOf_6403c 32 = .ok (.invokestatic 304, 3) := by decide +kernel
theorem dJ7_copyOf_6403c_35 : decode cJ7_copyOf_6403c 35 = .ok (.invokestatic 150, 3) := by decide +kernel
theorem dJ7_copyOf_6403c_38 : decode cJ7_copyOf_6403c 38 = .ok (.aload_n 3, 1) := by decide +kernel
theorem dJ7_copyOf_6403c_39 : decode cJ7_copyOf_6403c 39 = .ok (.areturn, 1) := by decide +kernel
set_option maxRecDepth 20000 in
theorem ggJ15_checkIndex_7cf53_J3_checkIndex_8e157 : GoodIn wsJ15_checkIndex_7cf53 wsJ3_checkIndex_8e157 := goodIn_r _ [4] (by decide +kernel) (by decide +kernel)
set_option maxRecDepth 20000 in
theorem gJ15_checkIndex_7cf53_J3_checkIndex_8e157 : GoodIn wsJ15_checkIndex_7cf53 (va_wsS RJ15 105 yJ3_checkIndex_8e157 wsJ3_checkIndex_8e157) := goodIn_app (goodIn_of _ (by decide +kernel)) ggJ15_checkIndex_7cf53_J3_checkIndex_8e157
theorem dJ15_checkIndex_7cf53_0 : decode cJ15_checkIndex_7cf53 0 = .ok (.iload_n 0, 1) := by decide +kernel
theorem dJ15_checkIndex_7cf53_1 : decode cJ15_checkIndex_7cf53 1 = .ok (.iload_n 1, 1) := by decide +kernel
theorem dJ15_checkIndex_7cf53_2 : decode cJ15_checkIndex_7cf53 2 = .ok (.aconst_null, 1) := by decide +kernel
theorem dJ15_checkIndex_7cf53_3 : decode cJ15_checkIndex_7cf53 3 = .ok (.invokestatic 105, 3) := by decide +kernel
theorem dJ15_checkIndex_7cf53_6 : decode cJ15_checkIndex_7cf53 6 = .ok (.ireturn, 1) := by decide +kernel
set_option maxRecDepth 20000 in
theorem ggJ8_newLength_cabcc_J8_hugeLength_7cf53 : GoodIn wsJ8_newLength_cabcc wsJ8_hugeLength_7cf53 := goodIn_r _ [9, 5] (by decide +kernel) (by decide +kernel)
set_option maxRecDepth 20000 in
theorem gJ8_newLength_cabcc_J8_hugeLength_7cf53 : GoodIn wsJ8_newLength_cabcc (va_wsS RJ8 201 yJ8_hugeLength_7cf53 wsJ8_hugeLength_7cf53) := goodIn_app (goodIn_of _ (by decide +kernel)) ggJ8_newLength_cabcc_J8_hugeLength_7cf53
theorem dJ8_newLength_cabcc_0 : decode cJ8_newLength_cabcc 0 = .ok (.iload_n 0, 1) := by decide +kernel
theorem dJ8_newLength_cabcc_1 : decode cJ8_newLength_cabcc 1 = .ok (.iload_n 1, 1) := by decide +kernel
theorem dJ8_newLength_cabcc_2 : decode cJ8_newLength_cabcc 2 = .ok (.iload_n 2, 1) := by decide +kernel
theorem dJ8_newLength_cabcc_3 : decode cJ8_newLength_cabcc 3 = .ok (.invokestatic 194, 3) := by decide +kernel
theorem dJ8_newLength_cabcc_6 : decode cJ8_newLength_cabcc 6 = .ok (.iadd, 1) := by decide +kernel
theorem dJ8_newLength_cabcc_7 : decode cJ8_newLength_cabcc 7 = .ok (.istore_n 3, 1) := by decide +kernel
theorem dJ8_newLength_cabcc_8 : decode cJ8_newLength_cabcc 8 = .ok (.iconst 0, 1) := by decide +kernel
theorem dJ8_newLength_cabcc_9 : decode cJ8_newLength_cabcc 9 = .ok (.iload_n 3, 1) := by decide +kernel
theorem dJ8_newLength_cabcc_10 : decode cJ8_newLength_cabcc 10 = .ok (.if_icmp .ge 11, 3) := by decide +kernel
theorem dJ8_newLength_cabcc_13 : decode cJ8_newLength_cabcc 13 = .ok (.iload_n 3, 1) := by decide +kernel
theorem dJ8_newLength_cabcc_14 : decode cJ8_newLength_cabcc 14 = .ok (.ldc 200, 2) := by decide +kernel
theorem dJ8_newLength_cabcc_16 : decode cJ8_newLength_cabcc 16 = .ok (.if_icmp .gt 5, 3) := by decide +kernel
theorem dJ8_newLength_cabcc_19 : decode cJ8_newLength_cabcc 19 = .ok (.iload_n 3, 1) := by decide +kernel
theorem dJ8_newLength_cabcc_20 : decode cJ8_newLength_cabcc 20 = .ok (.ireturn, 1) := by decide +kernel
theorem dJ8_newLength_cabcc_21 : decode cJ8_newLength_cabcc 21 = .ok (.iload_n 0, 1) := by decide +kernel
theorem dJ8_newLength_cabcc_22 : decode cJ8_newLength_cabcc 22 = .ok (.iload_n 1, 1) := by decide +kernel
theorem dJ8_newLength_cabcc_23 : decode cJ8_newLength_cabcc 23 = .ok (.invokestatic 201, 3) := by decide +kernel
theorem dJ8_newLength_cabcc_26 : decode cJ8_newLength_cabcc 26 = .ok (.ireturn, 1) := by decide +kernel
theorem dJ8_hugeLength_7cf53_0 : decode cJ8_hugeLength_7cf53 0 = .ok (.iload_n 0, 1) := by decide +kernel
theorem dJ8_hugeLength_7cf53_1 : decode cJ8_hugeLength_7cf53 1 = .ok (.iload_n 1, 1) := by decide +kernel
theorem dJ8_hugeLength_7cf53_2 : decode cJ8_hugeLength_7cf53 2 = .ok (.iadd, 1) := by decide +kernel
theorem dJ8_hugeLength_7cf53_3 : decode cJ8_hugeLength_7cf53 3 = .ok (.istore_n 2, 1) := by decide +kernel
theorem dJ8_hugeLength_7cf53_4 : decode cJ8_hugeLength_7cf53 4 = .ok (.iload_n 2, 1) := by decide +kernel
theorem dJ8_hugeLength_7cf53_5 : decode cJ8_hugeLength_7cf53 5 = .ok (.ifCond .ge 44, 3) := by decide +kernel
theorem dJ8_hugeLength_7cf53_8 : decode cJ8_hugeLength_7cf53 8 = .ok (.new 204, 3) := by decide +kernel
theorem dJ8_hugeLength_7cf53_11 : decode cJ8_hugeLength_7cf53 11 = .ok (.dup, 1) := by decide +kernel
theorem dJ8_hugeLength_7cf53_12 : decode cJ8_hugeLength_7cf53 12 = .ok (.new 89, 3) := by decide +kernel
theorem dJ8_hugeLength_7cf53_15 : decode cJ8_hugeLength_7cf53 15 = .ok (.dup, 1) := by decide +kernel
theorem dJ8_hugeLength_7cf53_16 : decode cJ8_hugeLength_7cf53 16 = .ok (.invokespecial 91, 3) := by decide +kernel
theorem dJ8_hugeLength_7cf53_19 : decode cJ8_hugeLength_7cf53 19 = .ok (.ldc 206, 2) := by decide +kernel
theorem dJ8_hugeLength_7cf53_21 : decode cJ8_hugeLength_7cf53 21 = .ok (.invokevirtual 94, 3) := by decide +kernel
theorem dJ8_hugeLength_7cf53_24 : decode cJ8_hugeLength_7cf53 24 = .ok (.iload_n 0, 1) := by decide +kernel
theorem dJ8_hugeLength_7cf53_25 : decode cJ8_hugeLength_7cf53 25 = .ok (.invokevirtual 98, 3) := by decide +kernel
theorem dJ8_hugeLength_7cf53_28 : decode cJ8_hugeLength_7cf53 28 = .ok (.ldc 208, 2) := by decide +kernel
theorem dJ8_hugeLength_7cf53_30 : decode cJ8_hugeLength_7cf53 30 = .ok (.invokevirtual 94, 3) := by decide +kernel
theorem dJ8_hugeLength_7cf53_33 : decode cJ8_hugeLength_7cf53 33 = .ok (.iload_n 1, 1) := by decide +kernel
theorem dJ8_hugeLength_7cf53_34 : decode cJ8_hugeLength_7cf53 34 = .ok (.invokevirtual 98, 3) := by decide +kernel
theorem dJ8_hugeLength_7cf53_37 : decode cJ8_hugeLength_7cf53 37 = .ok (.ldc 210, 2) := by decide +kernel
