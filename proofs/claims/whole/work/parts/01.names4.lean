theorem dX6_blow_14 : decode cX6_blow 14 = .ok (.iconst 4, 1) := by decide +kernel
theorem dX6_blow_15 : decode cX6_blow 15 = .ok (.invokestatic 43, 3) := by decide +kernel
theorem dX6_blow_18 : decode cX6_blow 18 = .ok (.aload 5, 2) := by decide +kernel
theorem dX6_blow_20 : decode cX6_blow 20 = .ok (.iload_n 2, 1) := by decide +kernel
theorem dX6_blow_21 : decode cX6_blow 21 = .ok (.iload 4, 2) := by decide +kernel
theorem dX6_blow_23 : decode cX6_blow 23 = .ok (.invokevirtual 76, 3) := by decide +kernel
theorem dX6_blow_26 : decode cX6_blow 26 = .ok (.invokestatic 51, 3) := by decide +kernel
theorem dX6_blow_29 : decode cX6_blow 29 = .ok (.aload 5, 2) := by decide +kernel
theorem dX6_blow_31 : decode cX6_blow 31 = .ok (.iload_n 2, 1) := by decide +kernel
theorem dX6_blow_32 : decode cX6_blow 32 = .ok (.iload_n 3, 1) := by decide +kernel
theorem dX6_blow_33 : decode cX6_blow 33 = .ok (.iload 4, 2) := by decide +kernel
theorem dX6_blow_35 : decode cX6_blow 35 = .ok (.invokevirtual 80, 3) := by decide +kernel
theorem dX6_blow_38 : decode cX6_blow 38 = .ok (.aload 5, 2) := by decide +kernel
theorem dX6_blow_40 : decode cX6_blow 40 = .ok (.getfield 60, 3) := by decide +kernel
theorem dX6_blow_43 : decode cX6_blow 43 = .ok (.iload_n 2, 1) := by decide +kernel
theorem dX6_blow_44 : decode cX6_blow 44 = .ok (.iaload, 1) := by decide +kernel
theorem dX6_blow_45 : decode cX6_blow 45 = .ok (.ireturn, 1) := by decide +kernel
set_option maxRecDepth 20000 in
theorem ggX6_heat_X6_requireRange : GoodIn wsX6_heat wsX6_requireRange := goodIn_ca (goodIn_r _ [5, 6, 7] (by decide +kernel) (by decide +kernel)) (goodIn_sub (fun _ h => List.mem_cons_of_mem _ (List.mem_append_right _ h)) (by decide +kernel))
set_option maxRecDepth 20000 in
theorem gX6_heat_X6_requireRange : GoodIn wsX6_heat (va_wsS RX6 43 yX6_requireRange wsX6_requireRange) := goodIn_app (goodIn_of _ (by decide +kernel)) ggX6_heat_X6_requireRange
theorem dX6_heat_0 : decode cX6_heat 0 = .ok (.iload_n 1, 1) := by decide +kernel
theorem dX6_heat_1 : decode cX6_heat 1 = .ok (.iconst 0, 1) := by decide +kernel
theorem dX6_heat_2 : decode cX6_heat 2 = .ok (.bipush 15, 2) := by decide +kernel
theorem dX6_heat_4 : decode cX6_heat 4 = .ok (.invokestatic 43, 3) := by decide +kernel
theorem dX6_heat_7 : decode cX6_heat 7 = .ok (.aload_n 0, 1) := by decide +kernel
theorem dX6_heat_8 : decode cX6_heat 8 = .ok (.getfield 84, 3) := by decide +kernel
theorem dX6_heat_11 : decode cX6_heat 11 = .ok (.istore_n 2, 1) := by decide +kernel
theorem dX6_heat_12 : decode cX6_heat 12 = .ok (.aload_n 0, 1) := by decide +kernel
theorem dX6_heat_13 : decode cX6_heat 13 = .ok (.iload_n 1, 1) := by decide +kernel
theorem dX6_heat_14 : decode cX6_heat 14 = .ok (.putfield 84, 3) := by decide +kernel
theorem dX6_heat_17 : decode cX6_heat 17 = .ok (.iload_n 2, 1) := by decide +kernel
theorem dX6_heat_18 : decode cX6_heat 18 = .ok (.ireturn, 1) := by decide +kernel
set_option maxRecDepth 20000 in
theorem ggX6_field_X6_panAt : GoodIn wsX6_field wsX6_panAt := goodIn_ca (goodIn_r _ [9, 10, 11, 12, 13, 14, 15, 16, 17, 18, 19, 8, 20, 21, 22, 23, 24, 25, 26, 27, 28, 29, 30, 31, 32, 33, 34, 35, 36, 37, 38, 39, 56, 57, 58, 59, 60, 61, 62, 63, 64, 65] (by decide +kernel) (by decide +kernel)) (goodIn_sub (fun _ h => List.mem_cons_of_mem _ (List.mem_append_left _ (List.mem_append_right _ h))) (by decide +kernel))
set_option maxRecDepth 20000 in
theorem gX6_field_X6_panAt : GoodIn wsX6_field (wsV RX6 68 RX6 yX6_panAt wsX6_panAt) := goodIn_app (goodIn_of _ (by decide +kernel)) ggX6_field_X6_panAt
set_option maxRecDepth 20000 in
theorem ggX6_field_X6_requireIndex : GoodIn wsX6_field wsX6_requireIndex := goodIn_ca (goodIn_r _ [20, 21, 22] (by decide +kernel) (by decide +kernel)) (goodIn_sub (fun _ h => List.mem_cons_of_mem _ (List.mem_append_left _ (List.mem_append_right _ h))) (by decide +kernel))
set_option maxRecDepth 20000 in
theorem gX6_field_X6_requireIndex : GoodIn wsX6_field (va_wsS RX6 72 yX6_requireIndex wsX6_requireIndex) := goodIn_app (goodIn_of _ (by decide +kernel)) ggX6_field_X6_requireIndex
set_option maxRecDepth 20000 in
theorem ggX6_field_X6_requireRange : GoodIn wsX6_field wsX6_requireRange := goodIn_ca (goodIn_r _ [42, 43, 44] (by decide +kernel) (by decide +kernel)) (goodIn_sub (fun _ h => List.mem_cons_of_mem _ (List.mem_append_right _ h)) (by decide +kernel))
set_option maxRecDepth 20000 in
theorem gX6_field_X6_requireRange : GoodIn wsX6_field (va_wsS RX6 43 yX6_requireRange wsX6_requireRange) := goodIn_app (goodIn_of _ (by decide +kernel)) ggX6_field_X6_requireRange
set_option maxRecDepth 20000 in
theorem ggX6_field_X1_isCracked : GoodIn wsX6_field wsX1_isCracked := goodIn_r _ [49, 50, 51, 52, 53, 54, 55] (by decide +kernel) (by decide +kernel)
set_option maxRecDepth 20000 in
theorem gX6_field_X1_isCracked : GoodIn wsX6_field (wsV RX6 94 RX1 yX1_isCracked wsX1_isCracked) := goodIn_app (goodIn_of _ (by decide +kernel)) ggX6_field_X1_isCracked
theorem dX6_field_0 : decode cX6_field 0 = .ok (.aload_n 0, 1) := by decide +kernel
theorem dX6_field_1 : decode cX6_field 1 = .ok (.iload_n 1, 1) := by decide +kernel
theorem dX6_field_2 : decode cX6_field 2 = .ok (.invokevirtual 68, 3) := by decide +kernel
theorem dX6_field_5 : decode cX6_field 5 = .ok (.astore 4, 2) := by decide +kernel
theorem dX6_field_7 : decode cX6_field 7 = .ok (.iload_n 2, 1) := by decide +kernel
theorem dX6_field_8 : decode cX6_field 8 = .ok (.iconst 4, 1) := by decide +kernel
theorem dX6_field_9 : decode cX6_field 9 = .ok (.invokestatic 72, 3) := by decide +kernel
theorem dX6_field_12 : decode cX6_field 12 = .ok (.iload_n 3, 1) := by decide +kernel
theorem dX6_field_13 : decode cX6_field 13 = .ok (.iconst 0, 1) := by decide +kernel
theorem dX6_field_14 : decode cX6_field 14 = .ok (.iconst 4, 1) := by decide +kernel
theorem dX6_field_15 : decode cX6_field 15 = .ok (.invokestatic 43, 3) := by decide +kernel
theorem dX6_field_18 : decode cX6_field 18 = .ok (.iload_n 3, 1) := by decide +kernel
theorem dX6_field_19 : decode cX6_field 19 = .ok (.tableswitch 74 0 3 #[29, 37, 50, 58], 29) := by decide +kernel
theorem dX6_field_48 : decode cX6_field 48 = .ok (.aload 4, 2) := by decide +kernel
theorem dX6_field_50 : decode cX6_field 50 = .ok (.getfield 60, 3) := by decide +kernel
theorem dX6_field_53 : decode cX6_field 53 = .ok (.iload_n 2, 1) := by decide +kernel
theorem dX6_field_54 : decode cX6_field 54 = .ok (.iaload, 1) := by decide +kernel
theorem dX6_field_55 : decode cX6_field 55 = .ok (.ireturn, 1) := by decide +kernel
theorem dX6_field_56 : decode cX6_field 56 = .ok (.aload 4, 2) := by decide +kernel
theorem dX6_field_58 : decode cX6_field 58 = .ok (.getfield 60, 3) := by decide +kernel
theorem dX6_field_61 : decode cX6_field 61 = .ok (.iload_n 2, 1) := by decide +kernel
theorem dX6_field_62 : decode cX6_field 62 = .ok (.iaload, 1) := by decide +kernel
theorem dX6_field_63 : decode cX6_field 63 = .ok (.aload_n 0, 1) := by decide +kernel
theorem dX6_field_64 : decode cX6_field 64 = .ok (.getfield 84, 3) := by decide +kernel
theorem dX6_field_67 : decode cX6_field 67 = .ok (.isub, 1) := by decide +kernel
theorem dX6_field_68 : decode cX6_field 68 = .ok (.ireturn, 1) := by decide +kernel
theorem dX6_field_69 : decode cX6_field 69 = .ok (.aload 4, 2) := by decide +kernel
theorem dX6_field_71 : decode cX6_field 71 = .ok (.getfield 87, 3) := by decide +kernel
theorem dX6_field_74 : decode cX6_field 74 = .ok (.iload_n 2, 1) := by decide +kernel
theorem dX6_field_75 : decode cX6_field 75 = .ok (.iaload, 1) := by decide +kernel
theorem dX6_field_76 : decode cX6_field 76 = .ok (.ireturn, 1) := by decide +kernel
theorem dX6_field_77 : decode cX6_field 77 = .ok (.aload 4, 2) := by decide +kernel
theorem dX6_field_79 : decode cX6_field 79 = .ok (.getfield 90, 3) := by decide +kernel
theorem dX6_field_82 : decode cX6_field 82 = .ok (.iload_n 2, 1) := by decide +kernel
theorem dX6_field_83 : decode cX6_field 83 = .ok (.baload, 1) := by decide +kernel
theorem dX6_field_84 : decode cX6_field 84 = .ok (.ifCond .eq 7, 3) := by decide +kernel
theorem dX6_field_87 : decode cX6_field 87 = .ok (.iconst 1, 1) := by decide +kernel
theorem dX6_field_88 : decode cX6_field 88 = .ok (.goto 4, 3) := by decide +kernel
theorem dX6_field_91 : decode cX6_field 91 = .ok (.iconst 0, 1) := by decide +kernel
theorem dX6_field_92 : decode cX6_field 92 = .ok (.ireturn, 1) := by decide +kernel
theorem dX6_field_93 : decode cX6_field 93 = .ok (.aload 4, 2) := by decide +kernel
theorem dX6_field_95 : decode cX6_field 95 = .ok (.iload_n 2, 1) := by decide +kernel
theorem dX6_field_96 : decode cX6_field 96 = .ok (.invokevirtual 94, 3) := by decide +kernel
theorem dX6_field_99 : decode cX6_field 99 = .ok (.ifCond .eq 7, 3) := by decide +kernel
theorem dX6_field_102 : decode cX6_field 102 = .ok (.iconst 1, 1) := by decide +kernel
theorem dX6_field_103 : decode cX6_field 103 = .ok (.goto 4, 3) := by decide +kernel
theorem dX6_field_106 : decode cX6_field 106 = .ok (.iconst 0, 1) := by decide +kernel
theorem dX6_field_107 : decode cX6_field 107 = .ok (.ireturn, 1) := by decide +kernel
set_option maxRecDepth 20000 in
theorem ggX6_isInTune_X6_panAt : GoodIn wsX6_isInTune wsX6_panAt := goodIn_ca (goodIn_r _ [6, 7, 8, 9, 10, 11, 12, 13, 14, 15, 16, 5, 17, 18, 19, 20, 21, 22, 23, 24, 25, 26, 27, 28, 29, 30, 31, 32, 33, 34, 35, 36, 52, 53, 54, 55, 56, 57, 58, 59, 60, 61] (by decide +kernel) (by decide +kernel)) (goodIn_sub (fun _ h => List.mem_cons_of_mem _ (List.mem_append_right _ h)) (by decide +kernel))
set_option maxRecDepth 20000 in
theorem gX6_isInTune_X6_panAt : GoodIn wsX6_isInTune (wsV RX6 68 RX6 yX6_panAt wsX6_panAt) := goodIn_app (goodIn_of _ (by decide +kernel)) ggX6_isInTune_X6_panAt
set_option maxRecDepth 20000 in
theorem ggX6_isInTune_X1_isTunable : GoodIn wsX6_isInTune wsX1_isTunable := goodIn_r _ [41, 42, 43, 44, 45, 46, 47, 48, 49, 40, 50, 51, 62, 63, 64, 65, 66] (by decide +kernel) (by decide +kernel)
set_option maxRecDepth 20000 in
theorem gX6_isInTune_X1_isTunable : GoodIn wsX6_isInTune (wsV RX6 98 RX1 yX1_isTunable wsX1_isTunable) := goodIn_app (goodIn_of _ (by decide +kernel)) ggX6_isInTune_X1_isTunable
theorem dX6_isInTune_0 : decode cX6_isInTune 0 = .ok (.aload_n 0, 1) := by decide +kernel
theorem dX6_isInTune_1 : decode cX6_isInTune 1 = .ok (.iload_n 1, 1) := by decide +kernel
theorem dX6_isInTune_2 : decode cX6_isInTune 2 = .ok (.invokevirtual 68, 3) := by decide +kernel
theorem dX6_isInTune_5 : decode cX6_isInTune 5 = .ok (.aload_n 0, 1) := by decide +kernel
theorem dX6_isInTune_6 : decode cX6_isInTune 6 = .ok (.getfield 84, 3) := by decide +kernel
theorem dX6_isInTune_9 : decode cX6_isInTune 9 = .ok (.iconst 0, 1) := by decide +kernel
theorem dX6_isInTune_10 : decode cX6_isInTune 10 = .ok (.invokevirtual 98, 3) := by decide +kernel
theorem dX6_isInTune_13 : decode cX6_isInTune 13 = .ok (.ireturn, 1) := by decide +kernel
set_option maxRecDepth 20000 in
theorem ggX6_plan_X6_panAt : GoodIn wsX6_plan wsX6_panAt := goodIn_ca (goodIn_r _ [8, 9, 10, 11, 12, 13, 14, 15, 16, 17, 18, 7, 19, 20, 21, 22, 23, 24, 25, 26, 27, 28, 29, 30, 31, 32, 33, 34, 35, 36, 37, 38, 85, 86, 87, 88, 89, 90, 91, 94, 95, 96] (by decide +kernel) (by decide +kernel)) (goodIn_sub (fun _ h => List.mem_cons_of_mem _ (List.mem_append_left _ (List.mem_append_right _ h))) (by decide +kernel))
set_option maxRecDepth 20000 in
theorem gX6_plan_X6_panAt : GoodIn wsX6_plan (wsV RX6 68 RX6 yX6_panAt wsX6_panAt) := goodIn_app (goodIn_of _ (by decide +kernel)) ggX6_plan_X6_panAt
set_option maxRecDepth 20000 in
theorem ggX6_plan_X6_requireRange : GoodIn wsX6_plan wsX6_requireRange := goodIn_ca (goodIn_r _ [41, 42, 43] (by decide +kernel) (by decide +kernel)) (goodIn_sub (fun _ h => List.mem_cons_of_mem _ (List.mem_append_right _ h)) (by decide +kernel))
set_option maxRecDepth 20000 in
theorem gX6_plan_X6_requireRange : GoodIn wsX6_plan (va_wsS RX6 43 yX6_requireRange wsX6_requireRange) := goodIn_app (goodIn_of _ (by decide +kernel)) ggX6_plan_X6_requireRange
set_option maxRecDepth 20000 in
theorem ggX6_plan_X3_findRow : GoodIn wsX6_plan wsX3_findRow := goodIn_r _ [48, 49, 50, 51, 52, 47, 53, 54, 55, 56, 57, 58, 59, 60, 61, 62, 63, 64, 65, 66, 67, 68, 69, 70, 12, 13, 14, 15, 16, 71, 23, 24, 25, 26, 27, 28, 29, 30, 31, 32, 33, 34, 35, 36, 37, 38, 72, 73, 74, 75, 76, 77, 78, 79, 80, 81, 82, 83, 84, 92, 93, 97, 98, 99, 100, 101, 94, 95, 96] (by decide +kernel) (by decide +kernel)
set_option maxRecDepth 20000 in
theorem gX6_plan_X3_findRow : GoodIn wsX6_plan (wsV RX6 102 RX3 yX3_findRow wsX3_findRow) := goodIn_app (goodIn_of _ (by decide +kernel)) ggX6_plan_X3_findRow
theorem dX6_plan_0 : decode cX6_plan 0 = .ok (.aload_n 0, 1) := by decide +kernel
theorem dX6_plan_1 : decode cX6_plan 1 = .ok (.iload_n 1, 1) := by decide +kernel
theorem dX6_plan_2 : decode cX6_plan 2 = .ok (.invokevirtual 68, 3) := by decide +kernel
theorem dX6_plan_5 : decode cX6_plan 5 = .ok (.astore_n 3, 1) := by decide +kernel
theorem dX6_plan_6 : decode cX6_plan 6 = .ok (.iload_n 2, 1) := by decide +kernel
theorem dX6_plan_7 : decode cX6_plan 7 = .ok (.iconst 0, 1) := by decide +kernel
theorem dX6_plan_8 : decode cX6_plan 8 = .ok (.iconst 3, 1) := by decide +kernel
theorem dX6_plan_9 : decode cX6_plan 9 = .ok (.invokestatic 43, 3) := by decide +kernel
theorem dX6_plan_12 : decode cX6_plan 12 = .ok (.aload_n 0, 1) := by decide +kernel
theorem dX6_plan_13 : decode cX6_plan 13 = .ok (.getfield 25, 3) := by decide +kernel
theorem dX6_plan_16 : decode cX6_plan 16 = .ok (.aload_n 3, 1) := by decide +kernel
theorem dX6_plan_17 : decode cX6_plan 17 = .ok (.aload_n 0, 1) := by decide +kernel
theorem dX6_plan_18 : decode cX6_plan 18 = .ok (.getfield 84, 3) := by decide +kernel
theorem dX6_plan_21 : decode cX6_plan 21 = .ok (.invokevirtual 102, 3) := by decide +kernel
theorem dX6_plan_24 : decode cX6_plan 24 = .ok (.istore 4, 2) := by decide +kernel
theorem dX6_plan_26 : decode cX6_plan 26 = .ok (.iload_n 2, 1) := by decide +kernel
theorem dX6_plan_27 : decode cX6_plan 27 = .ok (.ifCond .ne 6, 3) := by decide +kernel
theorem dX6_plan_30 : decode cX6_plan 30 = .ok (.iload 4, 2) := by decide +kernel
theorem dX6_plan_32 : decode cX6_plan 32 = .ok (.ireturn, 1) := by decide +kernel
theorem dX6_plan_33 : decode cX6_plan 33 = .ok (.iload_n 2, 1) := by decide +kernel
theorem dX6_plan_34 : decode cX6_plan 34 = .ok (.iload 4, 2) := by decide +kernel
theorem dX6_plan_36 : decode cX6_plan 36 = .ok (.if_icmp .gt 17, 3) := by decide +kernel
theorem dX6_plan_39 : decode cX6_plan 39 = .ok (.aload_n 0, 1) := by decide +kernel
theorem dX6_plan_40 : decode cX6_plan 40 = .ok (.getfield 25, 3) := by decide +kernel
theorem dX6_plan_43 : decode cX6_plan 43 = .ok (.getfield 106, 3) := by decide +kernel
theorem dX6_plan_46 : decode cX6_plan 46 = .ok (.iload_n 2, 1) := by decide +kernel
theorem dX6_plan_47 : decode cX6_plan 47 = .ok (.iconst 1, 1) := by decide +kernel
theorem dX6_plan_48 : decode cX6_plan 48 = .ok (.isub, 1) := by decide +kernel
theorem dX6_plan_49 : decode cX6_plan 49 = .ok (.iaload, 1) := by decide +kernel
theorem dX6_plan_50 : decode cX6_plan 50 = .ok (.goto 4, 3) := by decide +kernel
theorem dX6_plan_53 : decode cX6_plan 53 = .ok (.iconst (-1), 1) := by decide +kernel
theorem dX6_plan_54 : decode cX6_plan 54 = .ok (.ireturn, 1) := by decide +kernel
set_option maxRecDepth 20000 in
theorem ggX6_player_X6_requireRange : GoodIn wsX6_player wsX6_requireRange := goodIn_ca (goodIn_r _ [9, 10, 11] (by decide +kernel) (by decide +kernel)) (goodIn_sub (fun _ h => List.mem_cons_of_mem _ (List.mem_append_left _ (List.mem_append_right _ h))) (by decide +kernel))
set_option maxRecDepth 20000 in
theorem gX6_player_X6_requireRange : GoodIn wsX6_player (va_wsS RX6 43 yX6_requireRange wsX6_requireRange) := goodIn_app (goodIn_of _ (by decide +kernel)) ggX6_player_X6_requireRange
set_option maxRecDepth 20000 in
theorem ggX6_player_Jx4a65c_size_8abf5 : GoodIn wsX6_player wsJx4a65c_size_8abf5 := goodIn_r _ [16, 17, 99, 100, 101] (by decide +kernel) (by decide +kernel)
set_option maxRecDepth 20000 in
theorem gX6_player_Jx4a65c_size_8abf5 : GoodIn wsX6_player (wsV RX6 47 RJx4a65c yJx4a65c_size_8abf5 wsJx4a65c_size_8abf5) := goodIn_app (goodIn_of _ (by decide +kernel)) ggX6_player_Jx4a65c_size_8abf5
set_option maxRecDepth 20000 in
theorem ggX6_player_X6_requireState : GoodIn wsX6_player wsX6_requireState := goodIn_ca (goodIn_r _ [20, 21, 22] (by decide +kernel) (by decide +kernel)) (goodIn_sub (fun _ h => List.mem_cons_of_mem _ (List.mem_append_right _ h)) (by decide +kernel))
set_option maxRecDepth 20000 in
theorem gX6_player_X6_requireState : GoodIn wsX6_player (va_wsS RX6 51 yX6_requireState wsX6_requireState) := goodIn_app (goodIn_of _ (by decide +kernel)) ggX6_player_X6_requireState
set_option maxRecDepth 20000 in
theorem ggX6_player_X4_init : GoodIn wsX6_player wsX4_init := goodIn_r _ [25, 26, 27, 28, 29, 30, 31, 93, 94, 95, 96, 97, 98] (by decide +kernel) (by decide +kernel)
set_option maxRecDepth 20000 in
theorem gX6_player_X4_init : GoodIn wsX6_player (wsX4_init) := ggX6_player_X4_init
set_option maxRecDepth 20000 in
theorem ggX6_player_Jx4a65c_add_9ea2d : GoodIn wsX6_player wsJx4a65c_add_9ea2d := goodIn_r _ [35, 36, 37, 38, 17, 39, 40, 41, 15, 42, 43, 44, 45, 46, 47, 48, 49, 50, 51, 52, 53, 54, 55, 56, 57, 58, 59, 60, 61, 62, 63, 64, 65, 66, 67, 68, 69, 70, 71, 72, 73, 74, 75, 76, 77, 78, 79, 80, 81, 82, 83, 84, 85, 99, 100, 101] (by decide +kernel) (by decide +kernel)
set_option maxRecDepth 20000 in
theorem gX6_player_Jx4a65c_add_9ea2d : GoodIn wsX6_player (wsV RX6 39 RJx4a65c yJx4a65c_add_9ea2d wsJx4a65c_add_9ea2d) := goodIn_app (goodIn_of _ (by decide +kernel)) ggX6_player_Jx4a65c_add_9ea2d
theorem dX6_player_0 : decode cX6_player 0 = .ok (.iload_n 1, 1) := by decide +kernel
theorem dX6_player_1 : decode cX6_player 1 = .ok (.iconst 0, 1) := by decide +kernel
theorem dX6_player_2 : decode cX6_player 2 = .ok (.iconst 1, 1) := by decide +kernel
theorem dX6_player_3 : decode cX6_player 3 = .ok (.invokestatic 43, 3) := by decide +kernel
theorem dX6_player_6 : decode cX6_player 6 = .ok (.aload_n 0, 1) := by decide +kernel
theorem dX6_player_7 : decode cX6_player 7 = .ok (.getfield 16, 3) := by decide +kernel
theorem dX6_player_10 : decode cX6_player 10 = .ok (.invokevirtual 47, 3) := by decide +kernel
theorem dX6_player_13 : decode cX6_player 13 = .ok (.bipush 16, 2) := by decide +kernel
theorem dX6_player_15 : decode cX6_player 15 = .ok (.if_icmp .ge 7, 3) := by decide +kernel
theorem dX6_player_18 : decode cX6_player 18 = .ok (.iconst 1, 1) := by decide +kernel
theorem dX6_player_19 : decode cX6_player 19 = .ok (.goto 4, 3) := by decide +kernel
theorem dX6_player_22 : decode cX6_player 22 = .ok (.iconst 0, 1) := by decide +kernel
theorem dX6_player_23 : decode cX6_player 23 = .ok (.invokestatic 51, 3) := by decide +kernel
theorem dX6_player_26 : decode cX6_player 26 = .ok (.new 109, 3) := by decide +kernel
theorem dX6_player_29 : decode cX6_player 29 = .ok (.dup, 1) := by decide +kernel
theorem dX6_player_30 : decode cX6_player 30 = .ok (.aload_n 0, 1) := by decide +kernel
theorem dX6_player_31 : decode cX6_player 31 = .ok (.getfield 16, 3) := by decide +kernel
theorem dX6_player_34 : decode cX6_player 34 = .ok (.invokevirtual 47, 3) := by decide +kernel
theorem dX6_player_37 : decode cX6_player 37 = .ok (.iload_n 1, 1) := by decide +kernel
theorem dX6_player_38 : decode cX6_player 38 = .ok (.invokespecial 111, 3) := by decide +kernel
theorem dX6_player_41 : decode cX6_player 41 = .ok (.astore_n 2, 1) := by decide +kernel
theorem dX6_player_42 : decode cX6_player 42 = .ok (.aload_n 0, 1) := by decide +kernel
theorem dX6_player_43 : decode cX6_player 43 = .ok (.getfield 16, 3) := by decide +kernel
theorem dX6_player_46 : decode cX6_player 46 = .ok (.aload_n 2, 1) := by decide +kernel
theorem dX6_player_47 : decode cX6_player 47 = .ok (.invokevirtual 39, 3) := by decide +kernel
theorem dX6_player_50 : decode cX6_player 50 = .ok (.pop, 1) := by decide +kernel
theorem dX6_player_51 : decode cX6_player 51 = .ok (.aload_n 2, 1) := by decide +kernel
theorem dX6_player_52 : decode cX6_player 52 = .ok (.getfield 113, 3) := by decide +kernel
theorem dX6_player_55 : decode cX6_player 55 = .ok (.ireturn, 1) := by decide +kernel
set_option maxRecDepth 20000 in
theorem ggX6_join_X6_playerAt : GoodIn wsX6_join wsX6_playerAt := goodIn_ca (goodIn_r _ [10, 11, 12, 13, 14, 15, 16, 17, 18, 19, 20, 9, 21, 22, 23, 24, 25, 26, 27, 28, 29, 30, 31, 32, 33, 34, 35, 36, 37, 38, 39, 40, 151, 152, 153, 154, 155, 156, 157, 158, 159, 160] (by decide +kernel) (by decide +kernel)) (goodIn_sub (fun _ h => List.mem_cons_of_mem _ (List.mem_append_left _ (List.mem_append_right _ h))) (by decide +kernel))
set_option maxRecDepth 20000 in
theorem gX6_join_X6_playerAt : GoodIn wsX6_join (wsV RX6 114 RX6 yX6_playerAt wsX6_playerAt) := goodIn_app (goodIn_of _ (by decide +kernel)) ggX6_join_X6_playerAt
set_option maxRecDepth 20000 in
theorem ggX6_join_X6_bandAt : GoodIn wsX6_join wsX6_bandAt := goodIn_ca (goodIn_r _ [44, 45, 46, 13, 14, 15, 16, 17, 18, 19, 20, 9, 21, 22, 23, 24, 25, 26, 27, 28, 29, 30, 31, 32, 33, 34, 35, 36, 37, 38, 39, 40, 151, 152, 153, 154, 155, 156, 157, 158, 159, 160] (by decide +kernel) (by decide +kernel)) (goodIn_sub (fun _ h => List.mem_cons_of_mem _ (List.mem_append_left _ (List.mem_append_right _ h))) (by decide +kernel))
set_option maxRecDepth 20000 in
theorem gX6_join_X6_bandAt : GoodIn wsX6_join (wsV RX6 118 RX6 yX6_bandAt wsX6_bandAt) := goodIn_app (goodIn_of _ (by decide +kernel)) ggX6_join_X6_bandAt
set_option maxRecDepth 20000 in
theorem ggX6_join_X0_seatOf : GoodIn wsX6_join wsX0_seatOf := goodIn_r _ [51, 52, 53, 54, 55, 14, 15, 16, 17, 18, 56, 25, 26, 27, 28, 29, 30, 31, 32, 33, 34, 35, 36, 37, 38, 39, 40, 142, 143, 144, 145, 146, 147, 148, 149, 150, 158, 159, 160] (by decide +kernel) (by decide +kernel)
set_option maxRecDepth 20000 in
theorem gX6_join_X0_seatOf : GoodIn wsX6_join (wsV RX6 122 RX0 yX0_seatOf wsX0_seatOf) := goodIn_app (goodIn_of _ (by decide +kernel)) ggX6_join_X0_seatOf
set_option maxRecDepth 20000 in
theorem ggX6_join_X6_requireState : GoodIn wsX6_join wsX6_requireState := goodIn_ca (goodIn_r _ [59, 60, 61] (by decide +kernel) (by decide +kernel)) (goodIn_sub (fun _ h => List.mem_cons_of_mem _ (List.mem_append_right _ h)) (by decide +kernel))
set_option maxRecDepth 20000 in
theorem gX6_join_X6_requireState : GoodIn wsX6_join (va_wsS RX6 51 yX6_requireState wsX6_requireState) := goodIn_app (goodIn_of _ (by decide +kernel)) ggX6_join_X6_requireState
set_option maxRecDepth 20000 in
theorem ggX6_join_Jx4a65c_size_8abf5 : GoodIn wsX6_join wsJx4a65c_size_8abf5 := goodIn_r _ [17, 18, 158, 159, 160] (by decide +kernel) (by decide +kernel)
set_option maxRecDepth 20000 in
theorem gX6_join_Jx4a65c_size_8abf5 : GoodIn wsX6_join (wsV RX6 47 RJx4a65c yJx4a65c_size_8abf5 wsJx4a65c_size_8abf5) := goodIn_app (goodIn_of _ (by decide +kernel)) ggX6_join_Jx4a65c_size_8abf5
set_option maxRecDepth 20000 in
theorem ggX6_join_X6_seasonNow : GoodIn wsX6_join wsX6_seasonNow := goodIn_r _ [65, 66, 151, 152, 153, 154, 155, 156, 157] (by decide +kernel) (by decide +kernel)
set_option maxRecDepth 20000 in
theorem gX6_join_X6_seasonNow : GoodIn wsX6_join (wsV RX6 132 RX6 yX6_seasonNow wsX6_seasonNow) := goodIn_app (goodIn_of _ (by decide +kernel)) ggX6_join_X6_seasonNow
set_option maxRecDepth 20000 in
theorem ggX6_join_X4_mayJoin : GoodIn wsX6_join wsX4_mayJoin := goodIn_r _ [71, 72, 73, 136, 137, 138, 139, 140, 141] (by decide +kernel) (by decide +kernel)
set_option maxRecDepth 20000 in
theorem gX6_join_X4_mayJoin : GoodIn wsX6_join (wsV RX6 135 RX4 yX4_mayJoin wsX4_mayJoin) := goodIn_app (goodIn_of _ (by decide +kernel)) ggX6_join_X4_mayJoin
set_option maxRecDepth 20000 in
theorem ggX6_join_X5_init : GoodIn wsX6_join wsX5_init := goodIn_r _ [76, 77, 78, 79, 80, 81, 82, 149, 150] (by decide +kernel) (by decide +kernel)
set_option maxRecDepth 20000 in
theorem gX6_join_X5_init : GoodIn wsX6_join (wsX5_init) := ggX6_join_X5_init
set_option maxRecDepth 20000 in
theorem ggX6_join_Jx4a65c_add_9ea2d : GoodIn wsX6_join wsJx4a65c_add_9ea2d := goodIn_r _ [86, 87, 88, 40, 18, 89, 90, 91, 16, 92, 93, 94, 95, 96, 97, 98, 99, 100, 101, 102, 103, 104, 105, 106, 107, 108, 109, 110, 111, 112, 113, 114, 115, 116, 117, 118, 119, 120, 121, 122, 123, 124, 125, 126, 127, 128, 129, 130, 131, 132, 133, 134, 135, 158, 159, 160] (by decide +kernel) (by decide +kernel)
set_option maxRecDepth 20000 in
theorem gX6_join_Jx4a65c_add_9ea2d : GoodIn wsX6_join (wsV RX6 39 RJx4a65c yJx4a65c_add_9ea2d wsJx4a65c_add_9ea2d) := goodIn_app (goodIn_of _ (by decide +kernel)) ggX6_join_Jx4a65c_add_9ea2d
theorem dX6_join_0 : decode cX6_join 0 = .ok (.aload_n 0, 1) := by decide +kernel
theorem dX6_join_1 : decode cX6_join 1 = .ok (.iload_n 1, 1) := by decide +kernel
theorem dX6_join_2 : decode cX6_join 2 = .ok (.invokevirtual 114, 3) := by decide +kernel
theorem dX6_join_5 : decode cX6_join 5 = .ok (.astore_n 3, 1) := by decide +kernel
theorem dX6_join_6 : decode cX6_join 6 = .ok (.aload_n 0, 1) := by decide +kernel
theorem dX6_join_7 : decode cX6_join 7 = .ok (.iload_n 2, 1) := by decide +kernel
theorem dX6_join_8 : decode cX6_join 8 = .ok (.invokevirtual 118, 3) := by decide +kernel
theorem dX6_join_11 : decode cX6_join 11 = .ok (.astore 4, 2) := by decide +kernel
theorem dX6_join_13 : decode cX6_join 13 = .ok (.aload 4, 2) := by decide +kernel
theorem dX6_join_15 : decode cX6_join 15 = .ok (.aload_n 3, 1) := by decide +kernel
theorem dX6_join_16 : decode cX6_join 16 = .ok (.invokevirtual 122, 3) := by decide +kernel
theorem dX6_join_19 : decode cX6_join 19 = .ok (.iconst (-1), 1) := by decide +kernel
theorem dX6_join_20 : decode cX6_join 20 = .ok (.if_icmp .ne 15, 3) := by decide +kernel
theorem dX6_join_23 : decode cX6_join 23 = .ok (.aload_n 3, 1) := by decide +kernel
theorem dX6_join_24 : decode cX6_join 24 = .ok (.getfield 126, 3) := by decide +kernel
theorem dX6_join_27 : decode cX6_join 27 = .ok (.iconst 2, 1) := by decide +kernel
theorem dX6_join_28 : decode cX6_join 28 = .ok (.if_icmp .ge 7, 3) := by decide +kernel
theorem dX6_join_31 : decode cX6_join 31 = .ok (.iconst 1, 1) := by decide +kernel
theorem dX6_join_32 : decode cX6_join 32 = .ok (.goto 4, 3) := by decide +kernel
theorem dX6_join_35 : decode cX6_join 35 = .ok (.iconst 0, 1) := by decide +kernel
theorem dX6_join_36 : decode cX6_join 36 = .ok (.invokestatic 51, 3) := by decide +kernel
theorem dX6_join_39 : decode cX6_join 39 = .ok (.aload 4, 2) := by decide +kernel
theorem dX6_join_41 : decode cX6_join 41 = .ok (.getfield 129, 3) := by decide +kernel
theorem dX6_join_44 : decode cX6_join 44 = .ok (.invokevirtual 47, 3) := by decide +kernel
theorem dX6_join_47 : decode cX6_join 47 = .ok (.bipush 8, 2) := by decide +kernel
theorem dX6_join_49 : decode cX6_join 49 = .ok (.if_icmp .ge 7, 3) := by decide +kernel
theorem dX6_join_52 : decode cX6_join 52 = .ok (.iconst 1, 1) := by decide +kernel
theorem dX6_join_53 : decode cX6_join 53 = .ok (.goto 4, 3) := by decide +kernel
theorem dX6_join_56 : decode cX6_join 56 = .ok (.iconst 0, 1) := by decide +kernel
theorem dX6_join_57 : decode cX6_join 57 = .ok (.invokestatic 51, 3) := by decide +kernel
theorem dX6_join_60 : decode cX6_join 60 = .ok (.aload_n 3, 1) := by decide +kernel
theorem dX6_join_61 : decode cX6_join 61 = .ok (.iload_n 2, 1) := by decide +kernel
theorem dX6_join_62 : decode cX6_join 62 = .ok (.aload_n 0, 1) := by decide +kernel
theorem dX6_join_63 : decode cX6_join 63 = .ok (.invokevirtual 132, 3) := by decide +kernel
theorem dX6_join_66 : decode cX6_join 66 = .ok (.invokevirtual 135, 3) := by decide +kernel
theorem dX6_join_69 : decode cX6_join 69 = .ok (.invokestatic 51, 3) := by decide +kernel
theorem dX6_join_72 : decode cX6_join 72 = .ok (.aload 4, 2) := by decide +kernel
theorem dX6_join_74 : decode cX6_join 74 = .ok (.getfield 129, 3) := by decide +kernel
theorem dX6_join_77 : decode cX6_join 77 = .ok (.new 138, 3) := by decide +kernel
theorem dX6_join_80 : decode cX6_join 80 = .ok (.dup, 1) := by decide +kernel
theorem dX6_join_81 : decode cX6_join 81 = .ok (.aload_n 3, 1) := by decide +kernel
theorem dX6_join_82 : decode cX6_join 82 = .ok (.invokespecial 140, 3) := by decide +kernel
theorem dX6_join_85 : decode cX6_join 85 = .ok (.invokevirtual 39, 3) := by decide +kernel
theorem dX6_join_88 : decode cX6_join 88 = .ok (.pop, 1) := by decide +kernel
theorem dX6_join_89 : decode cX6_join 89 = .ok (.aload_n 3, 1) := by decide +kernel
theorem dX6_join_90 : decode cX6_join 90 = .ok (.dup, 1) := by decide +kernel
theorem dX6_join_91 : decode cX6_join 91 = .ok (.getfield 126, 3) := by decide +kernel
theorem dX6_join_94 : decode cX6_join 94 = .ok (.iconst 1, 1) := by decide +kernel
theorem dX6_join_95 : decode cX6_join 95 = .ok (.iadd, 1) := by decide +kernel
theorem dX6_join_96 : decode cX6_join 96 = .ok (.putfield 126, 3) := by decide +kernel
theorem dX6_join_99 : decode cX6_join 99 = .ok (.aload 4, 2) := by decide +kernel
theorem dX6_join_101 : decode cX6_join 101 = .ok (.getfield 129, 3) := by decide +kernel
theorem dX6_join_104 : decode cX6_join 104 = .ok (.invokevirtual 47, 3) := by decide +kernel
theorem dX6_join_107 : decode cX6_join 107 = .ok (.iconst 1, 1) := by decide +kernel
theorem dX6_join_108 : decode cX6_join 108 = .ok (.isub, 1) := by decide +kernel
theorem dX6_join_109 : decode cX6_join 109 = .ok (.ireturn, 1) := by decide +kernel
set_option maxRecDepth 20000 in
theorem ggX6_leave_X6_playerAt : GoodIn wsX6_leave wsX6_playerAt := goodIn_ca (goodIn_r _ [9, 10, 11, 12, 13, 14, 15, 16, 17, 18, 19, 8, 20, 21, 22, 23, 24, 25, 26, 27, 28, 29, 30, 31, 32, 33, 34, 35, 36, 37, 38, 39, 93, 94, 95, 96, 97, 98, 99, 100, 101, 102] (by decide +kernel) (by decide +kernel)) (goodIn_sub (fun _ h => List.mem_cons_of_mem _ (List.mem_append_left _ (List.mem_append_right _ h))) (by decide +kernel))
set_option maxRecDepth 20000 in
theorem gX6_leave_X6_playerAt : GoodIn wsX6_leave (wsV RX6 114 RX6 yX6_playerAt wsX6_playerAt) := goodIn_app (goodIn_of _ (by decide +kernel)) ggX6_leave_X6_playerAt
set_option maxRecDepth 20000 in
theorem ggX6_leave_X6_bandAt : GoodIn wsX6_leave wsX6_bandAt := goodIn_ca (goodIn_r _ [43, 44, 45, 12, 13, 14, 15, 16, 17, 18, 19, 8, 20, 21, 22, 23, 24, 25, 26, 27, 28, 29, 30, 31, 32, 33, 34, 35, 36, 37, 38, 39, 93, 94, 95, 96, 97, 98, 99, 100, 101, 102] (by decide +kernel) (by decide +kernel)) (goodIn_sub (fun _ h => List.mem_cons_of_mem _ (List.mem_append_left _ (List.mem_append_right _ h))) (by decide +kernel))
set_option maxRecDepth 20000 in
theorem gX6_leave_X6_bandAt : GoodIn wsX6_leave (wsV RX6 118 RX6 yX6_bandAt wsX6_bandAt) := goodIn_app (goodIn_of _ (by decide +kernel)) ggX6_leave_X6_bandAt
set_option maxRecDepth 20000 in
theorem ggX6_leave_X0_seatOf : GoodIn wsX6_leave wsX0_seatOf := goodIn_r _ [50, 51, 52, 53, 54, 13, 14, 15, 16, 17, 55, 24, 25, 26, 27, 28, 29, 30, 31, 32, 33, 34, 35, 36, 37, 38, 39, 80, 81, 82, 83, 84, 85, 86, 103, 104, 100, 101, 102] (by decide +kernel) (by decide +kernel)
set_option maxRecDepth 20000 in
theorem gX6_leave_X0_seatOf : GoodIn wsX6_leave (wsV RX6 122 RX0 yX0_seatOf wsX0_seatOf) := goodIn_app (goodIn_of _ (by decide +kernel)) ggX6_leave_X0_seatOf
set_option maxRecDepth 20000 in
theorem ggX6_leave_Jx4a65c_size_8abf5 : GoodIn wsX6_leave wsJx4a65c_size_8abf5 := goodIn_r _ [16, 17, 100, 101, 102] (by decide +kernel) (by decide +kernel)
set_option maxRecDepth 20000 in
theorem gX6_leave_Jx4a65c_size_8abf5 : GoodIn wsX6_leave (wsV RX6 47 RJx4a65c yJx4a65c_size_8abf5 wsJx4a65c_size_8abf5) := goodIn_app (goodIn_of _ (by decide +kernel)) ggX6_leave_Jx4a65c_size_8abf5
set_option maxRecDepth 20000 in
theorem ggX6_leave_X6_requireState : GoodIn wsX6_leave wsX6_requireState := goodIn_ca (goodIn_r _ [58, 59, 60] (by decide +kernel) (by decide +kernel)) (goodIn_sub (fun _ h => List.mem_cons_of_mem _ (List.mem_append_right _ h)) (by decide +kernel))
set_option maxRecDepth 20000 in
theorem gX6_leave_X6_requireState : GoodIn wsX6_leave (va_wsS RX6 51 yX6_requireState wsX6_requireState) := goodIn_app (goodIn_of _ (by decide +kernel)) ggX6_leave_X6_requireState
set_option maxRecDepth 20000 in
theorem ggX6_leave_Jx4a65c_remove_915e3 : GoodIn wsX6_leave wsJx4a65c_remove_915e3 := goodIn_r _ [64, 17, 39, 27, 28, 29, 30, 31, 32, 33, 34, 65, 66, 67, 15, 68, 69, 70, 71, 72, 73, 74, 100, 101, 102] (by decide +kernel) (by decide +kernel)
set_option maxRecDepth 20000 in
theorem gX6_leave_Jx4a65c_remove_915e3 : GoodIn wsX6_leave (wsV RX6 143 RJx4a65c yJx4a65c_remove_915e3 wsJx4a65c_remove_915e3) := goodIn_app (goodIn_of _ (by decide +kernel)) ggX6_leave_Jx4a65c_remove_915e3
set_option maxRecDepth 20000 in
theorem ggX6_leave_X6_seasonNow : GoodIn wsX6_leave wsX6_seasonNow := goodIn_r _ [78, 79, 93, 94, 95, 96, 97, 98, 99] (by decide +kernel) (by decide +kernel)
set_option maxRecDepth 20000 in
theorem gX6_leave_X6_seasonNow : GoodIn wsX6_leave (wsV RX6 132 RX6 yX6_seasonNow wsX6_seasonNow) := goodIn_app (goodIn_of _ (by decide +kernel)) ggX6_leave_X6_seasonNow
theorem dX6_leave_0 : decode cX6_leave 0 = .ok (.aload_n 0, 1) := by decide +kernel
theorem dX6_leave_1 : decode cX6_leave 1 = .ok (.iload_n 1, 1) := by decide +kernel
theorem dX6_leave_2 : decode cX6_leave 2 = .ok (.invokevirtual 114, 3) := by decide +kernel
theorem dX6_leave_5 : decode cX6_leave 5 = .ok (.astore_n 3, 1) := by decide +kernel
theorem dX6_leave_6 : decode cX6_leave 6 = .ok (.aload_n 0, 1) := by decide +kernel
theorem dX6_leave_7 : decode cX6_leave 7 = .ok (.iload_n 2, 1) := by decide +kernel
theorem dX6_leave_8 : decode cX6_leave 8 = .ok (.invokevirtual 118, 3) := by decide +kernel
theorem dX6_leave_11 : decode cX6_leave 11 = .ok (.astore 4, 2) := by decide +kernel
theorem dX6_leave_13 : decode cX6_leave 13 = .ok (.aload 4, 2) := by decide +kernel
theorem dX6_leave_15 : decode cX6_leave 15 = .ok (.aload_n 3, 1) := by decide +kernel
theorem dX6_leave_16 : decode cX6_leave 16 = .ok (.invokevirtual 122, 3) := by decide +kernel
theorem dX6_leave_19 : decode cX6_leave 19 = .ok (.istore 5, 2) := by decide +kernel
theorem dX6_leave_21 : decode cX6_leave 21 = .ok (.iload 5, 2) := by decide +kernel
theorem dX6_leave_23 : decode cX6_leave 23 = .ok (.ifCond .lt 20, 3) := by decide +kernel
theorem dX6_leave_26 : decode cX6_leave 26 = .ok (.iload 5, 2) := by decide +kernel
theorem dX6_leave_28 : decode cX6_leave 28 = .ok (.aload 4, 2) := by decide +kernel
theorem dX6_leave_30 : decode cX6_leave 30 = .ok (.getfield 129, 3) := by decide +kernel
theorem dX6_leave_33 : decode cX6_leave 33 = .ok (.invokevirtual 47, 3) := by decide +kernel
theorem dX6_leave_36 : decode cX6_leave 36 = .ok (.if_icmp .ge 7, 3) := by decide +kernel
theorem dX6_leave_39 : decode cX6_leave 39 = .ok (.iconst 1, 1) := by decide +kernel
theorem dX6_leave_40 : decode cX6_leave 40 = .ok (.goto 4, 3) := by decide +kernel
theorem dX6_leave_43 : decode cX6_leave 43 = .ok (.iconst 0, 1) := by decide +kernel
theorem dX6_leave_44 : decode cX6_leave 44 = .ok (.invokestatic 51, 3) := by decide +kernel
theorem dX6_leave_47 : decode cX6_leave 47 = .ok (.aload 4, 2) := by decide +kernel
theorem dX6_leave_49 : decode cX6_leave 49 = .ok (.getfield 129, 3) := by decide +kernel
theorem dX6_leave_52 : decode cX6_leave 52 = .ok (.iload 5, 2) := by decide +kernel
theorem dX6_leave_54 : decode cX6_leave 54 = .ok (.invokevirtual 143, 3) := by decide +kernel
theorem dX6_leave_57 : decode cX6_leave 57 = .ok (.pop, 1) := by decide +kernel
theorem dX6_leave_58 : decode cX6_leave 58 = .ok (.aload_n 3, 1) := by decide +kernel
theorem dX6_leave_59 : decode cX6_leave 59 = .ok (.dup, 1) := by decide +kernel
theorem dX6_leave_60 : decode cX6_leave 60 = .ok (.getfield 126, 3) := by decide +kernel
theorem dX6_leave_63 : decode cX6_leave 63 = .ok (.iconst 1, 1) := by decide +kernel
theorem dX6_leave_64 : decode cX6_leave 64 = .ok (.isub, 1) := by decide +kernel
theorem dX6_leave_65 : decode cX6_leave 65 = .ok (.putfield 126, 3) := by decide +kernel
theorem dX6_leave_68 : decode cX6_leave 68 = .ok (.aload_n 3, 1) := by decide +kernel
theorem dX6_leave_69 : decode cX6_leave 69 = .ok (.iload_n 2, 1) := by decide +kernel
theorem dX6_leave_70 : decode cX6_leave 70 = .ok (.putfield 147, 3) := by decide +kernel
theorem dX6_leave_73 : decode cX6_leave 73 = .ok (.aload_n 3, 1) := by decide +kernel
theorem dX6_leave_74 : decode cX6_leave 74 = .ok (.aload_n 0, 1) := by decide +kernel
theorem dX6_leave_75 : decode cX6_leave 75 = .ok (.invokevirtual 132, 3) := by decide +kernel
theorem dX6_leave_78 : decode cX6_leave 78 = .ok (.putfield 150, 3) := by decide +kernel
theorem dX6_leave_81 : decode cX6_leave 81 = .ok (.aload 4, 2) := by decide +kernel
theorem dX6_leave_83 : decode cX6_leave 83 = .ok (.getfield 129, 3) := by decide +kernel
theorem dX6_leave_86 : decode cX6_leave 86 = .ok (.invokevirtual 47, 3) := by decide +kernel
theorem dX6_leave_89 : decode cX6_leave 89 = .ok (.ireturn, 1) := by decide +kernel
set_option maxRecDepth 20000 in
theorem ggX6_give_X6_playerAt : GoodIn wsX6_give wsX6_playerAt := goodIn_ca (goodIn_r _ [7, 8, 9, 10, 11, 12, 13, 14, 15, 16, 17, 6, 18, 19, 20, 21, 22, 23, 24, 25, 26, 27, 28, 29, 30, 31, 32, 33, 34, 35, 36, 37, 60, 61, 62, 63, 64, 65, 66, 67, 68, 69] (by decide +kernel) (by decide +kernel)) (goodIn_sub (fun _ h => List.mem_cons_of_mem _ (List.mem_append_left _ (List.mem_append_right _ h))) (by decide +kernel))
set_option maxRecDepth 20000 in
theorem gX6_give_X6_playerAt : GoodIn wsX6_give (wsV RX6 114 RX6 yX6_playerAt wsX6_playerAt) := goodIn_app (goodIn_of _ (by decide +kernel)) ggX6_give_X6_playerAt
set_option maxRecDepth 20000 in
theorem ggX6_give_X6_panAt : GoodIn wsX6_give wsX6_panAt := goodIn_ca (goodIn_r _ [41, 42, 43, 10, 11, 12, 13, 14, 15, 16, 17, 6, 18, 19, 20, 21, 22, 23, 24, 25, 26, 27, 28, 29, 30, 31, 32, 33, 34, 35, 36, 37, 60, 61, 62, 63, 64, 65, 66, 67, 68, 69] (by decide +kernel) (by decide +kernel)) (goodIn_sub (fun _ h => List.mem_cons_of_mem _ (List.mem_append_left _ (List.mem_append_right _ h))) (by decide +kernel))
set_option maxRecDepth 20000 in
theorem gX6_give_X6_panAt : GoodIn wsX6_give (wsV RX6 68 RX6 yX6_panAt wsX6_panAt) := goodIn_app (goodIn_of _ (by decide +kernel)) ggX6_give_X6_panAt
set_option maxRecDepth 20000 in
theorem ggX6_give_X6_requireState : GoodIn wsX6_give wsX6_requireState := goodIn_ca (goodIn_r _ [46, 47, 48] (by decide +kernel) (by decide +kernel)) (goodIn_sub (fun _ h => List.mem_cons_of_mem _ (List.mem_append_right _ h)) (by decide +kernel))
set_option maxRecDepth 20000 in
theorem gX6_give_X6_requireState : GoodIn wsX6_give (va_wsS RX6 51 yX6_requireState wsX6_requireState) := goodIn_app (goodIn_of _ (by decide +kernel)) ggX6_give_X6_requireState
theorem dX6_give_0 : decode cX6_give 0 = .ok (.aload_n 0, 1) := by decide +kernel
theorem dX6_give_1 : decode cX6_give 1 = .ok (.iload_n 1, 1) := by decide +kernel
theorem dX6_give_2 : decode cX6_give 2 = .ok (.invokevirtual 114, 3) := by decide +kernel
theorem dX6_give_5 : decode cX6_give 5 = .ok (.astore_n 3, 1) := by decide +kernel
theorem dX6_give_6 : decode cX6_give 6 = .ok (.aload_n 0, 1) := by decide +kernel
theorem dX6_give_7 : decode cX6_give 7 = .ok (.iload_n 2, 1) := by decide +kernel
theorem dX6_give_8 : decode cX6_give 8 = .ok (.invokevirtual 68, 3) := by decide +kernel
theorem dX6_give_11 : decode cX6_give 11 = .ok (.astore 4, 2) := by decide +kernel
theorem dX6_give_13 : decode cX6_give 13 = .ok (.aload_n 3, 1) := by decide +kernel
theorem dX6_give_14 : decode cX6_give 14 = .ok (.getfield 153, 3) := by decide +kernel
theorem dX6_give_17 : decode cX6_give 17 = .ok (.ifnonnull 15, 3) := by decide +kernel
theorem dX6_give_20 : decode cX6_give 20 = .ok (.aload 4, 2) := by decide +kernel
theorem dX6_give_22 : decode cX6_give 22 = .ok (.getfield 157, 3) := by decide +kernel
theorem dX6_give_25 : decode cX6_give 25 = .ok (.ifCond .ne 7, 3) := by decide +kernel
theorem dX6_give_28 : decode cX6_give 28 = .ok (.iconst 1, 1) := by decide +kernel
theorem dX6_give_29 : decode cX6_give 29 = .ok (.goto 4, 3) := by decide +kernel
theorem dX6_give_32 : decode cX6_give 32 = .ok (.iconst 0, 1) := by decide +kernel
theorem dX6_give_33 : decode cX6_give 33 = .ok (.invokestatic 51, 3) := by decide +kernel
theorem dX6_give_36 : decode cX6_give 36 = .ok (.aload_n 3, 1) := by decide +kernel
theorem dX6_give_37 : decode cX6_give 37 = .ok (.aload 4, 2) := by decide +kernel
theorem dX6_give_39 : decode cX6_give 39 = .ok (.putfield 153, 3) := by decide +kernel
theorem dX6_give_42 : decode cX6_give 42 = .ok (.aload 4, 2) := by decide +kernel
theorem dX6_give_44 : decode cX6_give 44 = .ok (.iconst 1, 1) := by decide +kernel
theorem dX6_give_45 : decode cX6_give 45 = .ok (.putfield 157, 3) := by decide +kernel
theorem dX6_give_48 : decode cX6_give 48 = .ok (.return_, 1) := by decide +kernel
set_option maxRecDepth 20000 in
theorem ggX6_takeBack_X6_playerAt : GoodIn wsX6_takeBack wsX6_playerAt := goodIn_ca (goodIn_r _ [10, 11, 12, 13, 14, 15, 16, 17, 18, 19, 20, 9, 21, 22, 23, 24, 25, 26, 27, 28, 29, 30, 31, 32, 33, 34, 35, 36, 37, 38, 39, 40, 52, 53, 54, 55, 56, 57, 58, 59, 60, 61] (by decide +kernel) (by decide +kernel)) (goodIn_sub (fun _ h => List.mem_cons_of_mem _ (List.mem_append_right _ h)) (by decide +kernel))
set_option maxRecDepth 20000 in
theorem gX6_takeBack_X6_playerAt : GoodIn wsX6_takeBack (wsV RX6 114 RX6 yX6_playerAt wsX6_playerAt) := goodIn_app (goodIn_of _ (by decide +kernel)) ggX6_takeBack_X6_playerAt
theorem dX6_takeBack_0 : decode cX6_takeBack 0 = .ok (.aload_n 0, 1) := by decide +kernel
theorem dX6_takeBack_1 : decode cX6_takeBack 1 = .ok (.iload_n 1, 1) := by decide +kernel
theorem dX6_takeBack_2 : decode cX6_takeBack 2 = .ok (.invokevirtual 114, 3) := by decide +kernel
theorem dX6_takeBack_5 : decode cX6_takeBack 5 = .ok (.astore_n 2, 1) := by decide +kernel
theorem dX6_takeBack_6 : decode cX6_takeBack 6 = .ok (.aload_n 2, 1) := by decide +kernel
theorem dX6_takeBack_7 : decode cX6_takeBack 7 = .ok (.getfield 153, 3) := by decide +kernel
theorem dX6_takeBack_10 : decode cX6_takeBack 10 = .ok (.astore_n 3, 1) := by decide +kernel
theorem dX6_takeBack_11 : decode cX6_takeBack 11 = .ok (.aload_n 3, 1) := by decide +kernel
theorem dX6_takeBack_12 : decode cX6_takeBack 12 = .ok (.ifnonnull 13, 3) := by decide +kernel
theorem dX6_takeBack_15 : decode cX6_takeBack 15 = .ok (.new 161, 3) := by decide +kernel
theorem dX6_takeBack_18 : decode cX6_takeBack 18 = .ok (.dup, 1) := by decide +kernel
theorem dX6_takeBack_19 : decode cX6_takeBack 19 = .ok (.ldc 163, 2) := by decide +kernel
theorem dX6_takeBack_21 : decode cX6_takeBack 21 = .ok (.invokespecial 165, 3) := by decide +kernel
theorem dX6_takeBack_24 : decode cX6_takeBack 24 = .ok (.athrow, 1) := by decide +kernel
theorem dX6_takeBack_25 : decode cX6_takeBack 25 = .ok (.aload_n 2, 1) := by decide +kernel
theorem dX6_takeBack_26 : decode cX6_takeBack 26 = .ok (.aconst_null, 1) := by decide +kernel
theorem dX6_takeBack_27 : decode cX6_takeBack 27 = .ok (.putfield 153, 3) := by decide +kernel
theorem dX6_takeBack_30 : decode cX6_takeBack 30 = .ok (.aload_n 3, 1) := by decide +kernel
theorem dX6_takeBack_31 : decode cX6_takeBack 31 = .ok (.iconst 0, 1) := by decide +kernel
theorem dX6_takeBack_32 : decode cX6_takeBack 32 = .ok (.putfield 157, 3) := by decide +kernel
theorem dX6_takeBack_35 : decode cX6_takeBack 35 = .ok (.aload_n 3, 1) := by decide +kernel
theorem dX6_takeBack_36 : decode cX6_takeBack 36 = .ok (.getfield 64, 3) := by decide +kernel
theorem dX6_takeBack_39 : decode cX6_takeBack 39 = .ok (.ireturn, 1) := by decide +kernel
set_option maxRecDepth 20000 in
theorem ggX6_ofPlayer_X6_playerAt : GoodIn wsX6_ofPlayer wsX6_playerAt := goodIn_ca (goodIn_r _ [9, 10, 11, 12, 13, 14, 15, 16, 17, 18, 19, 8, 20, 21, 22, 23, 24, 25, 26, 27, 28, 29, 30, 31, 32, 33, 34, 35, 36, 37, 38, 39, 56, 57, 58, 59, 60, 61, 62, 63, 64, 65] (by decide +kernel) (by decide +kernel)) (goodIn_sub (fun _ h => List.mem_cons_of_mem _ (List.mem_append_left _ (List.mem_append_right _ h))) (by decide +kernel))
set_option maxRecDepth 20000 in
theorem gX6_ofPlayer_X6_playerAt : GoodIn wsX6_ofPlayer (wsV RX6 114 RX6 yX6_playerAt wsX6_playerAt) := goodIn_app (goodIn_of _ (by decide +kernel)) ggX6_ofPlayer_X6_playerAt
set_option maxRecDepth 20000 in
theorem ggX6_ofPlayer_X6_requireRange : GoodIn wsX6_ofPlayer wsX6_requireRange := goodIn_ca (goodIn_r _ [42, 43, 44] (by decide +kernel) (by decide +kernel)) (goodIn_sub (fun _ h => List.mem_cons_of_mem _ (List.mem_append_right _ h)) (by decide +kernel))
set_option maxRecDepth 20000 in
theorem gX6_ofPlayer_X6_requireRange : GoodIn wsX6_ofPlayer (va_wsS RX6 43 yX6_requireRange wsX6_requireRange) := goodIn_app (goodIn_of _ (by decide +kernel)) ggX6_ofPlayer_X6_requireRange
theorem dX6_ofPlayer_0 : decode cX6_ofPlayer 0 = .ok (.aload_n 0, 1) := by decide +kernel
theorem dX6_ofPlayer_1 : decode cX6_ofPlayer 1 = .ok (.iload_n 1, 1) := by decide +kernel
theorem dX6_ofPlayer_2 : decode cX6_ofPlayer 2 = .ok (.invokevirtual 114, 3) := by decide +kernel
theorem dX6_ofPlayer_5 : decode cX6_ofPlayer 5 = .ok (.astore_n 3, 1) := by decide +kernel
theorem dX6_ofPlayer_6 : decode cX6_ofPlayer 6 = .ok (.iload_n 2, 1) := by decide +kernel
theorem dX6_ofPlayer_7 : decode cX6_ofPlayer 7 = .ok (.iconst 0, 1) := by decide +kernel
theorem dX6_ofPlayer_8 : decode cX6_ofPlayer 8 = .ok (.iconst 2, 1) := by decide +kernel
theorem dX6_ofPlayer_9 : decode cX6_ofPlayer 9 = .ok (.invokestatic 43, 3) := by decide +kernel
theorem dX6_ofPlayer_12 : decode cX6_ofPlayer 12 = .ok (.iload_n 2, 1) := by decide +kernel
theorem dX6_ofPlayer_13 : decode cX6_ofPlayer 13 = .ok (.ifCond .ne 8, 3) := by decide +kernel
theorem dX6_ofPlayer_16 : decode cX6_ofPlayer 16 = .ok (.aload_n 3, 1) := by decide +kernel
theorem dX6_ofPlayer_17 : decode cX6_ofPlayer 17 = .ok (.getfield 168, 3) := by decide +kernel
theorem dX6_ofPlayer_20 : decode cX6_ofPlayer 20 = .ok (.ireturn, 1) := by decide +kernel
theorem dX6_ofPlayer_21 : decode cX6_ofPlayer 21 = .ok (.iload_n 2, 1) := by decide +kernel
theorem dX6_ofPlayer_22 : decode cX6_ofPlayer 22 = .ok (.iconst 1, 1) := by decide +kernel
theorem dX6_ofPlayer_23 : decode cX6_ofPlayer 23 = .ok (.if_icmp .ne 8, 3) := by decide +kernel
theorem dX6_ofPlayer_26 : decode cX6_ofPlayer 26 = .ok (.aload_n 3, 1) := by decide +kernel
theorem dX6_ofPlayer_27 : decode cX6_ofPlayer 27 = .ok (.getfield 126, 3) := by decide +kernel
theorem dX6_ofPlayer_30 : decode cX6_ofPlayer 30 = .ok (.ireturn, 1) := by decide +kernel
theorem dX6_ofPlayer_31 : decode cX6_ofPlayer 31 = .ok (.aload_n 3, 1) := by decide +kernel
theorem dX6_ofPlayer_32 : decode cX6_ofPlayer 32 = .ok (.getfield 153, 3) := by decide +kernel
theorem dX6_ofPlayer_35 : decode cX6_ofPlayer 35 = .ok (.ifnonnull 7, 3) := by decide +kernel
theorem dX6_ofPlayer_38 : decode cX6_ofPlayer 38 = .ok (.iconst (-1), 1) := by decide +kernel
theorem dX6_ofPlayer_39 : decode cX6_ofPlayer 39 = .ok (.goto 10, 3) := by decide +kernel
theorem dX6_ofPlayer_42 : decode cX6_ofPlayer 42 = .ok (.aload_n 3, 1) := by decide +kernel
theorem dX6_ofPlayer_43 : decode cX6_ofPlayer 43 = .ok (.getfield 153, 3) := by decide +kernel
theorem dX6_ofPlayer_46 : decode cX6_ofPlayer 46 = .ok (.getfield 64, 3) := by decide +kernel
theorem dX6_ofPlayer_49 : decode cX6_ofPlayer 49 = .ok (.ireturn, 1) := by decide +kernel
set_option maxRecDepth 20000 in
theorem ggX6_note_X6_bandAt : GoodIn wsX6_note wsX6_bandAt := goodIn_ca (goodIn_r _ [7, 8, 9, 10, 11, 12, 13, 14, 15, 16, 17, 6, 18, 19, 20, 21, 22, 23, 24, 25, 26, 27, 28, 29, 30, 31, 32, 33, 34, 35, 36, 37, 55, 56, 57, 58, 59, 60, 61, 62, 63, 64] (by decide +kernel) (by decide +kernel)) (goodIn_sub (fun _ h => List.mem_cons_of_mem _ (List.mem_append_left _ (List.mem_append_left _ (List.mem_append_right _ h)))) (by decide +kernel))
set_option maxRecDepth 20000 in
theorem gX6_note_X6_bandAt : GoodIn wsX6_note (wsV RX6 118 RX6 yX6_bandAt wsX6_bandAt) := goodIn_app (goodIn_of _ (by decide +kernel)) ggX6_note_X6_bandAt
set_option maxRecDepth 20000 in
theorem ggX6_note_X6_requireRange : GoodIn wsX6_note wsX6_requireRange := goodIn_ca (goodIn_r _ [40, 41, 42] (by decide +kernel) (by decide +kernel)) (goodIn_sub (fun _ h => List.mem_cons_of_mem _ (List.mem_append_left _ (List.mem_append_right _ h))) (by decide +kernel))
set_option maxRecDepth 20000 in
theorem gX6_note_X6_requireRange : GoodIn wsX6_note (va_wsS RX6 43 yX6_requireRange wsX6_requireRange) := goodIn_app (goodIn_of _ (by decide +kernel)) ggX6_note_X6_requireRange
set_option maxRecDepth 20000 in
theorem ggX6_note_X6_requireState : GoodIn wsX6_note wsX6_requireState := goodIn_ca (goodIn_r _ [45, 46, 47] (by decide +kernel) (by decide +kernel)) (goodIn_sub (fun _ h => List.mem_cons_of_mem _ (List.mem_append_right _ h)) (by decide +kernel))
set_option maxRecDepth 20000 in
theorem gX6_note_X6_requireState : GoodIn wsX6_note (va_wsS RX6 51 yX6_requireState wsX6_requireState) := goodIn_app (goodIn_of _ (by decide +kernel)) ggX6_note_X6_requireState
theorem dX6_note_0 : decode cX6_note 0 = .ok (.aload_n 0, 1) := by decide +kernel
theorem dX6_note_1 : decode cX6_note 1 = .ok (.iload_n 1, 1) := by decide +kernel
theorem dX6_note_2 : decode cX6_note 2 = .ok (.invokevirtual 118, 3) := by decide +kernel
theorem dX6_note_5 : decode cX6_note 5 = .ok (.astore_n 3, 1) := by decide +kernel
theorem dX6_note_6 : decode cX6_note 6 = .ok (.iload_n 2, 1) := by decide +kernel
theorem dX6_note_7 : decode cX6_note 7 = .ok (.iconst 0, 1) := by decide +kernel
theorem dX6_note_8 : decode cX6_note 8 = .ok (.bipush 11, 2) := by decide +kernel
theorem dX6_note_10 : decode cX6_note 10 = .ok (.invokestatic 43, 3) := by decide +kernel
theorem dX6_note_13 : decode cX6_note 13 = .ok (.aload_n 3, 1) := by decide +kernel
theorem dX6_note_14 : decode cX6_note 14 = .ok (.getfield 171, 3) := by decide +kernel
theorem dX6_note_17 : decode cX6_note 17 = .ok (.bipush 24, 2) := by decide +kernel
theorem dX6_note_19 : decode cX6_note 19 = .ok (.if_icmp .ge 7, 3) := by decide +kernel
theorem dX6_note_22 : decode cX6_note 22 = .ok (.iconst 1, 1) := by decide +kernel
theorem dX6_note_23 : decode cX6_note 23 = .ok (.goto 4, 3) := by decide +kernel
theorem dX6_note_26 : decode cX6_note 26 = .ok (.iconst 0, 1) := by decide +kernel
theorem dX6_note_27 : decode cX6_note 27 = .ok (.invokestatic 51, 3) := by decide +kernel
theorem dX6_note_30 : decode cX6_note 30 = .ok (.aload_n 3, 1) := by decide +kernel
theorem dX6_note_31 : decode cX6_note 31 = .ok (.getfield 174, 3) := by decide +kernel
theorem dX6_note_34 : decode cX6_note 34 = .ok (.aload_n 3, 1) := by decide +kernel
theorem dX6_note_35 : decode cX6_note 35 = .ok (.getfield 171, 3) := by decide +kernel
theorem dX6_note_38 : decode cX6_note 38 = .ok (.iload_n 2, 1) := by decide +kernel
theorem dX6_note_39 : decode cX6_note 39 = .ok (.iastore, 1) := by decide +kernel
theorem dX6_note_40 : decode cX6_note 40 = .ok (.aload_n 3, 1) := by decide +kernel
theorem dX6_note_41 : decode cX6_note 41 = .ok (.dup, 1) := by decide +kernel
theorem dX6_note_42 : decode cX6_note 42 = .ok (.getfield 171, 3) := by decide +kernel
theorem dX6_note_45 : decode cX6_note 45 = .ok (.iconst 1, 1) := by decide +kernel
theorem dX6_note_46 : decode cX6_note 46 = .ok (.iadd, 1) := by decide +kernel
theorem dX6_note_47 : decode cX6_note 47 = .ok (.putfield 171, 3) := by decide +kernel
theorem dX6_note_50 : decode cX6_note 50 = .ok (.aload_n 3, 1) := by decide +kernel
theorem dX6_note_51 : decode cX6_note 51 = .ok (.getfield 171, 3) := by decide +kernel
theorem dX6_note_54 : decode cX6_note 54 = .ok (.ireturn, 1) := by decide +kernel
set_option maxRecDepth 20000 in
theorem ggX6_change_X6_bandAt : GoodIn wsX6_change wsX6_bandAt := goodIn_ca (goodIn_r _ [7, 8, 9, 10, 11, 12, 13, 14, 15, 16, 17, 6, 18, 19, 20, 21, 22, 23, 24, 25, 26, 27, 28, 29, 30, 31, 32, 33, 34, 35, 36, 37, 60, 61, 62, 63, 64, 65, 66, 67, 68, 69] (by decide +kernel) (by decide +kernel)) (goodIn_sub (fun _ h => List.mem_cons_of_mem _ (List.mem_append_left _ (List.mem_append_right _ h))) (by decide +kernel))
set_option maxRecDepth 20000 in
theorem gX6_change_X6_bandAt : GoodIn wsX6_change (wsV RX6 118 RX6 yX6_bandAt wsX6_bandAt) := goodIn_app (goodIn_of _ (by decide +kernel)) ggX6_change_X6_bandAt
set_option maxRecDepth 20000 in
theorem ggX6_change_X6_requireIndex : GoodIn wsX6_change wsX6_requireIndex := goodIn_ca (goodIn_r _ [18, 19, 20] (by decide +kernel) (by decide +kernel)) (goodIn_sub (fun _ h => List.mem_cons_of_mem _ (List.mem_append_left _ (List.mem_append_right _ h))) (by decide +kernel))
set_option maxRecDepth 20000 in
theorem gX6_change_X6_requireIndex : GoodIn wsX6_change (va_wsS RX6 72 yX6_requireIndex wsX6_requireIndex) := goodIn_app (goodIn_of _ (by decide +kernel)) ggX6_change_X6_requireIndex
set_option maxRecDepth 20000 in
theorem ggX6_change_X6_requireRange : GoodIn wsX6_change wsX6_requireRange := goodIn_ca (goodIn_r _ [40, 41, 42] (by decide +kernel) (by decide +kernel)) (goodIn_sub (fun _ h => List.mem_cons_of_mem _ (List.mem_append_right _ h)) (by decide +kernel))
set_option maxRecDepth 20000 in
theorem gX6_change_X6_requireRange : GoodIn wsX6_change (va_wsS RX6 43 yX6_requireRange wsX6_requireRange) := goodIn_app (goodIn_of _ (by decide +kernel)) ggX6_change_X6_requireRange
set_option maxRecDepth 20000 in
theorem ggX6_change_X0_spoilPhrase : GoodIn wsX6_change wsX0_spoilPhrase := goodIn_r _ [47, 48, 49, 50, 51, 11, 12, 13, 14, 15, 52, 22, 23, 24, 25, 26, 27, 28, 29, 30, 31, 32, 33, 34, 35, 36, 37, 53, 54, 55, 56, 57, 58, 59, 70, 71, 67, 68, 69] (by decide +kernel) (by decide +kernel)
set_option maxRecDepth 20000 in
theorem gX6_change_X0_spoilPhrase : GoodIn wsX6_change (wsV RX6 177 RX0 yX0_spoilPhrase wsX0_spoilPhrase) := goodIn_app (goodIn_of _ (by decide +kernel)) ggX6_change_X0_spoilPhrase
theorem dX6_change_0 : decode cX6_change 0 = .ok (.aload_n 0, 1) := by decide +kernel
theorem dX6_change_1 : decode cX6_change 1 = .ok (.iload_n 1, 1) := by decide +kernel
theorem dX6_change_2 : decode cX6_change 2 = .ok (.invokevirtual 118, 3) := by decide +kernel
theorem dX6_change_5 : decode cX6_change 5 = .ok (.astore 4, 2) := by decide +kernel
theorem dX6_change_7 : decode cX6_change 7 = .ok (.iload_n 2, 1) := by decide +kernel
theorem dX6_change_8 : decode cX6_change 8 = .ok (.aload 4, 2) := by decide +kernel
theorem dX6_change_10 : decode cX6_change 10 = .ok (.getfield 171, 3) := by decide +kernel
theorem dX6_change_13 : decode cX6_change 13 = .ok (.invokestatic 72, 3) := by decide +kernel
theorem dX6_change_16 : decode cX6_change 16 = .ok (.iload_n 3, 1) := by decide +kernel
theorem dX6_change_17 : decode cX6_change 17 = .ok (.iconst 0, 1) := by decide +kernel
theorem dX6_change_18 : decode cX6_change 18 = .ok (.bipush 11, 2) := by decide +kernel
theorem dX6_change_20 : decode cX6_change 20 = .ok (.invokestatic 43, 3) := by decide +kernel
theorem dX6_change_23 : decode cX6_change 23 = .ok (.aload 4, 2) := by decide +kernel
theorem dX6_change_25 : decode cX6_change 25 = .ok (.getfield 174, 3) := by decide +kernel
theorem dX6_change_28 : decode cX6_change 28 = .ok (.iload_n 2, 1) := by decide +kernel
theorem dX6_change_29 : decode cX6_change 29 = .ok (.iaload, 1) := by decide +kernel
theorem dX6_change_30 : decode cX6_change 30 = .ok (.istore 5, 2) := by decide +kernel
theorem dX6_change_32 : decode cX6_change 32 = .ok (.iload_n 3, 1) := by decide +kernel
theorem dX6_change_33 : decode cX6_change 33 = .ok (.iload 5, 2) := by decide +kernel
theorem dX6_change_35 : decode cX6_change 35 = .ok (.if_icmp .eq 19, 3) := by decide +kernel
theorem dX6_change_38 : decode cX6_change 38 = .ok (.aload 4, 2) := by decide +kernel
theorem dX6_change_40 : decode cX6_change 40 = .ok (.getfield 174, 3) := by decide +kernel
theorem dX6_change_43 : decode cX6_change 43 = .ok (.iload_n 2, 1) := by decide +kernel
theorem dX6_change_44 : decode cX6_change 44 = .ok (.iload_n 3, 1) := by decide +kernel
theorem dX6_change_45 : decode cX6_change 45 = .ok (.iastore, 1) := by decide +kernel
theorem dX6_change_46 : decode cX6_change 46 = .ok (.aload 4, 2) := by decide +kernel
theorem dX6_change_48 : decode cX6_change 48 = .ok (.iload_n 2, 1) := by decide +kernel
theorem dX6_change_49 : decode cX6_change 49 = .ok (.iconst 4, 1) := by decide +kernel
theorem dX6_change_50 : decode cX6_change 50 = .ok (.idiv, 1) := by decide +kernel
theorem dX6_change_51 : decode cX6_change 51 = .ok (.invokevirtual 177, 3) := by decide +kernel
theorem dX6_change_54 : decode cX6_change 54 = .ok (.iload 5, 2) := by decide +kernel
theorem dX6_change_56 : decode cX6_change 56 = .ok (.ireturn, 1) := by decide +kernel
set_option maxRecDepth 20000 in
theorem ggX6_tell_X6_bandAt : GoodIn wsX6_tell wsX6_bandAt := goodIn_ca (goodIn_r _ [6, 7, 8, 9, 10, 11, 12, 13, 14, 15, 16, 5, 17, 18, 19, 20, 21, 22, 23, 24, 25, 26, 27, 28, 29, 30, 31, 32, 33, 34, 35, 36, 53, 54, 55, 56, 57, 58, 59, 60, 61, 62] (by decide +kernel) (by decide +kernel)) (goodIn_sub (fun _ h => List.mem_cons_of_mem _ (List.mem_append_right _ h)) (by decide +kernel))
set_option maxRecDepth 20000 in
theorem gX6_tell_X6_bandAt : GoodIn wsX6_tell (wsV RX6 118 RX6 yX6_bandAt wsX6_bandAt) := goodIn_app (goodIn_of _ (by decide +kernel)) ggX6_tell_X6_bandAt
set_option maxRecDepth 20000 in
theorem ggX6_tell_X6_seatAt : GoodIn wsX6_tell wsX6_seatAt := goodIn_ca (goodIn_r _ [39, 40, 41, 9, 10, 11, 12, 13, 14, 15, 16, 5, 17, 18, 19, 20, 21, 22, 23, 24, 25, 26, 27, 28, 29, 30, 31, 32, 33, 34, 35, 36, 63, 64, 65, 66, 67, 68, 69, 60, 61, 62] (by decide +kernel) (by decide +kernel)) (goodIn_sub (fun _ h => List.mem_cons_of_mem _ (List.mem_append_right _ h)) (by decide +kernel))
set_option maxRecDepth 20000 in
theorem gX6_tell_X6_seatAt : GoodIn wsX6_tell (va_wsS RX6 180 yX6_seatAt wsX6_seatAt) := goodIn_app (goodIn_of _ (by decide +kernel)) ggX6_tell_X6_seatAt
set_option maxRecDepth 20000 in
theorem ggX6_tell_X6_requirePhrase : GoodIn wsX6_tell wsX6_requirePhrase := goodIn_ca (goodIn_r _ [44, 45, 46, 47, 48, 49, 50, 15, 16, 5, 17, 18, 19, 63, 64, 65, 66, 67, 68, 69] (by decide +kernel) (by decide +kernel)) (goodIn_sub (fun _ h => List.mem_cons_of_mem _ (List.mem_append_right _ h)) (by decide +kernel))
set_option maxRecDepth 20000 in
theorem gX6_tell_X6_requirePhrase : GoodIn wsX6_tell (va_wsS RX6 184 yX6_requirePhrase wsX6_requirePhrase) := goodIn_app (goodIn_of _ (by decide +kernel)) ggX6_tell_X6_requirePhrase
theorem dX6_tell_0 : decode cX6_tell 0 = .ok (.aload_n 0, 1) := by decide +kernel
theorem dX6_tell_1 : decode cX6_tell 1 = .ok (.iload_n 1, 1) := by decide +kernel
theorem dX6_tell_2 : decode cX6_tell 2 = .ok (.invokevirtual 118, 3) := by decide +kernel
theorem dX6_tell_5 : decode cX6_tell 5 = .ok (.iload_n 2, 1) := by decide +kernel
theorem dX6_tell_6 : decode cX6_tell 6 = .ok (.invokestatic 180, 3) := by decide +kernel
theorem dX6_tell_9 : decode cX6_tell 9 = .ok (.astore 4, 2) := by decide +kernel
theorem dX6_tell_11 : decode cX6_tell 11 = .ok (.aload_n 0, 1) := by decide +kernel
theorem dX6_tell_12 : decode cX6_tell 12 = .ok (.iload_n 1, 1) := by decide +kernel
theorem dX6_tell_13 : decode cX6_tell 13 = .ok (.invokevirtual 118, 3) := by decide +kernel
theorem dX6_tell_16 : decode cX6_tell 16 = .ok (.iload_n 3, 1) := by decide +kernel
theorem dX6_tell_17 : decode cX6_tell 17 = .ok (.invokestatic 184, 3) := by decide +kernel
theorem dX6_tell_20 : decode cX6_tell 20 = .ok (.aload 4, 2) := by decide +kernel
theorem dX6_tell_22 : decode cX6_tell 22 = .ok (.getfield 188, 3) := by decide +kernel
theorem dX6_tell_25 : decode cX6_tell 25 = .ok (.iload_n 3, 1) := by decide +kernel
theorem dX6_tell_26 : decode cX6_tell 26 = .ok (.iaload, 1) := by decide +kernel
theorem dX6_tell_27 : decode cX6_tell 27 = .ok (.istore 5, 2) := by decide +kernel
theorem dX6_tell_29 : decode cX6_tell 29 = .ok (.aload 4, 2) := by decide +kernel
theorem dX6_tell_31 : decode cX6_tell 31 = .ok (.getfield 188, 3) := by decide +kernel
theorem dX6_tell_34 : decode cX6_tell 34 = .ok (.iload_n 3, 1) := by decide +kernel
theorem dX6_tell_35 : decode cX6_tell 35 = .ok (.iconst 1, 1) := by decide +kernel
theorem dX6_tell_36 : decode cX6_tell 36 = .ok (.iastore, 1) := by decide +kernel
theorem dX6_tell_37 : decode cX6_tell 37 = .ok (.iload 5, 2) := by decide +kernel
theorem dX6_tell_39 : decode cX6_tell 39 = .ok (.ireturn, 1) := by decide +kernel
set_option maxRecDepth 20000 in
theorem ggX6_drill_X6_bandAt : GoodIn wsX6_drill wsX6_bandAt := goodIn_ca (goodIn_r _ [8, 9, 10, 11, 12, 13, 14, 15, 16, 17, 18, 7, 19, 20, 21, 22, 23, 24, 25, 26, 27, 28, 29, 30, 31, 32, 33, 34, 35, 36, 37, 38, 97, 98, 99, 100, 101, 102, 103, 104, 105, 106] (by decide +kernel) (by decide +kernel)) (goodIn_sub (fun _ h => List.mem_cons_of_mem _ (List.mem_append_left _ (List.mem_append_right _ h))) (by decide +kernel))
set_option maxRecDepth 20000 in
theorem gX6_drill_X6_bandAt : GoodIn wsX6_drill (wsV RX6 118 RX6 yX6_bandAt wsX6_bandAt) := goodIn_app (goodIn_of _ (by decide +kernel)) ggX6_drill_X6_bandAt
set_option maxRecDepth 20000 in
theorem ggX6_drill_X6_requirePhrase : GoodIn wsX6_drill wsX6_requirePhrase := goodIn_ca (goodIn_r _ [41, 42, 43, 44, 45, 46, 47, 17, 18, 7, 19, 20, 21, 90, 91, 92, 93, 94, 95, 96] (by decide +kernel) (by decide +kernel)) (goodIn_sub (fun _ h => List.mem_cons_of_mem _ (List.mem_append_left _ (List.mem_append_right _ h))) (by decide +kernel))
set_option maxRecDepth 20000 in
theorem gX6_drill_X6_requirePhrase : GoodIn wsX6_drill (va_wsS RX6 184 yX6_requirePhrase wsX6_requirePhrase) := goodIn_app (goodIn_of _ (by decide +kernel)) ggX6_drill_X6_requirePhrase
set_option maxRecDepth 20000 in
theorem ggX6_drill_Jx4a65c_isEmpty_aae02 : GoodIn wsX6_drill wsJx4a65c_isEmpty_aae02 := goodIn_r _ [51, 16, 104, 105, 106] (by decide +kernel) (by decide +kernel)
set_option maxRecDepth 20000 in
theorem gX6_drill_Jx4a65c_isEmpty_aae02 : GoodIn wsX6_drill (wsV RX6 191 RJx4a65c yJx4a65c_isEmpty_aae02 wsJx4a65c_isEmpty_aae02) := goodIn_app (goodIn_of _ (by decide +kernel)) ggX6_drill_Jx4a65c_isEmpty_aae02
set_option maxRecDepth 20000 in
theorem ggX6_drill_X6_requireState : GoodIn wsX6_drill wsX6_requireState := goodIn_ca (goodIn_r _ [54, 55, 56] (by decide +kernel) (by decide +kernel)) (goodIn_sub (fun _ h => List.mem_cons_of_mem _ (List.mem_append_right _ h)) (by decide +kernel))
set_option maxRecDepth 20000 in
theorem gX6_drill_X6_requireState : GoodIn wsX6_drill (va_wsS RX6 51 yX6_requireState wsX6_requireState) := goodIn_app (goodIn_of _ (by decide +kernel)) ggX6_drill_X6_requireState
set_option maxRecDepth 20000 in
theorem ggX6_drill_X0_learnPhrase : GoodIn wsX6_drill wsX0_learnPhrase := goodIn_r _ [60, 61, 62, 63, 64, 12, 13, 14, 15, 16, 65, 23, 24, 25, 26, 27, 28, 29, 30, 31, 32, 33, 34, 35, 36, 37, 38, 66, 67, 68, 69, 70, 71, 72, 73, 90, 91, 92, 93, 94, 95, 96, 107, 108, 104, 105, 106, 109, 110, 111, 112, 113, 114] (by decide +kernel) (by decide +kernel)
set_option maxRecDepth 20000 in
theorem gX6_drill_X0_learnPhrase : GoodIn wsX6_drill (wsV RX6 201 RX0 yX0_learnPhrase wsX0_learnPhrase) := goodIn_app (goodIn_of _ (by decide +kernel)) ggX6_drill_X0_learnPhrase
set_option maxRecDepth 20000 in
theorem ggX6_drill_X0_wearPans : GoodIn wsX6_drill wsX0_wearPans := goodIn_r _ [77, 61, 62, 78, 79, 64, 12, 13, 14, 15, 16, 65, 23, 24, 25, 26, 27, 28, 29, 30, 31, 32, 33, 34, 35, 36, 37, 38, 80, 81, 82, 83, 84, 85, 90, 91, 92, 93, 94, 95, 96, 107, 108, 109, 110, 111, 112, 113, 114, 104, 105, 106, 115, 116, 117, 118, 119] (by decide +kernel) (by decide +kernel)
set_option maxRecDepth 20000 in
theorem gX6_drill_X0_wearPans : GoodIn wsX6_drill (wsV RX6 204 RX0 yX0_wearPans wsX0_wearPans) := goodIn_app (goodIn_of _ (by decide +kernel)) ggX6_drill_X0_wearPans
set_option maxRecDepth 20000 in
theorem ggX6_drill_X0_countRight : GoodIn wsX6_drill wsX0_countRight := goodIn_r _ [89, 61, 62, 63, 64, 12, 13, 14, 15, 16, 65, 23, 24, 25, 26, 27, 28, 29, 30, 31, 32, 33, 34, 35, 36, 37, 38, 90, 91, 92, 93, 94, 95, 96, 107, 108, 104, 105, 106] (by decide +kernel) (by decide +kernel)
set_option maxRecDepth 20000 in
theorem gX6_drill_X0_countRight : GoodIn wsX6_drill (wsV RX6 207 RX0 yX0_countRight wsX0_countRight) := goodIn_app (goodIn_of _ (by decide +kernel)) ggX6_drill_X0_countRight
theorem dX6_drill_0 : decode cX6_drill 0 = .ok (.aload_n 0, 1) := by decide +kernel
theorem dX6_drill_1 : decode cX6_drill 1 = .ok (.iload_n 1, 1) := by decide +kernel
theorem dX6_drill_2 : decode cX6_drill 2 = .ok (.invokevirtual 118, 3) := by decide +kernel
theorem dX6_drill_5 : decode cX6_drill 5 = .ok (.astore_n 3, 1) := by decide +kernel
theorem dX6_drill_6 : decode cX6_drill 6 = .ok (.aload_n 3, 1) := by decide +kernel
theorem dX6_drill_7 : decode cX6_drill 7 = .ok (.iload_n 2, 1) := by decide +kernel
theorem dX6_drill_8 : decode cX6_drill 8 = .ok (.invokestatic 184, 3) := by decide +kernel
theorem dX6_drill_11 : decode cX6_drill 11 = .ok (.aload_n 3, 1) := by decide +kernel
theorem dX6_drill_12 : decode cX6_drill 12 = .ok (.getfield 129, 3) := by decide +kernel
theorem dX6_drill_15 : decode cX6_drill 15 = .ok (.invokevirtual 191, 3) := by decide +kernel
theorem dX6_drill_18 : decode cX6_drill 18 = .ok (.ifCond .ne 18, 3) := by decide +kernel
theorem dX6_drill_21 : decode cX6_drill 21 = .ok (.aload_n 3, 1) := by decide +kernel
theorem dX6_drill_22 : decode cX6_drill 22 = .ok (.getfield 195, 3) := by decide +kernel
theorem dX6_drill_25 : decode cX6_drill 25 = .ok (.aload_n 0, 1) := by decide +kernel
theorem dX6_drill_26 : decode cX6_drill 26 = .ok (.getfield 198, 3) := by decide +kernel
theorem dX6_drill_29 : decode cX6_drill 29 = .ok (.if_icmp .eq 7, 3) := by decide +kernel
theorem dX6_drill_32 : decode cX6_drill 32 = .ok (.iconst 1, 1) := by decide +kernel
theorem dX6_drill_33 : decode cX6_drill 33 = .ok (.goto 4, 3) := by decide +kernel
theorem dX6_drill_36 : decode cX6_drill 36 = .ok (.iconst 0, 1) := by decide +kernel
theorem dX6_drill_37 : decode cX6_drill 37 = .ok (.invokestatic 51, 3) := by decide +kernel
theorem dX6_drill_40 : decode cX6_drill 40 = .ok (.aload_n 3, 1) := by decide +kernel
theorem dX6_drill_41 : decode cX6_drill 41 = .ok (.iload_n 2, 1) := by decide +kernel
theorem dX6_drill_42 : decode cX6_drill 42 = .ok (.invokevirtual 201, 3) := by decide +kernel
theorem dX6_drill_45 : decode cX6_drill 45 = .ok (.aload_n 3, 1) := by decide +kernel
theorem dX6_drill_46 : decode cX6_drill 46 = .ok (.invokevirtual 204, 3) := by decide +kernel
theorem dX6_drill_49 : decode cX6_drill 49 = .ok (.aload_n 3, 1) := by decide +kernel
theorem dX6_drill_50 : decode cX6_drill 50 = .ok (.aload_n 0, 1) := by decide +kernel
theorem dX6_drill_51 : decode cX6_drill 51 = .ok (.getfield 198, 3) := by decide +kernel
theorem dX6_drill_54 : decode cX6_drill 54 = .ok (.putfield 195, 3) := by decide +kernel
theorem dX6_drill_57 : decode cX6_drill 57 = .ok (.aload_n 3, 1) := by decide +kernel
theorem dX6_drill_58 : decode cX6_drill 58 = .ok (.iload_n 2, 1) := by decide +kernel
theorem dX6_drill_59 : decode cX6_drill 59 = .ok (.invokevirtual 207, 3) := by decide +kernel
theorem dX6_drill_62 : decode cX6_drill 62 = .ok (.ireturn, 1) := by decide +kernel
set_option maxRecDepth 20000 in
theorem ggX6_pass_X6_requireRange : GoodIn wsX6_pass wsX6_requireRange := goodIn_ca (goodIn_r _ [5, 6, 7] (by decide +kernel) (by decide +kernel)) (goodIn_sub (fun _ h => List.mem_cons_of_mem _ (List.mem_append_left _ (List.mem_append_right _ h))) (by decide +kernel))
set_option maxRecDepth 20000 in
theorem gX6_pass_X6_requireRange : GoodIn wsX6_pass (va_wsS RX6 43 yX6_requireRange wsX6_requireRange) := goodIn_app (goodIn_of _ (by decide +kernel)) ggX6_pass_X6_requireRange
set_option maxRecDepth 20000 in
theorem ggX6_pass_X6_requireState : GoodIn wsX6_pass wsX6_requireState := goodIn_ca (goodIn_r _ [10, 11, 12] (by decide +kernel) (by decide +kernel)) (goodIn_sub (fun _ h => List.mem_cons_of_mem _ (List.mem_append_right _ h)) (by decide +kernel))
set_option maxRecDepth 20000 in
theorem gX6_pass_X6_requireState : GoodIn wsX6_pass (va_wsS RX6 51 yX6_requireState wsX6_requireState) := goodIn_app (goodIn_of _ (by decide +kernel)) ggX6_pass_X6_requireState
theorem dX6_pass_0 : decode cX6_pass 0 = .ok (.iload_n 1, 1) := by decide +kernel
theorem dX6_pass_1 : decode cX6_pass 1 = .ok (.iconst 1, 1) := by decide +kernel
theorem dX6_pass_2 : decode cX6_pass 2 = .ok (.bipush 30, 2) := by decide +kernel
theorem dX6_pass_4 : decode cX6_pass 4 = .ok (.invokestatic 43, 3) := by decide +kernel
theorem dX6_pass_7 : decode cX6_pass 7 = .ok (.aload_n 0, 1) := by decide +kernel
theorem dX6_pass_8 : decode cX6_pass 8 = .ok (.getfield 198, 3) := by decide +kernel
theorem dX6_pass_11 : decode cX6_pass 11 = .ok (.iload_n 1, 1) := by decide +kernel
theorem dX6_pass_12 : decode cX6_pass 12 = .ok (.iadd, 1) := by decide +kernel
theorem dX6_pass_13 : decode cX6_pass 13 = .ok (.sipush 1000, 3) := by decide +kernel
theorem dX6_pass_16 : decode cX6_pass 16 = .ok (.if_icmp .gt 7, 3) := by decide +kernel
theorem dX6_pass_19 : decode cX6_pass 19 = .ok (.iconst 1, 1) := by decide +kernel
theorem dX6_pass_20 : decode cX6_pass 20 = .ok (.goto 4, 3) := by decide +kernel
theorem dX6_pass_23 : decode cX6_pass 23 = .ok (.iconst 0, 1) := by decide +kernel
theorem dX6_pass_24 : decode cX6_pass 24 = .ok (.invokestatic 51, 3) := by decide +kernel
theorem dX6_pass_27 : decode cX6_pass 27 = .ok (.aload_n 0, 1) := by decide +kernel
theorem dX6_pass_28 : decode cX6_pass 28 = .ok (.dup, 1) := by decide +kernel
theorem dX6_pass_29 : decode cX6_pass 29 = .ok (.getfield 198, 3) := by decide +kernel
theorem dX6_pass_32 : decode cX6_pass 32 = .ok (.iload_n 1, 1) := by decide +kernel
theorem dX6_pass_33 : decode cX6_pass 33 = .ok (.iadd, 1) := by decide +kernel
theorem dX6_pass_34 : decode cX6_pass 34 = .ok (.putfield 198, 3) := by decide +kernel
theorem dX6_pass_37 : decode cX6_pass 37 = .ok (.aload_n 0, 1) := by decide +kernel
theorem dX6_pass_38 : decode cX6_pass 38 = .ok (.getfield 198, 3) := by decide +kernel
theorem dX6_pass_41 : decode cX6_pass 41 = .ok (.ireturn, 1) := by decide +kernel
set_option maxRecDepth 20000 in
theorem ggX6_seat_X6_bandAt : GoodIn wsX6_seat wsX6_bandAt := goodIn_ca (goodIn_r _ [7, 8, 9, 10, 11, 12, 13, 14, 15, 16, 17, 6, 18, 19, 20, 21, 22, 23, 24, 25, 26, 27, 28, 29, 30, 31, 32, 33, 34, 35, 36, 37, 51, 52, 53, 54, 55, 56, 57, 58, 59, 60] (by decide +kernel) (by decide +kernel)) (goodIn_sub (fun _ h => List.mem_cons_of_mem _ (List.mem_append_right _ h)) (by decide +kernel))
set_option maxRecDepth 20000 in
theorem gX6_seat_X6_bandAt : GoodIn wsX6_seat (wsV RX6 118 RX6 yX6_bandAt wsX6_bandAt) := goodIn_app (goodIn_of _ (by decide +kernel)) ggX6_seat_X6_bandAt
set_option maxRecDepth 20000 in
theorem ggX6_seat_X6_seatAt : GoodIn wsX6_seat wsX6_seatAt := goodIn_ca (goodIn_r _ [40, 41, 42, 10, 11, 12, 13, 14, 15, 16, 17, 6, 18, 19, 20, 21, 22, 23, 24, 25, 26, 27, 28, 29, 30, 31, 32, 33, 34, 35, 36, 37, 61, 62, 63, 64, 65, 66, 67, 58, 59, 60] (by decide +kernel) (by decide +kernel)) (goodIn_sub (fun _ h => List.mem_cons_of_mem _ (List.mem_append_right _ h)) (by decide +kernel))
set_option maxRecDepth 20000 in
theorem gX6_seat_X6_seatAt : GoodIn wsX6_seat (va_wsS RX6 180 yX6_seatAt wsX6_seatAt) := goodIn_app (goodIn_of _ (by decide +kernel)) ggX6_seat_X6_seatAt
theorem dX6_seat_0 : decode cX6_seat 0 = .ok (.aload_n 0, 1) := by decide +kernel
theorem dX6_seat_1 : decode cX6_seat 1 = .ok (.iload_n 1, 1) := by decide +kernel
theorem dX6_seat_2 : decode cX6_seat 2 = .ok (.invokevirtual 118, 3) := by decide +kernel
theorem dX6_seat_5 : decode cX6_seat 5 = .ok (.iload_n 2, 1) := by decide +kernel
theorem dX6_seat_6 : decode cX6_seat 6 = .ok (.invokestatic 180, 3) := by decide +kernel
theorem dX6_seat_9 : decode cX6_seat 9 = .ok (.getfield 211, 3) := by decide +kernel
theorem dX6_seat_12 : decode cX6_seat 12 = .ok (.getfield 113, 3) := by decide +kernel
theorem dX6_seat_15 : decode cX6_seat 15 = .ok (.ireturn, 1) := by decide +kernel
set_option maxRecDepth 20000 in
theorem ggX6_knows_X6_bandAt : GoodIn wsX6_knows wsX6_bandAt := goodIn_ca (goodIn_r _ [6, 7, 8, 9, 10, 11, 12, 13, 14, 15, 16, 5, 17, 18, 19, 20, 21, 22, 23, 24, 25, 26, 27, 28, 29, 30, 31, 32, 33, 34, 35, 36, 53, 54, 55, 56, 57, 58, 59, 60, 61, 62] (by decide +kernel) (by decide +kernel)) (goodIn_sub (fun _ h => List.mem_cons_of_mem _ (List.mem_append_right _ h)) (by decide +kernel))
set_option maxRecDepth 20000 in
theorem gX6_knows_X6_bandAt : GoodIn wsX6_knows (wsV RX6 118 RX6 yX6_bandAt wsX6_bandAt) := goodIn_app (goodIn_of _ (by decide +kernel)) ggX6_knows_X6_bandAt
set_option maxRecDepth 20000 in
theorem ggX6_knows_X6_seatAt : GoodIn wsX6_knows wsX6_seatAt := goodIn_ca (goodIn_r _ [39, 40, 41, 9, 10, 11, 12, 13, 14, 15, 16, 5, 17, 18, 19, 20, 21, 22, 23, 24, 25, 26, 27, 28, 29, 30, 31, 32, 33, 34, 35, 36, 63, 64, 65, 66, 67, 68, 69, 60, 61, 62] (by decide +kernel) (by decide +kernel)) (goodIn_sub (fun _ h => List.mem_cons_of_mem _ (List.mem_append_right _ h)) (by decide +kernel))
set_option maxRecDepth 20000 in
theorem gX6_knows_X6_seatAt : GoodIn wsX6_knows (va_wsS RX6 180 yX6_seatAt wsX6_seatAt) := goodIn_app (goodIn_of _ (by decide +kernel)) ggX6_knows_X6_seatAt
set_option maxRecDepth 20000 in
theorem ggX6_knows_X6_requirePhrase : GoodIn wsX6_knows wsX6_requirePhrase := goodIn_ca (goodIn_r _ [44, 45, 46, 47, 48, 49, 50, 15, 16, 5, 17, 18, 19, 63, 64, 65, 66, 67, 68, 69] (by decide +kernel) (by decide +kernel)) (goodIn_sub (fun _ h => List.mem_cons_of_mem _ (List.mem_append_right _ h)) (by decide +kernel))
set_option maxRecDepth 20000 in
theorem gX6_knows_X6_requirePhrase : GoodIn wsX6_knows (va_wsS RX6 184 yX6_requirePhrase wsX6_requirePhrase) := goodIn_app (goodIn_of _ (by decide +kernel)) ggX6_knows_X6_requirePhrase
theorem dX6_knows_0 : decode cX6_knows 0 = .ok (.aload_n 0, 1) := by decide +kernel
theorem dX6_knows_1 : decode cX6_knows 1 = .ok (.iload_n 1, 1) := by decide +kernel
theorem dX6_knows_2 : decode cX6_knows 2 = .ok (.invokevirtual 118, 3) := by decide +kernel
theorem dX6_knows_5 : decode cX6_knows 5 = .ok (.iload_n 2, 1) := by decide +kernel
theorem dX6_knows_6 : decode cX6_knows 6 = .ok (.invokestatic 180, 3) := by decide +kernel
theorem dX6_knows_9 : decode cX6_knows 9 = .ok (.astore 4, 2) := by decide +kernel
theorem dX6_knows_11 : decode cX6_knows 11 = .ok (.aload_n 0, 1) := by decide +kernel
theorem dX6_knows_12 : decode cX6_knows 12 = .ok (.iload_n 1, 1) := by decide +kernel
theorem dX6_knows_13 : decode cX6_knows 13 = .ok (.invokevirtual 118, 3) := by decide +kernel
theorem dX6_knows_16 : decode cX6_knows 16 = .ok (.iload_n 3, 1) := by decide +kernel
theorem dX6_knows_17 : decode cX6_knows 17 = .ok (.invokestatic 184, 3) := by decide +kernel
theorem dX6_knows_20 : decode cX6_knows 20 = .ok (.aload 4, 2) := by decide +kernel
theorem dX6_knows_22 : decode cX6_knows 22 = .ok (.getfield 188, 3) := by decide +kernel
theorem dX6_knows_25 : decode cX6_knows 25 = .ok (.iload_n 3, 1) := by decide +kernel
theorem dX6_knows_26 : decode cX6_knows 26 = .ok (.iaload, 1) := by decide +kernel
theorem dX6_knows_27 : decode cX6_knows 27 = .ok (.ireturn, 1) := by decide +kernel
set_option maxRecDepth 20000 in
theorem ggX6_ofBand_X6_bandAt : GoodIn wsX6_ofBand wsX6_bandAt := goodIn_ca (goodIn_r _ [10, 11, 12, 13, 14, 15, 16, 17, 18, 19, 20, 9, 21, 22, 23, 24, 25, 26, 27, 28, 29, 30, 31, 32, 33, 34, 35, 36, 37, 38, 39, 40, 59, 60, 61, 62, 63, 64, 65, 66, 67, 68] (by decide +kernel) (by decide +kernel)) (goodIn_sub (fun _ h => List.mem_cons_of_mem _ (List.mem_append_left _ (List.mem_append_right _ h))) (by decide +kernel))
set_option maxRecDepth 20000 in
theorem gX6_ofBand_X6_bandAt : GoodIn wsX6_ofBand (wsV RX6 118 RX6 yX6_bandAt wsX6_bandAt) := goodIn_app (goodIn_of _ (by decide +kernel)) ggX6_ofBand_X6_bandAt
set_option maxRecDepth 20000 in
theorem ggX6_ofBand_X6_requireRange : GoodIn wsX6_ofBand wsX6_requireRange := goodIn_ca (goodIn_r _ [43, 44, 45] (by decide +kernel) (by decide +kernel)) (goodIn_sub (fun _ h => List.mem_cons_of_mem _ (List.mem_append_right _ h)) (by decide +kernel))
set_option maxRecDepth 20000 in
theorem gX6_ofBand_X6_requireRange : GoodIn wsX6_ofBand (va_wsS RX6 43 yX6_requireRange wsX6_requireRange) := goodIn_app (goodIn_of _ (by decide +kernel)) ggX6_ofBand_X6_requireRange
set_option maxRecDepth 20000 in
theorem ggX6_ofBand_Jx4a65c_size_8abf5 : GoodIn wsX6_ofBand wsJx4a65c_size_8abf5 := goodIn_r _ [17, 18, 66, 67, 68] (by decide +kernel) (by decide +kernel)
set_option maxRecDepth 20000 in
theorem gX6_ofBand_Jx4a65c_size_8abf5 : GoodIn wsX6_ofBand (wsV RX6 47 RJx4a65c yJx4a65c_size_8abf5 wsJx4a65c_size_8abf5) := goodIn_app (goodIn_of _ (by decide +kernel)) ggX6_ofBand_Jx4a65c_size_8abf5
set_option maxRecDepth 20000 in
theorem ggX6_ofBand_X0_phraseCount : GoodIn wsX6_ofBand wsX0_phraseCount := goodIn_r _ [50, 51, 52, 53, 54, 55, 56, 57, 58] (by decide +kernel) (by decide +kernel)
set_option maxRecDepth 20000 in
theorem gX6_ofBand_X0_phraseCount : GoodIn wsX6_ofBand (wsV RX6 215 RX0 yX0_phraseCount wsX0_phraseCount) := goodIn_app (goodIn_of _ (by decide +kernel)) ggX6_ofBand_X0_phraseCount
theorem dX6_ofBand_0 : decode cX6_ofBand 0 = .ok (.aload_n 0, 1) := by decide +kernel
theorem dX6_ofBand_1 : decode cX6_ofBand 1 = .ok (.iload_n 1, 1) := by decide +kernel
theorem dX6_ofBand_2 : decode cX6_ofBand 2 = .ok (.invokevirtual 118, 3) := by decide +kernel
theorem dX6_ofBand_5 : decode cX6_ofBand 5 = .ok (.astore_n 3, 1) := by decide +kernel
theorem dX6_ofBand_6 : decode cX6_ofBand 6 = .ok (.iload_n 2, 1) := by decide +kernel
theorem dX6_ofBand_7 : decode cX6_ofBand 7 = .ok (.iconst 0, 1) := by decide +kernel
theorem dX6_ofBand_8 : decode cX6_ofBand 8 = .ok (.iconst 4, 1) := by decide +kernel
theorem dX6_ofBand_9 : decode cX6_ofBand 9 = .ok (.invokestatic 43, 3) := by decide +kernel
theorem dX6_ofBand_12 : decode cX6_ofBand 12 = .ok (.iload_n 2, 1) := by decide +kernel
theorem dX6_ofBand_13 : decode cX6_ofBand 13 = .ok (.tableswitch 54 0 3 #[31, 39, 44, 49], 31) := by decide +kernel
theorem dX6_ofBand_44 : decode cX6_ofBand 44 = .ok (.aload_n 3, 1) := by decide +kernel
theorem dX6_ofBand_45 : decode cX6_ofBand 45 = .ok (.getfield 129, 3) := by decide +kernel
theorem dX6_ofBand_48 : decode cX6_ofBand 48 = .ok (.invokevirtual 47, 3) := by decide +kernel
theorem dX6_ofBand_51 : decode cX6_ofBand 51 = .ok (.ireturn, 1) := by decide +kernel
theorem dX6_ofBand_52 : decode cX6_ofBand 52 = .ok (.aload_n 3, 1) := by decide +kernel
theorem dX6_ofBand_53 : decode cX6_ofBand 53 = .ok (.getfield 171, 3) := by decide +kernel
theorem dX6_ofBand_56 : decode cX6_ofBand 56 = .ok (.ireturn, 1) := by decide +kernel
theorem dX6_ofBand_57 : decode cX6_ofBand 57 = .ok (.aload_n 3, 1) := by decide +kernel
theorem dX6_ofBand_58 : decode cX6_ofBand 58 = .ok (.invokevirtual 215, 3) := by decide +kernel
theorem dX6_ofBand_61 : decode cX6_ofBand 61 = .ok (.ireturn, 1) := by decide +kernel
theorem dX6_ofBand_62 : decode cX6_ofBand 62 = .ok (.aload_n 3, 1) := by decide +kernel
theorem dX6_ofBand_63 : decode cX6_ofBand 63 = .ok (.getfield 218, 3) := by decide +kernel
theorem dX6_ofBand_66 : decode cX6_ofBand 66 = .ok (.ireturn, 1) := by decide +kernel
theorem dX6_ofBand_67 : decode cX6_ofBand 67 = .ok (.aload_n 3, 1) := by decide +kernel
theorem dX6_ofBand_68 : decode cX6_ofBand 68 = .ok (.getfield 195, 3) := by decide +kernel
theorem dX6_ofBand_71 : decode cX6_ofBand 71 = .ok (.aload_n 0, 1) := by decide +kernel
theorem dX6_ofBand_72 : decode cX6_ofBand 72 = .ok (.getfield 198, 3) := by decide +kernel
theorem dX6_ofBand_75 : decode cX6_ofBand 75 = .ok (.if_icmp .ne 7, 3) := by decide +kernel
theorem dX6_ofBand_78 : decode cX6_ofBand 78 = .ok (.iconst 1, 1) := by decide +kernel
theorem dX6_ofBand_79 : decode cX6_ofBand 79 = .ok (.goto 4, 3) := by decide +kernel
theorem dX6_ofBand_82 : decode cX6_ofBand 82 = .ok (.iconst 0, 1) := by decide +kernel
theorem dX6_ofBand_83 : decode cX6_ofBand 83 = .ok (.ireturn, 1) := by decide +kernel
set_option maxRecDepth 20000 in
theorem ggX6_leaps_X6_bandAt : GoodIn wsX6_leaps wsX6_bandAt := goodIn_ca (goodIn_r _ [6, 7, 8, 9, 10, 11, 12, 13, 14, 15, 16, 5, 17, 18, 19, 20, 21, 22, 23, 24, 25, 26, 27, 28, 29, 30, 31, 32, 33, 34, 35, 36, 85, 86, 87, 88, 89, 90, 91, 92, 93, 94] (by decide +kernel) (by decide +kernel)) (goodIn_sub (fun _ h => List.mem_cons_of_mem _ (List.mem_append_right _ h)) (by decide +kernel))
set_option maxRecDepth 20000 in
theorem gX6_leaps_X6_bandAt : GoodIn wsX6_leaps (wsV RX6 118 RX6 yX6_bandAt wsX6_bandAt) := goodIn_app (goodIn_of _ (by decide +kernel)) ggX6_leaps_X6_bandAt
set_option maxRecDepth 20000 in
theorem ggX6_leaps_X2_findBest : GoodIn wsX6_leaps wsX2_findBest := goodIn_r _ [41, 42, 43, 44, 45, 46, 47, 48, 49, 50, 51, 52, 40, 53, 54, 55, 56, 57, 58, 59, 10, 11, 12, 13, 14, 60, 21, 22, 23, 24, 25, 26, 27, 28, 29, 30, 31, 32, 33, 34, 35, 36, 61, 62, 63, 64, 65, 66, 67, 68, 69, 70, 71, 72, 73, 74, 75, 76, 77, 78, 79, 80, 81, 82, 83, 84, 95, 96, 97, 98, 99, 100, 101, 102, 103, 104, 105, 106, 107, 108, 109, 110, 111, 92, 93, 94] (by decide +kernel) (by decide +kernel)
set_option maxRecDepth 20000 in
theorem gX6_leaps_X2_findBest : GoodIn wsX6_leaps (wsV RX6 221 RX2 yX2_findBest wsX2_findBest) := goodIn_app (goodIn_of _ (by decide +kernel)) ggX6_leaps_X2_findBest
theorem dX6_leaps_0 : decode cX6_leaps 0 = .ok (.aload_n 0, 1) := by decide +kernel
theorem dX6_leaps_1 : decode cX6_leaps 1 = .ok (.getfield 32, 3) := by decide +kernel
theorem dX6_leaps_4 : decode cX6_leaps 4 = .ok (.aload_n 0, 1) := by decide +kernel
theorem dX6_leaps_5 : decode cX6_leaps 5 = .ok (.iload_n 1, 1) := by decide +kernel
theorem dX6_leaps_6 : decode cX6_leaps 6 = .ok (.invokevirtual 118, 3) := by decide +kernel
theorem dX6_leaps_9 : decode cX6_leaps 9 = .ok (.iconst (-1), 1) := by decide +kernel
theorem dX6_leaps_10 : decode cX6_leaps 10 = .ok (.invokevirtual 221, 3) := by decide +kernel
theorem dX6_leaps_13 : decode cX6_leaps 13 = .ok (.ireturn, 1) := by decide +kernel
set_option maxRecDepth 20000 in
theorem ggX6_part_X6_bandAt : GoodIn wsX6_part wsX6_bandAt := goodIn_ca (goodIn_r _ [7, 8, 9, 10, 11, 12, 13, 14, 15, 16, 17, 6, 18, 19, 20, 21, 22, 23, 24, 25, 26, 27, 28, 29, 30, 31, 32, 33, 34, 35, 36, 37, 90, 91, 92, 93, 94, 95, 96, 99, 100, 101] (by decide +kernel) (by decide +kernel)) (goodIn_sub (fun _ h => List.mem_cons_of_mem _ (List.mem_append_right _ h)) (by decide +kernel))
set_option maxRecDepth 20000 in
theorem gX6_part_X6_bandAt : GoodIn wsX6_part (wsV RX6 118 RX6 yX6_bandAt wsX6_bandAt) := goodIn_app (goodIn_of _ (by decide +kernel)) ggX6_part_X6_bandAt
set_option maxRecDepth 20000 in
theorem ggX6_part_X6_requirePhrase : GoodIn wsX6_part wsX6_requirePhrase := goodIn_ca (goodIn_r _ [40, 41, 42, 43, 44, 45, 46, 16, 17, 6, 18, 19, 20, 102, 103, 104, 105, 106, 107, 108] (by decide +kernel) (by decide +kernel)) (goodIn_sub (fun _ h => List.mem_cons_of_mem _ (List.mem_append_right _ h)) (by decide +kernel))
set_option maxRecDepth 20000 in
theorem gX6_part_X6_requirePhrase : GoodIn wsX6_part (va_wsS RX6 184 yX6_requirePhrase wsX6_requirePhrase) := goodIn_app (goodIn_of _ (by decide +kernel)) ggX6_part_X6_requirePhrase
set_option maxRecDepth 20000 in
theorem ggX6_part_X2_findBest : GoodIn wsX6_part wsX2_findBest := goodIn_r _ [51, 52, 53, 54, 42, 43, 44, 45, 46, 55, 56, 57, 50, 58, 59, 60, 61, 62, 63, 64, 11, 12, 13, 14, 15, 65, 22, 23, 24, 25, 26, 27, 28, 29, 30, 31, 32, 33, 34, 35, 36, 37, 66, 67, 68, 69, 70, 71, 72, 73, 74, 75, 76, 77, 78, 79, 80, 81, 82, 83, 84, 85, 86, 87, 88, 89, 97, 98, 102, 103, 104, 105, 106, 107, 108, 109, 110, 111, 112, 113, 114, 115, 116, 99, 100, 101] (by decide +kernel) (by decide +kernel)
set_option maxRecDepth 20000 in
theorem gX6_part_X2_findBest : GoodIn wsX6_part (wsV RX6 221 RX2 yX2_findBest wsX2_findBest) := goodIn_app (goodIn_of _ (by decide +kernel)) ggX6_part_X2_findBest
theorem dX6_part_0 : decode cX6_part 0 = .ok (.aload_n 0, 1) := by decide +kernel
theorem dX6_part_1 : decode cX6_part 1 = .ok (.iload_n 1, 1) := by decide +kernel
theorem dX6_part_2 : decode cX6_part 2 = .ok (.invokevirtual 118, 3) := by decide +kernel
theorem dX6_part_5 : decode cX6_part 5 = .ok (.astore_n 3, 1) := by decide +kernel
theorem dX6_part_6 : decode cX6_part 6 = .ok (.aload_n 3, 1) := by decide +kernel
theorem dX6_part_7 : decode cX6_part 7 = .ok (.iload_n 2, 1) := by decide +kernel
theorem dX6_part_8 : decode cX6_part 8 = .ok (.invokestatic 184, 3) := by decide +kernel
theorem dX6_part_11 : decode cX6_part 11 = .ok (.aload_n 0, 1) := by decide +kernel
theorem dX6_part_12 : decode cX6_part 12 = .ok (.getfield 32, 3) := by decide +kernel
theorem dX6_part_15 : decode cX6_part 15 = .ok (.aload_n 3, 1) := by decide +kernel
theorem dX6_part_16 : decode cX6_part 16 = .ok (.iconst (-1), 1) := by decide +kernel
theorem dX6_part_17 : decode cX6_part 17 = .ok (.invokevirtual 221, 3) := by decide +kernel
theorem dX6_part_20 : decode cX6_part 20 = .ok (.iconst (-1), 1) := by decide +kernel
theorem dX6_part_21 : decode cX6_part 21 = .ok (.if_icmp .ne 7, 3) := by decide +kernel
theorem dX6_part_24 : decode cX6_part 24 = .ok (.iconst (-1), 1) := by decide +kernel
theorem dX6_part_25 : decode cX6_part 25 = .ok (.goto 12, 3) := by decide +kernel
theorem dX6_part_28 : decode cX6_part 28 = .ok (.aload_n 0, 1) := by decide +kernel
theorem dX6_part_29 : decode cX6_part 29 = .ok (.getfield 32, 3) := by decide +kernel
theorem dX6_part_32 : decode cX6_part 32 = .ok (.getfield 225, 3) := by decide +kernel
theorem dX6_part_35 : decode cX6_part 35 = .ok (.iload_n 2, 1) := by decide +kernel
theorem dX6_part_36 : decode cX6_part 36 = .ok (.iaload, 1) := by decide +kernel
theorem dX6_part_37 : decode cX6_part 37 = .ok (.ireturn, 1) := by decide +kernel
set_option maxRecDepth 20000 in
theorem ggX6_without_X6_bandAt : GoodIn wsX6_without wsX6_bandAt := goodIn_ca (goodIn_r _ [7, 8, 9, 10, 11, 12, 13, 14, 15, 16, 17, 6, 18, 19, 20, 21, 22, 23, 24, 25, 26, 27, 28, 29, 30, 31, 32, 33, 34, 35, 36, 37, 93, 94, 95, 96, 97, 98, 99, 100, 101, 102] (by decide +kernel) (by decide +kernel)) (goodIn_sub (fun _ h => List.mem_cons_of_mem _ (List.mem_append_right _ h)) (by decide +kernel))
set_option maxRecDepth 20000 in
theorem gX6_without_X6_bandAt : GoodIn wsX6_without (wsV RX6 118 RX6 yX6_bandAt wsX6_bandAt) := goodIn_app (goodIn_of _ (by decide +kernel)) ggX6_without_X6_bandAt
set_option maxRecDepth 20000 in
theorem ggX6_without_Jx4a65c_size_8abf5 : GoodIn wsX6_without wsJx4a65c_size_8abf5 := goodIn_r _ [14, 15, 100, 101, 102] (by decide +kernel) (by decide +kernel)
set_option maxRecDepth 20000 in
theorem gX6_without_Jx4a65c_size_8abf5 : GoodIn wsX6_without (wsV RX6 47 RJx4a65c yJx4a65c_size_8abf5 wsJx4a65c_size_8abf5) := goodIn_app (goodIn_of _ (by decide +kernel)) ggX6_without_Jx4a65c_size_8abf5
set_option maxRecDepth 20000 in
theorem ggX6_without_X6_requireIndex : GoodIn wsX6_without wsX6_requireIndex := goodIn_ca (goodIn_r _ [18, 19, 20] (by decide +kernel) (by decide +kernel)) (goodIn_sub (fun _ h => List.mem_cons_of_mem _ (List.mem_append_right _ h)) (by decide +kernel))
set_option maxRecDepth 20000 in
theorem gX6_without_X6_requireIndex : GoodIn wsX6_without (va_wsS RX6 72 yX6_requireIndex wsX6_requireIndex) := goodIn_app (goodIn_of _ (by decide +kernel)) ggX6_without_X6_requireIndex
set_option maxRecDepth 20000 in
theorem ggX6_without_X2_findBest : GoodIn wsX6_without wsX2_findBest := goodIn_r _ [42, 43, 44, 45, 46, 47, 48, 49, 50, 51, 52, 53, 41, 54, 55, 56, 57, 58, 59, 60, 11, 12, 13, 14, 15, 61, 22, 23, 24, 25, 26, 27, 28, 29, 30, 31, 32, 33, 34, 35, 36, 37, 62, 63, 64, 65, 66, 67, 68, 69, 70, 71, 72, 73, 74, 75, 76, 77, 78, 79, 80, 81, 82, 83, 84, 85, 103, 104, 86, 87, 88, 89, 90, 91, 92, 105, 106, 107, 108, 109, 110, 111, 112, 100, 101, 102] (by decide +kernel) (by decide +kernel)
set_option maxRecDepth 20000 in
theorem gX6_without_X2_findBest : GoodIn wsX6_without (wsV RX6 221 RX2 yX2_findBest wsX2_findBest) := goodIn_app (goodIn_of _ (by decide +kernel)) ggX6_without_X2_findBest
theorem dX6_without_0 : decode cX6_without 0 = .ok (.aload_n 0, 1) := by decide +kernel
theorem dX6_without_1 : decode cX6_without 1 = .ok (.iload_n 1, 1) := by decide +kernel
theorem dX6_without_2 : decode cX6_without 2 = .ok (.invokevirtual 118, 3) := by decide +kernel
theorem dX6_without_5 : decode cX6_without 5 = .ok (.astore_n 3, 1) := by decide +kernel
theorem dX6_without_6 : decode cX6_without 6 = .ok (.iload_n 2, 1) := by decide +kernel
theorem dX6_without_7 : decode cX6_without 7 = .ok (.aload_n 3, 1) := by decide +kernel
theorem dX6_without_8 : decode cX6_without 8 = .ok (.getfield 129, 3) := by decide +kernel
theorem dX6_without_11 : decode cX6_without 11 = .ok (.invokevirtual 47, 3) := by decide +kernel
theorem dX6_without_14 : decode cX6_without 14 = .ok (.invokestatic 72, 3) := by decide +kernel
theorem dX6_without_17 : decode cX6_without 17 = .ok (.aload_n 0, 1) := by decide +kernel
theorem dX6_without_18 : decode cX6_without 18 = .ok (.getfield 32, 3) := by decide +kernel
theorem dX6_without_21 : decode cX6_without 21 = .ok (.aload_n 3, 1) := by decide +kernel
theorem dX6_without_22 : decode cX6_without 22 = .ok (.iload_n 2, 1) := by decide +kernel
theorem dX6_without_23 : decode cX6_without 23 = .ok (.invokevirtual 221, 3) := by decide +kernel
theorem dX6_without_26 : decode cX6_without 26 = .ok (.ireturn, 1) := by decide +kernel
set_option maxRecDepth 20000 in
theorem ggX6_perform_X6_bandAt : GoodIn wsX6_perform wsX6_bandAt := goodIn_ca (goodIn_r _ [13, 14, 15, 16, 17, 18, 19, 20, 21, 22, 23, 12, 24, 25, 26, 27, 28, 29, 30, 31, 32, 33, 34, 35, 36, 37, 38, 39, 40, 41, 42, 43, 134, 135, 136, 137, 138, 139, 140, 141, 142, 143] (by decide +kernel) (by decide +kernel)) (goodIn_sub (fun _ h => List.mem_cons_of_mem _ (List.mem_append_left _ (List.mem_append_left _ (List.mem_append_right _ h)))) (by decide +kernel))
set_option maxRecDepth 20000 in
theorem gX6_perform_X6_bandAt : GoodIn wsX6_perform (wsV RX6 118 RX6 yX6_bandAt wsX6_bandAt) := goodIn_app (goodIn_of _ (by decide +kernel)) ggX6_perform_X6_bandAt
set_option maxRecDepth 20000 in
theorem ggX6_perform_X6_requireRange : GoodIn wsX6_perform wsX6_requireRange := goodIn_ca (goodIn_r _ [46, 47, 48] (by decide +kernel) (by decide +kernel)) (goodIn_sub (fun _ h => List.mem_cons_of_mem _ (List.mem_append_left _ (List.mem_append_right _ h))) (by decide +kernel))
set_option maxRecDepth 20000 in
theorem gX6_perform_X6_requireRange : GoodIn wsX6_perform (va_wsS RX6 43 yX6_requireRange wsX6_requireRange) := goodIn_app (goodIn_of _ (by decide +kernel)) ggX6_perform_X6_requireRange
set_option maxRecDepth 20000 in
theorem ggX6_perform_X6_requireState : GoodIn wsX6_perform wsX6_requireState := goodIn_ca (goodIn_r _ [51, 52, 53] (by decide +kernel) (by decide +kernel)) (goodIn_sub (fun _ h => List.mem_cons_of_mem _ (List.mem_append_right _ h)) (by decide +kernel))
set_option maxRecDepth 20000 in
theorem gX6_perform_X6_requireState : GoodIn wsX6_perform (va_wsS RX6 51 yX6_requireState wsX6_requireState) := goodIn_app (goodIn_of _ (by decide +kernel)) ggX6_perform_X6_requireState
set_option maxRecDepth 20000 in
theorem ggX6_perform_X2_findBest : GoodIn wsX6_perform wsX2_findBest := goodIn_r _ [58, 59, 60, 61, 62, 63, 64, 65, 66, 67, 68, 69, 57, 70, 71, 72, 73, 74, 75, 76, 17, 18, 19, 20, 21, 77, 28, 29, 30, 31, 32, 33, 34, 35, 36, 37, 38, 39, 40, 41, 42, 43, 78, 79, 80, 81, 82, 83, 84, 85, 86, 87, 88, 89, 90, 6, 91, 92, 93, 94, 95, 96, 97, 98, 99, 100, 144, 145, 127, 128, 129, 130, 131, 132, 133, 146, 147, 148, 149, 150, 151, 152, 153, 141, 142, 143] (by decide +kernel) (by decide +kernel)
set_option maxRecDepth 20000 in
theorem gX6_perform_X2_findBest : GoodIn wsX6_perform (wsV RX6 221 RX2 yX2_findBest wsX2_findBest) := goodIn_app (goodIn_of _ (by decide +kernel)) ggX6_perform_X2_findBest
set_option maxRecDepth 20000 in
theorem ggX6_perform_X2_countUntuned : GoodIn wsX6_perform wsX2_countUntuned := goodIn_r _ [104, 71, 72, 74, 76, 17, 18, 19, 20, 21, 61, 62, 63, 64, 65, 66, 105, 106, 107, 57, 108, 59, 77, 28, 29, 30, 31, 32, 33, 34, 35, 36, 37, 38, 39, 40, 41, 42, 43, 109, 110, 111, 112, 113, 114, 115, 116, 117, 118, 119, 120, 121, 90, 6, 91, 122, 123, 124, 125, 126, 127, 128, 129, 130, 131, 132, 133, 146, 147, 141, 142, 143, 144, 145, 148, 149, 150, 151, 152, 153, 154, 155, 156, 157, 158] (by decide +kernel) (by decide +kernel)
set_option maxRecDepth 20000 in
theorem gX6_perform_X2_countUntuned : GoodIn wsX6_perform (wsV RX6 228 RX2 yX2_countUntuned wsX2_countUntuned) := goodIn_app (goodIn_of _ (by decide +kernel)) ggX6_perform_X2_countUntuned
theorem dX6_perform_0 : decode cX6_perform 0 = .ok (.aload_n 0, 1) := by decide +kernel
theorem dX6_perform_1 : decode cX6_perform 1 = .ok (.iload_n 1, 1) := by decide +kernel
theorem dX6_perform_2 : decode cX6_perform 2 = .ok (.invokevirtual 118, 3) := by decide +kernel
theorem dX6_perform_5 : decode cX6_perform 5 = .ok (.astore_n 3, 1) := by decide +kernel
theorem dX6_perform_6 : decode cX6_perform 6 = .ok (.iload_n 2, 1) := by decide +kernel
theorem dX6_perform_7 : decode cX6_perform 7 = .ok (.iconst 1, 1) := by decide +kernel
theorem dX6_perform_8 : decode cX6_perform 8 = .ok (.bipush 30, 2) := by decide +kernel
theorem dX6_perform_10 : decode cX6_perform 10 = .ok (.invokestatic 43, 3) := by decide +kernel
theorem dX6_perform_13 : decode cX6_perform 13 = .ok (.aload_n 3, 1) := by decide +kernel
theorem dX6_perform_14 : decode cX6_perform 14 = .ok (.getfield 218, 3) := by decide +kernel
theorem dX6_perform_17 : decode cX6_perform 17 = .ok (.iconst (-1), 1) := by decide +kernel
theorem dX6_perform_18 : decode cX6_perform 18 = .ok (.if_icmp .ne 7, 3) := by decide +kernel
theorem dX6_perform_21 : decode cX6_perform 21 = .ok (.iconst 1, 1) := by decide +kernel
theorem dX6_perform_22 : decode cX6_perform 22 = .ok (.goto 4, 3) := by decide +kernel
theorem dX6_perform_25 : decode cX6_perform 25 = .ok (.iconst 0, 1) := by decide +kernel
theorem dX6_perform_26 : decode cX6_perform 26 = .ok (.invokestatic 51, 3) := by decide +kernel
theorem dX6_perform_29 : decode cX6_perform 29 = .ok (.aload_n 0, 1) := by decide +kernel
theorem dX6_perform_30 : decode cX6_perform 30 = .ok (.getfield 32, 3) := by decide +kernel
theorem dX6_perform_33 : decode cX6_perform 33 = .ok (.aload_n 3, 1) := by decide +kernel
theorem dX6_perform_34 : decode cX6_perform 34 = .ok (.iconst (-1), 1) := by decide +kernel
theorem dX6_perform_35 : decode cX6_perform 35 = .ok (.invokevirtual 221, 3) := by decide +kernel
theorem dX6_perform_38 : decode cX6_perform 38 = .ok (.istore 4, 2) := by decide +kernel
theorem dX6_perform_40 : decode cX6_perform 40 = .ok (.iload 4, 2) := by decide +kernel
theorem dX6_perform_42 : decode cX6_perform 42 = .ok (.iconst (-1), 1) := by decide +kernel
theorem dX6_perform_43 : decode cX6_perform 43 = .ok (.if_icmp .eq 7, 3) := by decide +kernel
theorem dX6_perform_46 : decode cX6_perform 46 = .ok (.iconst 1, 1) := by decide +kernel
theorem dX6_perform_47 : decode cX6_perform 47 = .ok (.goto 4, 3) := by decide +kernel
theorem dX6_perform_50 : decode cX6_perform 50 = .ok (.iconst 0, 1) := by decide +kernel
theorem dX6_perform_51 : decode cX6_perform 51 = .ok (.invokestatic 51, 3) := by decide +kernel
theorem dX6_perform_54 : decode cX6_perform 54 = .ok (.aload_n 3, 1) := by decide +kernel
theorem dX6_perform_55 : decode cX6_perform 55 = .ok (.iload 4, 2) := by decide +kernel
theorem dX6_perform_57 : decode cX6_perform 57 = .ok (.bipush 10, 2) := by decide +kernel
theorem dX6_perform_59 : decode cX6_perform 59 = .ok (.aload_n 0, 1) := by decide +kernel
theorem dX6_perform_60 : decode cX6_perform 60 = .ok (.getfield 32, 3) := by decide +kernel
theorem dX6_perform_63 : decode cX6_perform 63 = .ok (.aload_n 3, 1) := by decide +kernel
theorem dX6_perform_64 : decode cX6_perform 64 = .ok (.aload_n 0, 1) := by decide +kernel
theorem dX6_perform_65 : decode cX6_perform 65 = .ok (.getfield 84, 3) := by decide +kernel
theorem dX6_perform_68 : decode cX6_perform 68 = .ok (.invokevirtual 228, 3) := by decide +kernel
theorem dX6_perform_71 : decode cX6_perform 71 = .ok (.imul, 1) := by decide +kernel
theorem dX6_perform_72 : decode cX6_perform 72 = .ok (.iadd, 1) := by decide +kernel
theorem dX6_perform_73 : decode cX6_perform 73 = .ok (.putfield 218, 3) := by decide +kernel
theorem dX6_perform_76 : decode cX6_perform 76 = .ok (.aload_n 3, 1) := by decide +kernel
theorem dX6_perform_77 : decode cX6_perform 77 = .ok (.iconst 2, 1) := by decide +kernel
theorem dX6_perform_78 : decode cX6_perform 78 = .ok (.iconst 0, 1) := by decide +kernel
theorem dX6_perform_79 : decode cX6_perform 79 = .ok (.iload_n 2, 1) := by decide +kernel
theorem dX6_perform_80 : decode cX6_perform 80 = .ok (.bipush 10, 2) := by decide +kernel
theorem dX6_perform_82 : decode cX6_perform 82 = .ok (.isub, 1) := by decide +kernel
theorem dX6_perform_83 : decode cX6_perform 83 = .ok (.invokestatic 231, 3) := by decide +kernel
theorem dX6_perform_86 : decode cX6_perform 86 = .ok (.imul, 1) := by decide +kernel
theorem dX6_perform_87 : decode cX6_perform 87 = .ok (.putfield 237, 3) := by decide +kernel
theorem dX6_perform_90 : decode cX6_perform 90 = .ok (.aload_n 3, 1) := by decide +kernel
theorem dX6_perform_91 : decode cX6_perform 91 = .ok (.getfield 218, 3) := by decide +kernel
theorem dX6_perform_94 : decode cX6_perform 94 = .ok (.ireturn, 1) := by decide +kernel
set_option maxRecDepth 20000 in
theorem ggX6_mark_X6_bandAt : GoodIn wsX6_mark wsX6_bandAt := goodIn_ca (goodIn_r _ [7, 8, 9, 10, 11, 12, 13, 14, 15, 16, 17, 6, 18, 19, 20, 21, 22, 23, 24, 25, 26, 27, 28, 29, 30, 31, 32, 33, 34, 35, 36, 37, 61, 62, 63, 64, 65, 66, 67, 68, 69, 70] (by decide +kernel) (by decide +kernel)) (goodIn_sub (fun _ h => List.mem_cons_of_mem _ (List.mem_append_left _ (List.mem_append_left _ (List.mem_append_right _ h)))) (by decide +kernel))
set_option maxRecDepth 20000 in
theorem gX6_mark_X6_bandAt : GoodIn wsX6_mark (wsV RX6 118 RX6 yX6_bandAt wsX6_bandAt) := goodIn_app (goodIn_of _ (by decide +kernel)) ggX6_mark_X6_bandAt
set_option maxRecDepth 20000 in
theorem ggX6_mark_X6_requireIndex : GoodIn wsX6_mark wsX6_requireIndex := goodIn_ca (goodIn_r _ [18, 19, 20] (by decide +kernel) (by decide +kernel)) (goodIn_sub (fun _ h => List.mem_cons_of_mem _ (List.mem_append_left _ (List.mem_append_left _ (List.mem_append_right _ h)))) (by decide +kernel))
set_option maxRecDepth 20000 in
theorem gX6_mark_X6_requireIndex : GoodIn wsX6_mark (va_wsS RX6 72 yX6_requireIndex wsX6_requireIndex) := goodIn_app (goodIn_of _ (by decide +kernel)) ggX6_mark_X6_requireIndex
set_option maxRecDepth 20000 in
theorem ggX6_mark_X6_requireRange : GoodIn wsX6_mark wsX6_requireRange := goodIn_ca (goodIn_r _ [40, 41, 42] (by decide +kernel) (by decide +kernel)) (goodIn_sub (fun _ h => List.mem_cons_of_mem _ (List.mem_append_left _ (List.mem_append_right _ h))) (by decide +kernel))
set_option maxRecDepth 20000 in
theorem gX6_mark_X6_requireRange : GoodIn wsX6_mark (va_wsS RX6 43 yX6_requireRange wsX6_requireRange) := goodIn_app (goodIn_of _ (by decide +kernel)) ggX6_mark_X6_requireRange
set_option maxRecDepth 20000 in
theorem ggX6_mark_X6_requireState : GoodIn wsX6_mark wsX6_requireState := goodIn_ca (goodIn_r _ [45, 46, 47] (by decide +kernel) (by decide +kernel)) (goodIn_sub (fun _ h => List.mem_cons_of_mem _ (List.mem_append_right _ h)) (by decide +kernel))
set_option maxRecDepth 20000 in
theorem gX6_mark_X6_requireState : GoodIn wsX6_mark (va_wsS RX6 51 yX6_requireState wsX6_requireState) := goodIn_app (goodIn_of _ (by decide +kernel)) ggX6_mark_X6_requireState
set_option maxRecDepth 20000 in
theorem ggX6_mark_X0_countMarks : GoodIn wsX6_mark wsX0_countMarks := goodIn_r _ [52, 53, 54, 55, 56, 57, 58, 59, 60] (by decide +kernel) (by decide +kernel)
set_option maxRecDepth 20000 in
theorem gX6_mark_X0_countMarks : GoodIn wsX6_mark (wsV RX6 243 RX0 yX0_countMarks wsX0_countMarks) := goodIn_app (goodIn_of _ (by decide +kernel)) ggX6_mark_X0_countMarks
theorem dX6_mark_0 : decode cX6_mark 0 = .ok (.aload_n 0, 1) := by decide +kernel
theorem dX6_mark_1 : decode cX6_mark 1 = .ok (.iload_n 1, 1) := by decide +kernel
theorem dX6_mark_2 : decode cX6_mark 2 = .ok (.invokevirtual 118, 3) := by decide +kernel
theorem dX6_mark_5 : decode cX6_mark 5 = .ok (.astore 4, 2) := by decide +kernel
theorem dX6_mark_7 : decode cX6_mark 7 = .ok (.iload_n 2, 1) := by decide +kernel
theorem dX6_mark_8 : decode cX6_mark 8 = .ok (.iconst 5, 1) := by decide +kernel
theorem dX6_mark_9 : decode cX6_mark 9 = .ok (.invokestatic 72, 3) := by decide +kernel
theorem dX6_mark_12 : decode cX6_mark 12 = .ok (.iload_n 3, 1) := by decide +kernel
theorem dX6_mark_13 : decode cX6_mark 13 = .ok (.iconst 0, 1) := by decide +kernel
theorem dX6_mark_14 : decode cX6_mark 14 = .ok (.bipush 100, 2) := by decide +kernel
theorem dX6_mark_16 : decode cX6_mark 16 = .ok (.invokestatic 43, 3) := by decide +kernel
theorem dX6_mark_19 : decode cX6_mark 19 = .ok (.aload 4, 2) := by decide +kernel
theorem dX6_mark_21 : decode cX6_mark 21 = .ok (.getfield 218, 3) := by decide +kernel
theorem dX6_mark_24 : decode cX6_mark 24 = .ok (.iconst (-1), 1) := by decide +kernel
theorem dX6_mark_25 : decode cX6_mark 25 = .ok (.if_icmp .eq 18, 3) := by decide +kernel
theorem dX6_mark_28 : decode cX6_mark 28 = .ok (.aload 4, 2) := by decide +kernel
theorem dX6_mark_30 : decode cX6_mark 30 = .ok (.getfield 240, 3) := by decide +kernel
theorem dX6_mark_33 : decode cX6_mark 33 = .ok (.iload_n 2, 1) := by decide +kernel
theorem dX6_mark_34 : decode cX6_mark 34 = .ok (.iaload, 1) := by decide +kernel
theorem dX6_mark_35 : decode cX6_mark 35 = .ok (.iconst (-1), 1) := by decide +kernel
theorem dX6_mark_36 : decode cX6_mark 36 = .ok (.if_icmp .ne 7, 3) := by decide +kernel
theorem dX6_mark_39 : decode cX6_mark 39 = .ok (.iconst 1, 1) := by decide +kernel
theorem dX6_mark_40 : decode cX6_mark 40 = .ok (.goto 4, 3) := by decide +kernel
theorem dX6_mark_43 : decode cX6_mark 43 = .ok (.iconst 0, 1) := by decide +kernel
theorem dX6_mark_44 : decode cX6_mark 44 = .ok (.invokestatic 51, 3) := by decide +kernel
theorem dX6_mark_47 : decode cX6_mark 47 = .ok (.aload 4, 2) := by decide +kernel
theorem dX6_mark_49 : decode cX6_mark 49 = .ok (.getfield 240, 3) := by decide +kernel
theorem dX6_mark_52 : decode cX6_mark 52 = .ok (.iload_n 2, 1) := by decide +kernel
theorem dX6_mark_53 : decode cX6_mark 53 = .ok (.iload_n 3, 1) := by decide +kernel
theorem dX6_mark_54 : decode cX6_mark 54 = .ok (.iastore, 1) := by decide +kernel
theorem dX6_mark_55 : decode cX6_mark 55 = .ok (.aload 4, 2) := by decide +kernel
theorem dX6_mark_57 : decode cX6_mark 57 = .ok (.invokevirtual 243, 3) := by decide +kernel
theorem dX6_mark_60 : decode cX6_mark 60 = .ok (.ireturn, 1) := by decide +kernel
set_option maxRecDepth 20000 in
theorem ggX6_score_X6_bandAt : GoodIn wsX6_score wsX6_bandAt := goodIn_ca (goodIn_r _ [5, 6, 7, 8, 9, 10, 11, 12, 13, 14, 15, 4, 16, 17, 18, 19, 20, 21, 22, 23, 24, 25, 26, 27, 28, 29, 30, 31, 32, 33, 34, 35, 63, 64, 65, 66, 67, 68, 69, 70, 71, 72] (by decide +kernel) (by decide +kernel)) (goodIn_sub (fun _ h => List.mem_cons_of_mem _ (List.mem_append_left _ (List.mem_append_right _ h))) (by decide +kernel))
set_option maxRecDepth 20000 in
theorem gX6_score_X6_bandAt : GoodIn wsX6_score (wsV RX6 118 RX6 yX6_bandAt wsX6_bandAt) := goodIn_app (goodIn_of _ (by decide +kernel)) ggX6_score_X6_bandAt
set_option maxRecDepth 20000 in
theorem ggX6_score_X0_isRanked : GoodIn wsX6_score wsX0_isRanked := goodIn_r _ [40, 41, 42, 43, 39, 44, 45, 73, 74, 75, 76, 77, 78, 79] (by decide +kernel) (by decide +kernel)
set_option maxRecDepth 20000 in
theorem gX6_score_X0_isRanked : GoodIn wsX6_score (wsV RX6 246 RX0 yX0_isRanked wsX0_isRanked) := goodIn_app (goodIn_of _ (by decide +kernel)) ggX6_score_X0_isRanked
set_option maxRecDepth 20000 in
theorem ggX6_score_X6_requireState : GoodIn wsX6_score wsX6_requireState := goodIn_ca (goodIn_r _ [48, 49, 50] (by decide +kernel) (by decide +kernel)) (goodIn_sub (fun _ h => List.mem_cons_of_mem _ (List.mem_append_right _ h)) (by decide +kernel))
set_option maxRecDepth 20000 in
theorem gX6_score_X6_requireState : GoodIn wsX6_score (va_wsS RX6 51 yX6_requireState wsX6_requireState) := goodIn_app (goodIn_of _ (by decide +kernel)) ggX6_score_X6_requireState
set_option maxRecDepth 20000 in
theorem ggX6_score_X0_countScore : GoodIn wsX6_score wsX0_countScore := goodIn_r _ [54, 45, 55, 56, 57, 58, 59, 60, 61, 62, 73, 74, 75, 76, 77, 78, 79] (by decide +kernel) (by decide +kernel)
set_option maxRecDepth 20000 in
theorem gX6_score_X0_countScore : GoodIn wsX6_score (wsV RX6 249 RX0 yX0_countScore wsX0_countScore) := goodIn_app (goodIn_of _ (by decide +kernel)) ggX6_score_X0_countScore
theorem dX6_score_0 : decode cX6_score 0 = .ok (.aload_n 0, 1) := by decide +kernel
theorem dX6_score_1 : decode cX6_score 1 = .ok (.iload_n 1, 1) := by decide +kernel
theorem dX6_score_2 : decode cX6_score 2 = .ok (.invokevirtual 118, 3) := by decide +kernel
theorem dX6_score_5 : decode cX6_score 5 = .ok (.astore_n 2, 1) := by decide +kernel
theorem dX6_score_6 : decode cX6_score 6 = .ok (.aload_n 2, 1) := by decide +kernel
theorem dX6_score_7 : decode cX6_score 7 = .ok (.invokevirtual 246, 3) := by decide +kernel
theorem dX6_score_10 : decode cX6_score 10 = .ok (.invokestatic 51, 3) := by decide +kernel
theorem dX6_score_13 : decode cX6_score 13 = .ok (.aload_n 2, 1) := by decide +kernel
theorem dX6_score_14 : decode cX6_score 14 = .ok (.invokevirtual 249, 3) := by decide +kernel
theorem dX6_score_17 : decode cX6_score 17 = .ok (.ireturn, 1) := by decide +kernel
set_option maxRecDepth 20000 in
theorem ggX6_rank_X6_requireIndex : GoodIn wsX6_rank wsX6_requireIndex := goodIn_ca (goodIn_r _ [6, 7, 8] (by decide +kernel) (by decide +kernel)) (goodIn_sub (fun _ h => List.mem_cons_of_mem _ (List.mem_append_right _ h)) (by decide +kernel))
set_option maxRecDepth 20000 in
theorem gX6_rank_X6_requireIndex : GoodIn wsX6_rank (va_wsS RX6 72 yX6_requireIndex wsX6_requireIndex) := goodIn_app (goodIn_of _ (by decide +kernel)) ggX6_rank_X6_requireIndex
set_option maxRecDepth 20000 in
theorem ggX6_rank_Jx4a65c_size_8abf5 : GoodIn wsX6_rank wsJx4a65c_size_8abf5 := goodIn_r _ [13, 14, 74, 75, 76] (by decide +kernel) (by decide +kernel)
set_option maxRecDepth 20000 in
theorem gX6_rank_Jx4a65c_size_8abf5 : GoodIn wsX6_rank (wsV RX6 47 RJx4a65c yJx4a65c_size_8abf5 wsJx4a65c_size_8abf5) := goodIn_app (goodIn_of _ (by decide +kernel)) ggX6_rank_Jx4a65c_size_8abf5
set_option maxRecDepth 20000 in
theorem ggX6_rank_Jx4a65c_get_915e3 : GoodIn wsX6_rank wsJx4a65c_get_915e3 := goodIn_r _ [18, 14, 19, 20, 21, 22, 23, 24, 25, 26, 27, 28, 29, 12, 30, 31, 74, 75, 76] (by decide +kernel) (by decide +kernel)
set_option maxRecDepth 20000 in
theorem gX6_rank_Jx4a65c_get_915e3 : GoodIn wsX6_rank (wsV RX6 252 RJx4a65c yJx4a65c_get_915e3 wsJx4a65c_get_915e3) := goodIn_app (goodIn_of _ (by decide +kernel)) ggX6_rank_Jx4a65c_get_915e3
set_option maxRecDepth 20000 in
theorem ggX6_rank_X0_isRanked : GoodIn wsX6_rank wsX0_isRanked := goodIn_r _ [36, 37, 38, 39, 35, 40, 41, 77, 78, 79, 80, 81, 82, 83] (by decide +kernel) (by decide +kernel)
set_option maxRecDepth 20000 in
theorem gX6_rank_X0_isRanked : GoodIn wsX6_rank (wsV RX6 246 RX0 yX0_isRanked wsX0_isRanked) := goodIn_app (goodIn_of _ (by decide +kernel)) ggX6_rank_X0_isRanked
set_option maxRecDepth 20000 in
theorem ggX6_rank_X6_countAhead : GoodIn wsX6_rank wsX6_countAhead := goodIn_ca (goodIn_r _ [45, 1, 9, 10, 11, 12, 13, 14, 46, 47, 48, 5, 49, 50, 51, 52, 53, 54, 2, 3, 4, 6, 7, 8, 15, 16, 17, 18, 19, 20, 21, 22, 23, 24, 25, 26, 27, 28, 29, 30, 31, 32, 33, 34, 35, 36, 37, 38, 39, 40, 41, 55, 56, 57, 58, 59, 60, 61, 62, 63, 64, 65, 66, 67, 68, 69, 70, 71, 72, 73, 74, 75, 76, 77, 78, 79, 80, 81, 82, 83] (by decide +kernel) (by decide +kernel)) (goodIn_sub (fun _ h => List.mem_cons_of_mem _ (List.mem_append_right _ h)) (by decide +kernel))
set_option maxRecDepth 20000 in
theorem gX6_rank_X6_countAhead : GoodIn wsX6_rank (wsV RX6 255 RX6 yX6_countAhead wsX6_countAhead) := goodIn_app (goodIn_of _ (by decide +kernel)) ggX6_rank_X6_countAhead
theorem dX6_rank_0 : decode cX6_rank 0 = .ok (.iload_n 1, 1) := by decide +kernel
theorem dX6_rank_1 : decode cX6_rank 1 = .ok (.iconst 4, 1) := by decide +kernel
theorem dX6_rank_2 : decode cX6_rank 2 = .ok (.invokestatic 72, 3) := by decide +kernel
theorem dX6_rank_5 : decode cX6_rank 5 = .ok (.iconst 0, 1) := by decide +kernel
theorem dX6_rank_6 : decode cX6_rank 6 = .ok (.istore_n 2, 1) := by decide +kernel
theorem dX6_rank_7 : decode cX6_rank 7 = .ok (.iload_n 2, 1) := by decide +kernel
theorem dX6_rank_8 : decode cX6_rank 8 = .ok (.aload_n 0, 1) := by decide +kernel
theorem dX6_rank_9 : decode cX6_rank 9 = .ok (.getfield 19, 3) := by decide +kernel
theorem dX6_rank_12 : decode cX6_rank 12 = .ok (.invokevirtual 47, 3) := by decide +kernel
theorem dX6_rank_15 : decode cX6_rank 15 = .ok (.if_icmp .ge 37, 3) := by decide +kernel
theorem dX6_rank_18 : decode cX6_rank 18 = .ok (.aload_n 0, 1) := by decide +kernel
theorem dX6_rank_19 : decode cX6_rank 19 = .ok (.getfield 19, 3) := by decide +kernel
theorem dX6_rank_22 : decode cX6_rank 22 = .ok (.iload_n 2, 1) := by decide +kernel
theorem dX6_rank_23 : decode cX6_rank 23 = .ok (.invokevirtual 252, 3) := by decide +kernel
theorem dX6_rank_26 : decode cX6_rank 26 = .ok (.checkcast 36, 3) := by decide +kernel
theorem dX6_rank_29 : decode cX6_rank 29 = .ok (.invokevirtual 246, 3) := by decide +kernel
theorem dX6_rank_32 : decode cX6_rank 32 = .ok (.ifCond .eq 14, 3) := by decide +kernel
theorem dX6_rank_35 : decode cX6_rank 35 = .ok (.aload_n 0, 1) := by decide +kernel
theorem dX6_rank_36 : decode cX6_rank 36 = .ok (.iload_n 2, 1) := by decide +kernel
theorem dX6_rank_37 : decode cX6_rank 37 = .ok (.invokevirtual 255, 3) := by decide +kernel
theorem dX6_rank_40 : decode cX6_rank 40 = .ok (.iload_n 1, 1) := by decide +kernel
theorem dX6_rank_41 : decode cX6_rank 41 = .ok (.if_icmp .ne 5, 3) := by decide +kernel
theorem dX6_rank_44 : decode cX6_rank 44 = .ok (.iload_n 2, 1) := by decide +kernel
theorem dX6_rank_45 : decode cX6_rank 45 = .ok (.ireturn, 1) := by decide +kernel
theorem dX6_rank_46 : decode cX6_rank 46 = .ok (.iinc 2 1, 3) := by decide +kernel
theorem dX6_rank_49 : decode cX6_rank 49 = .ok (.goto (-42), 3) := by decide +kernel
theorem dX6_rank_52 : decode cX6_rank 52 = .ok (.iconst (-1), 1) := by decide +kernel
theorem dX6_rank_53 : decode cX6_rank 53 = .ok (.ireturn, 1) := by decide +kernel
theorem dX6_night_0 : decode cX6_night 0 = .ok (.aload_n 0, 1) := by decide +kernel
theorem dX6_night_1 : decode cX6_night 1 = .ok (.getfield 198, 3) := by decide +kernel
theorem dX6_night_4 : decode cX6_night 4 = .ok (.ireturn, 1) := by decide +kernel
theorem dX6_requireIndex_0 : decode cX6_requireIndex 0 = .ok (.iload_n 0, 1) := by decide +kernel
theorem dX6_requireIndex_1 : decode cX6_requireIndex 1 = .ok (.ifCond .lt 8, 3) := by decide +kernel
theorem dX6_requireIndex_4 : decode cX6_requireIndex 4 = .ok (.iload_n 0, 1) := by decide +kernel
theorem dX6_requireIndex_5 : decode cX6_requireIndex 5 = .ok (.iload_n 1, 1) := by decide +kernel
theorem dX6_requireIndex_6 : decode cX6_requireIndex 6 = .ok (.if_icmp .lt 14, 3) := by decide +kernel
theorem dX6_requireIndex_9 : decode cX6_requireIndex 9 = .ok (.new 258, 3) := by decide +kernel
theorem dX6_requireIndex_12 : decode cX6_requireIndex 12 = .ok (.dup, 1) := by decide +kernel
theorem dX6_requireIndex_13 : decode cX6_requireIndex 13 = .ok (.ldc_w 260, 3) := by decide +kernel
theorem dX6_requireIndex_16 : decode cX6_requireIndex 16 = .ok (.invokespecial 262, 3) := by decide +kernel
theorem dX6_requireIndex_19 : decode cX6_requireIndex 19 = .ok (.athrow, 1) := by decide +kernel
theorem dX6_requireIndex_20 : decode cX6_requireIndex 20 = .ok (.return_, 1) := by decide +kernel
theorem dX6_requireRange_0 : decode cX6_requireRange 0 = .ok (.iload_n 0, 1) := by decide +kernel
theorem dX6_requireRange_1 : decode cX6_requireRange 1 = .ok (.iload_n 1, 1) := by decide +kernel
theorem dX6_requireRange_2 : decode cX6_requireRange 2 = .ok (.if_icmp .lt 8, 3) := by decide +kernel
theorem dX6_requireRange_5 : decode cX6_requireRange 5 = .ok (.iload_n 0, 1) := by decide +kernel
theorem dX6_requireRange_6 : decode cX6_requireRange 6 = .ok (.iload_n 2, 1) := by decide +kernel
theorem dX6_requireRange_7 : decode cX6_requireRange 7 = .ok (.if_icmp .le 14, 3) := by decide +kernel
theorem dX6_requireRange_10 : decode cX6_requireRange 10 = .ok (.new 263, 3) := by decide +kernel
theorem dX6_requireRange_13 : decode cX6_requireRange 13 = .ok (.dup, 1) := by decide +kernel
theorem dX6_requireRange_14 : decode cX6_requireRange 14 = .ok (.ldc_w 265, 3) := by decide +kernel
theorem dX6_requireRange_17 : decode cX6_requireRange 17 = .ok (.invokespecial 267, 3) := by decide +kernel
theorem dX6_requireRange_20 : decode cX6_requireRange 20 = .ok (.athrow, 1) := by decide +kernel
theorem dX6_requireRange_21 : decode cX6_requireRange 21 = .ok (.return_, 1) := by decide +kernel
theorem dX6_requireState_0 : decode cX6_requireState 0 = .ok (.iload_n 0, 1) := by decide +kernel
theorem dX6_requireState_1 : decode cX6_requireState 1 = .ok (.ifCond .ne 14, 3) := by decide +kernel
theorem dX6_requireState_4 : decode cX6_requireState 4 = .ok (.new 161, 3) := by decide +kernel
theorem dX6_requireState_7 : decode cX6_requireState 7 = .ok (.dup, 1) := by decide +kernel
theorem dX6_requireState_8 : decode cX6_requireState 8 = .ok (.ldc_w 268, 3) := by decide +kernel
theorem dX6_requireState_11 : decode cX6_requireState 11 = .ok (.invokespecial 165, 3) := by decide +kernel
theorem dX6_requireState_14 : decode cX6_requireState 14 = .ok (.athrow, 1) := by decide +kernel
theorem dX6_requireState_15 : decode cX6_requireState 15 = .ok (.return_, 1) := by decide +kernel
set_option maxRecDepth 20000 in
theorem ggX6_requirePhrase_X0_phraseCount : GoodIn wsX6_requirePhrase wsX0_phraseCount := goodIn_r _ [5, 6, 13, 14, 15, 16, 17, 18, 19] (by decide +kernel) (by decide +kernel)
set_option maxRecDepth 20000 in
theorem gX6_requirePhrase_X0_phraseCount : GoodIn wsX6_requirePhrase (wsV RX6 215 RX0 yX0_phraseCount wsX0_phraseCount) := goodIn_app (goodIn_of _ (by decide +kernel)) ggX6_requirePhrase_X0_phraseCount
set_option maxRecDepth 20000 in
theorem ggX6_requirePhrase_X6_requireIndex : GoodIn wsX6_requirePhrase wsX6_requireIndex := goodIn_ca (goodIn_r _ [10, 11, 12] (by decide +kernel) (by decide +kernel)) (goodIn_sub (fun _ h => List.mem_cons_of_mem _ (List.mem_append_right _ h)) (by decide +kernel))
set_option maxRecDepth 20000 in
theorem gX6_requirePhrase_X6_requireIndex : GoodIn wsX6_requirePhrase (va_wsS RX6 72 yX6_requireIndex wsX6_requireIndex) := goodIn_app (goodIn_of _ (by decide +kernel)) ggX6_requirePhrase_X6_requireIndex
theorem dX6_requirePhrase_0 : decode cX6_requirePhrase 0 = .ok (.iload_n 1, 1) := by decide +kernel
theorem dX6_requirePhrase_1 : decode cX6_requirePhrase 1 = .ok (.aload_n 0, 1) := by decide +kernel
theorem dX6_requirePhrase_2 : decode cX6_requirePhrase 2 = .ok (.invokevirtual 215, 3) := by decide +kernel
theorem dX6_requirePhrase_5 : decode cX6_requirePhrase 5 = .ok (.invokestatic 72, 3) := by decide +kernel
theorem dX6_requirePhrase_8 : decode cX6_requirePhrase 8 = .ok (.return_, 1) := by decide +kernel
set_option maxRecDepth 20000 in
theorem ggX6_panAt_Jx4a65c_size_8abf5 : GoodIn wsX6_panAt wsJx4a65c_size_8abf5 := goodIn_r _ [7, 8, 39, 40, 41] (by decide +kernel) (by decide +kernel)
set_option maxRecDepth 20000 in
theorem gX6_panAt_Jx4a65c_size_8abf5 : GoodIn wsX6_panAt (wsV RX6 47 RJx4a65c yJx4a65c_size_8abf5 wsJx4a65c_size_8abf5) := goodIn_app (goodIn_of _ (by decide +kernel)) ggX6_panAt_Jx4a65c_size_8abf5
set_option maxRecDepth 20000 in
theorem ggX6_panAt_X6_requireIndex : GoodIn wsX6_panAt wsX6_requireIndex := goodIn_ca (goodIn_r _ [12, 13, 14] (by decide +kernel) (by decide +kernel)) (goodIn_sub (fun _ h => List.mem_cons_of_mem _ (List.mem_append_right _ h)) (by decide +kernel))
set_option maxRecDepth 20000 in
theorem gX6_panAt_X6_requireIndex : GoodIn wsX6_panAt (va_wsS RX6 72 yX6_requireIndex wsX6_requireIndex) := goodIn_app (goodIn_of _ (by decide +kernel)) ggX6_panAt_X6_requireIndex
set_option maxRecDepth 20000 in
theorem ggX6_panAt_Jx4a65c_get_915e3 : GoodIn wsX6_panAt wsJx4a65c_get_915e3 := goodIn_r _ [18, 8, 19, 20, 21, 22, 23, 24, 25, 26, 27, 28, 29, 6, 30, 31, 39, 40, 41] (by decide +kernel) (by decide +kernel)
set_option maxRecDepth 20000 in
theorem gX6_panAt_Jx4a65c_get_915e3 : GoodIn wsX6_panAt (wsV RX6 252 RJx4a65c yJx4a65c_get_915e3 wsJx4a65c_get_915e3) := goodIn_app (goodIn_of _ (by decide +kernel)) ggX6_panAt_Jx4a65c_get_915e3
theorem dX6_panAt_0 : decode cX6_panAt 0 = .ok (.iload_n 1, 1) := by decide +kernel
theorem dX6_panAt_1 : decode cX6_panAt 1 = .ok (.aload_n 0, 1) := by decide +kernel
theorem dX6_panAt_2 : decode cX6_panAt 2 = .ok (.getfield 10, 3) := by decide +kernel
theorem dX6_panAt_5 : decode cX6_panAt 5 = .ok (.invokevirtual 47, 3) := by decide +kernel
theorem dX6_panAt_8 : decode cX6_panAt 8 = .ok (.invokestatic 72, 3) := by decide +kernel
theorem dX6_panAt_11 : decode cX6_panAt 11 = .ok (.aload_n 0, 1) := by decide +kernel
theorem dX6_panAt_12 : decode cX6_panAt 12 = .ok (.getfield 10, 3) := by decide +kernel
theorem dX6_panAt_15 : decode cX6_panAt 15 = .ok (.iload_n 1, 1) := by decide +kernel
theorem dX6_panAt_16 : decode cX6_panAt 16 = .ok (.invokevirtual 252, 3) := by decide +kernel
theorem dX6_panAt_19 : decode cX6_panAt 19 = .ok (.checkcast 55, 3) := by decide +kernel
theorem dX6_panAt_22 : decode cX6_panAt 22 = .ok (.areturn, 1) := by decide +kernel
set_option maxRecDepth 20000 in
theorem ggX6_playerAt_Jx4a65c_size_8abf5 : GoodIn wsX6_playerAt wsJx4a65c_size_8abf5 := goodIn_r _ [7, 8, 39, 40, 41] (by decide +kernel) (by decide +kernel)
set_option maxRecDepth 20000 in
theorem gX6_playerAt_Jx4a65c_size_8abf5 : GoodIn wsX6_playerAt (wsV RX6 47 RJx4a65c yJx4a65c_size_8abf5 wsJx4a65c_size_8abf5) := goodIn_app (goodIn_of _ (by decide +kernel)) ggX6_playerAt_Jx4a65c_size_8abf5
set_option maxRecDepth 20000 in
theorem ggX6_playerAt_X6_requireIndex : GoodIn wsX6_playerAt wsX6_requireIndex := goodIn_ca (goodIn_r _ [12, 13, 14] (by decide +kernel) (by decide +kernel)) (goodIn_sub (fun _ h => List.mem_cons_of_mem _ (List.mem_append_right _ h)) (by decide +kernel))
set_option maxRecDepth 20000 in
theorem gX6_playerAt_X6_requireIndex : GoodIn wsX6_playerAt (va_wsS RX6 72 yX6_requireIndex wsX6_requireIndex) := goodIn_app (goodIn_of _ (by decide +kernel)) ggX6_playerAt_X6_requireIndex
set_option maxRecDepth 20000 in
theorem ggX6_playerAt_Jx4a65c_get_915e3 : GoodIn wsX6_playerAt wsJx4a65c_get_915e3 := goodIn_r _ [18, 8, 19, 20, 21, 22, 23, 24, 25, 26, 27, 28, 29, 6, 30, 31, 39, 40, 41] (by decide +kernel) (by decide +kernel)
set_option maxRecDepth 20000 in
theorem gX6_playerAt_Jx4a65c_get_915e3 : GoodIn wsX6_playerAt (wsV RX6 252 RJx4a65c yJx4a65c_get_915e3 wsJx4a65c_get_915e3) := goodIn_app (goodIn_of _ (by decide +kernel)) ggX6_playerAt_Jx4a65c_get_915e3
theorem dX6_playerAt_0 : decode cX6_playerAt 0 = .ok (.iload_n 1, 1) := by decide +kernel
theorem dX6_playerAt_1 : decode cX6_playerAt 1 = .ok (.aload_n 0, 1) := by decide +kernel
theorem dX6_playerAt_2 : decode cX6_playerAt 2 = .ok (.getfield 16, 3) := by decide +kernel
theorem dX6_playerAt_5 : decode cX6_playerAt 5 = .ok (.invokevirtual 47, 3) := by decide +kernel
theorem dX6_playerAt_8 : decode cX6_playerAt 8 = .ok (.invokestatic 72, 3) := by decide +kernel
theorem dX6_playerAt_11 : decode cX6_playerAt 11 = .ok (.aload_n 0, 1) := by decide +kernel
theorem dX6_playerAt_12 : decode cX6_playerAt 12 = .ok (.getfield 16, 3) := by decide +kernel
theorem dX6_playerAt_15 : decode cX6_playerAt 15 = .ok (.iload_n 1, 1) := by decide +kernel
theorem dX6_playerAt_16 : decode cX6_playerAt 16 = .ok (.invokevirtual 252, 3) := by decide +kernel
theorem dX6_playerAt_19 : decode cX6_playerAt 19 = .ok (.checkcast 109, 3) := by decide +kernel
theorem dX6_playerAt_22 : decode cX6_playerAt 22 = .ok (.areturn, 1) := by decide +kernel
set_option maxRecDepth 20000 in
theorem ggX6_bandAt_Jx4a65c_size_8abf5 : GoodIn wsX6_bandAt wsJx4a65c_size_8abf5 := goodIn_r _ [7, 8, 39, 40, 41] (by decide +kernel) (by decide +kernel)
set_option maxRecDepth 20000 in
theorem gX6_bandAt_Jx4a65c_size_8abf5 : GoodIn wsX6_bandAt (wsV RX6 47 RJx4a65c yJx4a65c_size_8abf5 wsJx4a65c_size_8abf5) := goodIn_app (goodIn_of _ (by decide +kernel)) ggX6_bandAt_Jx4a65c_size_8abf5
set_option maxRecDepth 20000 in
theorem ggX6_bandAt_X6_requireIndex : GoodIn wsX6_bandAt wsX6_requireIndex := goodIn_ca (goodIn_r _ [12, 13, 14] (by decide +kernel) (by decide +kernel)) (goodIn_sub (fun _ h => List.mem_cons_of_mem _ (List.mem_append_right _ h)) (by decide +kernel))
set_option maxRecDepth 20000 in
theorem gX6_bandAt_X6_requireIndex : GoodIn wsX6_bandAt (va_wsS RX6 72 yX6_requireIndex wsX6_requireIndex) := goodIn_app (goodIn_of _ (by decide +kernel)) ggX6_bandAt_X6_requireIndex
set_option maxRecDepth 20000 in
theorem ggX6_bandAt_Jx4a65c_get_915e3 : GoodIn wsX6_bandAt wsJx4a65c_get_915e3 := goodIn_r _ [18, 8, 19, 20, 21, 22, 23, 24, 25, 26, 27, 28, 29, 6, 30, 31, 39, 40, 41] (by decide +kernel) (by decide +kernel)
set_option maxRecDepth 20000 in
theorem gX6_bandAt_Jx4a65c_get_915e3 : GoodIn wsX6_bandAt (wsV RX6 252 RJx4a65c yJx4a65c_get_915e3 wsJx4a65c_get_915e3) := goodIn_app (goodIn_of _ (by decide +kernel)) ggX6_bandAt_Jx4a65c_get_915e3
theorem dX6_bandAt_0 : decode cX6_bandAt 0 = .ok (.iload_n 1, 1) := by decide +kernel
theorem dX6_bandAt_1 : decode cX6_bandAt 1 = .ok (.aload_n 0, 1) := by decide +kernel
theorem dX6_bandAt_2 : decode cX6_bandAt 2 = .ok (.getfield 19, 3) := by decide +kernel
theorem dX6_bandAt_5 : decode cX6_bandAt 5 = .ok (.invokevirtual 47, 3) := by decide +kernel
theorem dX6_bandAt_8 : decode cX6_bandAt 8 = .ok (.invokestatic 72, 3) := by decide +kernel
theorem dX6_bandAt_11 : decode cX6_bandAt 11 = .ok (.aload_n 0, 1) := by decide +kernel
theorem dX6_bandAt_12 : decode cX6_bandAt 12 = .ok (.getfield 19, 3) := by decide +kernel
theorem dX6_bandAt_15 : decode cX6_bandAt 15 = .ok (.iload_n 1, 1) := by decide +kernel
theorem dX6_bandAt_16 : decode cX6_bandAt 16 = .ok (.invokevirtual 252, 3) := by decide +kernel
theorem dX6_bandAt_19 : decode cX6_bandAt 19 = .ok (.checkcast 36, 3) := by decide +kernel
theorem dX6_bandAt_22 : decode cX6_bandAt 22 = .ok (.areturn, 1) := by decide +kernel
set_option maxRecDepth 20000 in
theorem ggX6_seatAt_Jx4a65c_size_8abf5 : GoodIn wsX6_seatAt wsJx4a65c_size_8abf5 := goodIn_r _ [7, 8, 39, 40, 41] (by decide +kernel) (by decide +kernel)
set_option maxRecDepth 20000 in
theorem gX6_seatAt_Jx4a65c_size_8abf5 : GoodIn wsX6_seatAt (wsV RX6 47 RJx4a65c yJx4a65c_size_8abf5 wsJx4a65c_size_8abf5) := goodIn_app (goodIn_of _ (by decide +kernel)) ggX6_seatAt_Jx4a65c_size_8abf5
set_option maxRecDepth 20000 in
theorem ggX6_seatAt_X6_requireIndex : GoodIn wsX6_seatAt wsX6_requireIndex := goodIn_ca (goodIn_r _ [12, 13, 14] (by decide +kernel) (by decide +kernel)) (goodIn_sub (fun _ h => List.mem_cons_of_mem _ (List.mem_append_right _ h)) (by decide +kernel))
set_option maxRecDepth 20000 in
theorem gX6_seatAt_X6_requireIndex : GoodIn wsX6_seatAt (va_wsS RX6 72 yX6_requireIndex wsX6_requireIndex) := goodIn_app (goodIn_of _ (by decide +kernel)) ggX6_seatAt_X6_requireIndex
set_option maxRecDepth 20000 in
theorem ggX6_seatAt_Jx4a65c_get_915e3 : GoodIn wsX6_seatAt wsJx4a65c_get_915e3 := goodIn_r _ [18, 8, 19, 20, 21, 22, 23, 24, 25, 26, 27, 28, 29, 6, 30, 31, 39, 40, 41] (by decide +kernel) (by decide +kernel)
set_option maxRecDepth 20000 in
theorem gX6_seatAt_Jx4a65c_get_915e3 : GoodIn wsX6_seatAt (wsV RX6 252 RJx4a65c yJx4a65c_get_915e3 wsJx4a65c_get_915e3) := goodIn_app (goodIn_of _ (by decide +kernel)) ggX6_seatAt_Jx4a65c_get_915e3
theorem dX6_seatAt_0 : decode cX6_seatAt 0 = .ok (.iload_n 1, 1) := by decide +kernel
theorem dX6_seatAt_1 : decode cX6_seatAt 1 = .ok (.aload_n 0, 1) := by decide +kernel
theorem dX6_seatAt_2 : decode cX6_seatAt 2 = .ok (.getfield 129, 3) := by decide +kernel
theorem dX6_seatAt_5 : decode cX6_seatAt 5 = .ok (.invokevirtual 47, 3) := by decide +kernel
theorem dX6_seatAt_8 : decode cX6_seatAt 8 = .ok (.invokestatic 72, 3) := by decide +kernel
theorem dX6_seatAt_11 : decode cX6_seatAt 11 = .ok (.aload_n 0, 1) := by decide +kernel
theorem dX6_seatAt_12 : decode cX6_seatAt 12 = .ok (.getfield 129, 3) := by decide +kernel
theorem dX6_seatAt_15 : decode cX6_seatAt 15 = .ok (.iload_n 1, 1) := by decide +kernel
theorem dX6_seatAt_16 : decode cX6_seatAt 16 = .ok (.invokevirtual 252, 3) := by decide +kernel
theorem dX6_seatAt_19 : decode cX6_seatAt 19 = .ok (.checkcast 138, 3) := by decide +kernel
theorem dX6_seatAt_22 : decode cX6_seatAt 22 = .ok (.areturn, 1) := by decide +kernel
theorem dX6_seasonNow_0 : decode cX6_seasonNow 0 = .ok (.aload_n 0, 1) := by decide +kernel
theorem dX6_seasonNow_1 : decode cX6_seasonNow 1 = .ok (.getfield 198, 3) := by decide +kernel
theorem dX6_seasonNow_4 : decode cX6_seasonNow 4 = .ok (.bipush 30, 2) := by decide +kernel
theorem dX6_seasonNow_6 : decode cX6_seasonNow 6 = .ok (.idiv, 1) := by decide +kernel
theorem dX6_seasonNow_7 : decode cX6_seasonNow 7 = .ok (.ireturn, 1) := by decide +kernel
set_option maxRecDepth 20000 in
theorem ggX6_countAhead_Jx4a65c_size_8abf5 : GoodIn wsX6_countAhead wsJx4a65c_size_8abf5 := goodIn_r _ [6, 7, 70, 71, 72] (by decide +kernel) (by decide +kernel)
set_option maxRecDepth 20000 in
theorem gX6_countAhead_Jx4a65c_size_8abf5 : GoodIn wsX6_countAhead (wsV RX6 47 RJx4a65c yJx4a65c_size_8abf5 wsJx4a65c_size_8abf5) := goodIn_app (goodIn_of _ (by decide +kernel)) ggX6_countAhead_Jx4a65c_size_8abf5
set_option maxRecDepth 20000 in
theorem ggX6_countAhead_X6_isAhead : GoodIn wsX6_countAhead wsX6_isAhead := goodIn_ca (goodIn_r _ [12, 13, 14, 15, 16, 11, 17, 1, 18, 2, 3, 4, 5, 6, 7, 19, 20, 21, 22, 23, 24, 25, 26, 27, 28, 29, 30, 31, 32, 33, 34, 35, 36, 37, 38, 39, 40, 41, 42, 43, 44, 45, 46, 47, 48, 49, 50, 51, 52, 53, 54, 55, 56, 57, 58, 59, 60, 61, 62, 73, 74, 75, 76, 77, 78, 79, 63, 64, 65, 66, 67, 68, 69, 70, 71, 72] (by decide +kernel) (by decide +kernel)) (goodIn_sub (fun _ h => List.mem_cons_of_mem _ (List.mem_append_right _ h)) (by decide +kernel))
set_option maxRecDepth 20000 in
theorem gX6_countAhead_X6_isAhead : GoodIn wsX6_countAhead (wsV RX6 270 RX6 yX6_isAhead wsX6_isAhead) := goodIn_app (goodIn_of _ (by decide +kernel)) ggX6_countAhead_X6_isAhead
theorem dX6_countAhead_0 : decode cX6_countAhead 0 = .ok (.iconst 0, 1) := by decide +kernel
theorem dX6_countAhead_1 : decode cX6_countAhead 1 = .ok (.istore_n 2, 1) := by decide +kernel
theorem dX6_countAhead_2 : decode cX6_countAhead 2 = .ok (.iconst 0, 1) := by decide +kernel
theorem dX6_countAhead_3 : decode cX6_countAhead 3 = .ok (.istore_n 3, 1) := by decide +kernel
theorem dX6_countAhead_4 : decode cX6_countAhead 4 = .ok (.iload_n 3, 1) := by decide +kernel
theorem dX6_countAhead_5 : decode cX6_countAhead 5 = .ok (.aload_n 0, 1) := by decide +kernel
theorem dX6_countAhead_6 : decode cX6_countAhead 6 = .ok (.getfield 19, 3) := by decide +kernel
theorem dX6_countAhead_9 : decode cX6_countAhead 9 = .ok (.invokevirtual 47, 3) := by decide +kernel
theorem dX6_countAhead_12 : decode cX6_countAhead 12 = .ok (.if_icmp .ge 26, 3) := by decide +kernel
theorem dX6_countAhead_15 : decode cX6_countAhead 15 = .ok (.iload_n 3, 1) := by decide +kernel
theorem dX6_countAhead_16 : decode cX6_countAhead 16 = .ok (.iload_n 1, 1) := by decide +kernel
theorem dX6_countAhead_17 : decode cX6_countAhead 17 = .ok (.if_icmp .eq 15, 3) := by decide +kernel
theorem dX6_countAhead_20 : decode cX6_countAhead 20 = .ok (.aload_n 0, 1) := by decide +kernel
theorem dX6_countAhead_21 : decode cX6_countAhead 21 = .ok (.iload_n 3, 1) := by decide +kernel
theorem dX6_countAhead_22 : decode cX6_countAhead 22 = .ok (.iload_n 1, 1) := by decide +kernel
theorem dX6_countAhead_23 : decode cX6_countAhead 23 = .ok (.invokevirtual 270, 3) := by decide +kernel
theorem dX6_countAhead_26 : decode cX6_countAhead 26 = .ok (.ifCond .eq 6, 3) := by decide +kernel
theorem dX6_countAhead_29 : decode cX6_countAhead 29 = .ok (.iinc 2 1, 3) := by decide +kernel
theorem dX6_countAhead_32 : decode cX6_countAhead 32 = .ok (.iinc 3 1, 3) := by decide +kernel
theorem dX6_countAhead_35 : decode cX6_countAhead 35 = .ok (.goto (-31), 3) := by decide +kernel
theorem dX6_countAhead_38 : decode cX6_countAhead 38 = .ok (.iload_n 2, 1) := by decide +kernel
theorem dX6_countAhead_39 : decode cX6_countAhead 39 = .ok (.ireturn, 1) := by decide +kernel
set_option maxRecDepth 20000 in
theorem ggX6_isAhead_X6_bandAt : GoodIn wsX6_isAhead wsX6_bandAt := goodIn_ca (goodIn_r _ [6, 7, 8, 9, 10, 11, 12, 13, 14, 15, 16, 5, 17, 18, 19, 20, 21, 22, 23, 24, 25, 26, 27, 28, 29, 30, 31, 32, 33, 34, 35, 36, 66, 67, 68, 69, 70, 71, 72, 73, 74, 75] (by decide +kernel) (by decide +kernel)) (goodIn_sub (fun _ h => List.mem_cons_of_mem _ (List.mem_append_right _ h)) (by decide +kernel))
set_option maxRecDepth 20000 in
theorem gX6_isAhead_X6_bandAt : GoodIn wsX6_isAhead (wsV RX6 118 RX6 yX6_bandAt wsX6_bandAt) := goodIn_app (goodIn_of _ (by decide +kernel)) ggX6_isAhead_X6_bandAt
set_option maxRecDepth 20000 in
theorem ggX6_isAhead_X0_isRanked : GoodIn wsX6_isAhead wsX0_isRanked := goodIn_r _ [41, 42, 43, 44, 40, 45, 46, 59, 60, 61, 62, 63, 64, 65] (by decide +kernel) (by decide +kernel)
set_option maxRecDepth 20000 in
theorem gX6_isAhead_X0_isRanked : GoodIn wsX6_isAhead (wsV RX6 246 RX0 yX0_isRanked wsX0_isRanked) := goodIn_app (goodIn_of _ (by decide +kernel)) ggX6_isAhead_X0_isRanked
set_option maxRecDepth 20000 in
theorem ggX6_isAhead_X0_countScore : GoodIn wsX6_isAhead wsX0_countScore := goodIn_r _ [50, 46, 51, 52, 53, 54, 55, 56, 57, 58, 59, 60, 61, 62, 63, 64, 65] (by decide +kernel) (by decide +kernel)
set_option maxRecDepth 20000 in
theorem gX6_isAhead_X0_countScore : GoodIn wsX6_isAhead (wsV RX6 249 RX0 yX0_countScore wsX0_countScore) := goodIn_app (goodIn_of _ (by decide +kernel)) ggX6_isAhead_X0_countScore
theorem dX6_isAhead_0 : decode cX6_isAhead 0 = .ok (.aload_n 0, 1) := by decide +kernel
theorem dX6_isAhead_1 : decode cX6_isAhead 1 = .ok (.iload_n 1, 1) := by decide +kernel
theorem dX6_isAhead_2 : decode cX6_isAhead 2 = .ok (.invokevirtual 118, 3) := by decide +kernel
theorem dX6_isAhead_5 : decode cX6_isAhead 5 = .ok (.astore_n 3, 1) := by decide +kernel
theorem dX6_isAhead_6 : decode cX6_isAhead 6 = .ok (.aload_n 0, 1) := by decide +kernel
theorem dX6_isAhead_7 : decode cX6_isAhead 7 = .ok (.iload_n 2, 1) := by decide +kernel
theorem dX6_isAhead_8 : decode cX6_isAhead 8 = .ok (.invokevirtual 118, 3) := by decide +kernel
theorem dX6_isAhead_11 : decode cX6_isAhead 11 = .ok (.astore 4, 2) := by decide +kernel
theorem dX6_isAhead_13 : decode cX6_isAhead 13 = .ok (.aload_n 3, 1) := by decide +kernel
theorem dX6_isAhead_14 : decode cX6_isAhead 14 = .ok (.invokevirtual 246, 3) := by decide +kernel
theorem dX6_isAhead_17 : decode cX6_isAhead 17 = .ok (.ifCond .ne 5, 3) := by decide +kernel
theorem dX6_isAhead_20 : decode cX6_isAhead 20 = .ok (.iconst 0, 1) := by decide +kernel
theorem dX6_isAhead_21 : decode cX6_isAhead 21 = .ok (.ireturn, 1) := by decide +kernel
theorem dX6_isAhead_22 : decode cX6_isAhead 22 = .ok (.aload_n 3, 1) := by decide +kernel
theorem dX6_isAhead_23 : decode cX6_isAhead 23 = .ok (.invokevirtual 249, 3) := by decide +kernel
theorem dX6_isAhead_26 : decode cX6_isAhead 26 = .ok (.istore 5, 2) := by decide +kernel
theorem dX6_isAhead_28 : decode cX6_isAhead 28 = .ok (.aload 4, 2) := by decide +kernel
theorem dX6_isAhead_30 : decode cX6_isAhead 30 = .ok (.invokevirtual 249, 3) := by decide +kernel
theorem dX6_isAhead_33 : decode cX6_isAhead 33 = .ok (.istore 6, 2) := by decide +kernel
theorem dX6_isAhead_35 : decode cX6_isAhead 35 = .ok (.iload 5, 2) := by decide +kernel
theorem dX6_isAhead_37 : decode cX6_isAhead 37 = .ok (.iload 6, 2) := by decide +kernel
theorem dX6_isAhead_39 : decode cX6_isAhead 39 = .ok (.if_icmp .eq 16, 3) := by decide +kernel
theorem dX6_isAhead_42 : decode cX6_isAhead 42 = .ok (.iload 5, 2) := by decide +kernel
theorem dX6_isAhead_44 : decode cX6_isAhead 44 = .ok (.iload 6, 2) := by decide +kernel
theorem dX6_isAhead_46 : decode cX6_isAhead 46 = .ok (.if_icmp .le 7, 3) := by decide +kernel
theorem dX6_isAhead_49 : decode cX6_isAhead 49 = .ok (.iconst 1, 1) := by decide +kernel
theorem dX6_isAhead_50 : decode cX6_isAhead 50 = .ok (.goto 4, 3) := by decide +kernel
theorem dX6_isAhead_53 : decode cX6_isAhead 53 = .ok (.iconst 0, 1) := by decide +kernel
theorem dX6_isAhead_54 : decode cX6_isAhead 54 = .ok (.ireturn, 1) := by decide +kernel
theorem dX6_isAhead_55 : decode cX6_isAhead 55 = .ok (.aload_n 3, 1) := by decide +kernel
theorem dX6_isAhead_56 : decode cX6_isAhead 56 = .ok (.getfield 218, 3) := by decide +kernel
theorem dX6_isAhead_59 : decode cX6_isAhead 59 = .ok (.aload 4, 2) := by decide +kernel
theorem dX6_isAhead_61 : decode cX6_isAhead 61 = .ok (.getfield 218, 3) := by decide +kernel
theorem dX6_isAhead_64 : decode cX6_isAhead 64 = .ok (.if_icmp .eq 23, 3) := by decide +kernel
theorem dX6_isAhead_67 : decode cX6_isAhead 67 = .ok (.aload_n 3, 1) := by decide +kernel
theorem dX6_isAhead_68 : decode cX6_isAhead 68 = .ok (.getfield 218, 3) := by decide +kernel
theorem dX6_isAhead_71 : decode cX6_isAhead 71 = .ok (.aload 4, 2) := by decide +kernel
theorem dX6_isAhead_73 : decode cX6_isAhead 73 = .ok (.getfield 218, 3) := by decide +kernel
theorem dX6_isAhead_76 : decode cX6_isAhead 76 = .ok (.if_icmp .ge 7, 3) := by decide +kernel
theorem dX6_isAhead_79 : decode cX6_isAhead 79 = .ok (.iconst 1, 1) := by decide +kernel
theorem dX6_isAhead_80 : decode cX6_isAhead 80 = .ok (.goto 17, 3) := by decide +kernel
theorem dX6_isAhead_83 : decode cX6_isAhead 83 = .ok (.iconst 0, 1) := by decide +kernel
theorem dX6_isAhead_84 : decode cX6_isAhead 84 = .ok (.goto 13, 3) := by decide +kernel
theorem dX6_isAhead_87 : decode cX6_isAhead 87 = .ok (.iload_n 1, 1) := by decide +kernel
theorem dX6_isAhead_88 : decode cX6_isAhead 88 = .ok (.iload_n 2, 1) := by decide +kernel
theorem dX6_isAhead_89 : decode cX6_isAhead 89 = .ok (.if_icmp .ge 7, 3) := by decide +kernel
theorem dX6_isAhead_92 : decode cX6_isAhead 92 = .ok (.iconst 1, 1) := by decide +kernel
theorem dX6_isAhead_93 : decode cX6_isAhead 93 = .ok (.goto 4, 3) := by decide +kernel
theorem dX6_isAhead_96 : decode cX6_isAhead 96 = .ok (.iconst 0, 1) := by decide +kernel
theorem dX6_isAhead_97 : decode cX6_isAhead 97 = .ok (.ireturn, 1) := by decide +kernel
theorem dX7_init_0 : decode cX7_init 0 = .ok (.aload_n 0, 1) := by decide +kernel
theorem dX7_init_1 : decode cX7_init 1 = .ok (.invokespecial 1, 3) := by decide +kernel
theorem dX7_init_4 : decode cX7_init 4 = .ok (.aload_n 0, 1) := by decide +kernel
theorem dX7_init_5 : decode cX7_init 5 = .ok (.bipush 24, 2) := by decide +kernel
theorem dX7_init_7 : decode cX7_init 7 = .ok (.newarray .int, 2) := by decide +kernel
theorem dX7_init_9 : decode cX7_init 9 = .ok (.putfield 7, 3) := by decide +kernel
theorem dX7_init_12 : decode cX7_init 12 = .ok (.aload_n 0, 1) := by decide +kernel
theorem dX7_init_13 : decode cX7_init 13 = .ok (.bipush 24, 2) := by decide +kernel
theorem dX7_init_15 : decode cX7_init 15 = .ok (.newarray .int, 2) := by decide +kernel
theorem dX7_init_17 : decode cX7_init 17 = .ok (.putfield 13, 3) := by decide +kernel
theorem dX7_init_20 : decode cX7_init 20 = .ok (.aload_n 0, 1) := by decide +kernel
theorem dX7_init_21 : decode cX7_init 21 = .ok (.bipush 24, 2) := by decide +kernel
theorem dX7_init_23 : decode cX7_init 23 = .ok (.newarray .boolean, 2) := by decide +kernel
theorem dX7_init_25 : decode cX7_init 25 = .ok (.putfield 16, 3) := by decide +kernel
theorem dX7_init_28 : decode cX7_init 28 = .ok (.aload_n 0, 1) := by decide +kernel
theorem dX7_init_29 : decode cX7_init 29 = .ok (.iconst 4, 1) := by decide +kernel
theorem dX7_init_30 : decode cX7_init 30 = .ok (.newarray .int, 2) := by decide +kernel
theorem dX7_init_32 : decode cX7_init 32 = .ok (.putfield 20, 3) := by decide +kernel
theorem dX7_init_35 : decode cX7_init 35 = .ok (.aload_n 0, 1) := by decide +kernel
theorem dX7_init_36 : decode cX7_init 36 = .ok (.iconst 4, 1) := by decide +kernel
theorem dX7_init_37 : decode cX7_init 37 = .ok (.newarray .int, 2) := by decide +kernel
theorem dX7_init_39 : decode cX7_init 39 = .ok (.putfield 23, 3) := by decide +kernel
theorem dX7_init_42 : decode cX7_init 42 = .ok (.aload_n 0, 1) := by decide +kernel
theorem dX7_init_43 : decode cX7_init 43 = .ok (.iconst 4, 1) := by decide +kernel
theorem dX7_init_44 : decode cX7_init 44 = .ok (.newarray .boolean, 2) := by decide +kernel
theorem dX7_init_46 : decode cX7_init 46 = .ok (.putfield 26, 3) := by decide +kernel
theorem dX7_init_49 : decode cX7_init 49 = .ok (.aload_n 0, 1) := by decide +kernel
theorem dX7_init_50 : decode cX7_init 50 = .ok (.bipush 16, 2) := by decide +kernel
theorem dX7_init_52 : decode cX7_init 52 = .ok (.newarray .int, 2) := by decide +kernel
theorem dX7_init_54 : decode cX7_init 54 = .ok (.putfield 29, 3) := by decide +kernel
theorem dX7_init_57 : decode cX7_init 57 = .ok (.aload_n 0, 1) := by decide +kernel
theorem dX7_init_58 : decode cX7_init 58 = .ok (.bipush 16, 2) := by decide +kernel
theorem dX7_init_60 : decode cX7_init 60 = .ok (.newarray .int, 2) := by decide +kernel
theorem dX7_init_62 : decode cX7_init 62 = .ok (.putfield 32, 3) := by decide +kernel
theorem dX7_init_65 : decode cX7_init 65 = .ok (.aload_n 0, 1) := by decide +kernel
theorem dX7_init_66 : decode cX7_init 66 = .ok (.bipush 16, 2) := by decide +kernel
theorem dX7_init_68 : decode cX7_init 68 = .ok (.newarray .int, 2) := by decide +kernel
theorem dX7_init_70 : decode cX7_init 70 = .ok (.putfield 35, 3) := by decide +kernel
theorem dX7_init_73 : decode cX7_init 73 = .ok (.aload_n 0, 1) := by decide +kernel
theorem dX7_init_74 : decode cX7_init 74 = .ok (.bipush 16, 2) := by decide +kernel
theorem dX7_init_76 : decode cX7_init 76 = .ok (.newarray .int, 2) := by decide +kernel
theorem dX7_init_78 : decode cX7_init 78 = .ok (.putfield 38, 3) := by decide +kernel
theorem dX7_init_81 : decode cX7_init 81 = .ok (.aload_n 0, 1) := by decide +kernel
theorem dX7_init_82 : decode cX7_init 82 = .ok (.iconst 4, 1) := by decide +kernel
theorem dX7_init_83 : decode cX7_init 83 = .ok (.newarray .int, 2) := by decide +kernel
theorem dX7_init_85 : decode cX7_init 85 = .ok (.putfield 41, 3) := by decide +kernel
theorem dX7_init_88 : decode cX7_init 88 = .ok (.aload_n 0, 1) := by decide +kernel
theorem dX7_init_89 : decode cX7_init 89 = .ok (.bipush 32, 2) := by decide +kernel
theorem dX7_init_91 : decode cX7_init 91 = .ok (.newarray .int, 2) := by decide +kernel
theorem dX7_init_93 : decode cX7_init 93 = .ok (.putfield 44, 3) := by decide +kernel
theorem dX7_init_96 : decode cX7_init 96 = .ok (.aload_n 0, 1) := by decide +kernel
theorem dX7_init_97 : decode cX7_init 97 = .ok (.iconst 4, 1) := by decide +kernel
theorem dX7_init_98 : decode cX7_init 98 = .ok (.newarray .int, 2) := by decide +kernel
theorem dX7_init_100 : decode cX7_init 100 = .ok (.putfield 47, 3) := by decide +kernel
theorem dX7_init_103 : decode cX7_init 103 = .ok (.aload_n 0, 1) := by decide +kernel
theorem dX7_init_104 : decode cX7_init 104 = .ok (.bipush 96, 2) := by decide +kernel
theorem dX7_init_106 : decode cX7_init 106 = .ok (.newarray .int, 2) := by decide +kernel
theorem dX7_init_108 : decode cX7_init 108 = .ok (.putfield 50, 3) := by decide +kernel
theorem dX7_init_111 : decode cX7_init 111 = .ok (.aload_n 0, 1) := by decide +kernel
theorem dX7_init_112 : decode cX7_init 112 = .ok (.sipush 192, 3) := by decide +kernel
theorem dX7_init_115 : decode cX7_init 115 = .ok (.newarray .int, 2) := by decide +kernel
theorem dX7_init_117 : decode cX7_init 117 = .ok (.putfield 53, 3) := by decide +kernel
theorem dX7_init_120 : decode cX7_init 120 = .ok (.aload_n 0, 1) := by decide +kernel
theorem dX7_init_121 : decode cX7_init 121 = .ok (.bipush 8, 2) := by decide +kernel
theorem dX7_init_123 : decode cX7_init 123 = .ok (.newarray .int, 2) := by decide +kernel
theorem dX7_init_125 : decode cX7_init 125 = .ok (.putfield 56, 3) := by decide +kernel
theorem dX7_init_128 : decode cX7_init 128 = .ok (.aload_n 0, 1) := by decide +kernel
theorem dX7_init_129 : decode cX7_init 129 = .ok (.iconst 4, 1) := by decide +kernel
theorem dX7_init_130 : decode cX7_init 130 = .ok (.newarray .int, 2) := by decide +kernel
theorem dX7_init_132 : decode cX7_init 132 = .ok (.putfield 59, 3) := by decide +kernel
theorem dX7_init_135 : decode cX7_init 135 = .ok (.aload_n 0, 1) := by decide +kernel
theorem dX7_init_136 : decode cX7_init 136 = .ok (.iconst 4, 1) := by decide +kernel
theorem dX7_init_137 : decode cX7_init 137 = .ok (.newarray .boolean, 2) := by decide +kernel
theorem dX7_init_139 : decode cX7_init 139 = .ok (.putfield 62, 3) := by decide +kernel
theorem dX7_init_142 : decode cX7_init 142 = .ok (.aload_n 0, 1) := by decide +kernel
theorem dX7_init_143 : decode cX7_init 143 = .ok (.iconst 4, 1) := by decide +kernel
theorem dX7_init_144 : decode cX7_init 144 = .ok (.newarray .int, 2) := by decide +kernel
theorem dX7_init_146 : decode cX7_init 146 = .ok (.putfield 65, 3) := by decide +kernel
theorem dX7_init_149 : decode cX7_init 149 = .ok (.aload_n 0, 1) := by decide +kernel
theorem dX7_init_150 : decode cX7_init 150 = .ok (.iconst 4, 1) := by decide +kernel
theorem dX7_init_151 : decode cX7_init 151 = .ok (.newarray .int, 2) := by decide +kernel
theorem dX7_init_153 : decode cX7_init 153 = .ok (.putfield 68, 3) := by decide +kernel
theorem dX7_init_156 : decode cX7_init 156 = .ok (.aload_n 0, 1) := by decide +kernel
theorem dX7_init_157 : decode cX7_init 157 = .ok (.iconst 4, 1) := by decide +kernel
theorem dX7_init_158 : decode cX7_init 158 = .ok (.newarray .int, 2) := by decide +kernel
theorem dX7_init_160 : decode cX7_init 160 = .ok (.putfield 71, 3) := by decide +kernel
theorem dX7_init_163 : decode cX7_init 163 = .ok (.aload_n 0, 1) := by decide +kernel
theorem dX7_init_164 : decode cX7_init 164 = .ok (.bipush 20, 2) := by decide +kernel
theorem dX7_init_166 : decode cX7_init 166 = .ok (.newarray .int, 2) := by decide +kernel
theorem dX7_init_168 : decode cX7_init 168 = .ok (.putfield 74, 3) := by decide +kernel
theorem dX7_init_171 : decode cX7_init 171 = .ok (.aload_n 0, 1) := by decide +kernel
theorem dX7_init_172 : decode cX7_init 172 = .ok (.bipush 48, 2) := by decide +kernel
theorem dX7_init_174 : decode cX7_init 174 = .ok (.newarray .int, 2) := by decide +kernel
theorem dX7_init_176 : decode cX7_init 176 = .ok (.putfield 77, 3) := by decide +kernel
theorem dX7_init_179 : decode cX7_init 179 = .ok (.aload_n 0, 1) := by decide +kernel
theorem dX7_init_180 : decode cX7_init 180 = .ok (.bipush 6, 2) := by decide +kernel
theorem dX7_init_182 : decode cX7_init 182 = .ok (.newarray .int, 2) := by decide +kernel
theorem dX7_init_184 : decode cX7_init 184 = .ok (.putfield 80, 3) := by decide +kernel
theorem dX7_init_187 : decode cX7_init 187 = .ok (.iconst 0, 1) := by decide +kernel
theorem dX7_init_188 : decode cX7_init 188 = .ok (.istore_n 1, 1) := by decide +kernel
theorem dX7_init_189 : decode cX7_init 189 = .ok (.iload_n 1, 1) := by decide +kernel
theorem dX7_init_190 : decode cX7_init 190 = .ok (.bipush 20, 2) := by decide +kernel
