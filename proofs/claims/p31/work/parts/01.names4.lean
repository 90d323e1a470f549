theorem dX3_findRow_9 : decode cX3_findRow 9 = .ok (.getfield 18, 3) := by decide +kernel
theorem dX3_findRow_12 : decode cX3_findRow 12 = .ok (.aload_n 0, 1) := by decide +kernel
theorem dX3_findRow_13 : decode cX3_findRow 13 = .ok (.getfield 9, 3) := by decide +kernel
theorem dX3_findRow_16 : decode cX3_findRow 16 = .ok (.iconst 0, 1) := by decide +kernel
theorem dX3_findRow_17 : decode cX3_findRow 17 = .ok (.iload_n 3, 1) := by decide +kernel
theorem dX3_findRow_18 : decode cX3_findRow 18 = .ok (.iload_n 2, 1) := by decide +kernel
theorem dX3_findRow_19 : decode cX3_findRow 19 = .ok (.invokestatic 31, 3) := by decide +kernel
theorem dX3_findRow_22 : decode cX3_findRow 22 = .ok (.ifCond .eq 5, 3) := by decide +kernel
theorem dX3_findRow_25 : decode cX3_findRow 25 = .ok (.iload_n 3, 1) := by decide +kernel
theorem dX3_findRow_26 : decode cX3_findRow 26 = .ok (.ireturn, 1) := by decide +kernel
theorem dX3_findRow_27 : decode cX3_findRow 27 = .ok (.iinc 3 1, 3) := by decide +kernel
theorem dX3_findRow_30 : decode cX3_findRow 30 = .ok (.goto (-28), 3) := by decide +kernel
theorem dX3_findRow_33 : decode cX3_findRow 33 = .ok (.iconst (-1), 1) := by decide +kernel
theorem dX3_findRow_34 : decode cX3_findRow 34 = .ok (.ireturn, 1) := by decide +kernel
set_option maxRecDepth 20000 in
theorem ggX3_fillRow_X1_isTunable : GoodIn wsX3_fillRow wsX1_isTunable := goodIn_r _ [6, 7, 8, 9, 10, 11, 12, 13, 14, 5, 15, 16, 56, 57, 58, 59, 60] (by decide +kernel) (by decide +kernel)
set_option maxRecDepth 20000 in
theorem gX3_fillRow_X1_isTunable : GoodIn wsX3_fillRow (wsV RX3 35 RX1 yX1_isTunable wsX1_isTunable) := goodIn_app (goodIn_of _ (by decide +kernel)) ggX3_fillRow_X1_isTunable
set_option maxRecDepth 20000 in
theorem ggX3_fillRow_Jx4a65c_size_8abf5 : GoodIn wsX3_fillRow wsJx4a65c_size_8abf5 := goodIn_r _ [21, 22, 61, 62, 63] (by decide +kernel) (by decide +kernel)
set_option maxRecDepth 20000 in
theorem gX3_fillRow_Jx4a65c_size_8abf5 : GoodIn wsX3_fillRow (wsV RX3 39 RJx4a65c yJx4a65c_size_8abf5 wsJx4a65c_size_8abf5) := goodIn_app (goodIn_of _ (by decide +kernel)) ggX3_fillRow_Jx4a65c_size_8abf5
set_option maxRecDepth 20000 in
theorem ggX3_fillRow_Jx4a65c_get_915e3 : GoodIn wsX3_fillRow wsJx4a65c_get_915e3 := goodIn_r _ [26, 22, 27, 28, 29, 30, 31, 32, 33, 34, 35, 36, 37, 20, 38, 39, 61, 62, 63] (by decide +kernel) (by decide +kernel)
set_option maxRecDepth 20000 in
theorem gX3_fillRow_Jx4a65c_get_915e3 : GoodIn wsX3_fillRow (wsV RX3 43 RJx4a65c yJx4a65c_get_915e3 wsJx4a65c_get_915e3) := goodIn_app (goodIn_of _ (by decide +kernel)) ggX3_fillRow_Jx4a65c_get_915e3
set_option maxRecDepth 20000 in
theorem ggX3_fillRow_X1_bears : GoodIn wsX3_fillRow wsX1_bears := goodIn_r _ [43, 44, 12, 13, 14, 5, 15, 16, 56, 57, 58, 59, 60] (by decide +kernel) (by decide +kernel)
set_option maxRecDepth 20000 in
theorem gX3_fillRow_X1_bears : GoodIn wsX3_fillRow (wsV RX3 47 RX1 yX1_bears wsX1_bears) := goodIn_app (goodIn_of _ (by decide +kernel)) ggX3_fillRow_X1_bears
set_option maxRecDepth 20000 in
theorem ggX3_fillRow_X1_copyFrom : GoodIn wsX3_fillRow wsX1_copyFrom := goodIn_r _ [48, 7, 16, 44, 56, 57, 58, 59, 60] (by decide +kernel) (by decide +kernel)
set_option maxRecDepth 20000 in
theorem gX3_fillRow_X1_copyFrom : GoodIn wsX3_fillRow (wsV RX3 51 RX1 yX1_copyFrom wsX1_copyFrom) := goodIn_app (goodIn_of _ (by decide +kernel)) ggX3_fillRow_X1_copyFrom
set_option maxRecDepth 20000 in
theorem ggX3_fillRow_X1_beat : GoodIn wsX3_fillRow wsX1_beat := goodIn_r _ [52, 7, 16, 44, 56, 57, 58, 59, 60] (by decide +kernel) (by decide +kernel)
set_option maxRecDepth 20000 in
theorem gX3_fillRow_X1_beat : GoodIn wsX3_fillRow (wsV RX3 55 RX1 yX1_beat wsX1_beat) := goodIn_app (goodIn_of _ (by decide +kernel)) ggX3_fillRow_X1_beat
set_option maxRecDepth 20000 in
theorem ggX3_fillRow_X3_fillRow : GoodIn wsX3_fillRow wsX3_fillRow := goodIn_r _ [0, 1, 2, 3, 4, 5, 6, 7, 8, 9, 10, 11, 12, 13, 14, 15, 16, 17, 18, 19, 20, 21, 22, 23, 24, 25, 26, 27, 28, 29, 30, 31, 32, 33, 34, 35, 36, 37, 38, 39, 40, 41, 42, 43, 44, 45, 46, 47, 48, 49, 50, 51, 52, 53, 54, 55, 56, 57, 58, 59, 60, 61, 62, 63] (by decide +kernel) (by decide +kernel)
set_option maxRecDepth 20000 in
theorem gX3_fillRow_X3_fillRow : GoodIn wsX3_fillRow (va_wsS RX3 31 yX3_fillRow wsX3_fillRow) := goodIn_app (goodIn_of _ (by decide +kernel)) ggX3_fillRow_X3_fillRow
theorem dX3_fillRow_0 : decode cX3_fillRow 0 = .ok (.aload_n 0, 1) := by decide +kernel
theorem dX3_fillRow_1 : decode cX3_fillRow 1 = .ok (.iload 5, 2) := by decide +kernel
theorem dX3_fillRow_3 : decode cX3_fillRow 3 = .ok (.iload 4, 2) := by decide +kernel
theorem dX3_fillRow_5 : decode cX3_fillRow 5 = .ok (.invokevirtual 35, 3) := by decide +kernel
theorem dX3_fillRow_8 : decode cX3_fillRow 8 = .ok (.ifCond .ne 5, 3) := by decide +kernel
theorem dX3_fillRow_11 : decode cX3_fillRow 11 = .ok (.iconst 0, 1) := by decide +kernel
theorem dX3_fillRow_12 : decode cX3_fillRow 12 = .ok (.ireturn, 1) := by decide +kernel
theorem dX3_fillRow_13 : decode cX3_fillRow 13 = .ok (.iload 4, 2) := by decide +kernel
theorem dX3_fillRow_15 : decode cX3_fillRow 15 = .ok (.ifCond .gt 5, 3) := by decide +kernel
theorem dX3_fillRow_18 : decode cX3_fillRow 18 = .ok (.iconst 1, 1) := by decide +kernel
theorem dX3_fillRow_19 : decode cX3_fillRow 19 = .ok (.ireturn, 1) := by decide +kernel
theorem dX3_fillRow_20 : decode cX3_fillRow 20 = .ok (.iload_n 3, 1) := by decide +kernel
theorem dX3_fillRow_21 : decode cX3_fillRow 21 = .ok (.ifCond .lt 17, 3) := by decide +kernel
theorem dX3_fillRow_24 : decode cX3_fillRow 24 = .ok (.iload_n 3, 1) := by decide +kernel
theorem dX3_fillRow_25 : decode cX3_fillRow 25 = .ok (.aload_n 2, 1) := by decide +kernel
theorem dX3_fillRow_26 : decode cX3_fillRow 26 = .ok (.arraylength, 1) := by decide +kernel
theorem dX3_fillRow_27 : decode cX3_fillRow 27 = .ok (.if_icmp .ge 11, 3) := by decide +kernel
theorem dX3_fillRow_30 : decode cX3_fillRow 30 = .ok (.iload_n 3, 1) := by decide +kernel
theorem dX3_fillRow_31 : decode cX3_fillRow 31 = .ok (.aload_n 1, 1) := by decide +kernel
theorem dX3_fillRow_32 : decode cX3_fillRow 32 = .ok (.invokevirtual 39, 3) := by decide +kernel
theorem dX3_fillRow_35 : decode cX3_fillRow 35 = .ok (.if_icmp .lt 5, 3) := by decide +kernel
theorem dX3_fillRow_38 : decode cX3_fillRow 38 = .ok (.iconst 0, 1) := by decide +kernel
theorem dX3_fillRow_39 : decode cX3_fillRow 39 = .ok (.ireturn, 1) := by decide +kernel
theorem dX3_fillRow_40 : decode cX3_fillRow 40 = .ok (.aload_n 1, 1) := by decide +kernel
theorem dX3_fillRow_41 : decode cX3_fillRow 41 = .ok (.iload_n 3, 1) := by decide +kernel
theorem dX3_fillRow_42 : decode cX3_fillRow 42 = .ok (.invokevirtual 43, 3) := by decide +kernel
theorem dX3_fillRow_45 : decode cX3_fillRow 45 = .ok (.checkcast 22, 3) := by decide +kernel
theorem dX3_fillRow_48 : decode cX3_fillRow 48 = .ok (.astore 6, 2) := by decide +kernel
theorem dX3_fillRow_50 : decode cX3_fillRow 50 = .ok (.iconst 0, 1) := by decide +kernel
theorem dX3_fillRow_51 : decode cX3_fillRow 51 = .ok (.istore 7, 2) := by decide +kernel
theorem dX3_fillRow_53 : decode cX3_fillRow 53 = .ok (.iload 7, 2) := by decide +kernel
theorem dX3_fillRow_55 : decode cX3_fillRow 55 = .ok (.bipush 32, 2) := by decide +kernel
theorem dX3_fillRow_57 : decode cX3_fillRow 57 = .ok (.if_icmp .ge 92, 3) := by decide +kernel
theorem dX3_fillRow_60 : decode cX3_fillRow 60 = .ok (.iload 7, 2) := by decide +kernel
theorem dX3_fillRow_62 : decode cX3_fillRow 62 = .ok (.bipush 8, 2) := by decide +kernel
theorem dX3_fillRow_64 : decode cX3_fillRow 64 = .ok (.idiv, 1) := by decide +kernel
theorem dX3_fillRow_65 : decode cX3_fillRow 65 = .ok (.istore 8, 2) := by decide +kernel
theorem dX3_fillRow_67 : decode cX3_fillRow 67 = .ok (.iload 7, 2) := by decide +kernel
theorem dX3_fillRow_69 : decode cX3_fillRow 69 = .ok (.iconst 2, 1) := by decide +kernel
theorem dX3_fillRow_70 : decode cX3_fillRow 70 = .ok (.irem, 1) := by decide +kernel
theorem dX3_fillRow_71 : decode cX3_fillRow 71 = .ok (.iconst 1, 1) := by decide +kernel
theorem dX3_fillRow_72 : decode cX3_fillRow 72 = .ok (.if_icmp .ne 7, 3) := by decide +kernel
theorem dX3_fillRow_75 : decode cX3_fillRow 75 = .ok (.iconst 1, 1) := by decide +kernel
theorem dX3_fillRow_76 : decode cX3_fillRow 76 = .ok (.goto 4, 3) := by decide +kernel
theorem dX3_fillRow_79 : decode cX3_fillRow 79 = .ok (.iconst 0, 1) := by decide +kernel
theorem dX3_fillRow_80 : decode cX3_fillRow 80 = .ok (.istore 9, 2) := by decide +kernel
theorem dX3_fillRow_82 : decode cX3_fillRow 82 = .ok (.aload_n 0, 1) := by decide +kernel
theorem dX3_fillRow_83 : decode cX3_fillRow 83 = .ok (.iload 8, 2) := by decide +kernel
theorem dX3_fillRow_85 : decode cX3_fillRow 85 = .ok (.iload 9, 2) := by decide +kernel
theorem dX3_fillRow_87 : decode cX3_fillRow 87 = .ok (.invokevirtual 47, 3) := by decide +kernel
theorem dX3_fillRow_90 : decode cX3_fillRow 90 = .ok (.ifCond .eq 53, 3) := by decide +kernel
theorem dX3_fillRow_93 : decode cX3_fillRow 93 = .ok (.aload 6, 2) := by decide +kernel
theorem dX3_fillRow_95 : decode cX3_fillRow 95 = .ok (.aload_n 0, 1) := by decide +kernel
theorem dX3_fillRow_96 : decode cX3_fillRow 96 = .ok (.invokevirtual 51, 3) := by decide +kernel
theorem dX3_fillRow_99 : decode cX3_fillRow 99 = .ok (.aload 6, 2) := by decide +kernel
theorem dX3_fillRow_101 : decode cX3_fillRow 101 = .ok (.iload 8, 2) := by decide +kernel
theorem dX3_fillRow_103 : decode cX3_fillRow 103 = .ok (.iload 7, 2) := by decide +kernel
theorem dX3_fillRow_105 : decode cX3_fillRow 105 = .ok (.bipush 8, 2) := by decide +kernel
theorem dX3_fillRow_107 : decode cX3_fillRow 107 = .ok (.irem, 1) := by decide +kernel
theorem dX3_fillRow_108 : decode cX3_fillRow 108 = .ok (.iconst 2, 1) := by decide +kernel
theorem dX3_fillRow_109 : decode cX3_fillRow 109 = .ok (.idiv, 1) := by decide +kernel
theorem dX3_fillRow_110 : decode cX3_fillRow 110 = .ok (.iconst 1, 1) := by decide +kernel
theorem dX3_fillRow_111 : decode cX3_fillRow 111 = .ok (.iadd, 1) := by decide +kernel
theorem dX3_fillRow_112 : decode cX3_fillRow 112 = .ok (.iload 9, 2) := by decide +kernel
theorem dX3_fillRow_114 : decode cX3_fillRow 114 = .ok (.invokevirtual 55, 3) := by decide +kernel
theorem dX3_fillRow_117 : decode cX3_fillRow 117 = .ok (.aload_n 2, 1) := by decide +kernel
theorem dX3_fillRow_118 : decode cX3_fillRow 118 = .ok (.iload_n 3, 1) := by decide +kernel
theorem dX3_fillRow_119 : decode cX3_fillRow 119 = .ok (.iload 7, 2) := by decide +kernel
theorem dX3_fillRow_121 : decode cX3_fillRow 121 = .ok (.iastore, 1) := by decide +kernel
theorem dX3_fillRow_122 : decode cX3_fillRow 122 = .ok (.aload 6, 2) := by decide +kernel
theorem dX3_fillRow_124 : decode cX3_fillRow 124 = .ok (.aload_n 1, 1) := by decide +kernel
theorem dX3_fillRow_125 : decode cX3_fillRow 125 = .ok (.aload_n 2, 1) := by decide +kernel
theorem dX3_fillRow_126 : decode cX3_fillRow 126 = .ok (.iload_n 3, 1) := by decide +kernel
theorem dX3_fillRow_127 : decode cX3_fillRow 127 = .ok (.iconst 1, 1) := by decide +kernel
theorem dX3_fillRow_128 : decode cX3_fillRow 128 = .ok (.iadd, 1) := by decide +kernel
theorem dX3_fillRow_129 : decode cX3_fillRow 129 = .ok (.iload 4, 2) := by decide +kernel
theorem dX3_fillRow_131 : decode cX3_fillRow 131 = .ok (.iconst 1, 1) := by decide +kernel
theorem dX3_fillRow_132 : decode cX3_fillRow 132 = .ok (.isub, 1) := by decide +kernel
theorem dX3_fillRow_133 : decode cX3_fillRow 133 = .ok (.iload 5, 2) := by decide +kernel
theorem dX3_fillRow_135 : decode cX3_fillRow 135 = .ok (.invokestatic 31, 3) := by decide +kernel
theorem dX3_fillRow_138 : decode cX3_fillRow 138 = .ok (.ifCond .eq 5, 3) := by decide +kernel
theorem dX3_fillRow_141 : decode cX3_fillRow 141 = .ok (.iconst 1, 1) := by decide +kernel
theorem dX3_fillRow_142 : decode cX3_fillRow 142 = .ok (.ireturn, 1) := by decide +kernel
theorem dX3_fillRow_143 : decode cX3_fillRow 143 = .ok (.iinc 7 1, 3) := by decide +kernel
theorem dX3_fillRow_146 : decode cX3_fillRow 146 = .ok (.goto (-93), 3) := by decide +kernel
theorem dX3_fillRow_149 : decode cX3_fillRow 149 = .ok (.iconst 0, 1) := by decide +kernel
theorem dX3_fillRow_150 : decode cX3_fillRow 150 = .ok (.ireturn, 1) := by decide +kernel
theorem dX4_init_0 : decode cX4_init 0 = .ok (.aload_n 0, 1) := by decide +kernel
theorem dX4_init_1 : decode cX4_init 1 = .ok (.invokespecial 3, 3) := by decide +kernel
theorem dX4_init_4 : decode cX4_init 4 = .ok (.aload_n 0, 1) := by decide +kernel
theorem dX4_init_5 : decode cX4_init 5 = .ok (.iconst (-1), 1) := by decide +kernel
theorem dX4_init_6 : decode cX4_init 6 = .ok (.putfield 9, 3) := by decide +kernel
theorem dX4_init_9 : decode cX4_init 9 = .ok (.aload_n 0, 1) := by decide +kernel
theorem dX4_init_10 : decode cX4_init 10 = .ok (.iload_n 1, 1) := by decide +kernel
theorem dX4_init_11 : decode cX4_init 11 = .ok (.putfield 15, 3) := by decide +kernel
theorem dX4_init_14 : decode cX4_init 14 = .ok (.aload_n 0, 1) := by decide +kernel
theorem dX4_init_15 : decode cX4_init 15 = .ok (.iload_n 2, 1) := by decide +kernel
theorem dX4_init_16 : decode cX4_init 16 = .ok (.putfield 18, 3) := by decide +kernel
theorem dX4_init_19 : decode cX4_init 19 = .ok (.return_, 1) := by decide +kernel
theorem dX4_mayJoin_0 : decode cX4_mayJoin 0 = .ok (.aload_n 0, 1) := by decide +kernel
theorem dX4_mayJoin_1 : decode cX4_mayJoin 1 = .ok (.getfield 9, 3) := by decide +kernel
theorem dX4_mayJoin_4 : decode cX4_mayJoin 4 = .ok (.iconst (-1), 1) := by decide +kernel
theorem dX4_mayJoin_5 : decode cX4_mayJoin 5 = .ok (.if_icmp .eq 19, 3) := by decide +kernel
theorem dX4_mayJoin_8 : decode cX4_mayJoin 8 = .ok (.aload_n 0, 1) := by decide +kernel
theorem dX4_mayJoin_9 : decode cX4_mayJoin 9 = .ok (.getfield 9, 3) := by decide +kernel
theorem dX4_mayJoin_12 : decode cX4_mayJoin 12 = .ok (.iload_n 1, 1) := by decide +kernel
theorem dX4_mayJoin_13 : decode cX4_mayJoin 13 = .ok (.if_icmp .eq 11, 3) := by decide +kernel
theorem dX4_mayJoin_16 : decode cX4_mayJoin 16 = .ok (.aload_n 0, 1) := by decide +kernel
theorem dX4_mayJoin_17 : decode cX4_mayJoin 17 = .ok (.getfield 21, 3) := by decide +kernel
theorem dX4_mayJoin_20 : decode cX4_mayJoin 20 = .ok (.iload_n 2, 1) := by decide +kernel
theorem dX4_mayJoin_21 : decode cX4_mayJoin 21 = .ok (.if_icmp .eq 7, 3) := by decide +kernel
theorem dX4_mayJoin_24 : decode cX4_mayJoin 24 = .ok (.iconst 1, 1) := by decide +kernel
theorem dX4_mayJoin_25 : decode cX4_mayJoin 25 = .ok (.goto 4, 3) := by decide +kernel
theorem dX4_mayJoin_28 : decode cX4_mayJoin 28 = .ok (.iconst 0, 1) := by decide +kernel
theorem dX4_mayJoin_29 : decode cX4_mayJoin 29 = .ok (.ireturn, 1) := by decide +kernel
set_option maxRecDepth 20000 in
theorem ggX4_hasTunedPan_X1_isTunable : GoodIn wsX4_hasTunedPan wsX1_isTunable := goodIn_r _ [6, 7, 8, 9, 10, 11, 12, 13, 14, 5, 15, 16, 23, 24, 25, 26, 27] (by decide +kernel) (by decide +kernel)
set_option maxRecDepth 20000 in
theorem gX4_hasTunedPan_X1_isTunable : GoodIn wsX4_hasTunedPan (wsV RX4 28 RX1 yX1_isTunable wsX1_isTunable) := goodIn_app (goodIn_of _ (by decide +kernel)) ggX4_hasTunedPan_X1_isTunable
theorem dX4_hasTunedPan_0 : decode cX4_hasTunedPan 0 = .ok (.aload_n 0, 1) := by decide +kernel
theorem dX4_hasTunedPan_1 : decode cX4_hasTunedPan 1 = .ok (.getfield 24, 3) := by decide +kernel
theorem dX4_hasTunedPan_4 : decode cX4_hasTunedPan 4 = .ok (.ifnull 19, 3) := by decide +kernel
theorem dX4_hasTunedPan_7 : decode cX4_hasTunedPan 7 = .ok (.aload_n 0, 1) := by decide +kernel
theorem dX4_hasTunedPan_8 : decode cX4_hasTunedPan 8 = .ok (.getfield 24, 3) := by decide +kernel
theorem dX4_hasTunedPan_11 : decode cX4_hasTunedPan 11 = .ok (.iload_n 1, 1) := by decide +kernel
theorem dX4_hasTunedPan_12 : decode cX4_hasTunedPan 12 = .ok (.iconst 0, 1) := by decide +kernel
theorem dX4_hasTunedPan_13 : decode cX4_hasTunedPan 13 = .ok (.invokevirtual 28, 3) := by decide +kernel
theorem dX4_hasTunedPan_16 : decode cX4_hasTunedPan 16 = .ok (.ifCond .eq 7, 3) := by decide +kernel
theorem dX4_hasTunedPan_19 : decode cX4_hasTunedPan 19 = .ok (.iconst 1, 1) := by decide +kernel
theorem dX4_hasTunedPan_20 : decode cX4_hasTunedPan 20 = .ok (.goto 4, 3) := by decide +kernel
theorem dX4_hasTunedPan_23 : decode cX4_hasTunedPan 23 = .ok (.iconst 0, 1) := by decide +kernel
theorem dX4_hasTunedPan_24 : decode cX4_hasTunedPan 24 = .ok (.ireturn, 1) := by decide +kernel
theorem dX5_init_0 : decode cX5_init 0 = .ok (.aload_n 0, 1) := by decide +kernel
theorem dX5_init_1 : decode cX5_init 1 = .ok (.invokespecial 3, 3) := by decide +kernel
theorem dX5_init_4 : decode cX5_init 4 = .ok (.aload_n 0, 1) := by decide +kernel
theorem dX5_init_5 : decode cX5_init 5 = .ok (.bipush 6, 2) := by decide +kernel
theorem dX5_init_7 : decode cX5_init 7 = .ok (.newarray .int, 2) := by decide +kernel
theorem dX5_init_9 : decode cX5_init 9 = .ok (.putfield 9, 3) := by decide +kernel
theorem dX5_init_12 : decode cX5_init 12 = .ok (.aload_n 0, 1) := by decide +kernel
theorem dX5_init_13 : decode cX5_init 13 = .ok (.aload_n 1, 1) := by decide +kernel
theorem dX5_init_14 : decode cX5_init 14 = .ok (.putfield 15, 3) := by decide +kernel
theorem dX5_init_17 : decode cX5_init 17 = .ok (.return_, 1) := by decide +kernel
theorem dX5_learn_0 : decode cX5_learn 0 = .ok (.aload_n 0, 1) := by decide +kernel
theorem dX5_learn_1 : decode cX5_learn 1 = .ok (.getfield 9, 3) := by decide +kernel
theorem dX5_learn_4 : decode cX5_learn 4 = .ok (.iload_n 1, 1) := by decide +kernel
theorem dX5_learn_5 : decode cX5_learn 5 = .ok (.iaload, 1) := by decide +kernel
theorem dX5_learn_6 : decode cX5_learn 6 = .ok (.istore 4, 2) := by decide +kernel
theorem dX5_learn_8 : decode cX5_learn 8 = .ok (.iload 4, 2) := by decide +kernel
theorem dX5_learn_10 : decode cX5_learn 10 = .ok (.iconst 2, 1) := by decide +kernel
theorem dX5_learn_11 : decode cX5_learn 11 = .ok (.if_icmp .ne 19, 3) := by decide +kernel
theorem dX5_learn_14 : decode cX5_learn 14 = .ok (.iload_n 2, 1) := by decide +kernel
theorem dX5_learn_15 : decode cX5_learn 15 = .ok (.iconst 1, 1) := by decide +kernel
theorem dX5_learn_16 : decode cX5_learn 16 = .ok (.if_icmp .ne 12, 3) := by decide +kernel
theorem dX5_learn_19 : decode cX5_learn 19 = .ok (.iload_n 3, 1) := by decide +kernel
theorem dX5_learn_20 : decode cX5_learn 20 = .ok (.iconst 1, 1) := by decide +kernel
theorem dX5_learn_21 : decode cX5_learn 21 = .ok (.if_icmp .ne 7, 3) := by decide +kernel
theorem dX5_learn_24 : decode cX5_learn 24 = .ok (.iconst 1, 1) := by decide +kernel
theorem dX5_learn_25 : decode cX5_learn 25 = .ok (.goto 4, 3) := by decide +kernel
theorem dX5_learn_28 : decode cX5_learn 28 = .ok (.iconst 2, 1) := by decide +kernel
theorem dX5_learn_29 : decode cX5_learn 29 = .ok (.ireturn, 1) := by decide +kernel
theorem dX5_learn_30 : decode cX5_learn 30 = .ok (.iload 4, 2) := by decide +kernel
theorem dX5_learn_32 : decode cX5_learn 32 = .ok (.iconst 1, 1) := by decide +kernel
theorem dX5_learn_33 : decode cX5_learn 33 = .ok (.if_icmp .ne 5, 3) := by decide +kernel
theorem dX5_learn_36 : decode cX5_learn 36 = .ok (.iconst 1, 1) := by decide +kernel
theorem dX5_learn_37 : decode cX5_learn 37 = .ok (.ireturn, 1) := by decide +kernel
theorem dX5_learn_38 : decode cX5_learn 38 = .ok (.iload_n 2, 1) := by decide +kernel
theorem dX5_learn_39 : decode cX5_learn 39 = .ok (.ifCond .eq 7, 3) := by decide +kernel
theorem dX5_learn_42 : decode cX5_learn 42 = .ok (.iload_n 2, 1) := by decide +kernel
theorem dX5_learn_43 : decode cX5_learn 43 = .ok (.goto 4, 3) := by decide +kernel
theorem dX5_learn_46 : decode cX5_learn 46 = .ok (.iload_n 3, 1) := by decide +kernel
theorem dX5_learn_47 : decode cX5_learn 47 = .ok (.istore 5, 2) := by decide +kernel
theorem dX5_learn_49 : decode cX5_learn 49 = .ok (.iload 5, 2) := by decide +kernel
theorem dX5_learn_51 : decode cX5_learn 51 = .ok (.iconst 1, 1) := by decide +kernel
theorem dX5_learn_52 : decode cX5_learn 52 = .ok (.if_icmp .ne 18, 3) := by decide +kernel
theorem dX5_learn_55 : decode cX5_learn 55 = .ok (.aload_n 0, 1) := by decide +kernel
theorem dX5_learn_56 : decode cX5_learn 56 = .ok (.getfield 15, 3) := by decide +kernel
theorem dX5_learn_59 : decode cX5_learn 59 = .ok (.getfield 19, 3) := by decide +kernel
theorem dX5_learn_62 : decode cX5_learn 62 = .ok (.iconst 2, 1) := by decide +kernel
theorem dX5_learn_63 : decode cX5_learn 63 = .ok (.if_icmp .lt 7, 3) := by decide +kernel
theorem dX5_learn_66 : decode cX5_learn 66 = .ok (.iconst 2, 1) := by decide +kernel
theorem dX5_learn_67 : decode cX5_learn 67 = .ok (.goto 5, 3) := by decide +kernel
theorem dX5_learn_70 : decode cX5_learn 70 = .ok (.iload 5, 2) := by decide +kernel
theorem dX5_learn_72 : decode cX5_learn 72 = .ok (.ireturn, 1) := by decide +kernel
set_option maxRecDepth 20000 in
theorem ggX6_init_Jx4a65c_init_da8c8 : GoodIn wsX6_init wsJx4a65c_init_da8c8 := goodIn_r _ [23, 24, 25, 26, 27, 28, 29, 30, 31, 32, 33, 34, 35, 2, 3, 131, 132, 133] (by decide +kernel) (by decide +kernel)
set_option maxRecDepth 20000 in
theorem gX6_init_Jx4a65c_init_da8c8 : GoodIn wsX6_init (wsJx4a65c_init_da8c8) := ggX6_init_Jx4a65c_init_da8c8
set_option maxRecDepth 20000 in
theorem ggX6_init_X3_init : GoodIn wsX6_init wsX3_init := goodIn_r _ [38, 39, 2, 3, 40, 41, 42, 5, 6, 43, 44, 45, 46, 47, 22, 23, 24, 25, 26, 27, 28, 29, 30, 31, 32, 33, 34, 35, 48, 49, 50, 51, 52, 53, 54, 55, 56, 57, 58, 59, 60, 61, 62, 63, 64, 65, 66, 67, 68, 69, 70, 71, 72, 73, 74, 75, 76, 77, 78, 79, 80, 81, 82, 83, 84, 85, 86, 87, 88, 89, 90, 91, 92, 93, 94, 95, 96, 97, 98, 99, 100, 101, 102, 103, 104, 105, 106, 107, 108, 109, 141, 142, 131, 132, 133, 152, 153, 154, 155, 156] (by decide +kernel) (by decide +kernel)
set_option maxRecDepth 20000 in
theorem gX6_init_X3_init : GoodIn wsX6_init (wsX3_init) := ggX6_init_X3_init
set_option maxRecDepth 20000 in
theorem ggX6_init_X2_init : GoodIn wsX6_init wsX2_init := goodIn_r _ [111, 112, 2, 3, 40, 113, 114, 115, 143, 144] (by decide +kernel) (by decide +kernel)
set_option maxRecDepth 20000 in
theorem gX6_init_X2_init_n31 : GoodIn wsX6_init (wsX2_init) := ggX6_init_X2_init
set_option maxRecDepth 20000 in
theorem ggX6_init_X0_init : GoodIn wsX6_init wsX0_init := goodIn_r _ [118, 119, 2, 3, 120, 5, 6, 121, 40, 122, 123, 124, 125, 126, 22, 23, 24, 25, 26, 27, 28, 29, 30, 31, 32, 33, 34, 35, 127, 128, 92, 129, 131, 132, 133, 145, 146, 147, 148, 149, 150, 151] (by decide +kernel) (by decide +kernel)
set_option maxRecDepth 20000 in
theorem gX6_init_X0_init : GoodIn wsX6_init (wsX0_init) := ggX6_init_X0_init
set_option maxRecDepth 20000 in
theorem ggX6_init_Jx4a65c_add_9ea2d : GoodIn wsX6_init wsJx4a65c_add_9ea2d := goodIn_r _ [60, 61, 62, 25, 63, 64, 65, 66, 6, 67, 68, 69, 70, 71, 72, 73, 74, 75, 24, 76, 77, 78, 79, 80, 81, 82, 83, 84, 85, 86, 87, 88, 89, 90, 91, 92, 93, 94, 95, 96, 97, 98, 99, 100, 101, 102, 103, 104, 105, 106, 107, 108, 109, 131, 132, 133] (by decide +kernel) (by decide +kernel)
set_option maxRecDepth 20000 in
theorem gX6_init_Jx4a65c_add_9ea2d : GoodIn wsX6_init (wsV RX6 39 RJx4a65c yJx4a65c_add_9ea2d wsJx4a65c_add_9ea2d) := goodIn_app (goodIn_of _ (by decide +kernel)) ggX6_init_Jx4a65c_add_9ea2d
theorem dX6_init_0 : decode cX6_init 0 = .ok (.aload_n 0, 1) := by decide +kernel
theorem dX6_init_1 : decode cX6_init 1 = .ok (.invokespecial 1, 3) := by decide +kernel
theorem dX6_init_4 : decode cX6_init 4 = .ok (.aload_n 0, 1) := by decide +kernel
theorem dX6_init_5 : decode cX6_init 5 = .ok (.new 7, 3) := by decide +kernel
theorem dX6_init_8 : decode cX6_init 8 = .ok (.dup, 1) := by decide +kernel
theorem dX6_init_9 : decode cX6_init 9 = .ok (.invokespecial 9, 3) := by decide +kernel
theorem dX6_init_12 : decode cX6_init 12 = .ok (.putfield 10, 3) := by decide +kernel
theorem dX6_init_15 : decode cX6_init 15 = .ok (.aload_n 0, 1) := by decide +kernel
theorem dX6_init_16 : decode cX6_init 16 = .ok (.new 7, 3) := by decide +kernel
theorem dX6_init_19 : decode cX6_init 19 = .ok (.dup, 1) := by decide +kernel
theorem dX6_init_20 : decode cX6_init 20 = .ok (.invokespecial 9, 3) := by decide +kernel
theorem dX6_init_23 : decode cX6_init 23 = .ok (.putfield 16, 3) := by decide +kernel
theorem dX6_init_26 : decode cX6_init 26 = .ok (.aload_n 0, 1) := by decide +kernel
theorem dX6_init_27 : decode cX6_init 27 = .ok (.new 7, 3) := by decide +kernel
theorem dX6_init_30 : decode cX6_init 30 = .ok (.dup, 1) := by decide +kernel
theorem dX6_init_31 : decode cX6_init 31 = .ok (.invokespecial 9, 3) := by decide +kernel
theorem dX6_init_34 : decode cX6_init 34 = .ok (.putfield 19, 3) := by decide +kernel
theorem dX6_init_37 : decode cX6_init 37 = .ok (.aload_n 0, 1) := by decide +kernel
theorem dX6_init_38 : decode cX6_init 38 = .ok (.new 22, 3) := by decide +kernel
theorem dX6_init_41 : decode cX6_init 41 = .ok (.dup, 1) := by decide +kernel
theorem dX6_init_42 : decode cX6_init 42 = .ok (.invokespecial 24, 3) := by decide +kernel
theorem dX6_init_45 : decode cX6_init 45 = .ok (.putfield 25, 3) := by decide +kernel
theorem dX6_init_48 : decode cX6_init 48 = .ok (.aload_n 0, 1) := by decide +kernel
theorem dX6_init_49 : decode cX6_init 49 = .ok (.new 29, 3) := by decide +kernel
theorem dX6_init_52 : decode cX6_init 52 = .ok (.dup, 1) := by decide +kernel
theorem dX6_init_53 : decode cX6_init 53 = .ok (.invokespecial 31, 3) := by decide +kernel
theorem dX6_init_56 : decode cX6_init 56 = .ok (.putfield 32, 3) := by decide +kernel
theorem dX6_init_59 : decode cX6_init 59 = .ok (.iconst 0, 1) := by decide +kernel
theorem dX6_init_60 : decode cX6_init 60 = .ok (.istore_n 1, 1) := by decide +kernel
theorem dX6_init_61 : decode cX6_init 61 = .ok (.iload_n 1, 1) := by decide +kernel
theorem dX6_init_62 : decode cX6_init 62 = .ok (.iconst 4, 1) := by decide +kernel
theorem dX6_init_63 : decode cX6_init 63 = .ok (.if_icmp .ge 24, 3) := by decide +kernel
theorem dX6_init_66 : decode cX6_init 66 = .ok (.aload_n 0, 1) := by decide +kernel
theorem dX6_init_67 : decode cX6_init 67 = .ok (.getfield 19, 3) := by decide +kernel
theorem dX6_init_70 : decode cX6_init 70 = .ok (.new 36, 3) := by decide +kernel
theorem dX6_init_73 : decode cX6_init 73 = .ok (.dup, 1) := by decide +kernel
theorem dX6_init_74 : decode cX6_init 74 = .ok (.invokespecial 38, 3) := by decide +kernel
theorem dX6_init_77 : decode cX6_init 77 = .ok (.invokevirtual 39, 3) := by decide +kernel
theorem dX6_init_80 : decode cX6_init 80 = .ok (.pop, 1) := by decide +kernel
theorem dX6_init_81 : decode cX6_init 81 = .ok (.iinc 1 1, 3) := by decide +kernel
theorem dX6_init_84 : decode cX6_init 84 = .ok (.goto (-23), 3) := by decide +kernel
theorem dX6_init_87 : decode cX6_init 87 = .ok (.return_, 1) := by decide +kernel
set_option maxRecDepth 20000 in
theorem ggX6_pan_X6_requireRange : GoodIn wsX6_pan wsX6_requireRange := goodIn_ca (goodIn_r _ [10, 11, 12] (by decide +kernel) (by decide +kernel)) (goodIn_sub (fun _ h => List.mem_cons_of_mem _ (List.mem_append_left _ (List.mem_append_right _ h))) (by decide +kernel))
set_option maxRecDepth 20000 in
theorem gX6_pan_X6_requireRange : GoodIn wsX6_pan (va_wsS RX6 43 yX6_requireRange wsX6_requireRange) := goodIn_app (goodIn_of _ (by decide +kernel)) ggX6_pan_X6_requireRange
set_option maxRecDepth 20000 in
theorem ggX6_pan_Jx4a65c_size_8abf5 : GoodIn wsX6_pan wsJx4a65c_size_8abf5 := goodIn_r _ [17, 18, 102, 103, 104] (by decide +kernel) (by decide +kernel)
set_option maxRecDepth 20000 in
theorem gX6_pan_Jx4a65c_size_8abf5 : GoodIn wsX6_pan (wsV RX6 47 RJx4a65c yJx4a65c_size_8abf5 wsJx4a65c_size_8abf5) := goodIn_app (goodIn_of _ (by decide +kernel)) ggX6_pan_Jx4a65c_size_8abf5
set_option maxRecDepth 20000 in
theorem ggX6_pan_X6_requireState : GoodIn wsX6_pan wsX6_requireState := goodIn_ca (goodIn_r _ [21, 22, 23] (by decide +kernel) (by decide +kernel)) (goodIn_sub (fun _ h => List.mem_cons_of_mem _ (List.mem_append_right _ h)) (by decide +kernel))
set_option maxRecDepth 20000 in
theorem gX6_pan_X6_requireState : GoodIn wsX6_pan (va_wsS RX6 51 yX6_requireState wsX6_requireState) := goodIn_app (goodIn_of _ (by decide +kernel)) ggX6_pan_X6_requireState
set_option maxRecDepth 20000 in
theorem ggX6_pan_X1_init : GoodIn wsX6_pan wsX1_init := goodIn_r _ [26, 27, 28, 29, 30, 31, 32, 33, 34, 35, 97, 98, 99, 100, 101] (by decide +kernel) (by decide +kernel)
set_option maxRecDepth 20000 in
theorem gX6_pan_X1_init : GoodIn wsX6_pan (wsX1_init) := ggX6_pan_X1_init
set_option maxRecDepth 20000 in
theorem ggX6_pan_Jx4a65c_add_9ea2d : GoodIn wsX6_pan wsJx4a65c_add_9ea2d := goodIn_r _ [39, 40, 41, 42, 18, 43, 44, 45, 16, 46, 47, 48, 49, 50, 51, 52, 53, 54, 55, 56, 57, 58, 59, 60, 61, 62, 63, 64, 65, 66, 67, 68, 69, 70, 71, 72, 73, 74, 75, 76, 77, 78, 79, 80, 81, 82, 83, 84, 85, 86, 87, 88, 89, 102, 103, 104] (by decide +kernel) (by decide +kernel)
set_option maxRecDepth 20000 in
theorem gX6_pan_Jx4a65c_add_9ea2d : GoodIn wsX6_pan (wsV RX6 39 RJx4a65c yJx4a65c_add_9ea2d wsJx4a65c_add_9ea2d) := goodIn_app (goodIn_of _ (by decide +kernel)) ggX6_pan_Jx4a65c_add_9ea2d
theorem dX6_pan_0 : decode cX6_pan 0 = .ok (.iload_n 1, 1) := by decide +kernel
theorem dX6_pan_1 : decode cX6_pan 1 = .ok (.bipush (-60), 2) := by decide +kernel
theorem dX6_pan_3 : decode cX6_pan 3 = .ok (.bipush 60, 2) := by decide +kernel
theorem dX6_pan_5 : decode cX6_pan 5 = .ok (.invokestatic 43, 3) := by decide +kernel
theorem dX6_pan_8 : decode cX6_pan 8 = .ok (.iload_n 2, 1) := by decide +kernel
theorem dX6_pan_9 : decode cX6_pan 9 = .ok (.bipush (-60), 2) := by decide +kernel
theorem dX6_pan_11 : decode cX6_pan 11 = .ok (.bipush 60, 2) := by decide +kernel
theorem dX6_pan_13 : decode cX6_pan 13 = .ok (.invokestatic 43, 3) := by decide +kernel
theorem dX6_pan_16 : decode cX6_pan 16 = .ok (.iload_n 3, 1) := by decide +kernel
theorem dX6_pan_17 : decode cX6_pan 17 = .ok (.bipush (-60), 2) := by decide +kernel
theorem dX6_pan_19 : decode cX6_pan 19 = .ok (.bipush 60, 2) := by decide +kernel
theorem dX6_pan_21 : decode cX6_pan 21 = .ok (.invokestatic 43, 3) := by decide +kernel
theorem dX6_pan_24 : decode cX6_pan 24 = .ok (.iload 4, 2) := by decide +kernel
theorem dX6_pan_26 : decode cX6_pan 26 = .ok (.bipush (-60), 2) := by decide +kernel
theorem dX6_pan_28 : decode cX6_pan 28 = .ok (.bipush 60, 2) := by decide +kernel
theorem dX6_pan_30 : decode cX6_pan 30 = .ok (.invokestatic 43, 3) := by decide +kernel
theorem dX6_pan_33 : decode cX6_pan 33 = .ok (.aload_n 0, 1) := by decide +kernel
theorem dX6_pan_34 : decode cX6_pan 34 = .ok (.getfield 10, 3) := by decide +kernel
theorem dX6_pan_37 : decode cX6_pan 37 = .ok (.invokevirtual 47, 3) := by decide +kernel
theorem dX6_pan_40 : decode cX6_pan 40 = .ok (.bipush 6, 2) := by decide +kernel
theorem dX6_pan_42 : decode cX6_pan 42 = .ok (.if_icmp .ge 7, 3) := by decide +kernel
theorem dX6_pan_45 : decode cX6_pan 45 = .ok (.iconst 1, 1) := by decide +kernel
theorem dX6_pan_46 : decode cX6_pan 46 = .ok (.goto 4, 3) := by decide +kernel
theorem dX6_pan_49 : decode cX6_pan 49 = .ok (.iconst 0, 1) := by decide +kernel
theorem dX6_pan_50 : decode cX6_pan 50 = .ok (.invokestatic 51, 3) := by decide +kernel
theorem dX6_pan_53 : decode cX6_pan 53 = .ok (.new 55, 3) := by decide +kernel
theorem dX6_pan_56 : decode cX6_pan 56 = .ok (.dup, 1) := by decide +kernel
theorem dX6_pan_57 : decode cX6_pan 57 = .ok (.aload_n 0, 1) := by decide +kernel
theorem dX6_pan_58 : decode cX6_pan 58 = .ok (.getfield 10, 3) := by decide +kernel
theorem dX6_pan_61 : decode cX6_pan 61 = .ok (.invokevirtual 47, 3) := by decide +kernel
theorem dX6_pan_64 : decode cX6_pan 64 = .ok (.invokespecial 57, 3) := by decide +kernel
theorem dX6_pan_67 : decode cX6_pan 67 = .ok (.astore 5, 2) := by decide +kernel
theorem dX6_pan_69 : decode cX6_pan 69 = .ok (.aload 5, 2) := by decide +kernel
theorem dX6_pan_71 : decode cX6_pan 71 = .ok (.getfield 60, 3) := by decide +kernel
theorem dX6_pan_74 : decode cX6_pan 74 = .ok (.iconst 0, 1) := by decide +kernel
theorem dX6_pan_75 : decode cX6_pan 75 = .ok (.iload_n 1, 1) := by decide +kernel
theorem dX6_pan_76 : decode cX6_pan 76 = .ok (.iastore, 1) := by decide +kernel
theorem dX6_pan_77 : decode cX6_pan 77 = .ok (.aload 5, 2) := by decide +kernel
theorem dX6_pan_79 : decode cX6_pan 79 = .ok (.getfield 60, 3) := by decide +kernel
theorem dX6_pan_82 : decode cX6_pan 82 = .ok (.iconst 1, 1) := by decide +kernel
theorem dX6_pan_83 : decode cX6_pan 83 = .ok (.iload_n 2, 1) := by decide +kernel
theorem dX6_pan_84 : decode cX6_pan 84 = .ok (.iastore, 1) := by decide +kernel
theorem dX6_pan_85 : decode cX6_pan 85 = .ok (.aload 5, 2) := by decide +kernel
theorem dX6_pan_87 : decode cX6_pan 87 = .ok (.getfield 60, 3) := by decide +kernel
theorem dX6_pan_90 : decode cX6_pan 90 = .ok (.iconst 2, 1) := by decide +kernel
theorem dX6_pan_91 : decode cX6_pan 91 = .ok (.iload_n 3, 1) := by decide +kernel
theorem dX6_pan_92 : decode cX6_pan 92 = .ok (.iastore, 1) := by decide +kernel
theorem dX6_pan_93 : decode cX6_pan 93 = .ok (.aload 5, 2) := by decide +kernel
theorem dX6_pan_95 : decode cX6_pan 95 = .ok (.getfield 60, 3) := by decide +kernel
theorem dX6_pan_98 : decode cX6_pan 98 = .ok (.iconst 3, 1) := by decide +kernel
theorem dX6_pan_99 : decode cX6_pan 99 = .ok (.iload 4, 2) := by decide +kernel
theorem dX6_pan_101 : decode cX6_pan 101 = .ok (.iastore, 1) := by decide +kernel
theorem dX6_pan_102 : decode cX6_pan 102 = .ok (.aload_n 0, 1) := by decide +kernel
theorem dX6_pan_103 : decode cX6_pan 103 = .ok (.getfield 10, 3) := by decide +kernel
theorem dX6_pan_106 : decode cX6_pan 106 = .ok (.aload 5, 2) := by decide +kernel
theorem dX6_pan_108 : decode cX6_pan 108 = .ok (.invokevirtual 39, 3) := by decide +kernel
theorem dX6_pan_111 : decode cX6_pan 111 = .ok (.pop, 1) := by decide +kernel
theorem dX6_pan_112 : decode cX6_pan 112 = .ok (.aload 5, 2) := by decide +kernel
theorem dX6_pan_114 : decode cX6_pan 114 = .ok (.getfield 64, 3) := by decide +kernel
theorem dX6_pan_117 : decode cX6_pan 117 = .ok (.ireturn, 1) := by decide +kernel
set_option maxRecDepth 20000 in
theorem ggX6_blow_X6_panAt : GoodIn wsX6_blow wsX6_panAt := goodIn_ca (goodIn_r _ [6, 7, 8, 9, 10, 11, 12, 13, 14, 15, 16, 5, 17, 18, 19, 20, 21, 22, 23, 24, 25, 26, 27, 28, 29, 30, 31, 32, 33, 34, 35, 36, 68, 69, 70, 71, 72, 73, 74, 75, 76, 77] (by decide +kernel) (by decide +kernel)) (goodIn_sub (fun _ h => List.mem_cons_of_mem _ (List.mem_append_left _ (List.mem_append_left _ (List.mem_append_right _ h)))) (by decide +kernel))
set_option maxRecDepth 20000 in
theorem gX6_blow_X6_panAt : GoodIn wsX6_blow (wsV RX6 68 RX6 yX6_panAt wsX6_panAt) := goodIn_app (goodIn_of _ (by decide +kernel)) ggX6_blow_X6_panAt
set_option maxRecDepth 20000 in
theorem ggX6_blow_X6_requireIndex : GoodIn wsX6_blow wsX6_requireIndex := goodIn_ca (goodIn_r _ [17, 18, 19] (by decide +kernel) (by decide +kernel)) (goodIn_sub (fun _ h => List.mem_cons_of_mem _ (List.mem_append_left _ (List.mem_append_left _ (List.mem_append_right _ h)))) (by decide +kernel))
set_option maxRecDepth 20000 in
theorem gX6_blow_X6_requireIndex : GoodIn wsX6_blow (va_wsS RX6 72 yX6_requireIndex wsX6_requireIndex) := goodIn_app (goodIn_of _ (by decide +kernel)) ggX6_blow_X6_requireIndex
set_option maxRecDepth 20000 in
theorem ggX6_blow_X6_requireRange : GoodIn wsX6_blow wsX6_requireRange := goodIn_ca (goodIn_r _ [39, 40, 41] (by decide +kernel) (by decide +kernel)) (goodIn_sub (fun _ h => List.mem_cons_of_mem _ (List.mem_append_left _ (List.mem_append_right _ h))) (by decide +kernel))
set_option maxRecDepth 20000 in
theorem gX6_blow_X6_requireRange : GoodIn wsX6_blow (va_wsS RX6 43 yX6_requireRange wsX6_requireRange) := goodIn_app (goodIn_of _ (by decide +kernel)) ggX6_blow_X6_requireRange
set_option maxRecDepth 20000 in
theorem ggX6_blow_X1_bears : GoodIn wsX6_blow wsX1_bears := goodIn_r _ [46, 47, 48, 49, 50, 45, 51, 52, 63, 64, 65, 66, 67] (by decide +kernel) (by decide +kernel)
set_option maxRecDepth 20000 in
theorem gX6_blow_X1_bears : GoodIn wsX6_blow (wsV RX6 76 RX1 yX1_bears wsX1_bears) := goodIn_app (goodIn_of _ (by decide +kernel)) ggX6_blow_X1_bears
set_option maxRecDepth 20000 in
theorem ggX6_blow_X6_requireState : GoodIn wsX6_blow wsX6_requireState := goodIn_ca (goodIn_r _ [55, 56, 57] (by decide +kernel) (by decide +kernel)) (goodIn_sub (fun _ h => List.mem_cons_of_mem _ (List.mem_append_right _ h)) (by decide +kernel))
set_option maxRecDepth 20000 in
theorem gX6_blow_X6_requireState : GoodIn wsX6_blow (va_wsS RX6 51 yX6_requireState wsX6_requireState) := goodIn_app (goodIn_of _ (by decide +kernel)) ggX6_blow_X6_requireState
set_option maxRecDepth 20000 in
theorem ggX6_blow_X1_beat : GoodIn wsX6_blow wsX1_beat := goodIn_r _ [61, 62, 52, 47, 63, 64, 65, 66, 67] (by decide +kernel) (by decide +kernel)
set_option maxRecDepth 20000 in
theorem gX6_blow_X1_beat : GoodIn wsX6_blow (wsV RX6 80 RX1 yX1_beat wsX1_beat) := goodIn_app (goodIn_of _ (by decide +kernel)) ggX6_blow_X1_beat
theorem dX6_blow_0 : decode cX6_blow 0 = .ok (.aload_n 0, 1) := by decide +kernel
theorem dX6_blow_1 : decode cX6_blow 1 = .ok (.iload_n 1, 1) := by decide +kernel
theorem dX6_blow_2 : decode cX6_blow 2 = .ok (.invokevirtual 68, 3) := by decide +kernel
theorem dX6_blow_5 : decode cX6_blow 5 = .ok (.astore 5, 2) := by decide +kernel
theorem dX6_blow_7 : decode cX6_blow 7 = .ok (.iload_n 2, 1) := by decide +kernel
theorem dX6_blow_8 : decode cX6_blow 8 = .ok (.iconst 4, 1) := by decide +kernel
theorem dX6_blow_9 : decode cX6_blow 9 = .ok (.invokestatic 72, 3) := by decide +kernel
theorem dX6_blow_12 : decode cX6_blow 12 = .ok (.iload_n 3, 1) := by decide +kernel
theorem dX6_blow_13 : decode cX6_blow 13 = .ok (.iconst 1, 1) := by decide +kernel
theorem dX6_blow_14 : decode cX6_blow 14 = .ok (.iconst 4, 1) := by decide +kernel
theorem dX6_blow_15 : decode cX6_blow 15 = .ok (.invokestatic 43, 3) := by decide +kernel
theorem dX6_blow_18 : decode cX6_blow 18 = .ok (.aload 5, 2) := by decide +kernel
theorem dX6_blow_20 : decode cX6_blow 20 = .ok (.iload_n 2, 1) := by decide +kernel
theorem dX6_blow_21 : decode cX6_blow 21 = .ok (.iload 4, 2) := by decide +kernel
theorem dX6_blow_23 : decode cX6_blow 23 = .ok (.invokevirtual 76, 3) := by decide +kernel
theorem dX6_blow_26 : decode cX6_blow 26 = .ok (.invokestatic 51, 3) := by decide +kernel
theorem dX6_blow_29 : decode cX6_blow 29 = .ok (.aload 5, 2) := by decide +kernel
theorem dX6_blow_31 : decode cX6_blow 31 = .ok (.iload_n 2, 1) := by decide +kernel
theorem dX6_blow_32 : decode cX6_blow 32 = .ok (.iload_n 3, 1) := by decide +kernel
theorem dX6_blow_33 : decode cX6_blow 33 = .ok (.iload 4, 2) := by decide +kernel
theorem dX6_blow_35 : decode cX6_blow 35 = .ok (.invokevirtual 80, 3) := by decide +kernel
theorem dX6_blow_38 : decode cX6_blow 38 = .ok (.aload 5, 2) := by decide +kernel
theorem dX6_blow_40 : decode cX6_blow 40 = .ok (.getfield 60, 3) := by decide +kernel
theorem dX6_blow_43 : decode cX6_blow 43 = .ok (.iload_n 2, 1) := by decide +kernel
theorem dX6_blow_44 : decode cX6_blow 44 = .ok (.iaload, 1) := by decide +kernel
theorem dX6_blow_45 : decode cX6_blow 45 = .ok (.ireturn, 1) := by decide +kernel
set_option maxRecDepth 20000 in
theorem ggX6_heat_X6_requireRange : GoodIn wsX6_heat wsX6_requireRange := goodIn_ca (goodIn_r _ [5, 6, 7] (by decide +kernel) (by decide +kernel)) (goodIn_sub (fun _ h => List.mem_cons_of_mem _ (List.mem_append_right _ h)) (by decide +kernel))
set_option maxRecDepth 20000 in
theorem gX6_heat_X6_requireRange : GoodIn wsX6_heat (va_wsS RX6 43 yX6_requireRange wsX6_requireRange) := goodIn_app (goodIn_of _ (by decide +kernel)) ggX6_heat_X6_requireRange
theorem dX6_heat_0 : decode cX6_heat 0 = .ok (.iload_n 1, 1) := by decide +kernel
theorem dX6_heat_1 : decode cX6_heat 1 = .ok (.iconst 0, 1) := by decide +kernel
theorem dX6_heat_2 : decode cX6_heat 2 = .ok (.bipush 15, 2) := by decide +kernel
theorem dX6_heat_4 : decode cX6_heat 4 = .ok (.invokestatic 43, 3) := by decide +kernel
theorem dX6_heat_7 : decode cX6_heat 7 = .ok (.aload_n 0, 1) := by decide +kernel
theorem dX6_heat_8 : decode cX6_heat 8 = .ok (.getfield 84, 3) := by decide +kernel
theorem dX6_heat_11 : decode cX6_heat 11 = .ok (.istore_n 2, 1) := by decide +kernel
theorem dX6_heat_12 : decode cX6_heat 12 = .ok (.aload_n 0, 1) := by decide +kernel
theorem dX6_heat_13 : decode cX6_heat 13 = .ok (.iload_n 1, 1) := by decide +kernel
theorem dX6_heat_14 : decode cX6_heat 14 = .ok (.putfield 84, 3) := by decide +kernel
theorem dX6_heat_17 : decode cX6_heat 17 = .ok (.iload_n 2, 1) := by decide +kernel
theorem dX6_heat_18 : decode cX6_heat 18 = .ok (.ireturn, 1) := by decide +kernel
set_option maxRecDepth 20000 in
theorem ggX6_field_X6_panAt : GoodIn wsX6_field wsX6_panAt := goodIn_ca (goodIn_r _ [9, 10, 11, 12, 13, 14, 15, 16, 17, 18, 19, 8, 20, 21, 22, 23, 24, 25, 26, 27, 28, 29, 30, 31, 32, 33, 34, 35, 36, 37, 38, 39, 56, 57, 58, 59, 60, 61, 62, 63, 64, 65] (by decide +kernel) (by decide +kernel)) (goodIn_sub (fun _ h => List.mem_cons_of_mem _ (List.mem_append_left _ (List.mem_append_right _ h))) (by decide +kernel))
set_option maxRecDepth 20000 in
theorem gX6_field_X6_panAt : GoodIn wsX6_field (wsV RX6 68 RX6 yX6_panAt wsX6_panAt) := goodIn_app (goodIn_of _ (by decide +kernel)) ggX6_field_X6_panAt
set_option maxRecDepth 20000 in
theorem ggX6_field_X6_requireIndex : GoodIn wsX6_field wsX6_requireIndex := goodIn_ca (goodIn_r _ [20, 21, 22] (by decide +kernel) (by decide +kernel)) (goodIn_sub (fun _ h => List.mem_cons_of_mem _ (List.mem_append_left _ (List.mem_append_right _ h))) (by decide +kernel))
set_option maxRecDepth 20000 in
theorem gX6_field_X6_requireIndex : GoodIn wsX6_field (va_wsS RX6 72 yX6_requireIndex wsX6_requireIndex) := goodIn_app (goodIn_of _ (by decide +kernel)) ggX6_field_X6_requireIndex
set_option maxRecDepth 20000 in
theorem ggX6_field_X6_requireRange : GoodIn wsX6_field wsX6_requireRange := goodIn_ca (goodIn_r _ [42, 43, 44] (by decide +kernel) (by decide +kernel)) (goodIn_sub (fun _ h => List.mem_cons_of_mem _ (List.mem_append_right _ h)) (by decide +kernel))
set_option maxRecDepth 20000 in
theorem gX6_field_X6_requireRange : GoodIn wsX6_field (va_wsS RX6 43 yX6_requireRange wsX6_requireRange) := goodIn_app (goodIn_of _ (by decide +kernel)) ggX6_field_X6_requireRange
set_option maxRecDepth 20000 in
theorem ggX6_field_X1_isCracked : GoodIn wsX6_field wsX1_isCracked := goodIn_r _ [49, 50, 51, 52, 53, 54, 55] (by decide +kernel) (by decide +kernel)
set_option maxRecDepth 20000 in
theorem gX6_field_X1_isCracked : GoodIn wsX6_field (wsV RX6 94 RX1 yX1_isCracked wsX1_isCracked) := goodIn_app (goodIn_of _ (by decide +kernel)) ggX6_field_X1_isCracked
theorem dX6_field_0 : decode cX6_field 0 = .ok (.aload_n 0, 1) := by decide +kernel
theorem dX6_field_1 : decode cX6_field 1 = .ok (.iload_n 1, 1) := by decide +kernel
theorem dX6_field_2 : decode cX6_field 2 = .ok (.invokevirtual 68, 3) := by decide +kernel
theorem dX6_field_5 : decode cX6_field 5 = .ok (.astore 4, 2) := by decide +kernel
theorem dX6_field_7 : decode cX6_field 7 = .ok (.iload_n 2, 1) := by decide +kernel
theorem dX6_field_8 : decode cX6_field 8 = .ok (.iconst 4, 1) := by decide +kernel
theorem dX6_field_9 : decode cX6_field 9 = .ok (.invokestatic 72, 3) := by decide +kernel
theorem dX6_field_12 : decode cX6_field 12 = .ok (.iload_n 3, 1) := by decide +kernel
theorem dX6_field_13 : decode cX6_field 13 = .ok (.iconst 0, 1) := by decide +kernel
theorem dX6_field_14 : decode cX6_field 14 = .ok (.iconst 4, 1) := by decide +kernel
theorem dX6_field_15 : decode cX6_field 15 = .ok (.invokestatic 43, 3) := by decide +kernel
theorem dX6_field_18 : decode cX6_field 18 = .ok (.iload_n 3, 1) := by decide +kernel
theorem dX6_field_19 : decode cX6_field 19 = .ok (.tableswitch 74 0 3 #[29, 37, 50, 58], 29) := by decide +kernel
theorem dX6_field_48 : decode cX6_field 48 = .ok (.aload 4, 2) := by decide +kernel
theorem dX6_field_50 : decode cX6_field 50 = .ok (.getfield 60, 3) := by decide +kernel
theorem dX6_field_53 : decode cX6_field 53 = .ok (.iload_n 2, 1) := by decide +kernel
theorem dX6_field_54 : decode cX6_field 54 = .ok (.iaload, 1) := by decide +kernel
theorem dX6_field_55 : decode cX6_field 55 = .ok (.ireturn, 1) := by decide +kernel
theorem dX6_field_56 : decode cX6_field 56 = .ok (.aload 4, 2) := by decide +kernel
theorem dX6_field_58 : decode cX6_field 58 = .ok (.getfield 60, 3) := by decide +kernel
theorem dX6_field_61 : decode cX6_field 61 = .ok (.iload_n 2, 1) := by decide +kernel
theorem dX6_field_62 : decode cX6_field 62 = .ok (.iaload, 1) := by decide +kernel
theorem dX6_field_63 : decode cX6_field 63 = .ok (.aload_n 0, 1) := by decide +kernel
theorem dX6_field_64 : decode cX6_field 64 = .ok (.getfield 84, 3) := by decide +kernel
theorem dX6_field_67 : decode cX6_field 67 = .ok (.isub, 1) := by decide +kernel
theorem dX6_field_68 : decode cX6_field 68 = .ok (.ireturn, 1) := by decide +kernel
theorem dX6_field_69 : decode cX6_field 69 = .ok (.aload 4, 2) := by decide +kernel
theorem dX6_field_71 : decode cX6_field 71 = .ok (.getfield 87, 3) := by decide +kernel
theorem dX6_field_74 : decode cX6_field 74 = .ok (.iload_n 2, 1) := by decide +kernel
theorem dX6_field_75 : decode cX6_field 75 = .ok (.iaload, 1) := by decide +kernel
theorem dX6_field_76 : decode cX6_field 76 = .ok (.ireturn, 1) := by decide +kernel
theorem dX6_field_77 : decode cX6_field 77 = .ok (.aload 4, 2) := by decide +kernel
theorem dX6_field_79 : decode cX6_field 79 = .ok (.getfield 90, 3) := by decide +kernel
theorem dX6_field_82 : decode cX6_field 82 = .ok (.iload_n 2, 1) := by decide +kernel
theorem dX6_field_83 : decode cX6_field 83 = .ok (.baload, 1) := by decide +kernel
theorem dX6_field_84 : decode cX6_field 84 = .ok (.ifCond .eq 7, 3) := by decide +kernel
theorem dX6_field_87 : decode cX6_field 87 = .ok (.iconst 1, 1) := by decide +kernel
theorem dX6_field_88 : decode cX6_field 88 = .ok (.goto 4, 3) := by decide +kernel
theorem dX6_field_91 : decode cX6_field 91 = .ok (.iconst 0, 1) := by decide +kernel
theorem dX6_field_92 : decode cX6_field 92 = .ok (.ireturn, 1) := by decide +kernel
theorem dX6_field_93 : decode cX6_field 93 = .ok (.aload 4, 2) := by decide +kernel
theorem dX6_field_95 : decode cX6_field 95 = .ok (.iload_n 2, 1) := by decide +kernel
theorem dX6_field_96 : decode cX6_field 96 = .ok (.invokevirtual 94, 3) := by decide +kernel
theorem dX6_field_99 : decode cX6_field 99 = .ok (.ifCond .eq 7, 3) := by decide +kernel
theorem dX6_field_102 : decode cX6_field 102 = .ok (.iconst 1, 1) := by decide +kernel
theorem dX6_field_103 : decode cX6_field 103 = .ok (.goto 4, 3) := by decide +kernel
theorem dX6_field_106 : decode cX6_field 106 = .ok (.iconst 0, 1) := by decide +kernel
theorem dX6_field_107 : decode cX6_field 107 = .ok (.ireturn, 1) := by decide +kernel
set_option maxRecDepth 20000 in
theorem ggX6_isInTune_X6_panAt : GoodIn wsX6_isInTune wsX6_panAt := goodIn_ca (goodIn_r _ [6, 7, 8, 9, 10, 11, 12, 13, 14, 15, 16, 5, 17, 18, 19, 20, 21, 22, 23, 24, 25, 26, 27, 28, 29, 30, 31, 32, 33, 34, 35, 36, 52, 53, 54, 55, 56, 57, 58, 59, 60, 61] (by decide +kernel) (by decide +kernel)) (goodIn_sub (fun _ h => List.mem_cons_of_mem _ (List.mem_append_right _ h)) (by decide +kernel))
set_option maxRecDepth 20000 in
theorem gX6_isInTune_X6_panAt : GoodIn wsX6_isInTune (wsV RX6 68 RX6 yX6_panAt wsX6_panAt) := goodIn_app (goodIn_of _ (by decide +kernel)) ggX6_isInTune_X6_panAt
set_option maxRecDepth 20000 in
theorem ggX6_isInTune_X1_isTunable : GoodIn wsX6_isInTune wsX1_isTunable := goodIn_r _ [41, 42, 43, 44, 45, 46, 47, 48, 49, 40, 50, 51, 62, 63, 64, 65, 66] (by decide +kernel) (by decide +kernel)
set_option maxRecDepth 20000 in
theorem gX6_isInTune_X1_isTunable : GoodIn wsX6_isInTune (wsV RX6 98 RX1 yX1_isTunable wsX1_isTunable) := goodIn_app (goodIn_of _ (by decide +kernel)) ggX6_isInTune_X1_isTunable
theorem dX6_isInTune_0 : decode cX6_isInTune 0 = .ok (.aload_n 0, 1) := by decide +kernel
theorem dX6_isInTune_1 : decode cX6_isInTune 1 = .ok (.iload_n 1, 1) := by decide +kernel
theorem dX6_isInTune_2 : decode cX6_isInTune 2 = .ok (.invokevirtual 68, 3) := by decide +kernel
theorem dX6_isInTune_5 : decode cX6_isInTune 5 = .ok (.aload_n 0, 1) := by decide +kernel
theorem dX6_isInTune_6 : decode cX6_isInTune 6 = .ok (.getfield 84, 3) := by decide +kernel
theorem dX6_isInTune_9 : decode cX6_isInTune 9 = .ok (.iconst 0, 1) := by decide +kernel
theorem dX6_isInTune_10 : decode cX6_isInTune 10 = .ok (.invokevirtual 98, 3) := by decide +kernel
theorem dX6_isInTune_13 : decode cX6_isInTune 13 = .ok (.ireturn, 1) := by decide +kernel
set_option maxRecDepth 20000 in
theorem ggX6_plan_X6_panAt : GoodIn wsX6_plan wsX6_panAt := goodIn_ca (goodIn_r _ [8, 9, 10, 11, 12, 13, 14, 15, 16, 17, 18, 7, 19, 20, 21, 22, 23, 24, 25, 26, 27, 28, 29, 30, 31, 32, 33, 34, 35, 36, 37, 38, 85, 86, 87, 88, 89, 90, 91, 94, 95, 96] (by decide +kernel) (by decide +kernel)) (goodIn_sub (fun _ h => List.mem_cons_of_mem _ (List.mem_append_left _ (List.mem_append_right _ h))) (by decide +kernel))
set_option maxRecDepth 20000 in
theorem gX6_plan_X6_panAt : GoodIn wsX6_plan (wsV RX6 68 RX6 yX6_panAt wsX6_panAt) := goodIn_app (goodIn_of _ (by decide +kernel)) ggX6_plan_X6_panAt
set_option maxRecDepth 20000 in
theorem ggX6_plan_X6_requireRange : GoodIn wsX6_plan wsX6_requireRange := goodIn_ca (goodIn_r _ [41, 42, 43] (by decide +kernel) (by decide +kernel)) (goodIn_sub (fun _ h => List.mem_cons_of_mem _ (List.mem_append_right _ h)) (by decide +kernel))
set_option maxRecDepth 20000 in
theorem gX6_plan_X6_requireRange : GoodIn wsX6_plan (va_wsS RX6 43 yX6_requireRange wsX6_requireRange) := goodIn_app (goodIn_of _ (by decide +kernel)) ggX6_plan_X6_requireRange
set_option maxRecDepth 20000 in
theorem ggX6_plan_X3_findRow : GoodIn wsX6_plan wsX3_findRow := goodIn_r _ [48, 49, 50, 51, 52, 47, 53, 54, 55, 56, 57, 58, 59, 60, 61, 62, 63, 64, 65, 66, 67, 68, 69, 70, 12, 13, 14, 15, 16, 71, 23, 24, 25, 26, 27, 28, 29, 30, 31, 32, 33, 34, 35, 36, 37, 38, 72, 73, 74, 75, 76, 77, 78, 79, 80, 81, 82, 83, 84, 92, 93, 97, 98, 99, 100, 101, 94, 95, 96] (by decide +kernel) (by decide +kernel)
set_option maxRecDepth 20000 in
theorem gX6_plan_X3_findRow : GoodIn wsX6_plan (wsV RX6 102 RX3 yX3_findRow wsX3_findRow) := goodIn_app (goodIn_of _ (by decide +kernel)) ggX6_plan_X3_findRow
theorem dX6_plan_0 : decode cX6_plan 0 = .ok (.aload_n 0, 1) := by decide +kernel
theorem dX6_plan_1 : decode cX6_plan 1 = .ok (.iload_n 1, 1) := by decide +kernel
theorem dX6_plan_2 : decode cX6_plan 2 = .ok (.invokevirtual 68, 3) := by decide +kernel
theorem dX6_plan_5 : decode cX6_plan 5 = .ok (.astore_n 3, 1) := by decide +kernel
theorem dX6_plan_6 : decode cX6_plan 6 = .ok (.iload_n 2, 1) := by decide +kernel
theorem dX6_plan_7 : decode cX6_plan 7 = .ok (.iconst 0, 1) := by decide +kernel
theorem dX6_plan_8 : decode cX6_plan 8 = .ok (.iconst 3, 1) := by decide +kernel
theorem dX6_plan_9 : decode cX6_plan 9 = .ok (.invokestatic 43, 3) := by decide +kernel
theorem dX6_plan_12 : decode cX6_plan 12 = .ok (.aload_n 0, 1) := by decide +kernel
theorem dX6_plan_13 : decode cX6_plan 13 = .ok (.getfield 25, 3) := by decide +kernel
theorem dX6_plan_16 : decode cX6_plan 16 = .ok (.aload_n 3, 1) := by decide +kernel
theorem dX6_plan_17 : decode cX6_plan 17 = .ok (.aload_n 0, 1) := by decide +kernel
theorem dX6_plan_18 : decode cX6_plan 18 = .ok (.getfield 84, 3) := by decide +kernel
theorem dX6_plan_21 : decode cX6_plan 21 = .ok (.invokevirtual 102, 3) := by decide +kernel
theorem dX6_plan_24 : decode cX6_plan 24 = .ok (.istore 4, 2) := by decide +kernel
theorem dX6_plan_26 : decode cX6_plan 26 = .ok (.iload_n 2, 1) := by decide +kernel
theorem dX6_plan_27 : decode cX6_plan 27 = .ok (.ifCond .ne 6, 3) := by decide +kernel
theorem dX6_plan_30 : decode cX6_plan 30 = .ok (.iload 4, 2) := by decide +kernel
theorem dX6_plan_32 : decode cX6_plan 32 = .ok (.ireturn, 1) := by decide +kernel
theorem dX6_plan_33 : decode cX6_plan 33 = .ok (.iload_n 2, 1) := by decide +kernel
theorem dX6_plan_34 : decode cX6_plan 34 = .ok (.iload 4, 2) := by decide +kernel
theorem dX6_plan_36 : decode cX6_plan 36 = .ok (.if_icmp .gt 17, 3) := by decide +kernel
theorem dX6_plan_39 : decode cX6_plan 39 = .ok (.aload_n 0, 1) := by decide +kernel
theorem dX6_plan_40 : decode cX6_plan 40 = .ok (.getfield 25, 3) := by decide +kernel
theorem dX6_plan_43 : decode cX6_plan 43 = .ok (.getfield 106, 3) := by decide +kernel
theorem dX6_plan_46 : decode cX6_plan 46 = .ok (.iload_n 2, 1) := by decide +kernel
theorem dX6_plan_47 : decode cX6_plan 47 = .ok (.iconst 1, 1) := by decide +kernel
theorem dX6_plan_48 : decode cX6_plan 48 = .ok (.isub, 1) := by decide +kernel
theorem dX6_plan_49 : decode cX6_plan 49 = .ok (.iaload, 1) := by decide +kernel
theorem dX6_plan_50 : decode cX6_plan 50 = .ok (.goto 4, 3) := by decide +kernel
theorem dX6_plan_53 : decode cX6_plan 53 = .ok (.iconst (-1), 1) := by decide +kernel
theorem dX6_plan_54 : decode cX6_plan 54 = .ok (.ireturn, 1) := by decide +kernel
set_option maxRecDepth 20000 in
theorem ggX6_player_X6_requireRange : GoodIn wsX6_player wsX6_requireRange := goodIn_ca (goodIn_r _ [9, 10, 11] (by decide +kernel) (by decide +kernel)) (goodIn_sub (fun _ h => List.mem_cons_of_mem _ (List.mem_append_left _ (List.mem_append_right _ h))) (by decide +kernel))
set_option maxRecDepth 20000 in
theorem gX6_player_X6_requireRange : GoodIn wsX6_player (va_wsS RX6 43 yX6_requireRange wsX6_requireRange) := goodIn_app (goodIn_of _ (by decide +kernel)) ggX6_player_X6_requireRange
set_option maxRecDepth 20000 in
theorem ggX6_player_Jx4a65c_size_8abf5 : GoodIn wsX6_player wsJx4a65c_size_8abf5 := goodIn_r _ [16, 17, 99, 100, 101] (by decide +kernel) (by decide +kernel)
set_option maxRecDepth 20000 in
theorem gX6_player_Jx4a65c_size_8abf5 : GoodIn wsX6_player (wsV RX6 47 RJx4a65c yJx4a65c_size_8abf5 wsJx4a65c_size_8abf5) := goodIn_app (goodIn_of _ (by decide +kernel)) ggX6_player_Jx4a65c_size_8abf5
set_option maxRecDepth 20000 in
theorem ggX6_player_X6_requireState : GoodIn wsX6_player wsX6_requireState := goodIn_ca (goodIn_r _ [20, 21, 22] (by decide +kernel) (by decide +kernel)) (goodIn_sub (fun _ h => List.mem_cons_of_mem _ (List.mem_append_right _ h)) (by decide +kernel))
set_option maxRecDepth 20000 in
theorem gX6_player_X6_requireState : GoodIn wsX6_player (va_wsS RX6 51 yX6_requireState wsX6_requireState) := goodIn_app (goodIn_of _ (by decide +kernel)) ggX6_player_X6_requireState
set_option maxRecDepth 20000 in
theorem ggX6_player_X4_init : GoodIn wsX6_player wsX4_init := goodIn_r _ [25, 26, 27, 28, 29, 30, 31, 93, 94, 95, 96, 97, 98] (by decide +kernel) (by decide +kernel)
set_option maxRecDepth 20000 in
theorem gX6_player_X4_init : GoodIn wsX6_player (wsX4_init) := ggX6_player_X4_init
set_option maxRecDepth 20000 in
theorem ggX6_player_Jx4a65c_add_9ea2d : GoodIn wsX6_player wsJx4a65c_add_9ea2d := goodIn_r _ [35, 36, 37, 38, 17, 39, 40, 41, 15, 42, 43, 44, 45, 46, 47, 48, 49, 50, 51, 52, 53, 54, 55, 56, 57, 58, 59, 60, 61, 62, 63, 64, 65, 66, 67, 68, 69, 70, 71, 72, 73, 74, 75, 76, 77, 78, 79, 80, 81, 82, 83, 84, 85, 99, 100, 101] (by decide +kernel) (by decide +kernel)
set_option maxRecDepth 20000 in
theorem gX6_player_Jx4a65c_add_9ea2d : GoodIn wsX6_player (wsV RX6 39 RJx4a65c yJx4a65c_add_9ea2d wsJx4a65c_add_9ea2d) := goodIn_app (goodIn_of _ (by decide +kernel)) ggX6_player_Jx4a65c_add_9ea2d
theorem dX6_player_0 : decode cX6_player 0 = .ok (.iload_n 1, 1) := by decide +kernel
theorem dX6_player_1 : decode cX6_player 1 = .ok (.iconst 0, 1) := by decide +kernel
theorem dX6_player_2 : decode cX6_player 2 = .ok (.iconst 1, 1) := by decide +kernel
theorem dX6_player_3 : decode cX6_player 3 = .ok (.invokestatic 43, 3) := by decide +kernel
theorem dX6_player_6 : decode cX6_player 6 = .ok (.aload_n 0, 1) := by decide +kernel
theorem dX6_player_7 : decode cX6_player 7 = .ok (.getfield 16, 3) := by decide +kernel
theorem dX6_player_10 : decode cX6_player 10 = .ok (.invokevirtual 47, 3) := by decide +kernel
theorem dX6_player_13 : decode cX6_player 13 = .ok (.bipush 16, 2) := by decide +kernel
theorem dX6_player_15 : decode cX6_player 15 = .ok (.if_icmp .ge 7, 3) := by decide +kernel
theorem dX6_player_18 : decode cX6_player 18 = .ok (.iconst 1, 1) := by decide +kernel
theorem dX6_player_19 : decode cX6_player 19 = .ok (.goto 4, 3) := by decide +kernel
theorem dX6_player_22 : decode cX6_player 22 = .ok (.iconst 0, 1) := by decide +kernel
theorem dX6_player_23 : decode cX6_player 23 = .ok (.invokestatic 51, 3) := by decide +kernel
theorem dX6_player_26 : decode cX6_player 26 = .ok (.new 109, 3) := by decide +kernel
theorem dX6_player_29 : decode cX6_player 29 = .ok (.dup, 1) := by decide +kernel
theorem dX6_player_30 : decode cX6_player 30 = .ok (.aload_n 0, 1) := by decide +kernel
theorem dX6_player_31 : decode cX6_player 31 = .ok (.getfield 16, 3) := by decide +kernel
theorem dX6_player_34 : decode cX6_player 34 = .ok (.invokevirtual 47, 3) := by decide +kernel
theorem dX6_player_37 : decode cX6_player 37 = .ok (.iload_n 1, 1) := by decide +kernel
theorem dX6_player_38 : decode cX6_player 38 = .ok (.invokespecial 111, 3) := by decide +kernel
theorem dX6_player_41 : decode cX6_player 41 = .ok (.astore_n 2, 1) := by decide +kernel
theorem dX6_player_42 : decode cX6_player 42 = .ok (.aload_n 0, 1) := by decide +kernel
theorem dX6_player_43 : decode cX6_player 43 = .ok (.getfield 16, 3) := by decide +kernel
theorem dX6_player_46 : decode cX6_player 46 = .ok (.aload_n 2, 1) := by decide +kernel
theorem dX6_player_47 : decode cX6_player 47 = .ok (.invokevirtual 39, 3) := by decide +kernel
theorem dX6_player_50 : decode cX6_player 50 = .ok (.pop, 1) := by decide +kernel
theorem dX6_player_51 : decode cX6_player 51 = .ok (.aload_n 2, 1) := by decide +kernel
theorem dX6_player_52 : decode cX6_player 52 = .ok (.getfield 113, 3) := by decide +kernel
theorem dX6_player_55 : decode cX6_player 55 = .ok (.ireturn, 1) := by decide +kernel
set_option maxRecDepth 20000 in
theorem ggX6_join_X6_playerAt : GoodIn wsX6_join wsX6_playerAt := goodIn_ca (goodIn_r _ [10, 11, 12, 13, 14, 15, 16, 17, 18, 19, 20, 9, 21, 22, 23, 24, 25, 26, 27, 28, 29, 30, 31, 32, 33, 34, 35, 36, 37, 38, 39, 40, 151, 152, 153, 154, 155, 156, 157, 158, 159, 160] (by decide +kernel) (by decide +kernel)) (goodIn_sub (fun _ h => List.mem_cons_of_mem _ (List.mem_append_left _ (List.mem_append_right _ h))) (by decide +kernel))
set_option maxRecDepth 20000 in
theorem gX6_join_X6_playerAt : GoodIn wsX6_join (wsV RX6 114 RX6 yX6_playerAt wsX6_playerAt) := goodIn_app (goodIn_of _ (by decide +kernel)) ggX6_join_X6_playerAt
set_option maxRecDepth 20000 in
theorem ggX6_join_X6_bandAt : GoodIn wsX6_join wsX6_bandAt := goodIn_ca (goodIn_r _ [44, 45, 46, 13, 14, 15, 16, 17, 18, 19, 20, 9, 21, 22, 23, 24, 25, 26, 27, 28, 29, 30, 31, 32, 33, 34, 35, 36, 37, 38, 39, 40, 151, 152, 153, 154, 155, 156, 157, 158, 159, 160] (by decide +kernel) (by decide +kernel)) (goodIn_sub (fun _ h => List.mem_cons_of_mem _ (List.mem_append_left _ (List.mem_append_right _ h))) (by decide +kernel))
set_option maxRecDepth 20000 in
theorem gX6_join_X6_bandAt : GoodIn wsX6_join (wsV RX6 118 RX6 yX6_bandAt wsX6_bandAt) := goodIn_app (goodIn_of _ (by decide +kernel)) ggX6_join_X6_bandAt
set_option maxRecDepth 20000 in
theorem ggX6_join_X0_seatOf : GoodIn wsX6_join wsX0_seatOf := goodIn_r _ [51, 52, 53, 54, 55, 14, 15, 16, 17, 18, 56, 25, 26, 27, 28, 29, 30, 31, 32, 33, 34, 35, 36, 37, 38, 39, 40, 142, 143, 144, 145, 146, 147, 148, 149, 150, 158, 159, 160] (by decide +kernel) (by decide +kernel)
set_option maxRecDepth 20000 in
theorem gX6_join_X0_seatOf : GoodIn wsX6_join (wsV RX6 122 RX0 yX0_seatOf wsX0_seatOf) := goodIn_app (goodIn_of _ (by decide +kernel)) ggX6_join_X0_seatOf
set_option maxRecDepth 20000 in
theorem ggX6_join_X6_requireState : GoodIn wsX6_join wsX6_requireState := goodIn_ca (goodIn_r _ [59, 60, 61] (by decide +kernel) (by decide +kernel)) (goodIn_sub (fun _ h => List.mem_cons_of_mem _ (List.mem_append_right _ h)) (by decide +kernel))
set_option maxRecDepth 20000 in
theorem gX6_join_X6_requireState : GoodIn wsX6_join (va_wsS RX6 51 yX6_requireState wsX6_requireState) := goodIn_app (goodIn_of _ (by decide +kernel)) ggX6_join_X6_requireState
set_option maxRecDepth 20000 in
theorem ggX6_join_Jx4a65c_size_8abf5 : GoodIn wsX6_join wsJx4a65c_size_8abf5 := goodIn_r _ [17, 18, 158, 159, 160] (by decide +kernel) (by decide +kernel)
set_option maxRecDepth 20000 in
theorem gX6_join_Jx4a65c_size_8abf5 : GoodIn wsX6_join (wsV RX6 47 RJx4a65c yJx4a65c_size_8abf5 wsJx4a65c_size_8abf5) := goodIn_app (goodIn_of _ (by decide +kernel)) ggX6_join_Jx4a65c_size_8abf5
set_option maxRecDepth 20000 in
theorem ggX6_join_X6_seasonNow : GoodIn wsX6_join wsX6_seasonNow := goodIn_r _ [65, 66, 151, 152, 153, 154, 155, 156, 157] (by decide +kernel) (by decide +kernel)
set_option maxRecDepth 20000 in
theorem gX6_join_X6_seasonNow : GoodIn wsX6_join (wsV RX6 132 RX6 yX6_seasonNow wsX6_seasonNow) := goodIn_app (goodIn_of _ (by decide +kernel)) ggX6_join_X6_seasonNow
set_option maxRecDepth 20000 in
theorem ggX6_join_X4_mayJoin : GoodIn wsX6_join wsX4_mayJoin := goodIn_r _ [71, 72, 73, 136, 137, 138, 139, 140, 141] (by decide +kernel) (by decide +kernel)
set_option maxRecDepth 20000 in
theorem gX6_join_X4_mayJoin : GoodIn wsX6_join (wsV RX6 135 RX4 yX4_mayJoin wsX4_mayJoin) := goodIn_app (goodIn_of _ (by decide +kernel)) ggX6_join_X4_mayJoin
set_option maxRecDepth 20000 in
theorem ggX6_join_X5_init : GoodIn wsX6_join wsX5_init := goodIn_r _ [76, 77, 78, 79, 80, 81, 82, 149, 150] (by decide +kernel) (by decide +kernel)
set_option maxRecDepth 20000 in
theorem gX6_join_X5_init : GoodIn wsX6_join (wsX5_init) := ggX6_join_X5_init
set_option maxRecDepth 20000 in
theorem ggX6_join_Jx4a65c_add_9ea2d : GoodIn wsX6_join wsJx4a65c_add_9ea2d := goodIn_r _ [86, 87, 88, 40, 18, 89, 90, 91, 16, 92, 93, 94, 95, 96, 97, 98, 99, 100, 101, 102, 103, 104, 105, 106, 107, 108, 109, 110, 111, 112, 113, 114, 115, 116, 117, 118, 119, 120, 121, 122, 123, 124, 125, 126, 127, 128, 129, 130, 131, 132, 133, 134, 135, 158, 159, 160] (by decide +kernel) (by decide +kernel)
set_option maxRecDepth 20000 in
theorem gX6_join_Jx4a65c_add_9ea2d : GoodIn wsX6_join (wsV RX6 39 RJx4a65c yJx4a65c_add_9ea2d wsJx4a65c_add_9ea2d) := goodIn_app (goodIn_of _ (by decide +kernel)) ggX6_join_Jx4a65c_add_9ea2d
theorem dX6_join_0 : decode cX6_join 0 = .ok (.aload_n 0, 1) := by decide +kernel
theorem dX6_join_1 : decode cX6_join 1 = .ok (.iload_n 1, 1) := by decide +kernel
theorem dX6_join_2 : decode cX6_join 2 = .ok (.invokevirtual 114, 3) := by decide +kernel
theorem dX6_join_5 : decode cX6_join 5 = .ok (.astore_n 3, 1) := by decide +kernel
theorem dX6_join_6 : decode cX6_join 6 = .ok (.aload_n 0, 1) := by decide +kernel
theorem dX6_join_7 : decode cX6_join 7 = .ok (.iload_n 2, 1) := by decide +kernel
theorem dX6_join_8 : decode cX6_join 8 = .ok (.invokevirtual 118, 3) := by decide +kernel
theorem dX6_join_11 : decode cX6_join 11 = .ok (.astore 4, 2) := by decide +kernel
theorem dX6_join_13 : decode cX6_join 13 = .ok (.aload 4, 2) := by decide +kernel
theorem dX6_join_15 : decode cX6_join 15 = .ok (.aload_n 3, 1) := by decide +kernel
theorem dX6_join_16 : decode cX6_join 16 = .ok (.invokevirtual 122, 3) := by decide +kernel
theorem dX6_join_19 : decode cX6_join 19 = .ok (.iconst (-1), 1) := by decide +kernel
theorem dX6_join_20 : decode cX6_join 20 = .ok (.if_icmp .ne 15, 3) := by decide +kernel
theorem dX6_join_23 : decode cX6_join 23 = .ok (.aload_n 3, 1) := by decide +kernel
theorem dX6_join_24 : decode cX6_join 24 = .ok (.getfield 126, 3) := by decide +kernel
theorem dX6_join_27 : decode cX6_join 27 = .ok (.iconst 2, 1) := by decide +kernel
theorem dX6_join_28 : decode cX6_join 28 = .ok (.if_icmp .ge 7, 3) := by decide +kernel
theorem dX6_join_31 : decode cX6_join 31 = .ok (.iconst 1, 1) := by decide +kernel
theorem dX6_join_32 : decode cX6_join 32 = .ok (.goto 4, 3) := by decide +kernel
theorem dX6_join_35 : decode cX6_join 35 = .ok (.iconst 0, 1) := by decide +kernel
theorem dX6_join_36 : decode cX6_join 36 = .ok (.invokestatic 51, 3) := by decide +kernel
theorem dX6_join_39 : decode cX6_join 39 = .ok (.aload 4, 2) := by decide +kernel
theorem dX6_join_41 : decode cX6_join 41 = .ok (.getfield 129, 3) := by decide +kernel
theorem dX6_join_44 : decode cX6_join 44 = .ok (.invokevirtual 47, 3) := by decide +kernel
theorem dX6_join_47 : decode cX6_join 47 = .ok (.bipush 8, 2) := by decide +kernel
theorem dX6_join_49 : decode cX6_join 49 = .ok (.if_icmp .ge 7, 3) := by decide +kernel
theorem dX6_join_52 : decode cX6_join 52 = .ok (.iconst 1, 1) := by decide +kernel
theorem dX6_join_53 : decode cX6_join 53 = .ok (.goto 4, 3) := by decide +kernel
theorem dX6_join_56 : decode cX6_join 56 = .ok (.iconst 0, 1) := by decide +kernel
theorem dX6_join_57 : decode cX6_join 57 = .ok (.invokestatic 51, 3) := by decide +kernel
theorem dX6_join_60 : decode cX6_join 60 = .ok (.aload_n 3, 1) := by decide +kernel
theorem dX6_join_61 : decode cX6_join 61 = .ok (.iload_n 2, 1) := by decide +kernel
theorem dX6_join_62 : decode cX6_join 62 = .ok (.aload_n 0, 1) := by decide +kernel
theorem dX6_join_63 : decode cX6_join 63 = .ok (.invokevirtual 132, 3) := by decide +kernel
theorem dX6_join_66 : decode cX6_join 66 = .ok (.invokevirtual 135, 3) := by decide +kernel
theorem dX6_join_69 : decode cX6_join 69 = .ok (.invokestatic 51, 3) := by decide +kernel
theorem dX6_join_72 : decode cX6_join 72 = .ok (.aload 4, 2) := by decide +kernel
theorem dX6_join_74 : decode cX6_join 74 = .ok (.getfield 129, 3) := by decide +kernel
theorem dX6_join_77 : decode cX6_join 77 = .ok (.new 138, 3) := by decide +kernel
theorem dX6_join_80 : decode cX6_join 80 = .ok (.dup, 1) := by decide +kernel
theorem dX6_join_81 : decode cX6_join 81 = .ok (.aload_n 3, 1) := by decide +kernel
theorem dX6_join_82 : decode cX6_join 82 = .ok (.invokespecial 140, 3) := by decide +kernel
theorem dX6_join_85 : decode cX6_join 85 = .ok (.invokevirtual 39, 3) := by decide +kernel
theorem dX6_join_88 : decode cX6_join 88 = .ok (.pop, 1) := by decide +kernel
theorem dX6_join_89 : decode cX6_join 89 = .ok (.aload_n 3, 1) := by decide +kernel
theorem dX6_join_90 : decode cX6_join 90 = .ok (.dup, 1) := by decide +kernel
theorem dX6_join_91 : decode cX6_join 91 = .ok (.getfield 126, 3) := by decide +kernel
theorem dX6_join_94 : decode cX6_join 94 = .ok (.iconst 1, 1) := by decide +kernel
theorem dX6_join_95 : decode cX6_join 95 = .ok (.iadd, 1) := by decide +kernel
theorem dX6_join_96 : decode cX6_join 96 = .ok (.putfield 126, 3) := by decide +kernel
theorem dX6_join_99 : decode cX6_join 99 = .ok (.aload 4, 2) := by decide +kernel
theorem dX6_join_101 : decode cX6_join 101 = .ok (.getfield 129, 3) := by decide +kernel
theorem dX6_join_104 : decode cX6_join 104 = .ok (.invokevirtual 47, 3) := by decide +kernel
theorem dX6_join_107 : decode cX6_join 107 = .ok (.iconst 1, 1) := by decide +kernel
theorem dX6_join_108 : decode cX6_join 108 = .ok (.isub, 1) := by decide +kernel
theorem dX6_join_109 : decode cX6_join 109 = .ok (.ireturn, 1) := by decide +kernel
set_option maxRecDepth 20000 in
theorem ggX6_leave_X6_playerAt : GoodIn wsX6_leave wsX6_playerAt := goodIn_ca (goodIn_r _ [9, 10, 11, 12, 13, 14, 15, 16, 17, 18, 19, 8, 20, 21, 22, 23, 24, 25, 26, 27, 28, 29, 30, 31, 32, 33, 34, 35, 36, 37, 38, 39, 93, 94, 95, 96, 97, 98, 99, 100, 101, 102] (by decide +kernel) (by decide +kernel)) (goodIn_sub (fun _ h => List.mem_cons_of_mem _ (List.mem_append_left _ (List.mem_append_right _ h))) (by decide +kernel))
set_option maxRecDepth 20000 in
theorem gX6_leave_X6_playerAt : GoodIn wsX6_leave (wsV RX6 114 RX6 yX6_playerAt wsX6_playerAt) := goodIn_app (goodIn_of _ (by decide +kernel)) ggX6_leave_X6_playerAt
set_option maxRecDepth 20000 in
theorem ggX6_leave_X6_bandAt : GoodIn wsX6_leave wsX6_bandAt := goodIn_ca (goodIn_r _ [43, 44, 45, 12, 13, 14, 15, 16, 17, 18, 19, 8, 20, 21, 22, 23, 24, 25, 26, 27, 28, 29, 30, 31, 32, 33, 34, 35, 36, 37, 38, 39, 93, 94, 95, 96, 97, 98, 99, 100, 101, 102] (by decide +kernel) (by decide +kernel)) (goodIn_sub (fun _ h => List.mem_cons_of_mem _ (List.mem_append_left _ (List.mem_append_right _ h))) (by decide +kernel))
set_option maxRecDepth 20000 in
theorem gX6_leave_X6_bandAt : GoodIn wsX6_leave (wsV RX6 118 RX6 yX6_bandAt wsX6_bandAt) := goodIn_app (goodIn_of _ (by decide +kernel)) ggX6_leave_X6_bandAt
set_option maxRecDepth 20000 in
theorem ggX6_leave_X0_seatOf : GoodIn wsX6_leave wsX0_seatOf := goodIn_r _ [50, 51, 52, 53, 54, 13, 14, 15, 16, 17, 55, 24, 25, 26, 27, 28, 29, 30, 31, 32, 33, 34, 35, 36, 37, 38, 39, 80, 81, 82, 83, 84, 85, 86, 103, 104, 100, 101, 102] (by decide +kernel) (by decide +kernel)
set_option maxRecDepth 20000 in
theorem gX6_leave_X0_seatOf : GoodIn wsX6_leave (wsV RX6 122 RX0 yX0_seatOf wsX0_seatOf) := goodIn_app (goodIn_of _ (by decide +kernel)) ggX6_leave_X0_seatOf
set_option maxRecDepth 20000 in
theorem ggX6_leave_Jx4a65c_size_8abf5 : GoodIn wsX6_leave wsJx4a65c_size_8abf5 := goodIn_r _ [16, 17, 100, 101, 102] (by decide +kernel) (by decide +kernel)
set_option maxRecDepth 20000 in
theorem gX6_leave_Jx4a65c_size_8abf5 : GoodIn wsX6_leave (wsV RX6 47 RJx4a65c yJx4a65c_size_8abf5 wsJx4a65c_size_8abf5) := goodIn_app (goodIn_of _ (by decide +kernel)) ggX6_leave_Jx4a65c_size_8abf5
set_option maxRecDepth 20000 in
theorem ggX6_leave_X6_requireState : GoodIn wsX6_leave wsX6_requireState := goodIn_ca (goodIn_r _ [58, 59, 60] (by decide +kernel) (by decide +kernel)) (goodIn_sub (fun _ h => List.mem_cons_of_mem _ (List.mem_append_right _ h)) (by decide +kernel))
set_option maxRecDepth 20000 in
theorem gX6_leave_X6_requireState : GoodIn wsX6_leave (va_wsS RX6 51 yX6_requireState wsX6_requireState) := goodIn_app (goodIn_of _ (by decide +kernel)) ggX6_leave_X6_requireState
set_option maxRecDepth 20000 in
theorem ggX6_leave_Jx4a65c_remove_915e3 : GoodIn wsX6_leave wsJx4a65c_remove_915e3 := goodIn_r _ [64, 17, 39, 27, 28, 29, 30, 31, 32, 33, 34, 65, 66, 67, 15, 68, 69, 70, 71, 72, 73, 74, 100, 101, 102] (by decide +kernel) (by decide +kernel)
set_option maxRecDepth 20000 in
theorem gX6_leave_Jx4a65c_remove_915e3 : GoodIn wsX6_leave (wsV RX6 143 RJx4a65c yJx4a65c_remove_915e3 wsJx4a65c_remove_915e3) := goodIn_app (goodIn_of _ (by decide +kernel)) ggX6_leave_Jx4a65c_remove_915e3
set_option maxRecDepth 20000 in
theorem ggX6_leave_X6_seasonNow : GoodIn wsX6_leave wsX6_seasonNow := goodIn_r _ [78, 79, 93, 94, 95, 96, 97, 98, 99] (by decide +kernel) (by decide +kernel)
set_option maxRecDepth 20000 in
theorem gX6_leave_X6_seasonNow : GoodIn wsX6_leave (wsV RX6 132 RX6 yX6_seasonNow wsX6_seasonNow) := goodIn_app (goodIn_of _ (by decide +kernel)) ggX6_leave_X6_seasonNow
theorem dX6_leave_0 : decode cX6_leave 0 = .ok (.aload_n 0, 1) := by decide +kernel
theorem dX6_leave_1 : decode cX6_leave 1 = .ok (.iload_n 1, 1) := by decide +kernel
theorem dX6_leave_2 : decode cX6_leave 2 = .ok (.invokevirtual 114, 3) := by decide +kernel
theorem dX6_leave_5 : decode cX6_leave 5 = .ok (.astore_n 3, 1) := by decide +kernel
theorem dX6_leave_6 : decode cX6_leave 6 = .ok (.aload_n 0, 1) := by decide +kernel
theorem dX6_leave_7 : decode cX6_leave 7 = .ok (.iload_n 2, 1) := by decide +kernel
theorem dX6_leave_8 : decode cX6_leave 8 = .ok (.invokevirtual 118, 3) := by decide +kernel
theorem dX6_leave_11 : decode cX6_leave 11 = .ok (.astore 4, 2) := by decide +kernel
theorem dX6_leave_13 : decode cX6_leave 13 = .ok (.aload 4, 2) := by decide +kernel
theorem dX6_leave_15 : decode cX6_leave 15 = .ok (.aload_n 3, 1) := by decide +kernel
theorem dX6_leave_16 : decode cX6_leave 16 = .ok (.invokevirtual 122, 3) := by decide +kernel
theorem dX6_leave_19 : decode cX6_leave 19 = .ok (.istore 5, 2) := by decide +kernel
theorem dX6_leave_21 : decode cX6_leave 21 = .ok (.iload 5, 2) := by decide +kernel
theorem dX6_leave_23 : decode cX6_leave 23 = .ok (.ifCond .lt 20, 3) := by decide +kernel
theorem dX6_leave_26 : decode cX6_leave 26 = .ok (.iload 5, 2) := by decide +kernel
theorem dX6_leave_28 : decode cX6_leave 28 = .ok (.aload 4, 2) := by decide +kernel
theorem dX6_leave_30 : decode cX6_leave 30 = .ok (.getfield 129, 3) := by decide +kernel
theorem dX6_leave_33 : decode cX6_leave 33 = .ok (.invokevirtual 47, 3) := by decide +kernel
theorem dX6_leave_36 : decode cX6_leave 36 = .ok (.if_icmp .ge 7, 3) := by decide +kernel
theorem dX6_leave_39 : decode cX6_leave 39 = .ok (.iconst 1, 1) := by decide +kernel
theorem dX6_leave_40 : decode cX6_leave 40 = .ok (.goto 4, 3) := by decide +kernel
theorem dX6_leave_43 : decode cX6_leave 43 = .ok (.iconst 0, 1) := by decide +kernel
theorem dX6_leave_44 : decode cX6_leave 44 = .ok (.invokestatic 51, 3) := by decide +kernel
theorem dX6_leave_47 : decode cX6_leave 47 = .ok (.aload 4, 2) := by decide +kernel
theorem dX6_leave_49 : decode cX6_leave 49 = .ok (.getfield 129, 3) := by decide +kernel
theorem dX6_leave_52 : decode cX6_leave 52 = .ok (.iload 5, 2) := by decide +kernel
theorem dX6_leave_54 : decode cX6_leave 54 = .ok (.invokevirtual 143, 3) := by decide +kernel
theorem dX6_leave_57 : decode cX6_leave 57 = .ok (.pop, 1) := by decide +kernel
theorem dX6_leave_58 : decode cX6_leave 58 = .ok (.aload_n 3, 1) := by decide +kernel
theorem dX6_leave_59 : decode cX6_leave 59 = .ok (.dup, 1) := by decide +kernel
theorem dX6_leave_60 : decode cX6_leave 60 = .ok (.getfield 126, 3) := by decide +kernel
theorem dX6_leave_63 : decode cX6_leave 63 = .ok (.iconst 1, 1) := by decide +kernel
theorem dX6_leave_64 : decode cX6_leave 64 = .ok (.isub, 1) := by decide +kernel
theorem dX6_leave_65 : decode cX6_leave 65 = .ok (.putfield 126, 3) := by decide +kernel
theorem dX6_leave_68 : decode cX6_leave 68 = .ok (.aload_n 3, 1) := by decide +kernel
theorem dX6_leave_69 : decode cX6_leave 69 = .ok (.iload_n 2, 1) := by decide +kernel
theorem dX6_leave_70 : decode cX6_leave 70 = .ok (.putfield 147, 3) := by decide +kernel
theorem dX6_leave_73 : decode cX6_leave 73 = .ok (.aload_n 3, 1) := by decide +kernel
theorem dX6_leave_74 : decode cX6_leave 74 = .ok (.aload_n 0, 1) := by decide +kernel
theorem dX6_leave_75 : decode cX6_leave 75 = .ok (.invokevirtual 132, 3) := by decide +kernel
theorem dX6_leave_78 : decode cX6_leave 78 = .ok (.putfield 150, 3) := by decide +kernel
theorem dX6_leave_81 : decode cX6_leave 81 = .ok (.aload 4, 2) := by decide +kernel
theorem dX6_leave_83 : decode cX6_leave 83 = .ok (.getfield 129, 3) := by decide +kernel
theorem dX6_leave_86 : decode cX6_leave 86 = .ok (.invokevirtual 47, 3) := by decide +kernel
theorem dX6_leave_89 : decode cX6_leave 89 = .ok (.ireturn, 1) := by decide +kernel
set_option maxRecDepth 20000 in
theorem ggX6_give_X6_playerAt : GoodIn wsX6_give wsX6_playerAt := goodIn_ca (goodIn_r _ [7, 8, 9, 10, 11, 12, 13, 14, 15, 16, 17, 6, 18, 19, 20, 21, 22, 23, 24, 25, 26, 27, 28, 29, 30, 31, 32, 33, 34, 35, 36, 37, 60, 61, 62, 63, 64, 65, 66, 67, 68, 69] (by decide +kernel) (by decide +kernel)) (goodIn_sub (fun _ h => List.mem_cons_of_mem _ (List.mem_append_left _ (List.mem_append_right _ h))) (by decide +kernel))
set_option maxRecDepth 20000 in
theorem gX6_give_X6_playerAt : GoodIn wsX6_give (wsV RX6 114 RX6 yX6_playerAt wsX6_playerAt) := goodIn_app (goodIn_of _ (by decide +kernel)) ggX6_give_X6_playerAt
set_option maxRecDepth 20000 in
theorem ggX6_give_X6_panAt : GoodIn wsX6_give wsX6_panAt := goodIn_ca (goodIn_r _ [41, 42, 43, 10, 11, 12, 13, 14, 15, 16, 17, 6, 18, 19, 20, 21, 22, 23, 24, 25, 26, 27, 28, 29, 30, 31, 32, 33, 34, 35, 36, 37, 60, 61, 62, 63, 64, 65, 66, 67, 68, 69] (by decide +kernel) (by decide +kernel)) (goodIn_sub (fun _ h => List.mem_cons_of_mem _ (List.mem_append_left _ (List.mem_append_right _ h))) (by decide +kernel))
set_option maxRecDepth 20000 in
theorem gX6_give_X6_panAt : GoodIn wsX6_give (wsV RX6 68 RX6 yX6_panAt wsX6_panAt) := goodIn_app (goodIn_of _ (by decide +kernel)) ggX6_give_X6_panAt
set_option maxRecDepth 20000 in
theorem ggX6_give_X6_requireState : GoodIn wsX6_give wsX6_requireState := goodIn_ca (goodIn_r _ [46, 47, 48] (by decide +kernel) (by decide +kernel)) (goodIn_sub (fun _ h => List.mem_cons_of_mem _ (List.mem_append_right _ h)) (by decide +kernel))
set_option maxRecDepth 20000 in
theorem gX6_give_X6_requireState : GoodIn wsX6_give (va_wsS RX6 51 yX6_requireState wsX6_requireState) := goodIn_app (goodIn_of _ (by decide +kernel)) ggX6_give_X6_requireState
theorem dX6_give_0 : decode cX6_give 0 = .ok (.aload_n 0, 1) := by decide +kernel
theorem dX6_give_1 : decode cX6_give 1 = .ok (.iload_n 1, 1) := by decide +kernel
theorem dX6_give_2 : decode cX6_give 2 = .ok (.invokevirtual 114, 3) := by decide +kernel
theorem dX6_give_5 : decode cX6_give 5 = .ok (.astore_n 3, 1) := by decide +kernel
theorem dX6_give_6 : decode cX6_give 6 = .ok (.aload_n 0, 1) := by decide +kernel
theorem dX6_give_7 : decode cX6_give 7 = .ok (.iload_n 2, 1) := by decide +kernel
theorem dX6_give_8 : decode cX6_give 8 = .ok (.invokevirtual 68, 3) := by decide +kernel
theorem dX6_give_11 : decode cX6_give 11 = .ok (.astore 4, 2) := by decide +kernel
theorem dX6_give_13 : decode cX6_give 13 = .ok (.aload_n 3, 1) := by decide +kernel
theorem dX6_give_14 : decode cX6_give 14 = .ok (.getfield 153, 3) := by decide +kernel
theorem dX6_give_17 : decode cX6_give 17 = .ok (.ifnonnull 15, 3) := by decide +kernel
theorem dX6_give_20 : decode cX6_give 20 = .ok (.aload 4, 2) := by decide +kernel
theorem dX6_give_22 : decode cX6_give 22 = .ok (.getfield 157, 3) := by decide +kernel
theorem dX6_give_25 : decode cX6_give 25 = .ok (.ifCond .ne 7, 3) := by decide +kernel
theorem dX6_give_28 : decode cX6_give 28 = .ok (.iconst 1, 1) := by decide +kernel
theorem dX6_give_29 : decode cX6_give 29 = .ok (.goto 4, 3) := by decide +kernel
theorem dX6_give_32 : decode cX6_give 32 = .ok (.iconst 0, 1) := by decide +kernel
theorem dX6_give_33 : decode cX6_give 33 = .ok (.invokestatic 51, 3) := by decide +kernel
theorem dX6_give_36 : decode cX6_give 36 = .ok (.aload_n 3, 1) := by decide +kernel
theorem dX6_give_37 : decode cX6_give 37 = .ok (.aload 4, 2) := by decide +kernel
theorem dX6_give_39 : decode cX6_give 39 = .ok (.putfield 153, 3) := by decide +kernel
theorem dX6_give_42 : decode cX6_give 42 = .ok (.aload 4, 2) := by decide +kernel
theorem dX6_give_44 : decode cX6_give 44 = .ok (.iconst 1, 1) := by decide +kernel
theorem dX6_give_45 : decode cX6_give 45 = .ok (.putfield 157, 3) := by decide +kernel
theorem dX6_give_48 : decode cX6_give 48 = .ok (.return_, 1) := by decide +kernel
set_option maxRecDepth 20000 in
theorem ggX6_takeBack_X6_playerAt : GoodIn wsX6_takeBack wsX6_playerAt := goodIn_ca (goodIn_r _ [10, 11, 12, 13, 14, 15, 16, 17, 18, 19, 20, 9, 21, 22, 23, 24, 25, 26, 27, 28, 29, 30, 31, 32, 33, 34, 35, 36, 37, 38, 39, 40, 52, 53, 54, 55, 56, 57, 58, 59, 60, 61] (by decide +kernel) (by decide +kernel)) (goodIn_sub (fun _ h => List.mem_cons_of_mem _ (List.mem_append_right _ h)) (by decide +kernel))
set_option maxRecDepth 20000 in
theorem gX6_takeBack_X6_playerAt : GoodIn wsX6_takeBack (wsV RX6 114 RX6 yX6_playerAt wsX6_playerAt) := goodIn_app (goodIn_of _ (by decide +kernel)) ggX6_takeBack_X6_playerAt
theorem dX6_takeBack_0 : decode cX6_takeBack 0 = .ok (.aload_n 0, 1) := by decide +kernel
theorem dX6_takeBack_1 : decode cX6_takeBack 1 = .ok (.iload_n 1, 1) := by decide +kernel
theorem dX6_takeBack_2 : decode cX6_takeBack 2 = .ok (.invokevirtual 114, 3) := by decide +kernel
theorem dX6_takeBack_5 : decode cX6_takeBack 5 = .ok (.astore_n 2, 1) := by decide +kernel
theorem dX6_takeBack_6 : decode cX6_takeBack 6 = .ok (.aload_n 2, 1) := by decide +kernel
theorem dX6_takeBack_7 : decode cX6_takeBack 7 = .ok (.getfield 153, 3) := by decide +kernel
theorem dX6_takeBack_10 : decode cX6_takeBack 10 = .ok (.astore_n 3, 1) := by decide +kernel
theorem dX6_takeBack_11 : decode cX6_takeBack 11 = .ok (.aload_n 3, 1) := by decide +kernel
theorem dX6_takeBack_12 : decode cX6_takeBack 12 = .ok (.ifnonnull 13, 3) := by decide +kernel
theorem dX6_takeBack_15 : decode cX6_takeBack 15 = .ok (.new 161, 3) := by decide +kernel
theorem dX6_takeBack_18 : decode cX6_takeBack 18 = .ok (.dup, 1) := by decide +kernel
theorem dX6_takeBack_19 : decode cX6_takeBack 19 = .ok (.ldc 163, 2) := by decide +kernel
theorem dX6_takeBack_21 : decode cX6_takeBack 21 = .ok (.invokespecial 165, 3) := by decide +kernel
theorem dX6_takeBack_24 : decode cX6_takeBack 24 = .ok (.athrow, 1) := by decide +kernel
theorem dX6_takeBack_25 : decode cX6_takeBack 25 = .ok (.aload_n 2, 1) := by decide +kernel
theorem dX6_takeBack_26 : decode cX6_takeBack 26 = .ok (.aconst_null, 1) := by decide +kernel
theorem dX6_takeBack_27 : decode cX6_takeBack 27 = .ok (.putfield 153, 3) := by decide +kernel
theorem dX6_takeBack_30 : decode cX6_takeBack 30 = .ok (.aload_n 3, 1) := by decide +kernel
theorem dX6_takeBack_31 : decode cX6_takeBack 31 = .ok (.iconst 0, 1) := by decide +kernel
theorem dX6_takeBack_32 : decode cX6_takeBack 32 = .ok (.putfield 157, 3) := by decide +kernel
theorem dX6_takeBack_35 : decode cX6_takeBack 35 = .ok (.aload_n 3, 1) := by decide +kernel
theorem dX6_takeBack_36 : decode cX6_takeBack 36 = .ok (.getfield 64, 3) := by decide +kernel
theorem dX6_takeBack_39 : decode cX6_takeBack 39 = .ok (.ireturn, 1) := by decide +kernel
set_option maxRecDepth 20000 in
theorem ggX6_ofPlayer_X6_playerAt : GoodIn wsX6_ofPlayer wsX6_playerAt := goodIn_ca (goodIn_r _ [9, 10, 11, 12, 13, 14, 15, 16, 17, 18, 19, 8, 20, 21, 22, 23, 24, 25, 26, 27, 28, 29, 30, 31, 32, 33, 34, 35, 36, 37, 38, 39, 56, 57, 58, 59, 60, 61, 62, 63, 64, 65] (by decide +kernel) (by decide +kernel)) (goodIn_sub (fun _ h => List.mem_cons_of_mem _ (List.mem_append_left _ (List.mem_append_right _ h))) (by decide +kernel))
set_option maxRecDepth 20000 in
theorem gX6_ofPlayer_X6_playerAt : GoodIn wsX6_ofPlayer (wsV RX6 114 RX6 yX6_playerAt wsX6_playerAt) := goodIn_app (goodIn_of _ (by decide +kernel)) ggX6_ofPlayer_X6_playerAt
set_option maxRecDepth 20000 in
theorem ggX6_ofPlayer_X6_requireRange : GoodIn wsX6_ofPlayer wsX6_requireRange := goodIn_ca (goodIn_r _ [42, 43, 44] (by decide +kernel) (by decide +kernel)) (goodIn_sub (fun _ h => List.mem_cons_of_mem _ (List.mem_append_right _ h)) (by decide +kernel))
set_option maxRecDepth 20000 in
theorem gX6_ofPlayer_X6_requireRange : GoodIn wsX6_ofPlayer (va_wsS RX6 43 yX6_requireRange wsX6_requireRange) := goodIn_app (goodIn_of _ (by decide +kernel)) ggX6_ofPlayer_X6_requireRange
theorem dX6_ofPlayer_0 : decode cX6_ofPlayer 0 = .ok (.aload_n 0, 1) := by decide +kernel
theorem dX6_ofPlayer_1 : decode cX6_ofPlayer 1 = .ok (.iload_n 1, 1) := by decide +kernel
theorem dX6_ofPlayer_2 : decode cX6_ofPlayer 2 = .ok (.invokevirtual 114, 3) := by decide +kernel
theorem dX6_ofPlayer_5 : decode cX6_ofPlayer 5 = .ok (.astore_n 3, 1) := by decide +kernel
theorem dX6_ofPlayer_6 : decode cX6_ofPlayer 6 = .ok (.iload_n 2, 1) := by decide +kernel
theorem dX6_ofPlayer_7 : decode cX6_ofPlayer 7 = .ok (.iconst 0, 1) := by decide +kernel
theorem dX6_ofPlayer_8 : decode cX6_ofPlayer 8 = .ok (.iconst 2, 1) := by decide +kernel
theorem dX6_ofPlayer_9 : decode cX6_ofPlayer 9 = .ok (.invokestatic 43, 3) := by decide +kernel
theorem dX6_ofPlayer_12 : decode cX6_ofPlayer 12 = .ok (.iload_n 2, 1) := by decide +kernel
theorem dX6_ofPlayer_13 : decode cX6_ofPlayer 13 = .ok (.ifCond .ne 8, 3) := by decide +kernel
theorem dX6_ofPlayer_16 : decode cX6_ofPlayer 16 = .ok (.aload_n 3, 1) := by decide +kernel
theorem dX6_ofPlayer_17 : decode cX6_ofPlayer 17 = .ok (.getfield 168, 3) := by decide +kernel
theorem dX6_ofPlayer_20 : decode cX6_ofPlayer 20 = .ok (.ireturn, 1) := by decide +kernel
theorem dX6_ofPlayer_21 : decode cX6_ofPlayer 21 = .ok (.iload_n 2, 1) := by decide +kernel
theorem dX6_ofPlayer_22 : decode cX6_ofPlayer 22 = .ok (.iconst 1, 1) := by decide +kernel
theorem dX6_ofPlayer_23 : decode cX6_ofPlayer 23 = .ok (.if_icmp .ne 8, 3) := by decide +kernel
theorem dX6_ofPlayer_26 : decode cX6_ofPlayer 26 = .ok (.aload_n 3, 1) := by decide +kernel
theorem dX6_ofPlayer_27 : decode cX6_ofPlayer 27 = .ok (.getfield 126, 3) := by decide +kernel
theorem dX6_ofPlayer_30 : decode cX6_ofPlayer 30 = .ok (.ireturn, 1) := by decide +kernel
theorem dX6_ofPlayer_31 : decode cX6_ofPlayer 31 = .ok (.aload_n 3, 1) := by decide +kernel
theorem dX6_ofPlayer_32 : decode cX6_ofPlayer 32 = .ok (.getfield 153, 3) := by decide +kernel
theorem dX6_ofPlayer_35 : decode cX6_ofPlayer 35 = .ok (.ifnonnull 7, 3) := by decide +kernel
theorem dX6_ofPlayer_38 : decode cX6_ofPlayer 38 = .ok (.iconst (-1), 1) := by decide +kernel
theorem dX6_ofPlayer_39 : decode cX6_ofPlayer 39 = .ok (.goto 10, 3) := by decide +kernel
theorem dX6_ofPlayer_42 : decode cX6_ofPlayer 42 = .ok (.aload_n 3, 1) := by decide +kernel
theorem dX6_ofPlayer_43 : decode cX6_ofPlayer 43 = .ok (.getfield 153, 3) := by decide +kernel
theorem dX6_ofPlayer_46 : decode cX6_ofPlayer 46 = .ok (.getfield 64, 3) := by decide +kernel
theorem dX6_ofPlayer_49 : decode cX6_ofPlayer 49 = .ok (.ireturn, 1) := by decide +kernel
set_option maxRecDepth 20000 in
theorem ggX6_note_X6_bandAt : GoodIn wsX6_note wsX6_bandAt := goodIn_ca (goodIn_r _ [7, 8, 9, 10, 11, 12, 13, 14, 15, 16, 17, 6, 18, 19, 20, 21, 22, 23, 24, 25, 26, 27, 28, 29, 30, 31, 32, 33, 34, 35, 36, 37, 55, 56, 57, 58, 59, 60, 61, 62, 63, 64] (by decide +kernel) (by decide +kernel)) (goodIn_sub (fun _ h => List.mem_cons_of_mem _ (List.mem_append_left _ (List.mem_append_left _ (List.mem_append_right _ h)))) (by decide +kernel))
set_option maxRecDepth 20000 in
theorem gX6_note_X6_bandAt : GoodIn wsX6_note (wsV RX6 118 RX6 yX6_bandAt wsX6_bandAt) := goodIn_app (goodIn_of _ (by decide +kernel)) ggX6_note_X6_bandAt
set_option maxRecDepth 20000 in
theorem ggX6_note_X6_requireRange : GoodIn wsX6_note wsX6_requireRange := goodIn_ca (goodIn_r _ [40, 41, 42] (by decide +kernel) (by decide +kernel)) (goodIn_sub (fun _ h => List.mem_cons_of_mem _ (List.mem_append_left _ (List.mem_append_right _ h))) (by decide +kernel))
set_option maxRecDepth 20000 in
theorem gX6_note_X6_requireRange : GoodIn wsX6_note (va_wsS RX6 43 yX6_requireRange wsX6_requireRange) := goodIn_app (goodIn_of _ (by decide +kernel)) ggX6_note_X6_requireRange
set_option maxRecDepth 20000 in
theorem ggX6_note_X6_requireState : GoodIn wsX6_note wsX6_requireState := goodIn_ca (goodIn_r _ [45, 46, 47] (by decide +kernel) (by decide +kernel)) (goodIn_sub (fun _ h => List.mem_cons_of_mem _ (List.mem_append_right _ h)) (by decide +kernel))
set_option maxRecDepth 20000 in
theorem gX6_note_X6_requireState : GoodIn wsX6_note (va_wsS RX6 51 yX6_requireState wsX6_requireState) := goodIn_app (goodIn_of _ (by decide +kernel)) ggX6_note_X6_requireState
theorem dX6_note_0 : decode cX6_note 0 = .ok (.aload_n 0, 1) := by decide +kernel
theorem dX6_note_1 : decode cX6_note 1 = .ok (.iload_n 1, 1) := by decide +kernel
theorem dX6_note_2 : decode cX6_note 2 = .ok (.invokevirtual 118, 3) := by decide +kernel
theorem dX6_note_5 : decode cX6_note 5 = .ok (.astore_n 3, 1) := by decide +kernel
theorem dX6_note_6 : decode cX6_note 6 = .ok (.iload_n 2, 1) := by decide +kernel
theorem dX6_note_7 : decode cX6_note 7 = .ok (.iconst 0, 1) := by decide +kernel
theorem dX6_note_8 : decode cX6_note 8 = .ok (.bipush 11, 2) := by decide +kernel
theorem dX6_note_10 : decode cX6_note 10 = .ok (.invokestatic 43, 3) := by decide +kernel
theorem dX6_note_13 : decode cX6_note 13 = .ok (.aload_n 3, 1) := by decide +kernel
theorem dX6_note_14 : decode cX6_note 14 = .ok (.getfield 171, 3) := by decide +kernel
theorem dX6_note_17 : decode cX6_note 17 = .ok (.bipush 24, 2) := by decide +kernel
theorem dX6_note_19 : decode cX6_note 19 = .ok (.if_icmp .ge 7, 3) := by decide +kernel
theorem dX6_note_22 : decode cX6_note 22 = .ok (.iconst 1, 1) := by decide +kernel
theorem dX6_note_23 : decode cX6_note 23 = .ok (.goto 4, 3) := by decide +kernel
theorem dX6_note_26 : decode cX6_note 26 = .ok (.iconst 0, 1) := by decide +kernel
theorem dX6_note_27 : decode cX6_note 27 = .ok (.invokestatic 51, 3) := by decide +kernel
theorem dX6_note_30 : decode cX6_note 30 = .ok (.aload_n 3, 1) := by decide +kernel
theorem dX6_note_31 : decode cX6_note 31 = .ok (.getfield 174, 3) := by decide +kernel
theorem dX6_note_34 : decode cX6_note 34 = .ok (.aload_n 3, 1) := by decide +kernel
theorem dX6_note_35 : decode cX6_note 35 = .ok (.getfield 171, 3) := by decide +kernel
theorem dX6_note_38 : decode cX6_note 38 = .ok (.iload_n 2, 1) := by decide +kernel
theorem dX6_note_39 : decode cX6_note 39 = .ok (.iastore, 1) := by decide +kernel
theorem dX6_note_40 : decode cX6_note 40 = .ok (.aload_n 3, 1) := by decide +kernel
theorem dX6_note_41 : decode cX6_note 41 = .ok (.dup, 1) := by decide +kernel
theorem dX6_note_42 : decode cX6_note 42 = .ok (.getfield 171, 3) := by decide +kernel
theorem dX6_note_45 : decode cX6_note 45 = .ok (.iconst 1, 1) := by decide +kernel
theorem dX6_note_46 : decode cX6_note 46 = .ok (.iadd, 1) := by decide +kernel
theorem dX6_note_47 : decode cX6_note 47 = .ok (.putfield 171, 3) := by decide +kernel
theorem dX6_note_50 : decode cX6_note 50 = .ok (.aload_n 3, 1) := by decide +kernel
theorem dX6_note_51 : decode cX6_note 51 = .ok (.getfield 171, 3) := by decide +kernel
theorem dX6_note_54 : decode cX6_note 54 = .ok (.ireturn, 1) := by decide +kernel
set_option maxRecDepth 20000 in
theorem ggX6_change_X6_bandAt : GoodIn wsX6_change wsX6_bandAt := goodIn_ca (goodIn_r _ [7, 8, 9, 10, 11, 12, 13, 14, 15, 16, 17, 6, 18, 19, 20, 21, 22, 23, 24, 25, 26, 27, 28, 29, 30, 31, 32, 33, 34, 35, 36, 37, 60, 61, 62, 63, 64, 65, 66, 67, 68, 69] (by decide +kernel) (by decide +kernel)) (goodIn_sub (fun _ h => List.mem_cons_of_mem _ (List.mem_append_left _ (List.mem_append_right _ h))) (by decide +kernel))
set_option maxRecDepth 20000 in
theorem gX6_change_X6_bandAt : GoodIn wsX6_change (wsV RX6 118 RX6 yX6_bandAt wsX6_bandAt) := goodIn_app (goodIn_of _ (by decide +kernel)) ggX6_change_X6_bandAt
set_option maxRecDepth 20000 in
theorem ggX6_change_X6_requireIndex : GoodIn wsX6_change wsX6_requireIndex := goodIn_ca (goodIn_r _ [18, 19, 20] (by decide +kernel) (by decide +kernel)) (goodIn_sub (fun _ h => List.mem_cons_of_mem _ (List.mem_append_left _ (List.mem_append_right _ h))) (by decide +kernel))
set_option maxRecDepth 20000 in
theorem gX6_change_X6_requireIndex : GoodIn wsX6_change (va_wsS RX6 72 yX6_requireIndex wsX6_requireIndex) := goodIn_app (goodIn_of _ (by decide +kernel)) ggX6_change_X6_requireIndex
set_option maxRecDepth 20000 in
theorem ggX6_change_X6_requireRange : GoodIn wsX6_change wsX6_requireRange := goodIn_ca (goodIn_r _ [40, 41, 42] (by decide +kernel) (by decide +kernel)) (goodIn_sub (fun _ h => List.mem_cons_of_mem _ (List.mem_append_right _ h)) (by decide +kernel))
set_option maxRecDepth 20000 in
theorem gX6_change_X6_requireRange : GoodIn wsX6_change (va_wsS RX6 43 yX6_requireRange wsX6_requireRange) := goodIn_app (goodIn_of _ (by decide +kernel)) ggX6_change_X6_requireRange
set_option maxRecDepth 20000 in
theorem ggX6_change_X0_spoilPhrase : GoodIn wsX6_change wsX0_spoilPhrase := goodIn_r _ [47, 48, 49, 50, 51, 11, 12, 13, 14, 15, 52, 22, 23, 24, 25, 26, 27, 28, 29, 30, 31, 32, 33, 34, 35, 36, 37, 53, 54, 55, 56, 57, 58, 59, 70, 71, 67, 68, 69] (by decide +kernel) (by decide +kernel)
set_option maxRecDepth 20000 in
theorem gX6_change_X0_spoilPhrase : GoodIn wsX6_change (wsV RX6 177 RX0 yX0_spoilPhrase wsX0_spoilPhrase) := goodIn_app (goodIn_of _ (by decide +kernel)) ggX6_change_X0_spoilPhrase
theorem dX6_change_0 : decode cX6_change 0 = .ok (.aload_n 0, 1) := by decide +kernel
theorem dX6_change_1 : decode cX6_change 1 = .ok (.iload_n 1, 1) := by decide +kernel
theorem dX6_change_2 : decode cX6_change 2 = .ok (.invokevirtual 118, 3) := by decide +kernel
theorem dX6_change_5 : decode cX6_change 5 = .ok (.astore 4, 2) := by decide +kernel
theorem dX6_change_7 : decode cX6_change 7 = .ok (.iload_n 2, 1) := by decide +kernel
theorem dX6_change_8 : decode cX6_change 8 = .ok (.aload 4, 2) := by decide +kernel
theorem dX6_change_10 : decode cX6_change 10 = .ok (.getfield 171, 3) := by decide +kernel
theorem dX6_change_13 : decode cX6_change 13 = .ok (.invokestatic 72, 3) := by decide +kernel
theorem dX6_change_16 : decode cX6_change 16 = .ok (.iload_n 3, 1) := by decide +kernel
theorem dX6_change_17 : decode cX6_change 17 = .ok (.iconst 0, 1) := by decide +kernel
theorem dX6_change_18 : decode cX6_change 18 = .ok (.bipush 11, 2) := by decide +kernel
theorem dX6_change_20 : decode cX6_change 20 = .ok (.invokestatic 43, 3) := by decide +kernel
theorem dX6_change_23 : decode cX6_change 23 = .ok (.aload 4, 2) := by decide +kernel
theorem dX6_change_25 : decode cX6_change 25 = .ok (.getfield 174, 3) := by decide +kernel
theorem dX6_change_28 : decode cX6_change 28 = .ok (.iload_n 2, 1) := by decide +kernel
theorem dX6_change_29 : decode cX6_change 29 = .ok (.iaload, 1) := by decide +kernel
theorem dX6_change_30 : decode cX6_change 30 = .ok (.istore 5, 2) := by decide +kernel
theorem dX6_change_32 : decode cX6_change 32 = .ok (.iload_n 3, 1) := by decide +kernel
theorem dX6_change_33 : decode cX6_change 33 = .ok (.iload 5, 2) := by decide +kernel
theorem dX6_change_35 : decode cX6_change 35 = .ok (.if_icmp .eq 19, 3) := by decide +kernel
theorem dX6_change_38 : decode cX6_change 38 = .ok (.aload 4, 2) := by decide +kernel
theorem dX6_change_40 : decode cX6_change 40 = .ok (.getfield 174, 3) := by decide +kernel
theorem dX6_change_43 : decode cX6_change 43 = .ok (.iload_n 2, 1) := by decide +kernel
theorem dX6_change_44 : decode cX6_change 44 = .ok (.iload_n 3, 1) := by decide +kernel
theorem dX6_change_45 : decode cX6_change 45 = .ok (.iastore, 1) := by decide +kernel
theorem dX6_change_46 : decode cX6_change 46 = .ok (.aload 4, 2) := by decide +kernel
theorem dX6_change_48 : decode cX6_change 48 = .ok (.iload_n 2, 1) := by decide +kernel
theorem dX6_change_49 : decode cX6_change 49 = .ok (.iconst 4, 1) := by decide +kernel
theorem dX6_change_50 : decode cX6_change 50 = .ok (.idiv, 1) := by decide +kernel
theorem dX6_change_51 : decode cX6_change 51 = .ok (.invokevirtual 177, 3) := by decide +kernel
theorem dX6_change_54 : decode cX6_change 54 = .ok (.iload 5, 2) := by decide +kernel
theorem dX6_change_56 : decode cX6_change 56 = .ok (.ireturn, 1) := by decide +kernel
set_option maxRecDepth 20000 in
theorem ggX6_tell_X6_bandAt : GoodIn wsX6_tell wsX6_bandAt := goodIn_ca (goodIn_r _ [6, 7, 8, 9, 10, 11, 12, 13, 14, 15, 16, 5, 17, 18, 19, 20, 21, 22, 23, 24, 25, 26, 27, 28, 29, 30, 31, 32, 33, 34, 35, 36, 53, 54, 55, 56, 57, 58, 59, 60, 61, 62] (by decide +kernel) (by decide +kernel)) (goodIn_sub (fun _ h => List.mem_cons_of_mem _ (List.mem_append_right _ h)) (by decide +kernel))
set_option maxRecDepth 20000 in
theorem gX6_tell_X6_bandAt : GoodIn wsX6_tell (wsV RX6 118 RX6 yX6_bandAt wsX6_bandAt) := goodIn_app (goodIn_of _ (by decide +kernel)) ggX6_tell_X6_bandAt
set_option maxRecDepth 20000 in
theorem ggX6_tell_X6_seatAt : GoodIn wsX6_tell wsX6_seatAt := goodIn_ca (goodIn_r _ [39, 40, 41, 9, 10, 11, 12, 13, 14, 15, 16, 5, 17, 18, 19, 20, 21, 22, 23, 24, 25, 26, 27, 28, 29, 30, 31, 32, 33, 34, 35, 36, 63, 64, 65, 66, 67, 68, 69, 60, 61, 62] (by decide +kernel) (by decide +kernel)) (goodIn_sub (fun _ h => List.mem_cons_of_mem _ (List.mem_append_right _ h)) (by decide +kernel))
set_option maxRecDepth 20000 in
theorem gX6_tell_X6_seatAt : GoodIn wsX6_tell (va_wsS RX6 180 yX6_seatAt wsX6_seatAt) := goodIn_app (goodIn_of _ (by decide +kernel)) ggX6_tell_X6_seatAt
set_option maxRecDepth 20000 in
theorem ggX6_tell_X6_requirePhrase : GoodIn wsX6_tell wsX6_requirePhrase := goodIn_ca (goodIn_r _ [44, 45, 46, 47, 48, 49, 50, 15, 16, 5, 17, 18, 19, 63, 64, 65, 66, 67, 68, 69] (by decide +kernel) (by decide +kernel)) (goodIn_sub (fun _ h => List.mem_cons_of_mem _ (List.mem_append_right _ h)) (by decide +kernel))
set_option maxRecDepth 20000 in
theorem gX6_tell_X6_requirePhrase : GoodIn wsX6_tell (va_wsS RX6 184 yX6_requirePhrase wsX6_requirePhrase) := goodIn_app (goodIn_of _ (by decide +kernel)) ggX6_tell_X6_requirePhrase
theorem dX6_tell_0 : decode cX6_tell 0 = .ok (.aload_n 0, 1) := by decide +kernel
theorem dX6_tell_1 : decode cX6_tell 1 = .ok (.iload_n 1, 1) := by decide +kernel
theorem dX6_tell_2 : decode cX6_tell 2 = .ok (.invokevirtual 118, 3) := by decide +kernel
theorem dX6_tell_5 : decode cX6_tell 5 = .ok (.iload_n 2, 1) := by decide +kernel
theorem dX6_tell_6 : decode cX6_tell 6 = .ok (.invokestatic 180, 3) := by decide +kernel
theorem dX6_tell_9 : decode cX6_tell 9 = .ok (.astore 4, 2) := by decide +kernel
theorem dX6_tell_11 : decode cX6_tell 11 = .ok (.aload_n 0, 1) := by decide +kernel
theorem dX6_tell_12 : decode cX6_tell 12 = .ok (.iload_n 1, 1) := by decide +kernel
theorem dX6_tell_13 : decode cX6_tell 13 = .ok (.invokevirtual 118, 3) := by decide +kernel
theorem dX6_tell_16 : decode cX6_tell 16 = .ok (.iload_n 3, 1) := by decide +kernel
theorem dX6_tell_17 : decode cX6_tell 17 = .ok (.invokestatic 184, 3) := by decide +kernel
theorem dX6_tell_20 : decode cX6_tell 20 = .ok (.aload 4, 2) := by decide +kernel
theorem dX6_tell_22 : decode cX6_tell 22 = .ok (.getfield 188, 3) := by decide +kernel
theorem dX6_tell_25 : decode cX6_tell 25 = .ok (.iload_n 3, 1) := by decide +kernel
theorem dX6_tell_26 : decode cX6_tell 26 = .ok (.iaload, 1) := by decide +kernel
theorem dX6_tell_27 : decode cX6_tell 27 = .ok (.istore 5, 2) := by decide +kernel
theorem dX6_tell_29 : decode cX6_tell 29 = .ok (.aload 4, 2) := by decide +kernel
theorem dX6_tell_31 : decode cX6_tell 31 = .ok (.getfield 188, 3) := by decide +kernel
theorem dX6_tell_34 : decode cX6_tell 34 = .ok (.iload_n 3, 1) := by decide +kernel
theorem dX6_tell_35 : decode cX6_tell 35 = .ok (.iconst 1, 1) := by decide +kernel
theorem dX6_tell_36 : decode cX6_tell 36 = .ok (.iastore, 1) := by decide +kernel
theorem dX6_tell_37 : decode cX6_tell 37 = .ok (.iload 5, 2) := by decide +kernel
theorem dX6_tell_39 : decode cX6_tell 39 = .ok (.ireturn, 1) := by decide +kernel
set_option maxRecDepth 20000 in
theorem ggX6_drill_X6_bandAt : GoodIn wsX6_drill wsX6_bandAt := goodIn_ca (goodIn_r _ [8, 9, 10, 11, 12, 13, 14, 15, 16, 17, 18, 7, 19, 20, 21, 22, 23, 24, 25, 26, 27, 28, 29, 30, 31, 32, 33, 34, 35, 36, 37, 38, 97, 98, 99, 100, 101, 102, 103, 104, 105, 106] (by decide +kernel) (by decide +kernel)) (goodIn_sub (fun _ h => List.mem_cons_of_mem _ (List.mem_append_left _ (List.mem_append_right _ h))) (by decide +kernel))
set_option maxRecDepth 20000 in
theorem gX6_drill_X6_bandAt : GoodIn wsX6_drill (wsV RX6 118 RX6 yX6_bandAt wsX6_bandAt) := goodIn_app (goodIn_of _ (by decide +kernel)) ggX6_drill_X6_bandAt
set_option maxRecDepth 20000 in
theorem ggX6_drill_X6_requirePhrase : GoodIn wsX6_drill wsX6_requirePhrase := goodIn_ca (goodIn_r _ [41, 42, 43, 44, 45, 46, 47, 17, 18, 7, 19, 20, 21, 90, 91, 92, 93, 94, 95, 96] (by decide +kernel) (by decide +kernel)) (goodIn_sub (fun _ h => List.mem_cons_of_mem _ (List.mem_append_left _ (List.mem_append_right _ h))) (by decide +kernel))
set_option maxRecDepth 20000 in
theorem gX6_drill_X6_requirePhrase : GoodIn wsX6_drill (va_wsS RX6 184 yX6_requirePhrase wsX6_requirePhrase) := goodIn_app (goodIn_of _ (by decide +kernel)) ggX6_drill_X6_requirePhrase
set_option maxRecDepth 20000 in
theorem ggX6_drill_Jx4a65c_isEmpty_aae02 : GoodIn wsX6_drill wsJx4a65c_isEmpty_aae02 := goodIn_r _ [51, 16, 104, 105, 106] (by decide +kernel) (by decide +kernel)
set_option maxRecDepth 20000 in
theorem gX6_drill_Jx4a65c_isEmpty_aae02 : GoodIn wsX6_drill (wsV RX6 191 RJx4a65c yJx4a65c_isEmpty_aae02 wsJx4a65c_isEmpty_aae02) := goodIn_app (goodIn_of _ (by decide +kernel)) ggX6_drill_Jx4a65c_isEmpty_aae02
set_option maxRecDepth 20000 in
theorem ggX6_drill_X6_requireState : GoodIn wsX6_drill wsX6_requireState := goodIn_ca (goodIn_r _ [54, 55, 56] (by decide +kernel) (by decide +kernel)) (goodIn_sub (fun _ h => List.mem_cons_of_mem _ (List.mem_append_right _ h)) (by decide +kernel))
set_option maxRecDepth 20000 in
theorem gX6_drill_X6_requireState : GoodIn wsX6_drill (va_wsS RX6 51 yX6_requireState wsX6_requireState) := goodIn_app (goodIn_of _ (by decide +kernel)) ggX6_drill_X6_requireState
set_option maxRecDepth 20000 in
theorem ggX6_drill_X0_learnPhrase : GoodIn wsX6_drill wsX0_learnPhrase := goodIn_r _ [60, 61, 62, 63, 64, 12, 13, 14, 15, 16, 65, 23, 24, 25, 26, 27, 28, 29, 30, 31, 32, 33, 34, 35, 36, 37, 38, 66, 67, 68, 69, 70, 71, 72, 73, 90, 91, 92, 93, 94, 95, 96, 107, 108, 104, 105, 106, 109, 110, 111, 112, 113, 114] (by decide +kernel) (by decide +kernel)
set_option maxRecDepth 20000 in
theorem gX6_drill_X0_learnPhrase : GoodIn wsX6_drill (wsV RX6 201 RX0 yX0_learnPhrase wsX0_learnPhrase) := goodIn_app (goodIn_of _ (by decide +kernel)) ggX6_drill_X0_learnPhrase
set_option maxRecDepth 20000 in
theorem ggX6_drill_X0_wearPans : GoodIn wsX6_drill wsX0_wearPans := goodIn_r _ [77, 61, 62, 78, 79, 64, 12, 13, 14, 15, 16, 65, 23, 24, 25, 26, 27, 28, 29, 30, 31, 32, 33, 34, 35, 36, 37, 38, 80, 81, 82, 83, 84, 85, 90, 91, 92, 93, 94, 95, 96, 107, 108, 109, 110, 111, 112, 113, 114, 104, 105, 106, 115, 116, 117, 118, 119] (by decide +kernel) (by decide +kernel)
set_option maxRecDepth 20000 in
theorem gX6_drill_X0_wearPans : GoodIn wsX6_drill (wsV RX6 204 RX0 yX0_wearPans wsX0_wearPans) := goodIn_app (goodIn_of _ (by decide +kernel)) ggX6_drill_X0_wearPans
set_option maxRecDepth 20000 in
theorem ggX6_drill_X0_countRight : GoodIn wsX6_drill wsX0_countRight := goodIn_r _ [89, 61, 62, 63, 64, 12, 13, 14, 15, 16, 65, 23, 24, 25, 26, 27, 28, 29, 30, 31, 32, 33, 34, 35, 36, 37, 38, 90, 91, 92, 93, 94, 95, 96, 107, 108, 104, 105, 106] (by decide +kernel) (by decide +kernel)
set_option maxRecDepth 20000 in
theorem gX6_drill_X0_countRight : GoodIn wsX6_drill (wsV RX6 207 RX0 yX0_countRight wsX0_countRight) := goodIn_app (goodIn_of _ (by decide +kernel)) ggX6_drill_X0_countRight
