theorem dX7_init_192 : decode cX7_init 192 = .ok (.if_icmp .ge 16, 3) := by decide +kernel
theorem dX7_init_195 : decode cX7_init 195 = .ok (.aload_n 0, 1) := by decide +kernel
theorem dX7_init_196 : decode cX7_init 196 = .ok (.getfield 74, 3) := by decide +kernel
theorem dX7_init_199 : decode cX7_init 199 = .ok (.iload_n 1, 1) := by decide +kernel
theorem dX7_init_200 : decode cX7_init 200 = .ok (.iconst (-1), 1) := by decide +kernel
theorem dX7_init_201 : decode cX7_init 201 = .ok (.iastore, 1) := by decide +kernel
theorem dX7_init_202 : decode cX7_init 202 = .ok (.iinc 1 1, 3) := by decide +kernel
theorem dX7_init_205 : decode cX7_init 205 = .ok (.goto (-16), 3) := by decide +kernel
theorem dX7_init_208 : decode cX7_init 208 = .ok (.iconst 0, 1) := by decide +kernel
theorem dX7_init_209 : decode cX7_init 209 = .ok (.istore_n 1, 1) := by decide +kernel
theorem dX7_init_210 : decode cX7_init 210 = .ok (.iload_n 1, 1) := by decide +kernel
theorem dX7_init_211 : decode cX7_init 211 = .ok (.iconst 4, 1) := by decide +kernel
theorem dX7_init_212 : decode cX7_init 212 = .ok (.if_icmp .ge 16, 3) := by decide +kernel
theorem dX7_init_215 : decode cX7_init 215 = .ok (.aload_n 0, 1) := by decide +kernel
theorem dX7_init_216 : decode cX7_init 216 = .ok (.getfield 59, 3) := by decide +kernel
theorem dX7_init_219 : decode cX7_init 219 = .ok (.iload_n 1, 1) := by decide +kernel
theorem dX7_init_220 : decode cX7_init 220 = .ok (.iconst (-1), 1) := by decide +kernel
theorem dX7_init_221 : decode cX7_init 221 = .ok (.iastore, 1) := by decide +kernel
theorem dX7_init_222 : decode cX7_init 222 = .ok (.iinc 1 1, 3) := by decide +kernel
theorem dX7_init_225 : decode cX7_init 225 = .ok (.goto (-15), 3) := by decide +kernel
theorem dX7_init_228 : decode cX7_init 228 = .ok (.return_, 1) := by decide +kernel
theorem dX7_thrown_0 : decode cX7_thrown 0 = .ok (.aload_n 0, 1) := by decide +kernel
theorem dX7_thrown_1 : decode cX7_thrown 1 = .ok (.getfield 83, 3) := by decide +kernel
theorem dX7_thrown_4 : decode cX7_thrown 4 = .ok (.ireturn, 1) := by decide +kernel
theorem dX7_holds_0 : decode cX7_holds 0 = .ok (.aload_n 0, 1) := by decide +kernel
theorem dX7_holds_1 : decode cX7_holds 1 = .ok (.iload_n 1, 1) := by decide +kernel
theorem dX7_holds_2 : decode cX7_holds 2 = .ok (.putfield 83, 3) := by decide +kernel
theorem dX7_holds_5 : decode cX7_holds 5 = .ok (.iload_n 1, 1) := by decide +kernel
theorem dX7_holds_6 : decode cX7_holds 6 = .ok (.ifCond .ne 7, 3) := by decide +kernel
theorem dX7_holds_9 : decode cX7_holds 9 = .ok (.iconst 1, 1) := by decide +kernel
theorem dX7_holds_10 : decode cX7_holds 10 = .ok (.goto 4, 3) := by decide +kernel
theorem dX7_holds_13 : decode cX7_holds 13 = .ok (.iconst 0, 1) := by decide +kernel
theorem dX7_holds_14 : decode cX7_holds 14 = .ok (.ireturn, 1) := by decide +kernel
theorem dX7_isIn_0 : decode cX7_isIn 0 = .ok (.iload_n 0, 1) := by decide +kernel
theorem dX7_isIn_1 : decode cX7_isIn 1 = .ok (.iload_n 1, 1) := by decide +kernel
theorem dX7_isIn_2 : decode cX7_isIn 2 = .ok (.if_icmp .lt 12, 3) := by decide +kernel
theorem dX7_isIn_5 : decode cX7_isIn 5 = .ok (.iload_n 0, 1) := by decide +kernel
theorem dX7_isIn_6 : decode cX7_isIn 6 = .ok (.iload_n 2, 1) := by decide +kernel
theorem dX7_isIn_7 : decode cX7_isIn 7 = .ok (.if_icmp .gt 7, 3) := by decide +kernel
theorem dX7_isIn_10 : decode cX7_isIn 10 = .ok (.iconst 1, 1) := by decide +kernel
theorem dX7_isIn_11 : decode cX7_isIn 11 = .ok (.goto 4, 3) := by decide +kernel
theorem dX7_isIn_14 : decode cX7_isIn 14 = .ok (.iconst 0, 1) := by decide +kernel
theorem dX7_isIn_15 : decode cX7_isIn 15 = .ok (.ireturn, 1) := by decide +kernel
set_option maxRecDepth 20000 in
theorem ggX7_isPan_X7_isIn : GoodIn wsX7_isPan wsX7_isIn := goodIn_r _ [5] (by decide +kernel) (by decide +kernel)
set_option maxRecDepth 20000 in
theorem gX7_isPan_X7_isIn : GoodIn wsX7_isPan (va_wsS RX7 90 yX7_isIn wsX7_isIn) := goodIn_app (goodIn_of _ (by decide +kernel)) ggX7_isPan_X7_isIn
theorem dX7_isPan_0 : decode cX7_isPan 0 = .ok (.iload_n 1, 1) := by decide +kernel
theorem dX7_isPan_1 : decode cX7_isPan 1 = .ok (.iconst 0, 1) := by decide +kernel
theorem dX7_isPan_2 : decode cX7_isPan 2 = .ok (.aload_n 0, 1) := by decide +kernel
theorem dX7_isPan_3 : decode cX7_isPan 3 = .ok (.getfield 87, 3) := by decide +kernel
theorem dX7_isPan_6 : decode cX7_isPan 6 = .ok (.iconst 1, 1) := by decide +kernel
theorem dX7_isPan_7 : decode cX7_isPan 7 = .ok (.isub, 1) := by decide +kernel
theorem dX7_isPan_8 : decode cX7_isPan 8 = .ok (.invokestatic 90, 3) := by decide +kernel
theorem dX7_isPan_11 : decode cX7_isPan 11 = .ok (.ireturn, 1) := by decide +kernel
set_option maxRecDepth 20000 in
theorem ggX7_isField_X7_isPan : GoodIn wsX7_isField wsX7_isPan := goodIn_r _ [5, 6, 7, 8, 4, 9, 10, 11, 12, 13, 14, 15, 16, 17, 18, 19, 20, 21, 22, 23, 24, 25, 26, 27, 28, 29, 30, 31, 32, 33, 34, 35, 36, 37, 38] (by decide +kernel) (by decide +kernel)
set_option maxRecDepth 20000 in
theorem gX7_isField_X7_isPan : GoodIn wsX7_isField (wsV RX7 94 RX7 yX7_isPan wsX7_isPan) := goodIn_app (goodIn_of _ (by decide +kernel)) ggX7_isField_X7_isPan
set_option maxRecDepth 20000 in
theorem ggX7_isField_X7_isIn : GoodIn wsX7_isField wsX7_isIn := goodIn_r _ [9] (by decide +kernel) (by decide +kernel)
set_option maxRecDepth 20000 in
theorem gX7_isField_X7_isIn : GoodIn wsX7_isField (va_wsS RX7 90 yX7_isIn wsX7_isIn) := goodIn_app (goodIn_of _ (by decide +kernel)) ggX7_isField_X7_isIn
theorem dX7_isField_0 : decode cX7_isField 0 = .ok (.aload_n 0, 1) := by decide +kernel
theorem dX7_isField_1 : decode cX7_isField 1 = .ok (.iload_n 1, 1) := by decide +kernel
theorem dX7_isField_2 : decode cX7_isField 2 = .ok (.invokevirtual 94, 3) := by decide +kernel
theorem dX7_isField_5 : decode cX7_isField 5 = .ok (.ifCond .eq 16, 3) := by decide +kernel
theorem dX7_isField_8 : decode cX7_isField 8 = .ok (.iload_n 2, 1) := by decide +kernel
theorem dX7_isField_9 : decode cX7_isField 9 = .ok (.iconst 0, 1) := by decide +kernel
theorem dX7_isField_10 : decode cX7_isField 10 = .ok (.iconst 3, 1) := by decide +kernel
theorem dX7_isField_11 : decode cX7_isField 11 = .ok (.invokestatic 90, 3) := by decide +kernel
theorem dX7_isField_14 : decode cX7_isField 14 = .ok (.ifCond .eq 7, 3) := by decide +kernel
theorem dX7_isField_17 : decode cX7_isField 17 = .ok (.iconst 1, 1) := by decide +kernel
theorem dX7_isField_18 : decode cX7_isField 18 = .ok (.goto 4, 3) := by decide +kernel
theorem dX7_isField_21 : decode cX7_isField 21 = .ok (.iconst 0, 1) := by decide +kernel
theorem dX7_isField_22 : decode cX7_isField 22 = .ok (.ireturn, 1) := by decide +kernel
set_option maxRecDepth 20000 in
theorem ggX7_isPlayer_X7_isIn : GoodIn wsX7_isPlayer wsX7_isIn := goodIn_r _ [5] (by decide +kernel) (by decide +kernel)
set_option maxRecDepth 20000 in
theorem gX7_isPlayer_X7_isIn : GoodIn wsX7_isPlayer (va_wsS RX7 90 yX7_isIn wsX7_isIn) := goodIn_app (goodIn_of _ (by decide +kernel)) ggX7_isPlayer_X7_isIn
theorem dX7_isPlayer_0 : decode cX7_isPlayer 0 = .ok (.iload_n 1, 1) := by decide +kernel
theorem dX7_isPlayer_1 : decode cX7_isPlayer 1 = .ok (.iconst 0, 1) := by decide +kernel
theorem dX7_isPlayer_2 : decode cX7_isPlayer 2 = .ok (.aload_n 0, 1) := by decide +kernel
theorem dX7_isPlayer_3 : decode cX7_isPlayer 3 = .ok (.getfield 98, 3) := by decide +kernel
theorem dX7_isPlayer_6 : decode cX7_isPlayer 6 = .ok (.iconst 1, 1) := by decide +kernel
theorem dX7_isPlayer_7 : decode cX7_isPlayer 7 = .ok (.isub, 1) := by decide +kernel
theorem dX7_isPlayer_8 : decode cX7_isPlayer 8 = .ok (.invokestatic 90, 3) := by decide +kernel
theorem dX7_isPlayer_11 : decode cX7_isPlayer 11 = .ok (.ireturn, 1) := by decide +kernel
set_option maxRecDepth 20000 in
theorem ggX7_isBand_X7_isIn : GoodIn wsX7_isBand wsX7_isIn := goodIn_r _ [4] (by decide +kernel) (by decide +kernel)
set_option maxRecDepth 20000 in
theorem gX7_isBand_X7_isIn : GoodIn wsX7_isBand (va_wsS RX7 90 yX7_isIn wsX7_isIn) := goodIn_app (goodIn_of _ (by decide +kernel)) ggX7_isBand_X7_isIn
theorem dX7_isBand_0 : decode cX7_isBand 0 = .ok (.iload_n 0, 1) := by decide +kernel
theorem dX7_isBand_1 : decode cX7_isBand 1 = .ok (.iconst 0, 1) := by decide +kernel
theorem dX7_isBand_2 : decode cX7_isBand 2 = .ok (.iconst 3, 1) := by decide +kernel
theorem dX7_isBand_3 : decode cX7_isBand 3 = .ok (.invokestatic 90, 3) := by decide +kernel
theorem dX7_isBand_6 : decode cX7_isBand 6 = .ok (.ireturn, 1) := by decide +kernel
set_option maxRecDepth 20000 in
theorem ggX7_isSeat_X7_isBand : GoodIn wsX7_isSeat wsX7_isBand := goodIn_r _ [5, 6, 7, 4, 8] (by decide +kernel) (by decide +kernel)
set_option maxRecDepth 20000 in
theorem gX7_isSeat_X7_isBand : GoodIn wsX7_isSeat (va_wsS RX7 101 yX7_isBand wsX7_isBand) := goodIn_app (goodIn_of _ (by decide +kernel)) ggX7_isSeat_X7_isBand
set_option maxRecDepth 20000 in
theorem ggX7_isSeat_X7_isIn : GoodIn wsX7_isSeat wsX7_isIn := goodIn_r _ [8] (by decide +kernel) (by decide +kernel)
set_option maxRecDepth 20000 in
theorem gX7_isSeat_X7_isIn : GoodIn wsX7_isSeat (va_wsS RX7 90 yX7_isIn wsX7_isIn) := goodIn_app (goodIn_of _ (by decide +kernel)) ggX7_isSeat_X7_isIn
theorem dX7_isSeat_0 : decode cX7_isSeat 0 = .ok (.iload_n 1, 1) := by decide +kernel
theorem dX7_isSeat_1 : decode cX7_isSeat 1 = .ok (.invokestatic 101, 3) := by decide +kernel
theorem dX7_isSeat_4 : decode cX7_isSeat 4 = .ok (.ifCond .eq 23, 3) := by decide +kernel
theorem dX7_isSeat_7 : decode cX7_isSeat 7 = .ok (.iload_n 2, 1) := by decide +kernel
theorem dX7_isSeat_8 : decode cX7_isSeat 8 = .ok (.iconst 0, 1) := by decide +kernel
theorem dX7_isSeat_9 : decode cX7_isSeat 9 = .ok (.aload_n 0, 1) := by decide +kernel
theorem dX7_isSeat_10 : decode cX7_isSeat 10 = .ok (.getfield 41, 3) := by decide +kernel
theorem dX7_isSeat_13 : decode cX7_isSeat 13 = .ok (.iload_n 1, 1) := by decide +kernel
theorem dX7_isSeat_14 : decode cX7_isSeat 14 = .ok (.iaload, 1) := by decide +kernel
theorem dX7_isSeat_15 : decode cX7_isSeat 15 = .ok (.iconst 1, 1) := by decide +kernel
theorem dX7_isSeat_16 : decode cX7_isSeat 16 = .ok (.isub, 1) := by decide +kernel
theorem dX7_isSeat_17 : decode cX7_isSeat 17 = .ok (.invokestatic 90, 3) := by decide +kernel
theorem dX7_isSeat_20 : decode cX7_isSeat 20 = .ok (.ifCond .eq 7, 3) := by decide +kernel
theorem dX7_isSeat_23 : decode cX7_isSeat 23 = .ok (.iconst 1, 1) := by decide +kernel
theorem dX7_isSeat_24 : decode cX7_isSeat 24 = .ok (.goto 4, 3) := by decide +kernel
theorem dX7_isSeat_27 : decode cX7_isSeat 27 = .ok (.iconst 0, 1) := by decide +kernel
theorem dX7_isSeat_28 : decode cX7_isSeat 28 = .ok (.ireturn, 1) := by decide +kernel
set_option maxRecDepth 20000 in
theorem ggX7_isPhrase_X7_isBand : GoodIn wsX7_isPhrase wsX7_isBand := goodIn_r _ [5, 6, 7, 4, 8] (by decide +kernel) (by decide +kernel)
set_option maxRecDepth 20000 in
theorem gX7_isPhrase_X7_isBand : GoodIn wsX7_isPhrase (va_wsS RX7 101 yX7_isBand wsX7_isBand) := goodIn_app (goodIn_of _ (by decide +kernel)) ggX7_isPhrase_X7_isBand
set_option maxRecDepth 20000 in
theorem ggX7_isPhrase_X7_isIn : GoodIn wsX7_isPhrase wsX7_isIn := goodIn_r _ [8] (by decide +kernel) (by decide +kernel)
set_option maxRecDepth 20000 in
theorem gX7_isPhrase_X7_isIn : GoodIn wsX7_isPhrase (va_wsS RX7 90 yX7_isIn wsX7_isIn) := goodIn_app (goodIn_of _ (by decide +kernel)) ggX7_isPhrase_X7_isIn
theorem dX7_isPhrase_0 : decode cX7_isPhrase 0 = .ok (.iload_n 1, 1) := by decide +kernel
theorem dX7_isPhrase_1 : decode cX7_isPhrase 1 = .ok (.invokestatic 101, 3) := by decide +kernel
theorem dX7_isPhrase_4 : decode cX7_isPhrase 4 = .ok (.ifCond .eq 25, 3) := by decide +kernel
theorem dX7_isPhrase_7 : decode cX7_isPhrase 7 = .ok (.iload_n 2, 1) := by decide +kernel
theorem dX7_isPhrase_8 : decode cX7_isPhrase 8 = .ok (.iconst 0, 1) := by decide +kernel
theorem dX7_isPhrase_9 : decode cX7_isPhrase 9 = .ok (.aload_n 0, 1) := by decide +kernel
theorem dX7_isPhrase_10 : decode cX7_isPhrase 10 = .ok (.getfield 47, 3) := by decide +kernel
theorem dX7_isPhrase_13 : decode cX7_isPhrase 13 = .ok (.iload_n 1, 1) := by decide +kernel
theorem dX7_isPhrase_14 : decode cX7_isPhrase 14 = .ok (.iaload, 1) := by decide +kernel
theorem dX7_isPhrase_15 : decode cX7_isPhrase 15 = .ok (.iconst 4, 1) := by decide +kernel
theorem dX7_isPhrase_16 : decode cX7_isPhrase 16 = .ok (.idiv, 1) := by decide +kernel
theorem dX7_isPhrase_17 : decode cX7_isPhrase 17 = .ok (.iconst 1, 1) := by decide +kernel
theorem dX7_isPhrase_18 : decode cX7_isPhrase 18 = .ok (.isub, 1) := by decide +kernel
theorem dX7_isPhrase_19 : decode cX7_isPhrase 19 = .ok (.invokestatic 90, 3) := by decide +kernel
theorem dX7_isPhrase_22 : decode cX7_isPhrase 22 = .ok (.ifCond .eq 7, 3) := by decide +kernel
theorem dX7_isPhrase_25 : decode cX7_isPhrase 25 = .ok (.iconst 1, 1) := by decide +kernel
theorem dX7_isPhrase_26 : decode cX7_isPhrase 26 = .ok (.goto 4, 3) := by decide +kernel
theorem dX7_isPhrase_29 : decode cX7_isPhrase 29 = .ok (.iconst 0, 1) := by decide +kernel
theorem dX7_isPhrase_30 : decode cX7_isPhrase 30 = .ok (.ireturn, 1) := by decide +kernel
set_option maxRecDepth 20000 in
theorem ggX7_pan_X7_isIn : GoodIn wsX7_pan wsX7_isIn := goodIn_r _ [6] (by decide +kernel) (by decide +kernel)
set_option maxRecDepth 20000 in
theorem gX7_pan_X7_isIn : GoodIn wsX7_pan (va_wsS RX7 90 yX7_isIn wsX7_isIn) := goodIn_app (goodIn_of _ (by decide +kernel)) ggX7_pan_X7_isIn
set_option maxRecDepth 20000 in
theorem ggX7_pan_X7_holds : GoodIn wsX7_pan wsX7_holds := goodIn_r _ [10, 11, 12, 13, 14, 15, 16, 17, 18, 19, 20, 21, 22, 23, 24, 25, 26, 27, 28, 29, 30, 31, 32, 33, 34, 35, 36, 37, 38, 39, 40] (by decide +kernel) (by decide +kernel)
set_option maxRecDepth 20000 in
theorem gX7_pan_X7_holds : GoodIn wsX7_pan (wsV RX7 104 RX7 yX7_holds wsX7_holds) := goodIn_app (goodIn_of _ (by decide +kernel)) ggX7_pan_X7_holds
theorem dX7_pan_0 : decode cX7_pan 0 = .ok (.iload_n 1, 1) := by decide +kernel
theorem dX7_pan_1 : decode cX7_pan 1 = .ok (.bipush (-60), 2) := by decide +kernel
theorem dX7_pan_3 : decode cX7_pan 3 = .ok (.bipush 60, 2) := by decide +kernel
theorem dX7_pan_5 : decode cX7_pan 5 = .ok (.invokestatic 90, 3) := by decide +kernel
theorem dX7_pan_8 : decode cX7_pan 8 = .ok (.ifCond .eq 41, 3) := by decide +kernel
theorem dX7_pan_11 : decode cX7_pan 11 = .ok (.iload_n 2, 1) := by decide +kernel
theorem dX7_pan_12 : decode cX7_pan 12 = .ok (.bipush (-60), 2) := by decide +kernel
theorem dX7_pan_14 : decode cX7_pan 14 = .ok (.bipush 60, 2) := by decide +kernel
theorem dX7_pan_16 : decode cX7_pan 16 = .ok (.invokestatic 90, 3) := by decide +kernel
theorem dX7_pan_19 : decode cX7_pan 19 = .ok (.ifCond .eq 30, 3) := by decide +kernel
theorem dX7_pan_22 : decode cX7_pan 22 = .ok (.iload_n 3, 1) := by decide +kernel
theorem dX7_pan_23 : decode cX7_pan 23 = .ok (.bipush (-60), 2) := by decide +kernel
theorem dX7_pan_25 : decode cX7_pan 25 = .ok (.bipush 60, 2) := by decide +kernel
theorem dX7_pan_27 : decode cX7_pan 27 = .ok (.invokestatic 90, 3) := by decide +kernel
theorem dX7_pan_30 : decode cX7_pan 30 = .ok (.ifCond .eq 19, 3) := by decide +kernel
theorem dX7_pan_33 : decode cX7_pan 33 = .ok (.iload 4, 2) := by decide +kernel
theorem dX7_pan_35 : decode cX7_pan 35 = .ok (.bipush (-60), 2) := by decide +kernel
theorem dX7_pan_37 : decode cX7_pan 37 = .ok (.bipush 60, 2) := by decide +kernel
theorem dX7_pan_39 : decode cX7_pan 39 = .ok (.invokestatic 90, 3) := by decide +kernel
theorem dX7_pan_42 : decode cX7_pan 42 = .ok (.ifCond .eq 7, 3) := by decide +kernel
theorem dX7_pan_45 : decode cX7_pan 45 = .ok (.iconst 1, 1) := by decide +kernel
theorem dX7_pan_46 : decode cX7_pan 46 = .ok (.goto 4, 3) := by decide +kernel
theorem dX7_pan_49 : decode cX7_pan 49 = .ok (.iconst 0, 1) := by decide +kernel
theorem dX7_pan_50 : decode cX7_pan 50 = .ok (.istore 5, 2) := by decide +kernel
theorem dX7_pan_52 : decode cX7_pan 52 = .ok (.aload_n 0, 1) := by decide +kernel
theorem dX7_pan_53 : decode cX7_pan 53 = .ok (.iload 5, 2) := by decide +kernel
theorem dX7_pan_55 : decode cX7_pan 55 = .ok (.ifCond .ne 7, 3) := by decide +kernel
theorem dX7_pan_58 : decode cX7_pan 58 = .ok (.iconst 1, 1) := by decide +kernel
theorem dX7_pan_59 : decode cX7_pan 59 = .ok (.goto 17, 3) := by decide +kernel
theorem dX7_pan_62 : decode cX7_pan 62 = .ok (.aload_n 0, 1) := by decide +kernel
theorem dX7_pan_63 : decode cX7_pan 63 = .ok (.getfield 87, 3) := by decide +kernel
theorem dX7_pan_66 : decode cX7_pan 66 = .ok (.bipush 6, 2) := by decide +kernel
theorem dX7_pan_68 : decode cX7_pan 68 = .ok (.if_icmp .ne 7, 3) := by decide +kernel
theorem dX7_pan_71 : decode cX7_pan 71 = .ok (.iconst 2, 1) := by decide +kernel
theorem dX7_pan_72 : decode cX7_pan 72 = .ok (.goto 4, 3) := by decide +kernel
theorem dX7_pan_75 : decode cX7_pan 75 = .ok (.iconst 0, 1) := by decide +kernel
theorem dX7_pan_76 : decode cX7_pan 76 = .ok (.invokevirtual 104, 3) := by decide +kernel
theorem dX7_pan_79 : decode cX7_pan 79 = .ok (.ifCond .ne 5, 3) := by decide +kernel
theorem dX7_pan_82 : decode cX7_pan 82 = .ok (.iconst 0, 1) := by decide +kernel
theorem dX7_pan_83 : decode cX7_pan 83 = .ok (.ireturn, 1) := by decide +kernel
theorem dX7_pan_84 : decode cX7_pan 84 = .ok (.aload_n 0, 1) := by decide +kernel
theorem dX7_pan_85 : decode cX7_pan 85 = .ok (.getfield 7, 3) := by decide +kernel
theorem dX7_pan_88 : decode cX7_pan 88 = .ok (.iconst 4, 1) := by decide +kernel
theorem dX7_pan_89 : decode cX7_pan 89 = .ok (.aload_n 0, 1) := by decide +kernel
theorem dX7_pan_90 : decode cX7_pan 90 = .ok (.getfield 87, 3) := by decide +kernel
theorem dX7_pan_93 : decode cX7_pan 93 = .ok (.imul, 1) := by decide +kernel
theorem dX7_pan_94 : decode cX7_pan 94 = .ok (.iload_n 1, 1) := by decide +kernel
theorem dX7_pan_95 : decode cX7_pan 95 = .ok (.iastore, 1) := by decide +kernel
theorem dX7_pan_96 : decode cX7_pan 96 = .ok (.aload_n 0, 1) := by decide +kernel
theorem dX7_pan_97 : decode cX7_pan 97 = .ok (.getfield 7, 3) := by decide +kernel
theorem dX7_pan_100 : decode cX7_pan 100 = .ok (.iconst 4, 1) := by decide +kernel
theorem dX7_pan_101 : decode cX7_pan 101 = .ok (.aload_n 0, 1) := by decide +kernel
theorem dX7_pan_102 : decode cX7_pan 102 = .ok (.getfield 87, 3) := by decide +kernel
theorem dX7_pan_105 : decode cX7_pan 105 = .ok (.imul, 1) := by decide +kernel
theorem dX7_pan_106 : decode cX7_pan 106 = .ok (.iconst 1, 1) := by decide +kernel
theorem dX7_pan_107 : decode cX7_pan 107 = .ok (.iadd, 1) := by decide +kernel
theorem dX7_pan_108 : decode cX7_pan 108 = .ok (.iload_n 2, 1) := by decide +kernel
theorem dX7_pan_109 : decode cX7_pan 109 = .ok (.iastore, 1) := by decide +kernel
theorem dX7_pan_110 : decode cX7_pan 110 = .ok (.aload_n 0, 1) := by decide +kernel
theorem dX7_pan_111 : decode cX7_pan 111 = .ok (.getfield 7, 3) := by decide +kernel
theorem dX7_pan_114 : decode cX7_pan 114 = .ok (.iconst 4, 1) := by decide +kernel
theorem dX7_pan_115 : decode cX7_pan 115 = .ok (.aload_n 0, 1) := by decide +kernel
theorem dX7_pan_116 : decode cX7_pan 116 = .ok (.getfield 87, 3) := by decide +kernel
theorem dX7_pan_119 : decode cX7_pan 119 = .ok (.imul, 1) := by decide +kernel
theorem dX7_pan_120 : decode cX7_pan 120 = .ok (.iconst 2, 1) := by decide +kernel
theorem dX7_pan_121 : decode cX7_pan 121 = .ok (.iadd, 1) := by decide +kernel
theorem dX7_pan_122 : decode cX7_pan 122 = .ok (.iload_n 3, 1) := by decide +kernel
theorem dX7_pan_123 : decode cX7_pan 123 = .ok (.iastore, 1) := by decide +kernel
theorem dX7_pan_124 : decode cX7_pan 124 = .ok (.aload_n 0, 1) := by decide +kernel
theorem dX7_pan_125 : decode cX7_pan 125 = .ok (.getfield 7, 3) := by decide +kernel
theorem dX7_pan_128 : decode cX7_pan 128 = .ok (.iconst 4, 1) := by decide +kernel
theorem dX7_pan_129 : decode cX7_pan 129 = .ok (.aload_n 0, 1) := by decide +kernel
theorem dX7_pan_130 : decode cX7_pan 130 = .ok (.getfield 87, 3) := by decide +kernel
theorem dX7_pan_133 : decode cX7_pan 133 = .ok (.imul, 1) := by decide +kernel
theorem dX7_pan_134 : decode cX7_pan 134 = .ok (.iconst 3, 1) := by decide +kernel
theorem dX7_pan_135 : decode cX7_pan 135 = .ok (.iadd, 1) := by decide +kernel
theorem dX7_pan_136 : decode cX7_pan 136 = .ok (.iload 4, 2) := by decide +kernel
theorem dX7_pan_138 : decode cX7_pan 138 = .ok (.iastore, 1) := by decide +kernel
theorem dX7_pan_139 : decode cX7_pan 139 = .ok (.aload_n 0, 1) := by decide +kernel
theorem dX7_pan_140 : decode cX7_pan 140 = .ok (.dup, 1) := by decide +kernel
theorem dX7_pan_141 : decode cX7_pan 141 = .ok (.getfield 87, 3) := by decide +kernel
theorem dX7_pan_144 : decode cX7_pan 144 = .ok (.iconst 1, 1) := by decide +kernel
theorem dX7_pan_145 : decode cX7_pan 145 = .ok (.iadd, 1) := by decide +kernel
theorem dX7_pan_146 : decode cX7_pan 146 = .ok (.putfield 87, 3) := by decide +kernel
theorem dX7_pan_149 : decode cX7_pan 149 = .ok (.aload_n 0, 1) := by decide +kernel
theorem dX7_pan_150 : decode cX7_pan 150 = .ok (.getfield 87, 3) := by decide +kernel
theorem dX7_pan_153 : decode cX7_pan 153 = .ok (.iconst 1, 1) := by decide +kernel
theorem dX7_pan_154 : decode cX7_pan 154 = .ok (.isub, 1) := by decide +kernel
theorem dX7_pan_155 : decode cX7_pan 155 = .ok (.ireturn, 1) := by decide +kernel
theorem dX7_takes_0 : decode cX7_takes 0 = .ok (.iconst 0, 1) := by decide +kernel
theorem dX7_takes_1 : decode cX7_takes 1 = .ok (.istore_n 2, 1) := by decide +kernel
theorem dX7_takes_2 : decode cX7_takes 2 = .ok (.iload_n 2, 1) := by decide +kernel
theorem dX7_takes_3 : decode cX7_takes 3 = .ok (.iconst 4, 1) := by decide +kernel
theorem dX7_takes_4 : decode cX7_takes 4 = .ok (.if_icmp .ge 57, 3) := by decide +kernel
theorem dX7_takes_7 : decode cX7_takes 7 = .ok (.aload_n 0, 1) := by decide +kernel
theorem dX7_takes_8 : decode cX7_takes 8 = .ok (.getfield 20, 3) := by decide +kernel
theorem dX7_takes_11 : decode cX7_takes 11 = .ok (.iload_n 2, 1) := by decide +kernel
theorem dX7_takes_12 : decode cX7_takes 12 = .ok (.aload_n 0, 1) := by decide +kernel
theorem dX7_takes_13 : decode cX7_takes 13 = .ok (.getfield 7, 3) := by decide +kernel
theorem dX7_takes_16 : decode cX7_takes 16 = .ok (.iconst 4, 1) := by decide +kernel
theorem dX7_takes_17 : decode cX7_takes 17 = .ok (.iload_n 1, 1) := by decide +kernel
theorem dX7_takes_18 : decode cX7_takes 18 = .ok (.imul, 1) := by decide +kernel
theorem dX7_takes_19 : decode cX7_takes 19 = .ok (.iload_n 2, 1) := by decide +kernel
theorem dX7_takes_20 : decode cX7_takes 20 = .ok (.iadd, 1) := by decide +kernel
theorem dX7_takes_21 : decode cX7_takes 21 = .ok (.iaload, 1) := by decide +kernel
theorem dX7_takes_22 : decode cX7_takes 22 = .ok (.iastore, 1) := by decide +kernel
theorem dX7_takes_23 : decode cX7_takes 23 = .ok (.aload_n 0, 1) := by decide +kernel
theorem dX7_takes_24 : decode cX7_takes 24 = .ok (.getfield 23, 3) := by decide +kernel
theorem dX7_takes_27 : decode cX7_takes 27 = .ok (.iload_n 2, 1) := by decide +kernel
theorem dX7_takes_28 : decode cX7_takes 28 = .ok (.aload_n 0, 1) := by decide +kernel
theorem dX7_takes_29 : decode cX7_takes 29 = .ok (.getfield 13, 3) := by decide +kernel
theorem dX7_takes_32 : decode cX7_takes 32 = .ok (.iconst 4, 1) := by decide +kernel
theorem dX7_takes_33 : decode cX7_takes 33 = .ok (.iload_n 1, 1) := by decide +kernel
theorem dX7_takes_34 : decode cX7_takes 34 = .ok (.imul, 1) := by decide +kernel
theorem dX7_takes_35 : decode cX7_takes 35 = .ok (.iload_n 2, 1) := by decide +kernel
theorem dX7_takes_36 : decode cX7_takes 36 = .ok (.iadd, 1) := by decide +kernel
theorem dX7_takes_37 : decode cX7_takes 37 = .ok (.iaload, 1) := by decide +kernel
theorem dX7_takes_38 : decode cX7_takes 38 = .ok (.iastore, 1) := by decide +kernel
theorem dX7_takes_39 : decode cX7_takes 39 = .ok (.aload_n 0, 1) := by decide +kernel
theorem dX7_takes_40 : decode cX7_takes 40 = .ok (.getfield 26, 3) := by decide +kernel
theorem dX7_takes_43 : decode cX7_takes 43 = .ok (.iload_n 2, 1) := by decide +kernel
theorem dX7_takes_44 : decode cX7_takes 44 = .ok (.aload_n 0, 1) := by decide +kernel
theorem dX7_takes_45 : decode cX7_takes 45 = .ok (.getfield 16, 3) := by decide +kernel
theorem dX7_takes_48 : decode cX7_takes 48 = .ok (.iconst 4, 1) := by decide +kernel
theorem dX7_takes_49 : decode cX7_takes 49 = .ok (.iload_n 1, 1) := by decide +kernel
theorem dX7_takes_50 : decode cX7_takes 50 = .ok (.imul, 1) := by decide +kernel
theorem dX7_takes_51 : decode cX7_takes 51 = .ok (.iload_n 2, 1) := by decide +kernel
theorem dX7_takes_52 : decode cX7_takes 52 = .ok (.iadd, 1) := by decide +kernel
theorem dX7_takes_53 : decode cX7_takes 53 = .ok (.baload, 1) := by decide +kernel
theorem dX7_takes_54 : decode cX7_takes 54 = .ok (.bastore, 1) := by decide +kernel
theorem dX7_takes_55 : decode cX7_takes 55 = .ok (.iinc 2 1, 3) := by decide +kernel
theorem dX7_takes_58 : decode cX7_takes 58 = .ok (.goto (-56), 3) := by decide +kernel
theorem dX7_takes_61 : decode cX7_takes 61 = .ok (.return_, 1) := by decide +kernel
theorem dX7_bears_0 : decode cX7_bears 0 = .ok (.aload_n 0, 1) := by decide +kernel
theorem dX7_bears_1 : decode cX7_bears 1 = .ok (.getfield 23, 3) := by decide +kernel
theorem dX7_bears_4 : decode cX7_bears 4 = .ok (.iload_n 1, 1) := by decide +kernel
theorem dX7_bears_5 : decode cX7_bears 5 = .ok (.iaload, 1) := by decide +kernel
theorem dX7_bears_6 : decode cX7_bears 6 = .ok (.bipush 6, 2) := by decide +kernel
theorem dX7_bears_8 : decode cX7_bears 8 = .ok (.if_icmp .gt 20, 3) := by decide +kernel
theorem dX7_bears_11 : decode cX7_bears 11 = .ok (.iload_n 2, 1) := by decide +kernel
theorem dX7_bears_12 : decode cX7_bears 12 = .ok (.ifCond .ne 12, 3) := by decide +kernel
theorem dX7_bears_15 : decode cX7_bears 15 = .ok (.aload_n 0, 1) := by decide +kernel
theorem dX7_bears_16 : decode cX7_bears 16 = .ok (.getfield 26, 3) := by decide +kernel
theorem dX7_bears_19 : decode cX7_bears 19 = .ok (.iload_n 1, 1) := by decide +kernel
theorem dX7_bears_20 : decode cX7_bears 20 = .ok (.baload, 1) := by decide +kernel
theorem dX7_bears_21 : decode cX7_bears 21 = .ok (.ifCond .ne 7, 3) := by decide +kernel
theorem dX7_bears_24 : decode cX7_bears 24 = .ok (.iconst 1, 1) := by decide +kernel
theorem dX7_bears_25 : decode cX7_bears 25 = .ok (.goto 4, 3) := by decide +kernel
theorem dX7_bears_28 : decode cX7_bears 28 = .ok (.iconst 0, 1) := by decide +kernel
theorem dX7_bears_29 : decode cX7_bears 29 = .ok (.ireturn, 1) := by decide +kernel
theorem dX7_beats_0 : decode cX7_beats 0 = .ok (.aload_n 0, 1) := by decide +kernel
theorem dX7_beats_1 : decode cX7_beats 1 = .ok (.getfield 20, 3) := by decide +kernel
theorem dX7_beats_4 : decode cX7_beats 4 = .ok (.iload_n 1, 1) := by decide +kernel
theorem dX7_beats_5 : decode cX7_beats 5 = .ok (.dup2, 1) := by decide +kernel
theorem dX7_beats_6 : decode cX7_beats 6 = .ok (.iaload, 1) := by decide +kernel
theorem dX7_beats_7 : decode cX7_beats 7 = .ok (.iload_n 3, 1) := by decide +kernel
theorem dX7_beats_8 : decode cX7_beats 8 = .ok (.ifCond .eq 10, 3) := by decide +kernel
theorem dX7_beats_11 : decode cX7_beats 11 = .ok (.bipush (-6), 2) := by decide +kernel
theorem dX7_beats_13 : decode cX7_beats 13 = .ok (.iload_n 2, 1) := by decide +kernel
theorem dX7_beats_14 : decode cX7_beats 14 = .ok (.imul, 1) := by decide +kernel
theorem dX7_beats_15 : decode cX7_beats 15 = .ok (.goto 6, 3) := by decide +kernel
theorem dX7_beats_18 : decode cX7_beats 18 = .ok (.iconst 4, 1) := by decide +kernel
theorem dX7_beats_19 : decode cX7_beats 19 = .ok (.iload_n 2, 1) := by decide +kernel
theorem dX7_beats_20 : decode cX7_beats 20 = .ok (.imul, 1) := by decide +kernel
theorem dX7_beats_21 : decode cX7_beats 21 = .ok (.iadd, 1) := by decide +kernel
theorem dX7_beats_22 : decode cX7_beats 22 = .ok (.iastore, 1) := by decide +kernel
theorem dX7_beats_23 : decode cX7_beats 23 = .ok (.aload_n 0, 1) := by decide +kernel
theorem dX7_beats_24 : decode cX7_beats 24 = .ok (.getfield 20, 3) := by decide +kernel
theorem dX7_beats_27 : decode cX7_beats 27 = .ok (.iload_n 1, 1) := by decide +kernel
theorem dX7_beats_28 : decode cX7_beats 28 = .ok (.iconst 1, 1) := by decide +kernel
theorem dX7_beats_29 : decode cX7_beats 29 = .ok (.iadd, 1) := by decide +kernel
theorem dX7_beats_30 : decode cX7_beats 30 = .ok (.iconst 4, 1) := by decide +kernel
theorem dX7_beats_31 : decode cX7_beats 31 = .ok (.irem, 1) := by decide +kernel
theorem dX7_beats_32 : decode cX7_beats 32 = .ok (.dup2, 1) := by decide +kernel
theorem dX7_beats_33 : decode cX7_beats 33 = .ok (.iaload, 1) := by decide +kernel
theorem dX7_beats_34 : decode cX7_beats 34 = .ok (.iload_n 3, 1) := by decide +kernel
theorem dX7_beats_35 : decode cX7_beats 35 = .ok (.ifCond .eq 7, 3) := by decide +kernel
theorem dX7_beats_38 : decode cX7_beats 38 = .ok (.iload_n 2, 1) := by decide +kernel
theorem dX7_beats_39 : decode cX7_beats 39 = .ok (.goto 5, 3) := by decide +kernel
theorem dX7_beats_42 : decode cX7_beats 42 = .ok (.iload_n 2, 1) := by decide +kernel
theorem dX7_beats_43 : decode cX7_beats 43 = .ok (.ineg, 1) := by decide +kernel
theorem dX7_beats_44 : decode cX7_beats 44 = .ok (.iadd, 1) := by decide +kernel
theorem dX7_beats_45 : decode cX7_beats 45 = .ok (.iastore, 1) := by decide +kernel
theorem dX7_beats_46 : decode cX7_beats 46 = .ok (.aload_n 0, 1) := by decide +kernel
theorem dX7_beats_47 : decode cX7_beats 47 = .ok (.getfield 20, 3) := by decide +kernel
theorem dX7_beats_50 : decode cX7_beats 50 = .ok (.iload_n 1, 1) := by decide +kernel
theorem dX7_beats_51 : decode cX7_beats 51 = .ok (.iconst 3, 1) := by decide +kernel
theorem dX7_beats_52 : decode cX7_beats 52 = .ok (.iadd, 1) := by decide +kernel
theorem dX7_beats_53 : decode cX7_beats 53 = .ok (.iconst 4, 1) := by decide +kernel
theorem dX7_beats_54 : decode cX7_beats 54 = .ok (.irem, 1) := by decide +kernel
theorem dX7_beats_55 : decode cX7_beats 55 = .ok (.dup2, 1) := by decide +kernel
theorem dX7_beats_56 : decode cX7_beats 56 = .ok (.iaload, 1) := by decide +kernel
theorem dX7_beats_57 : decode cX7_beats 57 = .ok (.iload_n 3, 1) := by decide +kernel
theorem dX7_beats_58 : decode cX7_beats 58 = .ok (.ifCond .eq 7, 3) := by decide +kernel
theorem dX7_beats_61 : decode cX7_beats 61 = .ok (.iload_n 2, 1) := by decide +kernel
theorem dX7_beats_62 : decode cX7_beats 62 = .ok (.goto 5, 3) := by decide +kernel
theorem dX7_beats_65 : decode cX7_beats 65 = .ok (.iload_n 2, 1) := by decide +kernel
theorem dX7_beats_66 : decode cX7_beats 66 = .ok (.ineg, 1) := by decide +kernel
theorem dX7_beats_67 : decode cX7_beats 67 = .ok (.iadd, 1) := by decide +kernel
theorem dX7_beats_68 : decode cX7_beats 68 = .ok (.iastore, 1) := by decide +kernel
theorem dX7_beats_69 : decode cX7_beats 69 = .ok (.aload_n 0, 1) := by decide +kernel
theorem dX7_beats_70 : decode cX7_beats 70 = .ok (.getfield 23, 3) := by decide +kernel
theorem dX7_beats_73 : decode cX7_beats 73 = .ok (.iload_n 1, 1) := by decide +kernel
theorem dX7_beats_74 : decode cX7_beats 74 = .ok (.dup2, 1) := by decide +kernel
theorem dX7_beats_75 : decode cX7_beats 75 = .ok (.iaload, 1) := by decide +kernel
theorem dX7_beats_76 : decode cX7_beats 76 = .ok (.iconst 1, 1) := by decide +kernel
theorem dX7_beats_77 : decode cX7_beats 77 = .ok (.iadd, 1) := by decide +kernel
theorem dX7_beats_78 : decode cX7_beats 78 = .ok (.iastore, 1) := by decide +kernel
theorem dX7_beats_79 : decode cX7_beats 79 = .ok (.aload_n 0, 1) := by decide +kernel
theorem dX7_beats_80 : decode cX7_beats 80 = .ok (.getfield 26, 3) := by decide +kernel
theorem dX7_beats_83 : decode cX7_beats 83 = .ok (.iload_n 1, 1) := by decide +kernel
theorem dX7_beats_84 : decode cX7_beats 84 = .ok (.aload_n 0, 1) := by decide +kernel
theorem dX7_beats_85 : decode cX7_beats 85 = .ok (.getfield 26, 3) := by decide +kernel
theorem dX7_beats_88 : decode cX7_beats 88 = .ok (.iload_n 1, 1) := by decide +kernel
theorem dX7_beats_89 : decode cX7_beats 89 = .ok (.baload, 1) := by decide +kernel
theorem dX7_beats_90 : decode cX7_beats 90 = .ok (.ifCond .ne 7, 3) := by decide +kernel
theorem dX7_beats_93 : decode cX7_beats 93 = .ok (.iload_n 3, 1) := by decide +kernel
theorem dX7_beats_94 : decode cX7_beats 94 = .ok (.ifCond .eq 7, 3) := by decide +kernel
theorem dX7_beats_97 : decode cX7_beats 97 = .ok (.iconst 1, 1) := by decide +kernel
theorem dX7_beats_98 : decode cX7_beats 98 = .ok (.goto 4, 3) := by decide +kernel
theorem dX7_beats_101 : decode cX7_beats 101 = .ok (.iconst 0, 1) := by decide +kernel
theorem dX7_beats_102 : decode cX7_beats 102 = .ok (.bastore, 1) := by decide +kernel
theorem dX7_beats_103 : decode cX7_beats 103 = .ok (.return_, 1) := by decide +kernel
set_option maxRecDepth 20000 in
theorem ggX7_isTuned_X7_isIn : GoodIn wsX7_isTuned wsX7_isIn := goodIn_r _ [7] (by decide +kernel) (by decide +kernel)
set_option maxRecDepth 20000 in
theorem gX7_isTuned_X7_isIn : GoodIn wsX7_isTuned (va_wsS RX7 90 yX7_isIn wsX7_isIn) := goodIn_app (goodIn_of _ (by decide +kernel)) ggX7_isTuned_X7_isIn
theorem dX7_isTuned_0 : decode cX7_isTuned 0 = .ok (.iconst 1, 1) := by decide +kernel
theorem dX7_isTuned_1 : decode cX7_isTuned 1 = .ok (.istore_n 1, 1) := by decide +kernel
theorem dX7_isTuned_2 : decode cX7_isTuned 2 = .ok (.iconst 0, 1) := by decide +kernel
theorem dX7_isTuned_3 : decode cX7_isTuned 3 = .ok (.istore_n 2, 1) := by decide +kernel
theorem dX7_isTuned_4 : decode cX7_isTuned 4 = .ok (.iload_n 2, 1) := by decide +kernel
theorem dX7_isTuned_5 : decode cX7_isTuned 5 = .ok (.iconst 4, 1) := by decide +kernel
theorem dX7_isTuned_6 : decode cX7_isTuned 6 = .ok (.if_icmp .ge 50, 3) := by decide +kernel
theorem dX7_isTuned_9 : decode cX7_isTuned 9 = .ok (.iload_n 1, 1) := by decide +kernel
theorem dX7_isTuned_10 : decode cX7_isTuned 10 = .ok (.ifCond .eq 38, 3) := by decide +kernel
theorem dX7_isTuned_13 : decode cX7_isTuned 13 = .ok (.aload_n 0, 1) := by decide +kernel
theorem dX7_isTuned_14 : decode cX7_isTuned 14 = .ok (.getfield 23, 3) := by decide +kernel
theorem dX7_isTuned_17 : decode cX7_isTuned 17 = .ok (.iload_n 2, 1) := by decide +kernel
theorem dX7_isTuned_18 : decode cX7_isTuned 18 = .ok (.iaload, 1) := by decide +kernel
theorem dX7_isTuned_19 : decode cX7_isTuned 19 = .ok (.bipush 6, 2) := by decide +kernel
theorem dX7_isTuned_21 : decode cX7_isTuned 21 = .ok (.if_icmp .gt 27, 3) := by decide +kernel
theorem dX7_isTuned_24 : decode cX7_isTuned 24 = .ok (.aload_n 0, 1) := by decide +kernel
theorem dX7_isTuned_25 : decode cX7_isTuned 25 = .ok (.getfield 20, 3) := by decide +kernel
theorem dX7_isTuned_28 : decode cX7_isTuned 28 = .ok (.iload_n 2, 1) := by decide +kernel
theorem dX7_isTuned_29 : decode cX7_isTuned 29 = .ok (.iaload, 1) := by decide +kernel
theorem dX7_isTuned_30 : decode cX7_isTuned 30 = .ok (.aload_n 0, 1) := by decide +kernel
theorem dX7_isTuned_31 : decode cX7_isTuned 31 = .ok (.getfield 107, 3) := by decide +kernel
theorem dX7_isTuned_34 : decode cX7_isTuned 34 = .ok (.isub, 1) := by decide +kernel
theorem dX7_isTuned_35 : decode cX7_isTuned 35 = .ok (.bipush (-5), 2) := by decide +kernel
theorem dX7_isTuned_37 : decode cX7_isTuned 37 = .ok (.iconst 5, 1) := by decide +kernel
theorem dX7_isTuned_38 : decode cX7_isTuned 38 = .ok (.invokestatic 90, 3) := by decide +kernel
theorem dX7_isTuned_41 : decode cX7_isTuned 41 = .ok (.ifCond .eq 7, 3) := by decide +kernel
theorem dX7_isTuned_44 : decode cX7_isTuned 44 = .ok (.iconst 1, 1) := by decide +kernel
theorem dX7_isTuned_45 : decode cX7_isTuned 45 = .ok (.goto 4, 3) := by decide +kernel
theorem dX7_isTuned_48 : decode cX7_isTuned 48 = .ok (.iconst 0, 1) := by decide +kernel
theorem dX7_isTuned_49 : decode cX7_isTuned 49 = .ok (.istore_n 1, 1) := by decide +kernel
theorem dX7_isTuned_50 : decode cX7_isTuned 50 = .ok (.iinc 2 1, 3) := by decide +kernel
theorem dX7_isTuned_53 : decode cX7_isTuned 53 = .ok (.goto (-49), 3) := by decide +kernel
theorem dX7_isTuned_56 : decode cX7_isTuned 56 = .ok (.iload_n 1, 1) := by decide +kernel
theorem dX7_isTuned_57 : decode cX7_isTuned 57 = .ok (.ireturn, 1) := by decide +kernel
set_option maxRecDepth 20000 in
theorem ggX7_blow_X7_isField : GoodIn wsX7_blow wsX7_isField := goodIn_r _ [11, 12, 13, 14, 10, 15, 16, 17, 18, 19, 37, 38, 39, 40, 41, 42, 43, 44, 45, 46, 47, 48, 49, 50, 51, 52, 53, 54, 55, 56, 57, 58, 59, 60, 61, 62, 63, 64, 65] (by decide +kernel) (by decide +kernel)
set_option maxRecDepth 20000 in
theorem gX7_blow_X7_isField : GoodIn wsX7_blow (wsV RX7 110 RX7 yX7_isField wsX7_isField) := goodIn_app (goodIn_of _ (by decide +kernel)) ggX7_blow_X7_isField
set_option maxRecDepth 20000 in
theorem ggX7_blow_X7_takes : GoodIn wsX7_blow wsX7_takes := goodIn_r _ [23, 2, 1, 4, 3, 6, 5, 37, 38, 39, 40, 41, 42, 43, 44, 45, 46, 47, 48, 49, 50, 51, 52, 53, 54, 55, 56, 57, 58, 59, 60, 61, 62, 63, 64, 65] (by decide +kernel) (by decide +kernel)
set_option maxRecDepth 20000 in
theorem gX7_blow_X7_takes : GoodIn wsX7_blow (wsV RX7 114 RX7 yX7_takes wsX7_takes) := goodIn_app (goodIn_of _ (by decide +kernel)) ggX7_blow_X7_takes
set_option maxRecDepth 20000 in
theorem ggX7_blow_X7_isIn : GoodIn wsX7_blow wsX7_isIn := goodIn_r _ [19] (by decide +kernel) (by decide +kernel)
set_option maxRecDepth 20000 in
theorem gX7_blow_X7_isIn : GoodIn wsX7_blow (va_wsS RX7 90 yX7_isIn wsX7_isIn) := goodIn_app (goodIn_of _ (by decide +kernel)) ggX7_blow_X7_isIn
set_option maxRecDepth 20000 in
theorem ggX7_blow_X7_bears : GoodIn wsX7_blow wsX7_bears := goodIn_r _ [27, 4, 6, 37, 38, 39, 40, 41, 42, 43, 44, 45, 46, 47, 48, 49, 50, 51, 52, 53, 54, 55, 56, 57, 58, 59, 60, 61, 62, 63, 64, 65] (by decide +kernel) (by decide +kernel)
set_option maxRecDepth 20000 in
theorem gX7_blow_X7_bears : GoodIn wsX7_blow (wsV RX7 118 RX7 yX7_bears wsX7_bears) := goodIn_app (goodIn_of _ (by decide +kernel)) ggX7_blow_X7_bears
set_option maxRecDepth 20000 in
theorem ggX7_blow_X7_holds : GoodIn wsX7_blow wsX7_holds := goodIn_r _ [31, 32, 37, 38, 39, 40, 41, 42, 43, 44, 45, 46, 47, 48, 49, 50, 51, 52, 53, 54, 55, 56, 57, 58, 59, 60, 61, 62, 63, 64, 65] (by decide +kernel) (by decide +kernel)
set_option maxRecDepth 20000 in
theorem gX7_blow_X7_holds : GoodIn wsX7_blow (wsV RX7 104 RX7 yX7_holds wsX7_holds) := goodIn_app (goodIn_of _ (by decide +kernel)) ggX7_blow_X7_holds
set_option maxRecDepth 20000 in
theorem ggX7_blow_X7_beats : GoodIn wsX7_blow wsX7_beats := goodIn_r _ [36, 2, 4, 6, 37, 38, 39, 40, 41, 42, 43, 44, 45, 46, 47, 48, 49, 50, 51, 52, 53, 54, 55, 56, 57, 58, 59, 60, 61, 62, 63, 64, 65] (by decide +kernel) (by decide +kernel)
set_option maxRecDepth 20000 in
theorem gX7_blow_X7_beats : GoodIn wsX7_blow (wsV RX7 122 RX7 yX7_beats wsX7_beats) := goodIn_app (goodIn_of _ (by decide +kernel)) ggX7_blow_X7_beats
theorem dX7_blow_0 : decode cX7_blow 0 = .ok (.aload_n 0, 1) := by decide +kernel
theorem dX7_blow_1 : decode cX7_blow 1 = .ok (.iload_n 1, 1) := by decide +kernel
theorem dX7_blow_2 : decode cX7_blow 2 = .ok (.iload_n 2, 1) := by decide +kernel
theorem dX7_blow_3 : decode cX7_blow 3 = .ok (.invokevirtual 110, 3) := by decide +kernel
theorem dX7_blow_6 : decode cX7_blow 6 = .ok (.istore 5, 2) := by decide +kernel
theorem dX7_blow_8 : decode cX7_blow 8 = .ok (.iload 5, 2) := by decide +kernel
theorem dX7_blow_10 : decode cX7_blow 10 = .ok (.ifCond .eq 8, 3) := by decide +kernel
theorem dX7_blow_13 : decode cX7_blow 13 = .ok (.aload_n 0, 1) := by decide +kernel
theorem dX7_blow_14 : decode cX7_blow 14 = .ok (.iload_n 1, 1) := by decide +kernel
theorem dX7_blow_15 : decode cX7_blow 15 = .ok (.invokevirtual 114, 3) := by decide +kernel
theorem dX7_blow_18 : decode cX7_blow 18 = .ok (.aload_n 0, 1) := by decide +kernel
theorem dX7_blow_19 : decode cX7_blow 19 = .ok (.iload 5, 2) := by decide +kernel
theorem dX7_blow_21 : decode cX7_blow 21 = .ok (.ifCond .ne 7, 3) := by decide +kernel
theorem dX7_blow_24 : decode cX7_blow 24 = .ok (.iconst 1, 1) := by decide +kernel
theorem dX7_blow_25 : decode cX7_blow 25 = .ok (.goto 31, 3) := by decide +kernel
theorem dX7_blow_28 : decode cX7_blow 28 = .ok (.iload_n 3, 1) := by decide +kernel
theorem dX7_blow_29 : decode cX7_blow 29 = .ok (.iconst 1, 1) := by decide +kernel
theorem dX7_blow_30 : decode cX7_blow 30 = .ok (.iconst 4, 1) := by decide +kernel
theorem dX7_blow_31 : decode cX7_blow 31 = .ok (.invokestatic 90, 3) := by decide +kernel
theorem dX7_blow_34 : decode cX7_blow 34 = .ok (.ifCond .ne 7, 3) := by decide +kernel
theorem dX7_blow_37 : decode cX7_blow 37 = .ok (.iconst 2, 1) := by decide +kernel
theorem dX7_blow_38 : decode cX7_blow 38 = .ok (.goto 18, 3) := by decide +kernel
theorem dX7_blow_41 : decode cX7_blow 41 = .ok (.aload_n 0, 1) := by decide +kernel
theorem dX7_blow_42 : decode cX7_blow 42 = .ok (.iload_n 2, 1) := by decide +kernel
theorem dX7_blow_43 : decode cX7_blow 43 = .ok (.iload 4, 2) := by decide +kernel
theorem dX7_blow_45 : decode cX7_blow 45 = .ok (.invokevirtual 118, 3) := by decide +kernel
theorem dX7_blow_48 : decode cX7_blow 48 = .ok (.ifCond .eq 7, 3) := by decide +kernel
theorem dX7_blow_51 : decode cX7_blow 51 = .ok (.iconst 0, 1) := by decide +kernel
theorem dX7_blow_52 : decode cX7_blow 52 = .ok (.goto 4, 3) := by decide +kernel
theorem dX7_blow_55 : decode cX7_blow 55 = .ok (.iconst 3, 1) := by decide +kernel
theorem dX7_blow_56 : decode cX7_blow 56 = .ok (.invokevirtual 104, 3) := by decide +kernel
theorem dX7_blow_59 : decode cX7_blow 59 = .ok (.ifCond .ne 5, 3) := by decide +kernel
theorem dX7_blow_62 : decode cX7_blow 62 = .ok (.iconst 0, 1) := by decide +kernel
theorem dX7_blow_63 : decode cX7_blow 63 = .ok (.ireturn, 1) := by decide +kernel
theorem dX7_blow_64 : decode cX7_blow 64 = .ok (.aload_n 0, 1) := by decide +kernel
theorem dX7_blow_65 : decode cX7_blow 65 = .ok (.iload_n 2, 1) := by decide +kernel
theorem dX7_blow_66 : decode cX7_blow 66 = .ok (.iload_n 3, 1) := by decide +kernel
theorem dX7_blow_67 : decode cX7_blow 67 = .ok (.iload 4, 2) := by decide +kernel
theorem dX7_blow_69 : decode cX7_blow 69 = .ok (.invokevirtual 122, 3) := by decide +kernel
theorem dX7_blow_72 : decode cX7_blow 72 = .ok (.iconst 0, 1) := by decide +kernel
theorem dX7_blow_73 : decode cX7_blow 73 = .ok (.istore 6, 2) := by decide +kernel
theorem dX7_blow_75 : decode cX7_blow 75 = .ok (.iload 6, 2) := by decide +kernel
theorem dX7_blow_77 : decode cX7_blow 77 = .ok (.iconst 4, 1) := by decide +kernel
theorem dX7_blow_78 : decode cX7_blow 78 = .ok (.if_icmp .ge 27, 3) := by decide +kernel
theorem dX7_blow_81 : decode cX7_blow 81 = .ok (.aload_n 0, 1) := by decide +kernel
theorem dX7_blow_82 : decode cX7_blow 82 = .ok (.getfield 7, 3) := by decide +kernel
theorem dX7_blow_85 : decode cX7_blow 85 = .ok (.iconst 4, 1) := by decide +kernel
theorem dX7_blow_86 : decode cX7_blow 86 = .ok (.iload_n 1, 1) := by decide +kernel
theorem dX7_blow_87 : decode cX7_blow 87 = .ok (.imul, 1) := by decide +kernel
theorem dX7_blow_88 : decode cX7_blow 88 = .ok (.iload 6, 2) := by decide +kernel
theorem dX7_blow_90 : decode cX7_blow 90 = .ok (.iadd, 1) := by decide +kernel
theorem dX7_blow_91 : decode cX7_blow 91 = .ok (.aload_n 0, 1) := by decide +kernel
theorem dX7_blow_92 : decode cX7_blow 92 = .ok (.getfield 20, 3) := by decide +kernel
theorem dX7_blow_95 : decode cX7_blow 95 = .ok (.iload 6, 2) := by decide +kernel
theorem dX7_blow_97 : decode cX7_blow 97 = .ok (.iaload, 1) := by decide +kernel
theorem dX7_blow_98 : decode cX7_blow 98 = .ok (.iastore, 1) := by decide +kernel
theorem dX7_blow_99 : decode cX7_blow 99 = .ok (.iinc 6 1, 3) := by decide +kernel
theorem dX7_blow_102 : decode cX7_blow 102 = .ok (.goto (-27), 3) := by decide +kernel
theorem dX7_blow_105 : decode cX7_blow 105 = .ok (.aload_n 0, 1) := by decide +kernel
theorem dX7_blow_106 : decode cX7_blow 106 = .ok (.getfield 13, 3) := by decide +kernel
theorem dX7_blow_109 : decode cX7_blow 109 = .ok (.iconst 4, 1) := by decide +kernel
theorem dX7_blow_110 : decode cX7_blow 110 = .ok (.iload_n 1, 1) := by decide +kernel
theorem dX7_blow_111 : decode cX7_blow 111 = .ok (.imul, 1) := by decide +kernel
theorem dX7_blow_112 : decode cX7_blow 112 = .ok (.iload_n 2, 1) := by decide +kernel
theorem dX7_blow_113 : decode cX7_blow 113 = .ok (.iadd, 1) := by decide +kernel
theorem dX7_blow_114 : decode cX7_blow 114 = .ok (.aload_n 0, 1) := by decide +kernel
theorem dX7_blow_115 : decode cX7_blow 115 = .ok (.getfield 23, 3) := by decide +kernel
theorem dX7_blow_118 : decode cX7_blow 118 = .ok (.iload_n 2, 1) := by decide +kernel
theorem dX7_blow_119 : decode cX7_blow 119 = .ok (.iaload, 1) := by decide +kernel
theorem dX7_blow_120 : decode cX7_blow 120 = .ok (.iastore, 1) := by decide +kernel
theorem dX7_blow_121 : decode cX7_blow 121 = .ok (.aload_n 0, 1) := by decide +kernel
theorem dX7_blow_122 : decode cX7_blow 122 = .ok (.getfield 16, 3) := by decide +kernel
theorem dX7_blow_125 : decode cX7_blow 125 = .ok (.iconst 4, 1) := by decide +kernel
theorem dX7_blow_126 : decode cX7_blow 126 = .ok (.iload_n 1, 1) := by decide +kernel
theorem dX7_blow_127 : decode cX7_blow 127 = .ok (.imul, 1) := by decide +kernel
theorem dX7_blow_128 : decode cX7_blow 128 = .ok (.iload_n 2, 1) := by decide +kernel
theorem dX7_blow_129 : decode cX7_blow 129 = .ok (.iadd, 1) := by decide +kernel
theorem dX7_blow_130 : decode cX7_blow 130 = .ok (.aload_n 0, 1) := by decide +kernel
theorem dX7_blow_131 : decode cX7_blow 131 = .ok (.getfield 26, 3) := by decide +kernel
theorem dX7_blow_134 : decode cX7_blow 134 = .ok (.iload_n 2, 1) := by decide +kernel
theorem dX7_blow_135 : decode cX7_blow 135 = .ok (.baload, 1) := by decide +kernel
theorem dX7_blow_136 : decode cX7_blow 136 = .ok (.bastore, 1) := by decide +kernel
theorem dX7_blow_137 : decode cX7_blow 137 = .ok (.aload_n 0, 1) := by decide +kernel
theorem dX7_blow_138 : decode cX7_blow 138 = .ok (.getfield 20, 3) := by decide +kernel
theorem dX7_blow_141 : decode cX7_blow 141 = .ok (.iload_n 2, 1) := by decide +kernel
theorem dX7_blow_142 : decode cX7_blow 142 = .ok (.iaload, 1) := by decide +kernel
theorem dX7_blow_143 : decode cX7_blow 143 = .ok (.ireturn, 1) := by decide +kernel
set_option maxRecDepth 20000 in
theorem ggX7_heat_X7_isIn : GoodIn wsX7_heat wsX7_isIn := goodIn_r _ [5] (by decide +kernel) (by decide +kernel)
set_option maxRecDepth 20000 in
theorem gX7_heat_X7_isIn : GoodIn wsX7_heat (va_wsS RX7 90 yX7_isIn wsX7_isIn) := goodIn_app (goodIn_of _ (by decide +kernel)) ggX7_heat_X7_isIn
set_option maxRecDepth 20000 in
theorem ggX7_heat_X7_holds : GoodIn wsX7_heat wsX7_holds := goodIn_r _ [9, 10, 11, 12, 13, 14, 15, 16, 17, 18, 19, 20, 21, 22, 23, 24, 25, 26, 27, 28, 29, 30, 31, 32, 33, 34, 35, 36, 37, 38, 39] (by decide +kernel) (by decide +kernel)
set_option maxRecDepth 20000 in
theorem gX7_heat_X7_holds : GoodIn wsX7_heat (wsV RX7 104 RX7 yX7_holds wsX7_holds) := goodIn_app (goodIn_of _ (by decide +kernel)) ggX7_heat_X7_holds
theorem dX7_heat_0 : decode cX7_heat 0 = .ok (.aload_n 0, 1) := by decide +kernel
theorem dX7_heat_1 : decode cX7_heat 1 = .ok (.iload_n 1, 1) := by decide +kernel
theorem dX7_heat_2 : decode cX7_heat 2 = .ok (.iconst 0, 1) := by decide +kernel
theorem dX7_heat_3 : decode cX7_heat 3 = .ok (.bipush 15, 2) := by decide +kernel
theorem dX7_heat_5 : decode cX7_heat 5 = .ok (.invokestatic 90, 3) := by decide +kernel
theorem dX7_heat_8 : decode cX7_heat 8 = .ok (.ifCond .eq 7, 3) := by decide +kernel
theorem dX7_heat_11 : decode cX7_heat 11 = .ok (.iconst 0, 1) := by decide +kernel
theorem dX7_heat_12 : decode cX7_heat 12 = .ok (.goto 4, 3) := by decide +kernel
theorem dX7_heat_15 : decode cX7_heat 15 = .ok (.iconst 1, 1) := by decide +kernel
theorem dX7_heat_16 : decode cX7_heat 16 = .ok (.invokevirtual 104, 3) := by decide +kernel
theorem dX7_heat_19 : decode cX7_heat 19 = .ok (.ifCond .ne 5, 3) := by decide +kernel
theorem dX7_heat_22 : decode cX7_heat 22 = .ok (.iconst 0, 1) := by decide +kernel
theorem dX7_heat_23 : decode cX7_heat 23 = .ok (.ireturn, 1) := by decide +kernel
theorem dX7_heat_24 : decode cX7_heat 24 = .ok (.aload_n 0, 1) := by decide +kernel
theorem dX7_heat_25 : decode cX7_heat 25 = .ok (.getfield 107, 3) := by decide +kernel
theorem dX7_heat_28 : decode cX7_heat 28 = .ok (.istore_n 2, 1) := by decide +kernel
theorem dX7_heat_29 : decode cX7_heat 29 = .ok (.aload_n 0, 1) := by decide +kernel
theorem dX7_heat_30 : decode cX7_heat 30 = .ok (.iload_n 1, 1) := by decide +kernel
theorem dX7_heat_31 : decode cX7_heat 31 = .ok (.putfield 107, 3) := by decide +kernel
theorem dX7_heat_34 : decode cX7_heat 34 = .ok (.iload_n 2, 1) := by decide +kernel
theorem dX7_heat_35 : decode cX7_heat 35 = .ok (.ireturn, 1) := by decide +kernel
set_option maxRecDepth 20000 in
theorem ggX7_field_X7_isField : GoodIn wsX7_field wsX7_isField := goodIn_r _ [9, 10, 11, 12, 8, 13, 14, 15, 16, 17, 23, 24, 25, 26, 27, 28, 29, 30, 31, 32, 33, 34, 35, 36, 37, 38, 39, 40, 41, 42, 43, 44, 45, 46, 47, 48, 49, 50, 51] (by decide +kernel) (by decide +kernel)
set_option maxRecDepth 20000 in
theorem gX7_field_X7_isField : GoodIn wsX7_field (wsV RX7 110 RX7 yX7_isField wsX7_isField) := goodIn_app (goodIn_of _ (by decide +kernel)) ggX7_field_X7_isField
set_option maxRecDepth 20000 in
theorem ggX7_field_X7_isIn : GoodIn wsX7_field wsX7_isIn := goodIn_r _ [17] (by decide +kernel) (by decide +kernel)
set_option maxRecDepth 20000 in
theorem gX7_field_X7_isIn : GoodIn wsX7_field (va_wsS RX7 90 yX7_isIn wsX7_isIn) := goodIn_app (goodIn_of _ (by decide +kernel)) ggX7_field_X7_isIn
set_option maxRecDepth 20000 in
theorem ggX7_field_X7_holds : GoodIn wsX7_field wsX7_holds := goodIn_r _ [21, 22, 23, 24, 25, 26, 27, 28, 29, 30, 31, 32, 33, 34, 35, 36, 37, 38, 39, 40, 41, 42, 43, 44, 45, 46, 47, 48, 49, 50, 51] (by decide +kernel) (by decide +kernel)
set_option maxRecDepth 20000 in
theorem gX7_field_X7_holds : GoodIn wsX7_field (wsV RX7 104 RX7 yX7_holds wsX7_holds) := goodIn_app (goodIn_of _ (by decide +kernel)) ggX7_field_X7_holds
theorem dX7_field_0 : decode cX7_field 0 = .ok (.aload_n 0, 1) := by decide +kernel
theorem dX7_field_1 : decode cX7_field 1 = .ok (.aload_n 0, 1) := by decide +kernel
theorem dX7_field_2 : decode cX7_field 2 = .ok (.iload_n 1, 1) := by decide +kernel
theorem dX7_field_3 : decode cX7_field 3 = .ok (.iload_n 2, 1) := by decide +kernel
theorem dX7_field_4 : decode cX7_field 4 = .ok (.invokevirtual 110, 3) := by decide +kernel
theorem dX7_field_7 : decode cX7_field 7 = .ok (.ifCond .ne 7, 3) := by decide +kernel
theorem dX7_field_10 : decode cX7_field 10 = .ok (.iconst 1, 1) := by decide +kernel
theorem dX7_field_11 : decode cX7_field 11 = .ok (.goto 17, 3) := by decide +kernel
theorem dX7_field_14 : decode cX7_field 14 = .ok (.iload_n 3, 1) := by decide +kernel
theorem dX7_field_15 : decode cX7_field 15 = .ok (.iconst 0, 1) := by decide +kernel
theorem dX7_field_16 : decode cX7_field 16 = .ok (.iconst 4, 1) := by decide +kernel
theorem dX7_field_17 : decode cX7_field 17 = .ok (.invokestatic 90, 3) := by decide +kernel
theorem dX7_field_20 : decode cX7_field 20 = .ok (.ifCond .eq 7, 3) := by decide +kernel
theorem dX7_field_23 : decode cX7_field 23 = .ok (.iconst 0, 1) := by decide +kernel
theorem dX7_field_24 : decode cX7_field 24 = .ok (.goto 4, 3) := by decide +kernel
theorem dX7_field_27 : decode cX7_field 27 = .ok (.iconst 2, 1) := by decide +kernel
theorem dX7_field_28 : decode cX7_field 28 = .ok (.invokevirtual 104, 3) := by decide +kernel
theorem dX7_field_31 : decode cX7_field 31 = .ok (.ifCond .ne 5, 3) := by decide +kernel
theorem dX7_field_34 : decode cX7_field 34 = .ok (.iconst 0, 1) := by decide +kernel
theorem dX7_field_35 : decode cX7_field 35 = .ok (.ireturn, 1) := by decide +kernel
theorem dX7_field_36 : decode cX7_field 36 = .ok (.iconst 4, 1) := by decide +kernel
theorem dX7_field_37 : decode cX7_field 37 = .ok (.iload_n 1, 1) := by decide +kernel
theorem dX7_field_38 : decode cX7_field 38 = .ok (.imul, 1) := by decide +kernel
theorem dX7_field_39 : decode cX7_field 39 = .ok (.iload_n 2, 1) := by decide +kernel
theorem dX7_field_40 : decode cX7_field 40 = .ok (.iadd, 1) := by decide +kernel
theorem dX7_field_41 : decode cX7_field 41 = .ok (.istore 4, 2) := by decide +kernel
theorem dX7_field_43 : decode cX7_field 43 = .ok (.iload_n 3, 1) := by decide +kernel
theorem dX7_field_44 : decode cX7_field 44 = .ok (.iconst 2, 1) := by decide +kernel
theorem dX7_field_45 : decode cX7_field 45 = .ok (.if_icmp .ge 30, 3) := by decide +kernel
theorem dX7_field_48 : decode cX7_field 48 = .ok (.iload_n 3, 1) := by decide +kernel
theorem dX7_field_49 : decode cX7_field 49 = .ok (.ifCond .ne 13, 3) := by decide +kernel
theorem dX7_field_52 : decode cX7_field 52 = .ok (.aload_n 0, 1) := by decide +kernel
theorem dX7_field_53 : decode cX7_field 53 = .ok (.getfield 7, 3) := by decide +kernel
theorem dX7_field_56 : decode cX7_field 56 = .ok (.iload 4, 2) := by decide +kernel
theorem dX7_field_58 : decode cX7_field 58 = .ok (.iaload, 1) := by decide +kernel
theorem dX7_field_59 : decode cX7_field 59 = .ok (.goto 15, 3) := by decide +kernel
theorem dX7_field_62 : decode cX7_field 62 = .ok (.aload_n 0, 1) := by decide +kernel
theorem dX7_field_63 : decode cX7_field 63 = .ok (.getfield 7, 3) := by decide +kernel
theorem dX7_field_66 : decode cX7_field 66 = .ok (.iload 4, 2) := by decide +kernel
theorem dX7_field_68 : decode cX7_field 68 = .ok (.iaload, 1) := by decide +kernel
theorem dX7_field_69 : decode cX7_field 69 = .ok (.aload_n 0, 1) := by decide +kernel
theorem dX7_field_70 : decode cX7_field 70 = .ok (.getfield 107, 3) := by decide +kernel
theorem dX7_field_73 : decode cX7_field 73 = .ok (.isub, 1) := by decide +kernel
theorem dX7_field_74 : decode cX7_field 74 = .ok (.ireturn, 1) := by decide +kernel
theorem dX7_field_75 : decode cX7_field 75 = .ok (.iload_n 3, 1) := by decide +kernel
theorem dX7_field_76 : decode cX7_field 76 = .ok (.iconst 2, 1) := by decide +kernel
theorem dX7_field_77 : decode cX7_field 77 = .ok (.if_icmp .ne 13, 3) := by decide +kernel
theorem dX7_field_80 : decode cX7_field 80 = .ok (.aload_n 0, 1) := by decide +kernel
theorem dX7_field_81 : decode cX7_field 81 = .ok (.getfield 13, 3) := by decide +kernel
theorem dX7_field_84 : decode cX7_field 84 = .ok (.iload 4, 2) := by decide +kernel
theorem dX7_field_86 : decode cX7_field 86 = .ok (.iaload, 1) := by decide +kernel
theorem dX7_field_87 : decode cX7_field 87 = .ok (.goto 38, 3) := by decide +kernel
theorem dX7_field_90 : decode cX7_field 90 = .ok (.iload_n 3, 1) := by decide +kernel
theorem dX7_field_91 : decode cX7_field 91 = .ok (.iconst 3, 1) := by decide +kernel
theorem dX7_field_92 : decode cX7_field 92 = .ok (.if_icmp .ne 16, 3) := by decide +kernel
theorem dX7_field_95 : decode cX7_field 95 = .ok (.aload_n 0, 1) := by decide +kernel
theorem dX7_field_96 : decode cX7_field 96 = .ok (.getfield 16, 3) := by decide +kernel
theorem dX7_field_99 : decode cX7_field 99 = .ok (.iload 4, 2) := by decide +kernel
theorem dX7_field_101 : decode cX7_field 101 = .ok (.baload, 1) := by decide +kernel
theorem dX7_field_102 : decode cX7_field 102 = .ok (.ifCond .eq 22, 3) := by decide +kernel
theorem dX7_field_105 : decode cX7_field 105 = .ok (.goto 15, 3) := by decide +kernel
theorem dX7_field_108 : decode cX7_field 108 = .ok (.aload_n 0, 1) := by decide +kernel
theorem dX7_field_109 : decode cX7_field 109 = .ok (.getfield 13, 3) := by decide +kernel
theorem dX7_field_112 : decode cX7_field 112 = .ok (.iload 4, 2) := by decide +kernel
theorem dX7_field_114 : decode cX7_field 114 = .ok (.iaload, 1) := by decide +kernel
theorem dX7_field_115 : decode cX7_field 115 = .ok (.bipush 6, 2) := by decide +kernel
theorem dX7_field_117 : decode cX7_field 117 = .ok (.if_icmp .le 7, 3) := by decide +kernel
theorem dX7_field_120 : decode cX7_field 120 = .ok (.iconst 1, 1) := by decide +kernel
theorem dX7_field_121 : decode cX7_field 121 = .ok (.goto 4, 3) := by decide +kernel
theorem dX7_field_124 : decode cX7_field 124 = .ok (.iconst 0, 1) := by decide +kernel
theorem dX7_field_125 : decode cX7_field 125 = .ok (.ireturn, 1) := by decide +kernel
set_option maxRecDepth 20000 in
theorem ggX7_isInTuneNow_X7_takes : GoodIn wsX7_isInTuneNow wsX7_takes := goodIn_r _ [5, 6, 7, 8, 9, 10, 11, 20, 21, 22, 23, 24, 25, 26, 27, 28, 29, 30, 31, 32, 33, 34, 35, 36, 37, 38, 39, 40, 41, 42, 43, 44, 45, 46, 47, 48] (by decide +kernel) (by decide +kernel)
set_option maxRecDepth 20000 in
theorem gX7_isInTuneNow_X7_takes : GoodIn wsX7_isInTuneNow (wsV RX7 114 RX7 yX7_takes wsX7_takes) := goodIn_app (goodIn_of _ (by decide +kernel)) ggX7_isInTuneNow_X7_takes
set_option maxRecDepth 20000 in
theorem ggX7_isInTuneNow_X7_isTuned : GoodIn wsX7_isInTuneNow wsX7_isTuned := goodIn_r _ [15, 8, 6, 16, 17, 18, 4, 19, 20, 21, 22, 23, 24, 25, 26, 27, 28, 29, 30, 31, 32, 33, 34, 35, 36, 37, 38, 39, 40, 41, 42, 43, 44, 45, 46, 47, 48] (by decide +kernel) (by decide +kernel)
set_option maxRecDepth 20000 in
theorem gX7_isInTuneNow_X7_isTuned : GoodIn wsX7_isInTuneNow (wsV RX7 126 RX7 yX7_isTuned wsX7_isTuned) := goodIn_app (goodIn_of _ (by decide +kernel)) ggX7_isInTuneNow_X7_isTuned
theorem dX7_isInTuneNow_0 : decode cX7_isInTuneNow 0 = .ok (.aload_n 0, 1) := by decide +kernel
theorem dX7_isInTuneNow_1 : decode cX7_isInTuneNow 1 = .ok (.iload_n 1, 1) := by decide +kernel
theorem dX7_isInTuneNow_2 : decode cX7_isInTuneNow 2 = .ok (.invokevirtual 114, 3) := by decide +kernel
theorem dX7_isInTuneNow_5 : decode cX7_isInTuneNow 5 = .ok (.aload_n 0, 1) := by decide +kernel
theorem dX7_isInTuneNow_6 : decode cX7_isInTuneNow 6 = .ok (.invokevirtual 126, 3) := by decide +kernel
theorem dX7_isInTuneNow_9 : decode cX7_isInTuneNow 9 = .ok (.ireturn, 1) := by decide +kernel
set_option maxRecDepth 20000 in
theorem ggX7_isInTune_X7_isPan : GoodIn wsX7_isInTune wsX7_isPan := goodIn_r _ [5, 6, 7, 8, 4, 9, 34, 35, 36, 37, 38, 39, 40, 41, 42, 43, 44, 45, 46, 47, 48, 49, 50, 51, 52, 53, 54, 55, 56, 57, 58, 59, 60, 61, 62] (by decide +kernel) (by decide +kernel)
set_option maxRecDepth 20000 in
theorem gX7_isInTune_X7_isPan : GoodIn wsX7_isInTune (wsV RX7 94 RX7 yX7_isPan wsX7_isPan) := goodIn_app (goodIn_of _ (by decide +kernel)) ggX7_isInTune_X7_isPan
set_option maxRecDepth 20000 in
theorem ggX7_isInTune_X7_holds : GoodIn wsX7_isInTune wsX7_holds := goodIn_r _ [13, 14, 34, 35, 36, 37, 38, 39, 40, 41, 42, 43, 44, 45, 46, 47, 48, 49, 50, 51, 52, 53, 54, 55, 56, 57, 58, 59, 60, 61, 62] (by decide +kernel) (by decide +kernel)
set_option maxRecDepth 20000 in
theorem gX7_isInTune_X7_holds : GoodIn wsX7_isInTune (wsV RX7 104 RX7 yX7_holds wsX7_holds) := goodIn_app (goodIn_of _ (by decide +kernel)) ggX7_isInTune_X7_holds
set_option maxRecDepth 20000 in
theorem ggX7_isInTune_X7_isInTuneNow : GoodIn wsX7_isInTune wsX7_isInTuneNow := goodIn_r _ [18, 19, 20, 21, 4, 22, 23, 24, 25, 26, 27, 28, 29, 30, 31, 32, 33, 7, 8, 9, 34, 35, 36, 37, 38, 39, 40, 41, 42, 43, 44, 45, 46, 47, 48, 49, 50, 51, 52, 53, 54, 55, 56, 57, 58, 59, 60, 61, 62] (by decide +kernel) (by decide +kernel)
set_option maxRecDepth 20000 in
theorem gX7_isInTune_X7_isInTuneNow : GoodIn wsX7_isInTune (wsV RX7 130 RX7 yX7_isInTuneNow wsX7_isInTuneNow) := goodIn_app (goodIn_of _ (by decide +kernel)) ggX7_isInTune_X7_isInTuneNow
theorem dX7_isInTune_0 : decode cX7_isInTune 0 = .ok (.aload_n 0, 1) := by decide +kernel
theorem dX7_isInTune_1 : decode cX7_isInTune 1 = .ok (.aload_n 0, 1) := by decide +kernel
theorem dX7_isInTune_2 : decode cX7_isInTune 2 = .ok (.iload_n 1, 1) := by decide +kernel
theorem dX7_isInTune_3 : decode cX7_isInTune 3 = .ok (.invokevirtual 94, 3) := by decide +kernel
theorem dX7_isInTune_6 : decode cX7_isInTune 6 = .ok (.ifCond .eq 7, 3) := by decide +kernel
theorem dX7_isInTune_9 : decode cX7_isInTune 9 = .ok (.iconst 0, 1) := by decide +kernel
theorem dX7_isInTune_10 : decode cX7_isInTune 10 = .ok (.goto 4, 3) := by decide +kernel
theorem dX7_isInTune_13 : decode cX7_isInTune 13 = .ok (.iconst 1, 1) := by decide +kernel
theorem dX7_isInTune_14 : decode cX7_isInTune 14 = .ok (.invokevirtual 104, 3) := by decide +kernel
theorem dX7_isInTune_17 : decode cX7_isInTune 17 = .ok (.ifCond .eq 15, 3) := by decide +kernel
theorem dX7_isInTune_20 : decode cX7_isInTune 20 = .ok (.aload_n 0, 1) := by decide +kernel
theorem dX7_isInTune_21 : decode cX7_isInTune 21 = .ok (.iload_n 1, 1) := by decide +kernel
theorem dX7_isInTune_22 : decode cX7_isInTune 22 = .ok (.invokevirtual 130, 3) := by decide +kernel
theorem dX7_isInTune_25 : decode cX7_isInTune 25 = .ok (.ifCond .eq 7, 3) := by decide +kernel
theorem dX7_isInTune_28 : decode cX7_isInTune 28 = .ok (.iconst 1, 1) := by decide +kernel
theorem dX7_isInTune_29 : decode cX7_isInTune 29 = .ok (.goto 4, 3) := by decide +kernel
theorem dX7_isInTune_32 : decode cX7_isInTune 32 = .ok (.iconst 0, 1) := by decide +kernel
theorem dX7_isInTune_33 : decode cX7_isInTune 33 = .ok (.ireturn, 1) := by decide +kernel
set_option maxRecDepth 20000 in
theorem ggX7_does_X7_takes : GoodIn wsX7_does wsX7_takes := goodIn_r _ [5, 6, 7, 8, 9, 10, 11, 28, 29, 30, 31, 32, 33, 34, 35, 36, 37, 38, 39, 40, 41, 42, 43, 44, 45, 46, 47, 48, 49, 50, 51, 52, 53, 54, 55, 56] (by decide +kernel) (by decide +kernel)
set_option maxRecDepth 20000 in
theorem gX7_does_X7_takes : GoodIn wsX7_does (wsV RX7 114 RX7 yX7_takes wsX7_takes) := goodIn_app (goodIn_of _ (by decide +kernel)) ggX7_does_X7_takes
set_option maxRecDepth 20000 in
theorem ggX7_does_X7_bears : GoodIn wsX7_does wsX7_bears := goodIn_r _ [15, 8, 10, 28, 29, 30, 31, 32, 33, 34, 35, 36, 37, 38, 39, 40, 41, 42, 43, 44, 45, 46, 47, 48, 49, 50, 51, 52, 53, 54, 55, 56] (by decide +kernel) (by decide +kernel)
set_option maxRecDepth 20000 in
theorem gX7_does_X7_bears : GoodIn wsX7_does (wsV RX7 118 RX7 yX7_bears wsX7_bears) := goodIn_app (goodIn_of _ (by decide +kernel)) ggX7_does_X7_bears
set_option maxRecDepth 20000 in
theorem ggX7_does_X7_beats : GoodIn wsX7_does wsX7_beats := goodIn_r _ [19, 6, 8, 10, 28, 29, 30, 31, 32, 33, 34, 35, 36, 37, 38, 39, 40, 41, 42, 43, 44, 45, 46, 47, 48, 49, 50, 51, 52, 53, 54, 55, 56] (by decide +kernel) (by decide +kernel)
set_option maxRecDepth 20000 in
theorem gX7_does_X7_beats : GoodIn wsX7_does (wsV RX7 122 RX7 yX7_beats wsX7_beats) := goodIn_app (goodIn_of _ (by decide +kernel)) ggX7_does_X7_beats
set_option maxRecDepth 20000 in
theorem ggX7_does_X7_isTuned : GoodIn wsX7_does wsX7_isTuned := goodIn_r _ [23, 8, 6, 24, 25, 26, 4, 27, 28, 29, 30, 31, 32, 33, 34, 35, 36, 37, 38, 39, 40, 41, 42, 43, 44, 45, 46, 47, 48, 49, 50, 51, 52, 53, 54, 55, 56] (by decide +kernel) (by decide +kernel)
set_option maxRecDepth 20000 in
theorem gX7_does_X7_isTuned : GoodIn wsX7_does (wsV RX7 126 RX7 yX7_isTuned wsX7_isTuned) := goodIn_app (goodIn_of _ (by decide +kernel)) ggX7_does_X7_isTuned
theorem dX7_does_0 : decode cX7_does 0 = .ok (.aload_n 0, 1) := by decide +kernel
theorem dX7_does_1 : decode cX7_does 1 = .ok (.iload_n 1, 1) := by decide +kernel
theorem dX7_does_2 : decode cX7_does 2 = .ok (.invokevirtual 114, 3) := by decide +kernel
theorem dX7_does_5 : decode cX7_does 5 = .ok (.iconst 1, 1) := by decide +kernel
theorem dX7_does_6 : decode cX7_does 6 = .ok (.istore 4, 2) := by decide +kernel
theorem dX7_does_8 : decode cX7_does 8 = .ok (.iload_n 3, 1) := by decide +kernel
theorem dX7_does_9 : decode cX7_does 9 = .ok (.iconst 1, 1) := by decide +kernel
theorem dX7_does_10 : decode cX7_does 10 = .ok (.isub, 1) := by decide +kernel
theorem dX7_does_11 : decode cX7_does 11 = .ok (.istore 5, 2) := by decide +kernel
theorem dX7_does_13 : decode cX7_does 13 = .ok (.iload 5, 2) := by decide +kernel
theorem dX7_does_15 : decode cX7_does 15 = .ok (.ifCond .lt 78, 3) := by decide +kernel
theorem dX7_does_18 : decode cX7_does 18 = .ok (.iload 4, 2) := by decide +kernel
theorem dX7_does_20 : decode cX7_does 20 = .ok (.ifCond .eq 73, 3) := by decide +kernel
theorem dX7_does_23 : decode cX7_does 23 = .ok (.iload_n 2, 1) := by decide +kernel
theorem dX7_does_24 : decode cX7_does 24 = .ok (.iconst 5, 1) := by decide +kernel
theorem dX7_does_25 : decode cX7_does 25 = .ok (.iload 5, 2) := by decide +kernel
theorem dX7_does_27 : decode cX7_does 27 = .ok (.imul, 1) := by decide +kernel
theorem dX7_does_28 : decode cX7_does 28 = .ok (.ishr, 1) := by decide +kernel
theorem dX7_does_29 : decode cX7_does 29 = .ok (.bipush 31, 2) := by decide +kernel
theorem dX7_does_31 : decode cX7_does 31 = .ok (.iand, 1) := by decide +kernel
theorem dX7_does_32 : decode cX7_does 32 = .ok (.istore 6, 2) := by decide +kernel
theorem dX7_does_34 : decode cX7_does 34 = .ok (.iload 6, 2) := by decide +kernel
theorem dX7_does_36 : decode cX7_does 36 = .ok (.bipush 8, 2) := by decide +kernel
theorem dX7_does_38 : decode cX7_does 38 = .ok (.idiv, 1) := by decide +kernel
theorem dX7_does_39 : decode cX7_does 39 = .ok (.istore 7, 2) := by decide +kernel
theorem dX7_does_41 : decode cX7_does 41 = .ok (.iload 6, 2) := by decide +kernel
theorem dX7_does_43 : decode cX7_does 43 = .ok (.iconst 2, 1) := by decide +kernel
theorem dX7_does_44 : decode cX7_does 44 = .ok (.irem, 1) := by decide +kernel
theorem dX7_does_45 : decode cX7_does 45 = .ok (.iconst 1, 1) := by decide +kernel
theorem dX7_does_46 : decode cX7_does 46 = .ok (.if_icmp .ne 7, 3) := by decide +kernel
theorem dX7_does_49 : decode cX7_does 49 = .ok (.iconst 1, 1) := by decide +kernel
theorem dX7_does_50 : decode cX7_does 50 = .ok (.goto 4, 3) := by decide +kernel
theorem dX7_does_53 : decode cX7_does 53 = .ok (.iconst 0, 1) := by decide +kernel
theorem dX7_does_54 : decode cX7_does 54 = .ok (.istore 8, 2) := by decide +kernel
theorem dX7_does_56 : decode cX7_does 56 = .ok (.aload_n 0, 1) := by decide +kernel
theorem dX7_does_57 : decode cX7_does 57 = .ok (.iload 7, 2) := by decide +kernel
theorem dX7_does_59 : decode cX7_does 59 = .ok (.iload 8, 2) := by decide +kernel
theorem dX7_does_61 : decode cX7_does 61 = .ok (.invokevirtual 118, 3) := by decide +kernel
theorem dX7_does_64 : decode cX7_does 64 = .ok (.istore 4, 2) := by decide +kernel
theorem dX7_does_66 : decode cX7_does 66 = .ok (.iload 4, 2) := by decide +kernel
theorem dX7_does_68 : decode cX7_does 68 = .ok (.ifCond .eq 19, 3) := by decide +kernel
theorem dX7_does_71 : decode cX7_does 71 = .ok (.aload_n 0, 1) := by decide +kernel
theorem dX7_does_72 : decode cX7_does 72 = .ok (.iload 7, 2) := by decide +kernel
theorem dX7_does_74 : decode cX7_does 74 = .ok (.iload 6, 2) := by decide +kernel
theorem dX7_does_76 : decode cX7_does 76 = .ok (.iconst 2, 1) := by decide +kernel
theorem dX7_does_77 : decode cX7_does 77 = .ok (.idiv, 1) := by decide +kernel
theorem dX7_does_78 : decode cX7_does 78 = .ok (.iconst 4, 1) := by decide +kernel
theorem dX7_does_79 : decode cX7_does 79 = .ok (.irem, 1) := by decide +kernel
theorem dX7_does_80 : decode cX7_does 80 = .ok (.iconst 1, 1) := by decide +kernel
theorem dX7_does_81 : decode cX7_does 81 = .ok (.iadd, 1) := by decide +kernel
theorem dX7_does_82 : decode cX7_does 82 = .ok (.iload 8, 2) := by decide +kernel
theorem dX7_does_84 : decode cX7_does 84 = .ok (.invokevirtual 122, 3) := by decide +kernel
theorem dX7_does_87 : decode cX7_does 87 = .ok (.iinc 5 (-1), 3) := by decide +kernel
theorem dX7_does_90 : decode cX7_does 90 = .ok (.goto (-77), 3) := by decide +kernel
theorem dX7_does_93 : decode cX7_does 93 = .ok (.iload 4, 2) := by decide +kernel
theorem dX7_does_95 : decode cX7_does 95 = .ok (.ifCond .eq 14, 3) := by decide +kernel
theorem dX7_does_98 : decode cX7_does 98 = .ok (.aload_n 0, 1) := by decide +kernel
theorem dX7_does_99 : decode cX7_does 99 = .ok (.invokevirtual 126, 3) := by decide +kernel
theorem dX7_does_102 : decode cX7_does 102 = .ok (.ifCond .eq 7, 3) := by decide +kernel
theorem dX7_does_105 : decode cX7_does 105 = .ok (.iconst 1, 1) := by decide +kernel
theorem dX7_does_106 : decode cX7_does 106 = .ok (.goto 4, 3) := by decide +kernel
theorem dX7_does_109 : decode cX7_does 109 = .ok (.iconst 0, 1) := by decide +kernel
theorem dX7_does_110 : decode cX7_does 110 = .ok (.ireturn, 1) := by decide +kernel
set_option maxRecDepth 20000 in
theorem ggX7_plan_X7_isPan : GoodIn wsX7_plan wsX7_isPan := goodIn_r _ [5, 6, 7, 8, 4, 9, 42, 43, 44, 45, 46, 47, 48, 49, 50, 51, 52, 53, 54, 55, 56, 57, 58, 59, 60, 61, 62, 63, 64, 65, 66, 67, 68, 69, 70] (by decide +kernel) (by decide +kernel)
set_option maxRecDepth 20000 in
theorem gX7_plan_X7_isPan : GoodIn wsX7_plan (wsV RX7 94 RX7 yX7_isPan wsX7_isPan) := goodIn_app (goodIn_of _ (by decide +kernel)) ggX7_plan_X7_isPan
set_option maxRecDepth 20000 in
theorem ggX7_plan_X7_isIn : GoodIn wsX7_plan wsX7_isIn := goodIn_r _ [9] (by decide +kernel) (by decide +kernel)
set_option maxRecDepth 20000 in
theorem gX7_plan_X7_isIn : GoodIn wsX7_plan (va_wsS RX7 90 yX7_isIn wsX7_isIn) := goodIn_app (goodIn_of _ (by decide +kernel)) ggX7_plan_X7_isIn
set_option maxRecDepth 20000 in
theorem ggX7_plan_X7_holds : GoodIn wsX7_plan wsX7_holds := goodIn_r _ [13, 14, 42, 43, 44, 45, 46, 47, 48, 49, 50, 51, 52, 53, 54, 55, 56, 57, 58, 59, 60, 61, 62, 63, 64, 65, 66, 67, 68, 69, 70] (by decide +kernel) (by decide +kernel)
set_option maxRecDepth 20000 in
theorem gX7_plan_X7_holds : GoodIn wsX7_plan (wsV RX7 104 RX7 yX7_holds wsX7_holds) := goodIn_app (goodIn_of _ (by decide +kernel)) ggX7_plan_X7_holds
set_option maxRecDepth 20000 in
theorem ggX7_plan_X7_does : GoodIn wsX7_plan wsX7_does := goodIn_r _ [18, 19, 20, 21, 4, 22, 23, 24, 25, 26, 27, 28, 29, 30, 31, 32, 33, 34, 35, 36, 37, 38, 39, 40, 41, 7, 8, 9, 42, 43, 44, 45, 46, 47, 48, 49, 50, 51, 52, 53, 54, 55, 56, 57, 58, 59, 60, 61, 62, 63, 64, 65, 66, 67, 68, 69, 70] (by decide +kernel) (by decide +kernel)
set_option maxRecDepth 20000 in
theorem gX7_plan_X7_does : GoodIn wsX7_plan (wsV RX7 133 RX7 yX7_does wsX7_does) := goodIn_app (goodIn_of _ (by decide +kernel)) ggX7_plan_X7_does
theorem dX7_plan_0 : decode cX7_plan 0 = .ok (.aload_n 0, 1) := by decide +kernel
theorem dX7_plan_1 : decode cX7_plan 1 = .ok (.aload_n 0, 1) := by decide +kernel
theorem dX7_plan_2 : decode cX7_plan 2 = .ok (.iload_n 1, 1) := by decide +kernel
theorem dX7_plan_3 : decode cX7_plan 3 = .ok (.invokevirtual 94, 3) := by decide +kernel
theorem dX7_plan_6 : decode cX7_plan 6 = .ok (.ifCond .ne 7, 3) := by decide +kernel
theorem dX7_plan_9 : decode cX7_plan 9 = .ok (.iconst 1, 1) := by decide +kernel
theorem dX7_plan_10 : decode cX7_plan 10 = .ok (.goto 17, 3) := by decide +kernel
theorem dX7_plan_13 : decode cX7_plan 13 = .ok (.iload_n 2, 1) := by decide +kernel
theorem dX7_plan_14 : decode cX7_plan 14 = .ok (.iconst 0, 1) := by decide +kernel
theorem dX7_plan_15 : decode cX7_plan 15 = .ok (.iconst 3, 1) := by decide +kernel
theorem dX7_plan_16 : decode cX7_plan 16 = .ok (.invokestatic 90, 3) := by decide +kernel
theorem dX7_plan_19 : decode cX7_plan 19 = .ok (.ifCond .eq 7, 3) := by decide +kernel
theorem dX7_plan_22 : decode cX7_plan 22 = .ok (.iconst 0, 1) := by decide +kernel
theorem dX7_plan_23 : decode cX7_plan 23 = .ok (.goto 4, 3) := by decide +kernel
theorem dX7_plan_26 : decode cX7_plan 26 = .ok (.iconst 2, 1) := by decide +kernel
theorem dX7_plan_27 : decode cX7_plan 27 = .ok (.invokevirtual 104, 3) := by decide +kernel
theorem dX7_plan_30 : decode cX7_plan 30 = .ok (.ifCond .ne 5, 3) := by decide +kernel
theorem dX7_plan_33 : decode cX7_plan 33 = .ok (.iconst 0, 1) := by decide +kernel
theorem dX7_plan_34 : decode cX7_plan 34 = .ok (.ireturn, 1) := by decide +kernel
theorem dX7_plan_35 : decode cX7_plan 35 = .ok (.iconst 0, 1) := by decide +kernel
theorem dX7_plan_36 : decode cX7_plan 36 = .ok (.istore_n 3, 1) := by decide +kernel
theorem dX7_plan_37 : decode cX7_plan 37 = .ok (.iload_n 3, 1) := by decide +kernel
theorem dX7_plan_38 : decode cX7_plan 38 = .ok (.iconst 4, 1) := by decide +kernel
theorem dX7_plan_39 : decode cX7_plan 39 = .ok (.if_icmp .ge 68, 3) := by decide +kernel
theorem dX7_plan_42 : decode cX7_plan 42 = .ok (.iconst 0, 1) := by decide +kernel
theorem dX7_plan_43 : decode cX7_plan 43 = .ok (.istore 4, 2) := by decide +kernel
theorem dX7_plan_45 : decode cX7_plan 45 = .ok (.iload 4, 2) := by decide +kernel
theorem dX7_plan_47 : decode cX7_plan 47 = .ok (.iconst 1, 1) := by decide +kernel
theorem dX7_plan_48 : decode cX7_plan 48 = .ok (.iconst 5, 1) := by decide +kernel
theorem dX7_plan_49 : decode cX7_plan 49 = .ok (.iload_n 3, 1) := by decide +kernel
theorem dX7_plan_50 : decode cX7_plan 50 = .ok (.imul, 1) := by decide +kernel
theorem dX7_plan_51 : decode cX7_plan 51 = .ok (.ishl, 1) := by decide +kernel
theorem dX7_plan_52 : decode cX7_plan 52 = .ok (.if_icmp .ge 49, 3) := by decide +kernel
theorem dX7_plan_55 : decode cX7_plan 55 = .ok (.aload_n 0, 1) := by decide +kernel
theorem dX7_plan_56 : decode cX7_plan 56 = .ok (.iload_n 1, 1) := by decide +kernel
theorem dX7_plan_57 : decode cX7_plan 57 = .ok (.iload 4, 2) := by decide +kernel
theorem dX7_plan_59 : decode cX7_plan 59 = .ok (.iload_n 3, 1) := by decide +kernel
theorem dX7_plan_60 : decode cX7_plan 60 = .ok (.invokevirtual 133, 3) := by decide +kernel
theorem dX7_plan_63 : decode cX7_plan 63 = .ok (.ifCond .eq 32, 3) := by decide +kernel
theorem dX7_plan_66 : decode cX7_plan 66 = .ok (.iload_n 2, 1) := by decide +kernel
theorem dX7_plan_67 : decode cX7_plan 67 = .ok (.ifCond .ne 7, 3) := by decide +kernel
theorem dX7_plan_70 : decode cX7_plan 70 = .ok (.iload_n 3, 1) := by decide +kernel
theorem dX7_plan_71 : decode cX7_plan 71 = .ok (.goto 23, 3) := by decide +kernel
theorem dX7_plan_74 : decode cX7_plan 74 = .ok (.iload_n 2, 1) := by decide +kernel
theorem dX7_plan_75 : decode cX7_plan 75 = .ok (.iload_n 3, 1) := by decide +kernel
theorem dX7_plan_76 : decode cX7_plan 76 = .ok (.if_icmp .le 7, 3) := by decide +kernel
theorem dX7_plan_79 : decode cX7_plan 79 = .ok (.iconst (-1), 1) := by decide +kernel
theorem dX7_plan_80 : decode cX7_plan 80 = .ok (.goto 14, 3) := by decide +kernel
theorem dX7_plan_83 : decode cX7_plan 83 = .ok (.iload 4, 2) := by decide +kernel
theorem dX7_plan_85 : decode cX7_plan 85 = .ok (.iconst 5, 1) := by decide +kernel
theorem dX7_plan_86 : decode cX7_plan 86 = .ok (.iload_n 3, 1) := by decide +kernel
theorem dX7_plan_87 : decode cX7_plan 87 = .ok (.iload_n 2, 1) := by decide +kernel
theorem dX7_plan_88 : decode cX7_plan 88 = .ok (.isub, 1) := by decide +kernel
theorem dX7_plan_89 : decode cX7_plan 89 = .ok (.imul, 1) := by decide +kernel
theorem dX7_plan_90 : decode cX7_plan 90 = .ok (.ishr, 1) := by decide +kernel
theorem dX7_plan_91 : decode cX7_plan 91 = .ok (.bipush 31, 2) := by decide +kernel
theorem dX7_plan_93 : decode cX7_plan 93 = .ok (.iand, 1) := by decide +kernel
theorem dX7_plan_94 : decode cX7_plan 94 = .ok (.ireturn, 1) := by decide +kernel
theorem dX7_plan_95 : decode cX7_plan 95 = .ok (.iinc 4 1, 3) := by decide +kernel
theorem dX7_plan_98 : decode cX7_plan 98 = .ok (.goto (-53), 3) := by decide +kernel
theorem dX7_plan_101 : decode cX7_plan 101 = .ok (.iinc 3 1, 3) := by decide +kernel
theorem dX7_plan_104 : decode cX7_plan 104 = .ok (.goto (-67), 3) := by decide +kernel
theorem dX7_plan_107 : decode cX7_plan 107 = .ok (.iconst (-1), 1) := by decide +kernel
theorem dX7_plan_108 : decode cX7_plan 108 = .ok (.ireturn, 1) := by decide +kernel
set_option maxRecDepth 20000 in
theorem ggX7_player_X7_isIn : GoodIn wsX7_player wsX7_isIn := goodIn_r _ [9] (by decide +kernel) (by decide +kernel)
set_option maxRecDepth 20000 in
theorem gX7_player_X7_isIn : GoodIn wsX7_player (va_wsS RX7 90 yX7_isIn wsX7_isIn) := goodIn_app (goodIn_of _ (by decide +kernel)) ggX7_player_X7_isIn
set_option maxRecDepth 20000 in
theorem ggX7_player_X7_holds : GoodIn wsX7_player wsX7_holds := goodIn_r _ [13, 14, 15, 16, 17, 18, 19, 20, 21, 22, 23, 24, 25, 26, 27, 28, 29, 30, 31, 32, 33, 34, 35, 36, 37, 38, 39, 40, 41, 42, 43] (by decide +kernel) (by decide +kernel)
set_option maxRecDepth 20000 in
theorem gX7_player_X7_holds : GoodIn wsX7_player (wsV RX7 104 RX7 yX7_holds wsX7_holds) := goodIn_app (goodIn_of _ (by decide +kernel)) ggX7_player_X7_holds
theorem dX7_player_0 : decode cX7_player 0 = .ok (.aload_n 0, 1) := by decide +kernel
theorem dX7_player_1 : decode cX7_player 1 = .ok (.iload_n 1, 1) := by decide +kernel
theorem dX7_player_2 : decode cX7_player 2 = .ok (.iconst 0, 1) := by decide +kernel
theorem dX7_player_3 : decode cX7_player 3 = .ok (.iconst 1, 1) := by decide +kernel
theorem dX7_player_4 : decode cX7_player 4 = .ok (.invokestatic 90, 3) := by decide +kernel
theorem dX7_player_7 : decode cX7_player 7 = .ok (.ifCond .ne 7, 3) := by decide +kernel
theorem dX7_player_10 : decode cX7_player 10 = .ok (.iconst 1, 1) := by decide +kernel
theorem dX7_player_11 : decode cX7_player 11 = .ok (.goto 17, 3) := by decide +kernel
theorem dX7_player_14 : decode cX7_player 14 = .ok (.aload_n 0, 1) := by decide +kernel
theorem dX7_player_15 : decode cX7_player 15 = .ok (.getfield 98, 3) := by decide +kernel
theorem dX7_player_18 : decode cX7_player 18 = .ok (.bipush 16, 2) := by decide +kernel
theorem dX7_player_20 : decode cX7_player 20 = .ok (.if_icmp .ne 7, 3) := by decide +kernel
theorem dX7_player_23 : decode cX7_player 23 = .ok (.iconst 2, 1) := by decide +kernel
theorem dX7_player_24 : decode cX7_player 24 = .ok (.goto 4, 3) := by decide +kernel
theorem dX7_player_27 : decode cX7_player 27 = .ok (.iconst 0, 1) := by decide +kernel
theorem dX7_player_28 : decode cX7_player 28 = .ok (.invokevirtual 104, 3) := by decide +kernel
theorem dX7_player_31 : decode cX7_player 31 = .ok (.ifCond .ne 5, 3) := by decide +kernel
theorem dX7_player_34 : decode cX7_player 34 = .ok (.iconst 0, 1) := by decide +kernel
theorem dX7_player_35 : decode cX7_player 35 = .ok (.ireturn, 1) := by decide +kernel
theorem dX7_player_36 : decode cX7_player 36 = .ok (.aload_n 0, 1) := by decide +kernel
theorem dX7_player_37 : decode cX7_player 37 = .ok (.getfield 29, 3) := by decide +kernel
theorem dX7_player_40 : decode cX7_player 40 = .ok (.aload_n 0, 1) := by decide +kernel
theorem dX7_player_41 : decode cX7_player 41 = .ok (.getfield 98, 3) := by decide +kernel
theorem dX7_player_44 : decode cX7_player 44 = .ok (.iload_n 1, 1) := by decide +kernel
theorem dX7_player_45 : decode cX7_player 45 = .ok (.iastore, 1) := by decide +kernel
theorem dX7_player_46 : decode cX7_player 46 = .ok (.aload_n 0, 1) := by decide +kernel
theorem dX7_player_47 : decode cX7_player 47 = .ok (.getfield 32, 3) := by decide +kernel
theorem dX7_player_50 : decode cX7_player 50 = .ok (.aload_n 0, 1) := by decide +kernel
theorem dX7_player_51 : decode cX7_player 51 = .ok (.getfield 98, 3) := by decide +kernel
theorem dX7_player_54 : decode cX7_player 54 = .ok (.iconst (-1), 1) := by decide +kernel
theorem dX7_player_55 : decode cX7_player 55 = .ok (.iastore, 1) := by decide +kernel
theorem dX7_player_56 : decode cX7_player 56 = .ok (.aload_n 0, 1) := by decide +kernel
theorem dX7_player_57 : decode cX7_player 57 = .ok (.getfield 35, 3) := by decide +kernel
theorem dX7_player_60 : decode cX7_player 60 = .ok (.aload_n 0, 1) := by decide +kernel
theorem dX7_player_61 : decode cX7_player 61 = .ok (.getfield 98, 3) := by decide +kernel
theorem dX7_player_64 : decode cX7_player 64 = .ok (.iconst (-1), 1) := by decide +kernel
theorem dX7_player_65 : decode cX7_player 65 = .ok (.iastore, 1) := by decide +kernel
theorem dX7_player_66 : decode cX7_player 66 = .ok (.aload_n 0, 1) := by decide +kernel
theorem dX7_player_67 : decode cX7_player 67 = .ok (.getfield 38, 3) := by decide +kernel
theorem dX7_player_70 : decode cX7_player 70 = .ok (.aload_n 0, 1) := by decide +kernel
theorem dX7_player_71 : decode cX7_player 71 = .ok (.getfield 98, 3) := by decide +kernel
theorem dX7_player_74 : decode cX7_player 74 = .ok (.iconst (-1), 1) := by decide +kernel
theorem dX7_player_75 : decode cX7_player 75 = .ok (.iastore, 1) := by decide +kernel
theorem dX7_player_76 : decode cX7_player 76 = .ok (.aload_n 0, 1) := by decide +kernel
theorem dX7_player_77 : decode cX7_player 77 = .ok (.dup, 1) := by decide +kernel
theorem dX7_player_78 : decode cX7_player 78 = .ok (.getfield 98, 3) := by decide +kernel
theorem dX7_player_81 : decode cX7_player 81 = .ok (.iconst 1, 1) := by decide +kernel
theorem dX7_player_82 : decode cX7_player 82 = .ok (.iadd, 1) := by decide +kernel
theorem dX7_player_83 : decode cX7_player 83 = .ok (.putfield 98, 3) := by decide +kernel
theorem dX7_player_86 : decode cX7_player 86 = .ok (.aload_n 0, 1) := by decide +kernel
theorem dX7_player_87 : decode cX7_player 87 = .ok (.getfield 98, 3) := by decide +kernel
theorem dX7_player_90 : decode cX7_player 90 = .ok (.iconst 1, 1) := by decide +kernel
theorem dX7_player_91 : decode cX7_player 91 = .ok (.isub, 1) := by decide +kernel
theorem dX7_player_92 : decode cX7_player 92 = .ok (.ireturn, 1) := by decide +kernel
theorem dX7_seatOf_0 : decode cX7_seatOf 0 = .ok (.iconst (-1), 1) := by decide +kernel
theorem dX7_seatOf_1 : decode cX7_seatOf 1 = .ok (.istore_n 3, 1) := by decide +kernel
theorem dX7_seatOf_2 : decode cX7_seatOf 2 = .ok (.iconst 0, 1) := by decide +kernel
theorem dX7_seatOf_3 : decode cX7_seatOf 3 = .ok (.istore 4, 2) := by decide +kernel
theorem dX7_seatOf_5 : decode cX7_seatOf 5 = .ok (.iload 4, 2) := by decide +kernel
theorem dX7_seatOf_7 : decode cX7_seatOf 7 = .ok (.aload_n 0, 1) := by decide +kernel
theorem dX7_seatOf_8 : decode cX7_seatOf 8 = .ok (.getfield 41, 3) := by decide +kernel
theorem dX7_seatOf_11 : decode cX7_seatOf 11 = .ok (.iload_n 2, 1) := by decide +kernel
theorem dX7_seatOf_12 : decode cX7_seatOf 12 = .ok (.iaload, 1) := by decide +kernel
theorem dX7_seatOf_13 : decode cX7_seatOf 13 = .ok (.if_icmp .ge 32, 3) := by decide +kernel
theorem dX7_seatOf_16 : decode cX7_seatOf 16 = .ok (.aload_n 0, 1) := by decide +kernel
theorem dX7_seatOf_17 : decode cX7_seatOf 17 = .ok (.getfield 44, 3) := by decide +kernel
theorem dX7_seatOf_20 : decode cX7_seatOf 20 = .ok (.bipush 8, 2) := by decide +kernel
theorem dX7_seatOf_22 : decode cX7_seatOf 22 = .ok (.iload_n 2, 1) := by decide +kernel
theorem dX7_seatOf_23 : decode cX7_seatOf 23 = .ok (.imul, 1) := by decide +kernel
theorem dX7_seatOf_24 : decode cX7_seatOf 24 = .ok (.iload 4, 2) := by decide +kernel
theorem dX7_seatOf_26 : decode cX7_seatOf 26 = .ok (.iadd, 1) := by decide +kernel
theorem dX7_seatOf_27 : decode cX7_seatOf 27 = .ok (.iaload, 1) := by decide +kernel
theorem dX7_seatOf_28 : decode cX7_seatOf 28 = .ok (.iload_n 1, 1) := by decide +kernel
theorem dX7_seatOf_29 : decode cX7_seatOf 29 = .ok (.if_icmp .ne 8, 3) := by decide +kernel
theorem dX7_seatOf_32 : decode cX7_seatOf 32 = .ok (.iload 4, 2) := by decide +kernel
theorem dX7_seatOf_34 : decode cX7_seatOf 34 = .ok (.goto 4, 3) := by decide +kernel
theorem dX7_seatOf_37 : decode cX7_seatOf 37 = .ok (.iload_n 3, 1) := by decide +kernel
theorem dX7_seatOf_38 : decode cX7_seatOf 38 = .ok (.istore_n 3, 1) := by decide +kernel
theorem dX7_seatOf_39 : decode cX7_seatOf 39 = .ok (.iinc 4 1, 3) := by decide +kernel
theorem dX7_seatOf_42 : decode cX7_seatOf 42 = .ok (.goto (-37), 3) := by decide +kernel
theorem dX7_seatOf_45 : decode cX7_seatOf 45 = .ok (.iload_n 3, 1) := by decide +kernel
theorem dX7_seatOf_46 : decode cX7_seatOf 46 = .ok (.ireturn, 1) := by decide +kernel
set_option maxRecDepth 20000 in
theorem ggX7_bandsOf_X7_seatOf : GoodIn wsX7_bandsOf wsX7_seatOf := goodIn_r _ [5, 6, 7, 8, 9, 10, 11, 12, 13, 14, 15, 16, 17, 18, 19, 20, 21, 22, 23, 24, 25, 26, 27, 28, 29, 30, 31, 32, 33, 34, 35, 36] (by decide +kernel) (by decide +kernel)
set_option maxRecDepth 20000 in
theorem gX7_bandsOf_X7_seatOf : GoodIn wsX7_bandsOf (wsV RX7 136 RX7 yX7_seatOf wsX7_seatOf) := goodIn_app (goodIn_of _ (by decide +kernel)) ggX7_bandsOf_X7_seatOf
theorem dX7_bandsOf_0 : decode cX7_bandsOf 0 = .ok (.iconst 0, 1) := by decide +kernel
theorem dX7_bandsOf_1 : decode cX7_bandsOf 1 = .ok (.istore_n 2, 1) := by decide +kernel
theorem dX7_bandsOf_2 : decode cX7_bandsOf 2 = .ok (.iconst 0, 1) := by decide +kernel
theorem dX7_bandsOf_3 : decode cX7_bandsOf 3 = .ok (.istore_n 3, 1) := by decide +kernel
theorem dX7_bandsOf_4 : decode cX7_bandsOf 4 = .ok (.iload_n 3, 1) := by decide +kernel
theorem dX7_bandsOf_5 : decode cX7_bandsOf 5 = .ok (.iconst 4, 1) := by decide +kernel
theorem dX7_bandsOf_6 : decode cX7_bandsOf 6 = .ok (.if_icmp .ge 27, 3) := by decide +kernel
theorem dX7_bandsOf_9 : decode cX7_bandsOf 9 = .ok (.iload_n 2, 1) := by decide +kernel
theorem dX7_bandsOf_10 : decode cX7_bandsOf 10 = .ok (.aload_n 0, 1) := by decide +kernel
theorem dX7_bandsOf_11 : decode cX7_bandsOf 11 = .ok (.iload_n 1, 1) := by decide +kernel
theorem dX7_bandsOf_12 : decode cX7_bandsOf 12 = .ok (.iload_n 3, 1) := by decide +kernel
theorem dX7_bandsOf_13 : decode cX7_bandsOf 13 = .ok (.invokevirtual 136, 3) := by decide +kernel
theorem dX7_bandsOf_16 : decode cX7_bandsOf 16 = .ok (.iconst (-1), 1) := by decide +kernel
theorem dX7_bandsOf_17 : decode cX7_bandsOf 17 = .ok (.if_icmp .ne 7, 3) := by decide +kernel
theorem dX7_bandsOf_20 : decode cX7_bandsOf 20 = .ok (.iconst 0, 1) := by decide +kernel
theorem dX7_bandsOf_21 : decode cX7_bandsOf 21 = .ok (.goto 4, 3) := by decide +kernel
theorem dX7_bandsOf_24 : decode cX7_bandsOf 24 = .ok (.iconst 1, 1) := by decide +kernel
theorem dX7_bandsOf_25 : decode cX7_bandsOf 25 = .ok (.iadd, 1) := by decide +kernel
theorem dX7_bandsOf_26 : decode cX7_bandsOf 26 = .ok (.istore_n 2, 1) := by decide +kernel
theorem dX7_bandsOf_27 : decode cX7_bandsOf 27 = .ok (.iinc 3 1, 3) := by decide +kernel
theorem dX7_bandsOf_30 : decode cX7_bandsOf 30 = .ok (.goto (-26), 3) := by decide +kernel
theorem dX7_bandsOf_33 : decode cX7_bandsOf 33 = .ok (.iload_n 2, 1) := by decide +kernel
theorem dX7_bandsOf_34 : decode cX7_bandsOf 34 = .ok (.ireturn, 1) := by decide +kernel
set_option maxRecDepth 20000 in
theorem ggX7_join_X7_isPlayer : GoodIn wsX7_join wsX7_isPlayer := goodIn_r _ [11, 12, 13, 14, 10, 15, 32, 33, 34, 35, 36, 37, 38, 39, 40, 41, 42, 43, 44, 45, 46, 47, 48, 49, 50, 51, 52, 53, 54, 55, 56, 57, 58, 59, 60] (by decide +kernel) (by decide +kernel)
set_option maxRecDepth 20000 in
theorem gX7_join_X7_isPlayer : GoodIn wsX7_join (wsV RX7 140 RX7 yX7_isPlayer wsX7_isPlayer) := goodIn_app (goodIn_of _ (by decide +kernel)) ggX7_join_X7_isPlayer
set_option maxRecDepth 20000 in
theorem ggX7_join_X7_isBand : GoodIn wsX7_join wsX7_isBand := goodIn_r _ [18, 13, 14, 10, 15] (by decide +kernel) (by decide +kernel)
set_option maxRecDepth 20000 in
theorem gX7_join_X7_isBand : GoodIn wsX7_join (va_wsS RX7 101 yX7_isBand wsX7_isBand) := goodIn_app (goodIn_of _ (by decide +kernel)) ggX7_join_X7_isBand
set_option maxRecDepth 20000 in
theorem ggX7_join_X7_seatOf : GoodIn wsX7_join wsX7_seatOf := goodIn_r _ [22, 4, 5, 32, 33, 34, 35, 36, 37, 38, 39, 40, 41, 42, 43, 44, 45, 46, 47, 48, 49, 50, 51, 52, 53, 54, 55, 56, 57, 58, 59, 60] (by decide +kernel) (by decide +kernel)
set_option maxRecDepth 20000 in
theorem gX7_join_X7_seatOf : GoodIn wsX7_join (wsV RX7 136 RX7 yX7_seatOf wsX7_seatOf) := goodIn_app (goodIn_of _ (by decide +kernel)) ggX7_join_X7_seatOf
set_option maxRecDepth 20000 in
theorem ggX7_join_X7_bandsOf : GoodIn wsX7_join wsX7_bandsOf := goodIn_r _ [26, 19, 20, 21, 10, 22, 4, 5, 32, 33, 34, 35, 36, 37, 38, 39, 40, 41, 42, 43, 44, 45, 46, 47, 48, 49, 50, 51, 52, 53, 54, 55, 56, 57, 58, 59, 60] (by decide +kernel) (by decide +kernel)
set_option maxRecDepth 20000 in
theorem gX7_join_X7_bandsOf : GoodIn wsX7_join (wsV RX7 146 RX7 yX7_bandsOf wsX7_bandsOf) := goodIn_app (goodIn_of _ (by decide +kernel)) ggX7_join_X7_bandsOf
set_option maxRecDepth 20000 in
theorem ggX7_join_X7_holds : GoodIn wsX7_join wsX7_holds := goodIn_r _ [30, 31, 32, 33, 34, 35, 36, 37, 38, 39, 40, 41, 42, 43, 44, 45, 46, 47, 48, 49, 50, 51, 52, 53, 54, 55, 56, 57, 58, 59, 60] (by decide +kernel) (by decide +kernel)
set_option maxRecDepth 20000 in
theorem gX7_join_X7_holds : GoodIn wsX7_join (wsV RX7 104 RX7 yX7_holds wsX7_holds) := goodIn_app (goodIn_of _ (by decide +kernel)) ggX7_join_X7_holds
theorem dX7_join_0 : decode cX7_join 0 = .ok (.aload_n 0, 1) := by decide +kernel
theorem dX7_join_1 : decode cX7_join 1 = .ok (.iload_n 1, 1) := by decide +kernel
theorem dX7_join_2 : decode cX7_join 2 = .ok (.invokevirtual 140, 3) := by decide +kernel
theorem dX7_join_5 : decode cX7_join 5 = .ok (.ifCond .eq 14, 3) := by decide +kernel
theorem dX7_join_8 : decode cX7_join 8 = .ok (.iload_n 2, 1) := by decide +kernel
theorem dX7_join_9 : decode cX7_join 9 = .ok (.invokestatic 101, 3) := by decide +kernel
theorem dX7_join_12 : decode cX7_join 12 = .ok (.ifCond .eq 7, 3) := by decide +kernel
theorem dX7_join_15 : decode cX7_join 15 = .ok (.iconst 1, 1) := by decide +kernel
theorem dX7_join_16 : decode cX7_join 16 = .ok (.goto 4, 3) := by decide +kernel
theorem dX7_join_19 : decode cX7_join 19 = .ok (.iconst 0, 1) := by decide +kernel
theorem dX7_join_20 : decode cX7_join 20 = .ok (.istore_n 3, 1) := by decide +kernel
theorem dX7_join_21 : decode cX7_join 21 = .ok (.iload_n 3, 1) := by decide +kernel
theorem dX7_join_22 : decode cX7_join 22 = .ok (.ifCond .eq 46, 3) := by decide +kernel
theorem dX7_join_25 : decode cX7_join 25 = .ok (.aload_n 0, 1) := by decide +kernel
theorem dX7_join_26 : decode cX7_join 26 = .ok (.getfield 35, 3) := by decide +kernel
theorem dX7_join_29 : decode cX7_join 29 = .ok (.iload_n 1, 1) := by decide +kernel
theorem dX7_join_30 : decode cX7_join 30 = .ok (.iaload, 1) := by decide +kernel
theorem dX7_join_31 : decode cX7_join 31 = .ok (.iconst (-1), 1) := by decide +kernel
theorem dX7_join_32 : decode cX7_join 32 = .ok (.if_icmp .eq 36, 3) := by decide +kernel
theorem dX7_join_35 : decode cX7_join 35 = .ok (.aload_n 0, 1) := by decide +kernel
theorem dX7_join_36 : decode cX7_join 36 = .ok (.getfield 35, 3) := by decide +kernel
theorem dX7_join_39 : decode cX7_join 39 = .ok (.iload_n 1, 1) := by decide +kernel
theorem dX7_join_40 : decode cX7_join 40 = .ok (.iaload, 1) := by decide +kernel
theorem dX7_join_41 : decode cX7_join 41 = .ok (.iload_n 2, 1) := by decide +kernel
theorem dX7_join_42 : decode cX7_join 42 = .ok (.if_icmp .eq 26, 3) := by decide +kernel
theorem dX7_join_45 : decode cX7_join 45 = .ok (.aload_n 0, 1) := by decide +kernel
theorem dX7_join_46 : decode cX7_join 46 = .ok (.getfield 38, 3) := by decide +kernel
theorem dX7_join_49 : decode cX7_join 49 = .ok (.iload_n 1, 1) := by decide +kernel
theorem dX7_join_50 : decode cX7_join 50 = .ok (.iaload, 1) := by decide +kernel
theorem dX7_join_51 : decode cX7_join 51 = .ok (.bipush 30, 2) := by decide +kernel
theorem dX7_join_53 : decode cX7_join 53 = .ok (.idiv, 1) := by decide +kernel
theorem dX7_join_54 : decode cX7_join 54 = .ok (.aload_n 0, 1) := by decide +kernel
theorem dX7_join_55 : decode cX7_join 55 = .ok (.getfield 143, 3) := by decide +kernel
theorem dX7_join_58 : decode cX7_join 58 = .ok (.bipush 30, 2) := by decide +kernel
theorem dX7_join_60 : decode cX7_join 60 = .ok (.idiv, 1) := by decide +kernel
theorem dX7_join_61 : decode cX7_join 61 = .ok (.if_icmp .ne 7, 3) := by decide +kernel
theorem dX7_join_64 : decode cX7_join 64 = .ok (.iconst 1, 1) := by decide +kernel
theorem dX7_join_65 : decode cX7_join 65 = .ok (.goto 4, 3) := by decide +kernel
theorem dX7_join_68 : decode cX7_join 68 = .ok (.iconst 0, 1) := by decide +kernel
theorem dX7_join_69 : decode cX7_join 69 = .ok (.istore 4, 2) := by decide +kernel
theorem dX7_join_71 : decode cX7_join 71 = .ok (.iload_n 3, 1) := by decide +kernel
theorem dX7_join_72 : decode cX7_join 72 = .ok (.ifCond .eq 42, 3) := by decide +kernel
theorem dX7_join_75 : decode cX7_join 75 = .ok (.aload_n 0, 1) := by decide +kernel
theorem dX7_join_76 : decode cX7_join 76 = .ok (.iload_n 1, 1) := by decide +kernel
theorem dX7_join_77 : decode cX7_join 77 = .ok (.iload_n 2, 1) := by decide +kernel
theorem dX7_join_78 : decode cX7_join 78 = .ok (.invokevirtual 136, 3) := by decide +kernel
theorem dX7_join_81 : decode cX7_join 81 = .ok (.iconst (-1), 1) := by decide +kernel
theorem dX7_join_82 : decode cX7_join 82 = .ok (.if_icmp .ne 32, 3) := by decide +kernel
theorem dX7_join_85 : decode cX7_join 85 = .ok (.aload_n 0, 1) := by decide +kernel
theorem dX7_join_86 : decode cX7_join 86 = .ok (.iload_n 1, 1) := by decide +kernel
theorem dX7_join_87 : decode cX7_join 87 = .ok (.invokevirtual 146, 3) := by decide +kernel
theorem dX7_join_90 : decode cX7_join 90 = .ok (.iconst 2, 1) := by decide +kernel
theorem dX7_join_91 : decode cX7_join 91 = .ok (.if_icmp .ge 23, 3) := by decide +kernel
theorem dX7_join_94 : decode cX7_join 94 = .ok (.aload_n 0, 1) := by decide +kernel
theorem dX7_join_95 : decode cX7_join 95 = .ok (.getfield 41, 3) := by decide +kernel
theorem dX7_join_98 : decode cX7_join 98 = .ok (.iload_n 2, 1) := by decide +kernel
theorem dX7_join_99 : decode cX7_join 99 = .ok (.iaload, 1) := by decide +kernel
theorem dX7_join_100 : decode cX7_join 100 = .ok (.bipush 8, 2) := by decide +kernel
theorem dX7_join_102 : decode cX7_join 102 = .ok (.if_icmp .ge 12, 3) := by decide +kernel
theorem dX7_join_105 : decode cX7_join 105 = .ok (.iload 4, 2) := by decide +kernel
theorem dX7_join_107 : decode cX7_join 107 = .ok (.ifCond .ne 7, 3) := by decide +kernel
theorem dX7_join_110 : decode cX7_join 110 = .ok (.iconst 1, 1) := by decide +kernel
theorem dX7_join_111 : decode cX7_join 111 = .ok (.goto 4, 3) := by decide +kernel
theorem dX7_join_114 : decode cX7_join 114 = .ok (.iconst 0, 1) := by decide +kernel
theorem dX7_join_115 : decode cX7_join 115 = .ok (.istore 5, 2) := by decide +kernel
theorem dX7_join_117 : decode cX7_join 117 = .ok (.aload_n 0, 1) := by decide +kernel
theorem dX7_join_118 : decode cX7_join 118 = .ok (.iload_n 3, 1) := by decide +kernel
theorem dX7_join_119 : decode cX7_join 119 = .ok (.ifCond .ne 7, 3) := by decide +kernel
theorem dX7_join_122 : decode cX7_join 122 = .ok (.iconst 1, 1) := by decide +kernel
theorem dX7_join_123 : decode cX7_join 123 = .ok (.goto 13, 3) := by decide +kernel
theorem dX7_join_126 : decode cX7_join 126 = .ok (.iload 5, 2) := by decide +kernel
theorem dX7_join_128 : decode cX7_join 128 = .ok (.ifCond .eq 7, 3) := by decide +kernel
theorem dX7_join_131 : decode cX7_join 131 = .ok (.iconst 0, 1) := by decide +kernel
theorem dX7_join_132 : decode cX7_join 132 = .ok (.goto 4, 3) := by decide +kernel
theorem dX7_join_135 : decode cX7_join 135 = .ok (.iconst 2, 1) := by decide +kernel
theorem dX7_join_136 : decode cX7_join 136 = .ok (.invokevirtual 104, 3) := by decide +kernel
theorem dX7_join_139 : decode cX7_join 139 = .ok (.ifCond .ne 5, 3) := by decide +kernel
theorem dX7_join_142 : decode cX7_join 142 = .ok (.iconst 0, 1) := by decide +kernel
theorem dX7_join_143 : decode cX7_join 143 = .ok (.ireturn, 1) := by decide +kernel
theorem dX7_join_144 : decode cX7_join 144 = .ok (.bipush 8, 2) := by decide +kernel
theorem dX7_join_146 : decode cX7_join 146 = .ok (.iload_n 2, 1) := by decide +kernel
theorem dX7_join_147 : decode cX7_join 147 = .ok (.imul, 1) := by decide +kernel
theorem dX7_join_148 : decode cX7_join 148 = .ok (.aload_n 0, 1) := by decide +kernel
theorem dX7_join_149 : decode cX7_join 149 = .ok (.getfield 41, 3) := by decide +kernel
theorem dX7_join_152 : decode cX7_join 152 = .ok (.iload_n 2, 1) := by decide +kernel
theorem dX7_join_153 : decode cX7_join 153 = .ok (.iaload, 1) := by decide +kernel
theorem dX7_join_154 : decode cX7_join 154 = .ok (.iadd, 1) := by decide +kernel
theorem dX7_join_155 : decode cX7_join 155 = .ok (.istore 6, 2) := by decide +kernel
theorem dX7_join_157 : decode cX7_join 157 = .ok (.aload_n 0, 1) := by decide +kernel
theorem dX7_join_158 : decode cX7_join 158 = .ok (.getfield 44, 3) := by decide +kernel
theorem dX7_join_161 : decode cX7_join 161 = .ok (.iload 6, 2) := by decide +kernel
theorem dX7_join_163 : decode cX7_join 163 = .ok (.iload_n 1, 1) := by decide +kernel
theorem dX7_join_164 : decode cX7_join 164 = .ok (.iastore, 1) := by decide +kernel
theorem dX7_join_165 : decode cX7_join 165 = .ok (.iconst 0, 1) := by decide +kernel
theorem dX7_join_166 : decode cX7_join 166 = .ok (.istore 7, 2) := by decide +kernel
theorem dX7_join_168 : decode cX7_join 168 = .ok (.iload 7, 2) := by decide +kernel
theorem dX7_join_170 : decode cX7_join 170 = .ok (.bipush 6, 2) := by decide +kernel
theorem dX7_join_172 : decode cX7_join 172 = .ok (.if_icmp .ge 23, 3) := by decide +kernel
theorem dX7_join_175 : decode cX7_join 175 = .ok (.aload_n 0, 1) := by decide +kernel
theorem dX7_join_176 : decode cX7_join 176 = .ok (.getfield 53, 3) := by decide +kernel
theorem dX7_join_179 : decode cX7_join 179 = .ok (.bipush 6, 2) := by decide +kernel
theorem dX7_join_181 : decode cX7_join 181 = .ok (.iload 6, 2) := by decide +kernel
theorem dX7_join_183 : decode cX7_join 183 = .ok (.imul, 1) := by decide +kernel
theorem dX7_join_184 : decode cX7_join 184 = .ok (.iload 7, 2) := by decide +kernel
theorem dX7_join_186 : decode cX7_join 186 = .ok (.iadd, 1) := by decide +kernel
theorem dX7_join_187 : decode cX7_join 187 = .ok (.iconst 0, 1) := by decide +kernel
theorem dX7_join_188 : decode cX7_join 188 = .ok (.iastore, 1) := by decide +kernel
theorem dX7_join_189 : decode cX7_join 189 = .ok (.iinc 7 1, 3) := by decide +kernel
theorem dX7_join_192 : decode cX7_join 192 = .ok (.goto (-24), 3) := by decide +kernel
theorem dX7_join_195 : decode cX7_join 195 = .ok (.aload_n 0, 1) := by decide +kernel
theorem dX7_join_196 : decode cX7_join 196 = .ok (.getfield 41, 3) := by decide +kernel
theorem dX7_join_199 : decode cX7_join 199 = .ok (.iload_n 2, 1) := by decide +kernel
theorem dX7_join_200 : decode cX7_join 200 = .ok (.dup2, 1) := by decide +kernel
theorem dX7_join_201 : decode cX7_join 201 = .ok (.iaload, 1) := by decide +kernel
theorem dX7_join_202 : decode cX7_join 202 = .ok (.iconst 1, 1) := by decide +kernel
theorem dX7_join_203 : decode cX7_join 203 = .ok (.iadd, 1) := by decide +kernel
theorem dX7_join_204 : decode cX7_join 204 = .ok (.iastore, 1) := by decide +kernel
theorem dX7_join_205 : decode cX7_join 205 = .ok (.aload_n 0, 1) := by decide +kernel
theorem dX7_join_206 : decode cX7_join 206 = .ok (.getfield 41, 3) := by decide +kernel
theorem dX7_join_209 : decode cX7_join 209 = .ok (.iload_n 2, 1) := by decide +kernel
theorem dX7_join_210 : decode cX7_join 210 = .ok (.iaload, 1) := by decide +kernel
theorem dX7_join_211 : decode cX7_join 211 = .ok (.iconst 1, 1) := by decide +kernel
theorem dX7_join_212 : decode cX7_join 212 = .ok (.isub, 1) := by decide +kernel
theorem dX7_join_213 : decode cX7_join 213 = .ok (.ireturn, 1) := by decide +kernel
set_option maxRecDepth 20000 in
theorem ggX7_leave_X7_isPlayer : GoodIn wsX7_leave wsX7_isPlayer := goodIn_r _ [11, 12, 13, 14, 10, 15, 28, 29, 30, 31, 32, 33, 34, 35, 36, 37, 38, 39, 40, 41, 42, 43, 44, 45, 46, 47, 48, 49, 50, 51, 52, 53, 54, 55, 56] (by decide +kernel) (by decide +kernel)
set_option maxRecDepth 20000 in
theorem gX7_leave_X7_isPlayer : GoodIn wsX7_leave (wsV RX7 140 RX7 yX7_isPlayer wsX7_isPlayer) := goodIn_app (goodIn_of _ (by decide +kernel)) ggX7_leave_X7_isPlayer
set_option maxRecDepth 20000 in
theorem ggX7_leave_X7_isBand : GoodIn wsX7_leave wsX7_isBand := goodIn_r _ [18, 13, 14, 10, 15] (by decide +kernel) (by decide +kernel)
set_option maxRecDepth 20000 in
theorem gX7_leave_X7_isBand : GoodIn wsX7_leave (va_wsS RX7 101 yX7_isBand wsX7_isBand) := goodIn_app (goodIn_of _ (by decide +kernel)) ggX7_leave_X7_isBand
set_option maxRecDepth 20000 in
theorem ggX7_leave_X7_seatOf : GoodIn wsX7_leave wsX7_seatOf := goodIn_r _ [22, 1, 2, 28, 29, 30, 31, 32, 33, 34, 35, 36, 37, 38, 39, 40, 41, 42, 43, 44, 45, 46, 47, 48, 49, 50, 51, 52, 53, 54, 55, 56] (by decide +kernel) (by decide +kernel)
set_option maxRecDepth 20000 in
theorem gX7_leave_X7_seatOf : GoodIn wsX7_leave (wsV RX7 136 RX7 yX7_seatOf wsX7_seatOf) := goodIn_app (goodIn_of _ (by decide +kernel)) ggX7_leave_X7_seatOf
set_option maxRecDepth 20000 in
theorem ggX7_leave_X7_holds : GoodIn wsX7_leave wsX7_holds := goodIn_r _ [26, 27, 28, 29, 30, 31, 32, 33, 34, 35, 36, 37, 38, 39, 40, 41, 42, 43, 44, 45, 46, 47, 48, 49, 50, 51, 52, 53, 54, 55, 56] (by decide +kernel) (by decide +kernel)
set_option maxRecDepth 20000 in
theorem gX7_leave_X7_holds : GoodIn wsX7_leave (wsV RX7 104 RX7 yX7_holds wsX7_holds) := goodIn_app (goodIn_of _ (by decide +kernel)) ggX7_leave_X7_holds
theorem dX7_leave_0 : decode cX7_leave 0 = .ok (.aload_n 0, 1) := by decide +kernel
theorem dX7_leave_1 : decode cX7_leave 1 = .ok (.iload_n 1, 1) := by decide +kernel
theorem dX7_leave_2 : decode cX7_leave 2 = .ok (.invokevirtual 140, 3) := by decide +kernel
theorem dX7_leave_5 : decode cX7_leave 5 = .ok (.ifCond .eq 14, 3) := by decide +kernel
theorem dX7_leave_8 : decode cX7_leave 8 = .ok (.iload_n 2, 1) := by decide +kernel
theorem dX7_leave_9 : decode cX7_leave 9 = .ok (.invokestatic 101, 3) := by decide +kernel
theorem dX7_leave_12 : decode cX7_leave 12 = .ok (.ifCond .eq 7, 3) := by decide +kernel
theorem dX7_leave_15 : decode cX7_leave 15 = .ok (.iconst 1, 1) := by decide +kernel
theorem dX7_leave_16 : decode cX7_leave 16 = .ok (.goto 4, 3) := by decide +kernel
theorem dX7_leave_19 : decode cX7_leave 19 = .ok (.iconst 0, 1) := by decide +kernel
theorem dX7_leave_20 : decode cX7_leave 20 = .ok (.istore_n 3, 1) := by decide +kernel
theorem dX7_leave_21 : decode cX7_leave 21 = .ok (.iload_n 3, 1) := by decide +kernel
theorem dX7_leave_22 : decode cX7_leave 22 = .ok (.ifCond .eq 12, 3) := by decide +kernel
theorem dX7_leave_25 : decode cX7_leave 25 = .ok (.aload_n 0, 1) := by decide +kernel
theorem dX7_leave_26 : decode cX7_leave 26 = .ok (.iload_n 1, 1) := by decide +kernel
theorem dX7_leave_27 : decode cX7_leave 27 = .ok (.iload_n 2, 1) := by decide +kernel
theorem dX7_leave_28 : decode cX7_leave 28 = .ok (.invokevirtual 136, 3) := by decide +kernel
theorem dX7_leave_31 : decode cX7_leave 31 = .ok (.goto 4, 3) := by decide +kernel
theorem dX7_leave_34 : decode cX7_leave 34 = .ok (.iconst (-1), 1) := by decide +kernel
theorem dX7_leave_35 : decode cX7_leave 35 = .ok (.istore 4, 2) := by decide +kernel
theorem dX7_leave_37 : decode cX7_leave 37 = .ok (.aload_n 0, 1) := by decide +kernel
theorem dX7_leave_38 : decode cX7_leave 38 = .ok (.iload_n 3, 1) := by decide +kernel
theorem dX7_leave_39 : decode cX7_leave 39 = .ok (.ifCond .ne 7, 3) := by decide +kernel
theorem dX7_leave_42 : decode cX7_leave 42 = .ok (.iconst 1, 1) := by decide +kernel
theorem dX7_leave_43 : decode cX7_leave 43 = .ok (.goto 14, 3) := by decide +kernel
theorem dX7_leave_46 : decode cX7_leave 46 = .ok (.iload 4, 2) := by decide +kernel
theorem dX7_leave_48 : decode cX7_leave 48 = .ok (.iconst (-1), 1) := by decide +kernel
theorem dX7_leave_49 : decode cX7_leave 49 = .ok (.if_icmp .ne 7, 3) := by decide +kernel
theorem dX7_leave_52 : decode cX7_leave 52 = .ok (.iconst 2, 1) := by decide +kernel
theorem dX7_leave_53 : decode cX7_leave 53 = .ok (.goto 4, 3) := by decide +kernel
theorem dX7_leave_56 : decode cX7_leave 56 = .ok (.iconst 0, 1) := by decide +kernel
theorem dX7_leave_57 : decode cX7_leave 57 = .ok (.invokevirtual 104, 3) := by decide +kernel
theorem dX7_leave_60 : decode cX7_leave 60 = .ok (.ifCond .ne 5, 3) := by decide +kernel
theorem dX7_leave_63 : decode cX7_leave 63 = .ok (.iconst 0, 1) := by decide +kernel
theorem dX7_leave_64 : decode cX7_leave 64 = .ok (.ireturn, 1) := by decide +kernel
theorem dX7_leave_65 : decode cX7_leave 65 = .ok (.aload_n 0, 1) := by decide +kernel
theorem dX7_leave_66 : decode cX7_leave 66 = .ok (.getfield 41, 3) := by decide +kernel
theorem dX7_leave_69 : decode cX7_leave 69 = .ok (.iload_n 2, 1) := by decide +kernel
theorem dX7_leave_70 : decode cX7_leave 70 = .ok (.dup2, 1) := by decide +kernel
theorem dX7_leave_71 : decode cX7_leave 71 = .ok (.iaload, 1) := by decide +kernel
theorem dX7_leave_72 : decode cX7_leave 72 = .ok (.iconst 1, 1) := by decide +kernel
theorem dX7_leave_73 : decode cX7_leave 73 = .ok (.isub, 1) := by decide +kernel
theorem dX7_leave_74 : decode cX7_leave 74 = .ok (.iastore, 1) := by decide +kernel
theorem dX7_leave_75 : decode cX7_leave 75 = .ok (.bipush 8, 2) := by decide +kernel
theorem dX7_leave_77 : decode cX7_leave 77 = .ok (.iload_n 2, 1) := by decide +kernel
theorem dX7_leave_78 : decode cX7_leave 78 = .ok (.imul, 1) := by decide +kernel
theorem dX7_leave_79 : decode cX7_leave 79 = .ok (.iload 4, 2) := by decide +kernel
theorem dX7_leave_81 : decode cX7_leave 81 = .ok (.iadd, 1) := by decide +kernel
theorem dX7_leave_82 : decode cX7_leave 82 = .ok (.istore 5, 2) := by decide +kernel
theorem dX7_leave_84 : decode cX7_leave 84 = .ok (.iload 5, 2) := by decide +kernel
theorem dX7_leave_86 : decode cX7_leave 86 = .ok (.bipush 8, 2) := by decide +kernel
theorem dX7_leave_88 : decode cX7_leave 88 = .ok (.iload_n 2, 1) := by decide +kernel
theorem dX7_leave_89 : decode cX7_leave 89 = .ok (.imul, 1) := by decide +kernel
theorem dX7_leave_90 : decode cX7_leave 90 = .ok (.aload_n 0, 1) := by decide +kernel
theorem dX7_leave_91 : decode cX7_leave 91 = .ok (.getfield 41, 3) := by decide +kernel
theorem dX7_leave_94 : decode cX7_leave 94 = .ok (.iload_n 2, 1) := by decide +kernel
theorem dX7_leave_95 : decode cX7_leave 95 = .ok (.iaload, 1) := by decide +kernel
theorem dX7_leave_96 : decode cX7_leave 96 = .ok (.iadd, 1) := by decide +kernel
theorem dX7_leave_97 : decode cX7_leave 97 = .ok (.if_icmp .ge 70, 3) := by decide +kernel
theorem dX7_leave_100 : decode cX7_leave 100 = .ok (.aload_n 0, 1) := by decide +kernel
theorem dX7_leave_101 : decode cX7_leave 101 = .ok (.getfield 44, 3) := by decide +kernel
theorem dX7_leave_104 : decode cX7_leave 104 = .ok (.iload 5, 2) := by decide +kernel
theorem dX7_leave_106 : decode cX7_leave 106 = .ok (.aload_n 0, 1) := by decide +kernel
theorem dX7_leave_107 : decode cX7_leave 107 = .ok (.getfield 44, 3) := by decide +kernel
theorem dX7_leave_110 : decode cX7_leave 110 = .ok (.iload 5, 2) := by decide +kernel
theorem dX7_leave_112 : decode cX7_leave 112 = .ok (.iconst 1, 1) := by decide +kernel
theorem dX7_leave_113 : decode cX7_leave 113 = .ok (.iadd, 1) := by decide +kernel
theorem dX7_leave_114 : decode cX7_leave 114 = .ok (.iaload, 1) := by decide +kernel
theorem dX7_leave_115 : decode cX7_leave 115 = .ok (.iastore, 1) := by decide +kernel
theorem dX7_leave_116 : decode cX7_leave 116 = .ok (.iconst 0, 1) := by decide +kernel
theorem dX7_leave_117 : decode cX7_leave 117 = .ok (.istore 6, 2) := by decide +kernel
theorem dX7_leave_119 : decode cX7_leave 119 = .ok (.iload 6, 2) := by decide +kernel
theorem dX7_leave_121 : decode cX7_leave 121 = .ok (.bipush 6, 2) := by decide +kernel
theorem dX7_leave_123 : decode cX7_leave 123 = .ok (.if_icmp .ge 38, 3) := by decide +kernel
theorem dX7_leave_126 : decode cX7_leave 126 = .ok (.aload_n 0, 1) := by decide +kernel
theorem dX7_leave_127 : decode cX7_leave 127 = .ok (.getfield 53, 3) := by decide +kernel
theorem dX7_leave_130 : decode cX7_leave 130 = .ok (.bipush 6, 2) := by decide +kernel
theorem dX7_leave_132 : decode cX7_leave 132 = .ok (.iload 5, 2) := by decide +kernel
theorem dX7_leave_134 : decode cX7_leave 134 = .ok (.imul, 1) := by decide +kernel
theorem dX7_leave_135 : decode cX7_leave 135 = .ok (.iload 6, 2) := by decide +kernel
theorem dX7_leave_137 : decode cX7_leave 137 = .ok (.iadd, 1) := by decide +kernel
theorem dX7_leave_138 : decode cX7_leave 138 = .ok (.aload_n 0, 1) := by decide +kernel
theorem dX7_leave_139 : decode cX7_leave 139 = .ok (.getfield 53, 3) := by decide +kernel
theorem dX7_leave_142 : decode cX7_leave 142 = .ok (.bipush 6, 2) := by decide +kernel
theorem dX7_leave_144 : decode cX7_leave 144 = .ok (.iload 5, 2) := by decide +kernel
theorem dX7_leave_146 : decode cX7_leave 146 = .ok (.imul, 1) := by decide +kernel
theorem dX7_leave_147 : decode cX7_leave 147 = .ok (.bipush 6, 2) := by decide +kernel
theorem dX7_leave_149 : decode cX7_leave 149 = .ok (.iadd, 1) := by decide +kernel
theorem dX7_leave_150 : decode cX7_leave 150 = .ok (.iload 6, 2) := by decide +kernel
theorem dX7_leave_152 : decode cX7_leave 152 = .ok (.iadd, 1) := by decide +kernel
theorem dX7_leave_153 : decode cX7_leave 153 = .ok (.iaload, 1) := by decide +kernel
theorem dX7_leave_154 : decode cX7_leave 154 = .ok (.iastore, 1) := by decide +kernel
theorem dX7_leave_155 : decode cX7_leave 155 = .ok (.iinc 6 1, 3) := by decide +kernel
theorem dX7_leave_158 : decode cX7_leave 158 = .ok (.goto (-39), 3) := by decide +kernel
theorem dX7_leave_161 : decode cX7_leave 161 = .ok (.iinc 5 1, 3) := by decide +kernel
theorem dX7_leave_164 : decode cX7_leave 164 = .ok (.goto (-80), 3) := by decide +kernel
theorem dX7_leave_167 : decode cX7_leave 167 = .ok (.aload_n 0, 1) := by decide +kernel
theorem dX7_leave_168 : decode cX7_leave 168 = .ok (.getfield 35, 3) := by decide +kernel
theorem dX7_leave_171 : decode cX7_leave 171 = .ok (.iload_n 1, 1) := by decide +kernel
theorem dX7_leave_172 : decode cX7_leave 172 = .ok (.iload_n 2, 1) := by decide +kernel
theorem dX7_leave_173 : decode cX7_leave 173 = .ok (.iastore, 1) := by decide +kernel
theorem dX7_leave_174 : decode cX7_leave 174 = .ok (.aload_n 0, 1) := by decide +kernel
theorem dX7_leave_175 : decode cX7_leave 175 = .ok (.getfield 38, 3) := by decide +kernel
theorem dX7_leave_178 : decode cX7_leave 178 = .ok (.iload_n 1, 1) := by decide +kernel
theorem dX7_leave_179 : decode cX7_leave 179 = .ok (.aload_n 0, 1) := by decide +kernel
theorem dX7_leave_180 : decode cX7_leave 180 = .ok (.getfield 143, 3) := by decide +kernel
theorem dX7_leave_183 : decode cX7_leave 183 = .ok (.iastore, 1) := by decide +kernel
theorem dX7_leave_184 : decode cX7_leave 184 = .ok (.aload_n 0, 1) := by decide +kernel
theorem dX7_leave_185 : decode cX7_leave 185 = .ok (.getfield 41, 3) := by decide +kernel
theorem dX7_leave_188 : decode cX7_leave 188 = .ok (.iload_n 2, 1) := by decide +kernel
theorem dX7_leave_189 : decode cX7_leave 189 = .ok (.iaload, 1) := by decide +kernel
theorem dX7_leave_190 : decode cX7_leave 190 = .ok (.ireturn, 1) := by decide +kernel
theorem dX7_isGiven_0 : decode cX7_isGiven 0 = .ok (.iconst 0, 1) := by decide +kernel
theorem dX7_isGiven_1 : decode cX7_isGiven 1 = .ok (.istore_n 2, 1) := by decide +kernel
theorem dX7_isGiven_2 : decode cX7_isGiven 2 = .ok (.iconst 0, 1) := by decide +kernel
theorem dX7_isGiven_3 : decode cX7_isGiven 3 = .ok (.istore_n 3, 1) := by decide +kernel
theorem dX7_isGiven_4 : decode cX7_isGiven 4 = .ok (.iload_n 3, 1) := by decide +kernel
theorem dX7_isGiven_5 : decode cX7_isGiven 5 = .ok (.aload_n 0, 1) := by decide +kernel
theorem dX7_isGiven_6 : decode cX7_isGiven 6 = .ok (.getfield 98, 3) := by decide +kernel
theorem dX7_isGiven_9 : decode cX7_isGiven 9 = .ok (.if_icmp .ge 29, 3) := by decide +kernel
theorem dX7_isGiven_12 : decode cX7_isGiven 12 = .ok (.iload_n 2, 1) := by decide +kernel
theorem dX7_isGiven_13 : decode cX7_isGiven 13 = .ok (.ifCond .ne 13, 3) := by decide +kernel
theorem dX7_isGiven_16 : decode cX7_isGiven 16 = .ok (.aload_n 0, 1) := by decide +kernel
theorem dX7_isGiven_17 : decode cX7_isGiven 17 = .ok (.getfield 32, 3) := by decide +kernel
theorem dX7_isGiven_20 : decode cX7_isGiven 20 = .ok (.iload_n 3, 1) := by decide +kernel
theorem dX7_isGiven_21 : decode cX7_isGiven 21 = .ok (.iaload, 1) := by decide +kernel
theorem dX7_isGiven_22 : decode cX7_isGiven 22 = .ok (.iload_n 1, 1) := by decide +kernel
theorem dX7_isGiven_23 : decode cX7_isGiven 23 = .ok (.if_icmp .ne 7, 3) := by decide +kernel
theorem dX7_isGiven_26 : decode cX7_isGiven 26 = .ok (.iconst 1, 1) := by decide +kernel
theorem dX7_isGiven_27 : decode cX7_isGiven 27 = .ok (.goto 4, 3) := by decide +kernel
theorem dX7_isGiven_30 : decode cX7_isGiven 30 = .ok (.iconst 0, 1) := by decide +kernel
theorem dX7_isGiven_31 : decode cX7_isGiven 31 = .ok (.istore_n 2, 1) := by decide +kernel
theorem dX7_isGiven_32 : decode cX7_isGiven 32 = .ok (.iinc 3 1, 3) := by decide +kernel
theorem dX7_isGiven_35 : decode cX7_isGiven 35 = .ok (.goto (-31), 3) := by decide +kernel
theorem dX7_isGiven_38 : decode cX7_isGiven 38 = .ok (.iload_n 2, 1) := by decide +kernel
theorem dX7_isGiven_39 : decode cX7_isGiven 39 = .ok (.ireturn, 1) := by decide +kernel
set_option maxRecDepth 20000 in
theorem ggX7_give_X7_isPlayer : GoodIn wsX7_give wsX7_isPlayer := goodIn_r _ [6, 7, 8, 9, 5, 10, 25, 26, 27, 28, 29, 30, 31, 32, 33, 34, 35, 36, 37, 38, 39, 40, 41, 42, 43, 44, 45, 46, 47, 48, 49, 50, 51, 52, 53] (by decide +kernel) (by decide +kernel)
set_option maxRecDepth 20000 in
theorem gX7_give_X7_isPlayer : GoodIn wsX7_give (wsV RX7 140 RX7 yX7_isPlayer wsX7_isPlayer) := goodIn_app (goodIn_of _ (by decide +kernel)) ggX7_give_X7_isPlayer
set_option maxRecDepth 20000 in
theorem ggX7_give_X7_isPan : GoodIn wsX7_give wsX7_isPan := goodIn_r _ [14, 15, 8, 9, 5, 10, 25, 26, 27, 28, 29, 30, 31, 32, 33, 34, 35, 36, 37, 38, 39, 40, 41, 42, 43, 44, 45, 46, 47, 48, 49, 50, 51, 52, 53] (by decide +kernel) (by decide +kernel)
set_option maxRecDepth 20000 in
theorem gX7_give_X7_isPan : GoodIn wsX7_give (wsV RX7 94 RX7 yX7_isPan wsX7_isPan) := goodIn_app (goodIn_of _ (by decide +kernel)) ggX7_give_X7_isPan
set_option maxRecDepth 20000 in
theorem ggX7_give_X7_isGiven : GoodIn wsX7_give wsX7_isGiven := goodIn_r _ [19, 7, 1, 25, 26, 27, 28, 29, 30, 31, 32, 33, 34, 35, 36, 37, 38, 39, 40, 41, 42, 43, 44, 45, 46, 47, 48, 49, 50, 51, 52, 53] (by decide +kernel) (by decide +kernel)
set_option maxRecDepth 20000 in
theorem gX7_give_X7_isGiven : GoodIn wsX7_give (wsV RX7 150 RX7 yX7_isGiven wsX7_isGiven) := goodIn_app (goodIn_of _ (by decide +kernel)) ggX7_give_X7_isGiven
set_option maxRecDepth 20000 in
theorem ggX7_give_X7_holds : GoodIn wsX7_give wsX7_holds := goodIn_r _ [23, 24, 25, 26, 27, 28, 29, 30, 31, 32, 33, 34, 35, 36, 37, 38, 39, 40, 41, 42, 43, 44, 45, 46, 47, 48, 49, 50, 51, 52, 53] (by decide +kernel) (by decide +kernel)
set_option maxRecDepth 20000 in
theorem gX7_give_X7_holds : GoodIn wsX7_give (wsV RX7 104 RX7 yX7_holds wsX7_holds) := goodIn_app (goodIn_of _ (by decide +kernel)) ggX7_give_X7_holds
theorem dX7_give_0 : decode cX7_give 0 = .ok (.aload_n 0, 1) := by decide +kernel
theorem dX7_give_1 : decode cX7_give 1 = .ok (.iload_n 1, 1) := by decide +kernel
theorem dX7_give_2 : decode cX7_give 2 = .ok (.invokevirtual 140, 3) := by decide +kernel
theorem dX7_give_5 : decode cX7_give 5 = .ok (.ifCond .eq 15, 3) := by decide +kernel
theorem dX7_give_8 : decode cX7_give 8 = .ok (.aload_n 0, 1) := by decide +kernel
theorem dX7_give_9 : decode cX7_give 9 = .ok (.iload_n 2, 1) := by decide +kernel
theorem dX7_give_10 : decode cX7_give 10 = .ok (.invokevirtual 94, 3) := by decide +kernel
theorem dX7_give_13 : decode cX7_give 13 = .ok (.ifCond .eq 7, 3) := by decide +kernel
theorem dX7_give_16 : decode cX7_give 16 = .ok (.iconst 1, 1) := by decide +kernel
theorem dX7_give_17 : decode cX7_give 17 = .ok (.goto 4, 3) := by decide +kernel
theorem dX7_give_20 : decode cX7_give 20 = .ok (.iconst 0, 1) := by decide +kernel
theorem dX7_give_21 : decode cX7_give 21 = .ok (.istore_n 3, 1) := by decide +kernel
theorem dX7_give_22 : decode cX7_give 22 = .ok (.aload_n 0, 1) := by decide +kernel
theorem dX7_give_23 : decode cX7_give 23 = .ok (.iload_n 3, 1) := by decide +kernel
theorem dX7_give_24 : decode cX7_give 24 = .ok (.ifCond .ne 7, 3) := by decide +kernel
theorem dX7_give_27 : decode cX7_give 27 = .ok (.iconst 1, 1) := by decide +kernel
theorem dX7_give_28 : decode cX7_give 28 = .ok (.goto 26, 3) := by decide +kernel
theorem dX7_give_31 : decode cX7_give 31 = .ok (.aload_n 0, 1) := by decide +kernel
theorem dX7_give_32 : decode cX7_give 32 = .ok (.getfield 32, 3) := by decide +kernel
theorem dX7_give_35 : decode cX7_give 35 = .ok (.iload_n 1, 1) := by decide +kernel
theorem dX7_give_36 : decode cX7_give 36 = .ok (.iaload, 1) := by decide +kernel
theorem dX7_give_37 : decode cX7_give 37 = .ok (.iconst (-1), 1) := by decide +kernel
theorem dX7_give_38 : decode cX7_give 38 = .ok (.if_icmp .ne 15, 3) := by decide +kernel
theorem dX7_give_41 : decode cX7_give 41 = .ok (.aload_n 0, 1) := by decide +kernel
theorem dX7_give_42 : decode cX7_give 42 = .ok (.iload_n 2, 1) := by decide +kernel
theorem dX7_give_43 : decode cX7_give 43 = .ok (.invokevirtual 150, 3) := by decide +kernel
theorem dX7_give_46 : decode cX7_give 46 = .ok (.ifCond .ne 7, 3) := by decide +kernel
theorem dX7_give_49 : decode cX7_give 49 = .ok (.iconst 0, 1) := by decide +kernel
theorem dX7_give_50 : decode cX7_give 50 = .ok (.goto 4, 3) := by decide +kernel
theorem dX7_give_53 : decode cX7_give 53 = .ok (.iconst 2, 1) := by decide +kernel
theorem dX7_give_54 : decode cX7_give 54 = .ok (.invokevirtual 104, 3) := by decide +kernel
theorem dX7_give_57 : decode cX7_give 57 = .ok (.ifCond .eq 10, 3) := by decide +kernel
theorem dX7_give_60 : decode cX7_give 60 = .ok (.aload_n 0, 1) := by decide +kernel
theorem dX7_give_61 : decode cX7_give 61 = .ok (.getfield 32, 3) := by decide +kernel
theorem dX7_give_64 : decode cX7_give 64 = .ok (.iload_n 1, 1) := by decide +kernel
theorem dX7_give_65 : decode cX7_give 65 = .ok (.iload_n 2, 1) := by decide +kernel
theorem dX7_give_66 : decode cX7_give 66 = .ok (.iastore, 1) := by decide +kernel
theorem dX7_give_67 : decode cX7_give 67 = .ok (.return_, 1) := by decide +kernel
set_option maxRecDepth 20000 in
theorem ggX7_takeBack_X7_isPlayer : GoodIn wsX7_takeBack wsX7_isPlayer := goodIn_r _ [6, 7, 8, 9, 5, 10, 16, 17, 18, 19, 20, 21, 22, 23, 24, 25, 26, 27, 28, 29, 30, 31, 32, 33, 34, 35, 36, 37, 38, 39, 40, 41, 42, 43, 44] (by decide +kernel) (by decide +kernel)
set_option maxRecDepth 20000 in
theorem gX7_takeBack_X7_isPlayer : GoodIn wsX7_takeBack (wsV RX7 140 RX7 yX7_isPlayer wsX7_isPlayer) := goodIn_app (goodIn_of _ (by decide +kernel)) ggX7_takeBack_X7_isPlayer
set_option maxRecDepth 20000 in
theorem ggX7_takeBack_X7_holds : GoodIn wsX7_takeBack wsX7_holds := goodIn_r _ [14, 15, 16, 17, 18, 19, 20, 21, 22, 23, 24, 25, 26, 27, 28, 29, 30, 31, 32, 33, 34, 35, 36, 37, 38, 39, 40, 41, 42, 43, 44] (by decide +kernel) (by decide +kernel)
set_option maxRecDepth 20000 in
theorem gX7_takeBack_X7_holds : GoodIn wsX7_takeBack (wsV RX7 104 RX7 yX7_holds wsX7_holds) := goodIn_app (goodIn_of _ (by decide +kernel)) ggX7_takeBack_X7_holds
theorem dX7_takeBack_0 : decode cX7_takeBack 0 = .ok (.aload_n 0, 1) := by decide +kernel
theorem dX7_takeBack_1 : decode cX7_takeBack 1 = .ok (.iload_n 1, 1) := by decide +kernel
theorem dX7_takeBack_2 : decode cX7_takeBack 2 = .ok (.invokevirtual 140, 3) := by decide +kernel
theorem dX7_takeBack_5 : decode cX7_takeBack 5 = .ok (.istore_n 2, 1) := by decide +kernel
theorem dX7_takeBack_6 : decode cX7_takeBack 6 = .ok (.aload_n 0, 1) := by decide +kernel
theorem dX7_takeBack_7 : decode cX7_takeBack 7 = .ok (.iload_n 2, 1) := by decide +kernel
theorem dX7_takeBack_8 : decode cX7_takeBack 8 = .ok (.ifCond .ne 7, 3) := by decide +kernel
theorem dX7_takeBack_11 : decode cX7_takeBack 11 = .ok (.iconst 1, 1) := by decide +kernel
theorem dX7_takeBack_12 : decode cX7_takeBack 12 = .ok (.goto 18, 3) := by decide +kernel
theorem dX7_takeBack_15 : decode cX7_takeBack 15 = .ok (.aload_n 0, 1) := by decide +kernel
theorem dX7_takeBack_16 : decode cX7_takeBack 16 = .ok (.getfield 32, 3) := by decide +kernel
theorem dX7_takeBack_19 : decode cX7_takeBack 19 = .ok (.iload_n 1, 1) := by decide +kernel
theorem dX7_takeBack_20 : decode cX7_takeBack 20 = .ok (.iaload, 1) := by decide +kernel
theorem dX7_takeBack_21 : decode cX7_takeBack 21 = .ok (.iconst (-1), 1) := by decide +kernel
theorem dX7_takeBack_22 : decode cX7_takeBack 22 = .ok (.if_icmp .ne 7, 3) := by decide +kernel
theorem dX7_takeBack_25 : decode cX7_takeBack 25 = .ok (.iconst 2, 1) := by decide +kernel
theorem dX7_takeBack_26 : decode cX7_takeBack 26 = .ok (.goto 4, 3) := by decide +kernel
theorem dX7_takeBack_29 : decode cX7_takeBack 29 = .ok (.iconst 0, 1) := by decide +kernel
theorem dX7_takeBack_30 : decode cX7_takeBack 30 = .ok (.invokevirtual 104, 3) := by decide +kernel
theorem dX7_takeBack_33 : decode cX7_takeBack 33 = .ok (.ifCond .ne 5, 3) := by decide +kernel
theorem dX7_takeBack_36 : decode cX7_takeBack 36 = .ok (.iconst 0, 1) := by decide +kernel
theorem dX7_takeBack_37 : decode cX7_takeBack 37 = .ok (.ireturn, 1) := by decide +kernel
theorem dX7_takeBack_38 : decode cX7_takeBack 38 = .ok (.aload_n 0, 1) := by decide +kernel
theorem dX7_takeBack_39 : decode cX7_takeBack 39 = .ok (.getfield 32, 3) := by decide +kernel
theorem dX7_takeBack_42 : decode cX7_takeBack 42 = .ok (.iload_n 1, 1) := by decide +kernel
theorem dX7_takeBack_43 : decode cX7_takeBack 43 = .ok (.iaload, 1) := by decide +kernel
theorem dX7_takeBack_44 : decode cX7_takeBack 44 = .ok (.istore_n 3, 1) := by decide +kernel
theorem dX7_takeBack_45 : decode cX7_takeBack 45 = .ok (.aload_n 0, 1) := by decide +kernel
theorem dX7_takeBack_46 : decode cX7_takeBack 46 = .ok (.getfield 32, 3) := by decide +kernel
theorem dX7_takeBack_49 : decode cX7_takeBack 49 = .ok (.iload_n 1, 1) := by decide +kernel
theorem dX7_takeBack_50 : decode cX7_takeBack 50 = .ok (.iconst (-1), 1) := by decide +kernel
theorem dX7_takeBack_51 : decode cX7_takeBack 51 = .ok (.iastore, 1) := by decide +kernel
theorem dX7_takeBack_52 : decode cX7_takeBack 52 = .ok (.iload_n 3, 1) := by decide +kernel
theorem dX7_takeBack_53 : decode cX7_takeBack 53 = .ok (.ireturn, 1) := by decide +kernel
set_option maxRecDepth 20000 in
theorem ggX7_ofPlayer_X7_isPlayer : GoodIn wsX7_ofPlayer wsX7_isPlayer := goodIn_r _ [7, 8, 9, 10, 6, 11, 27, 28, 29, 30, 31, 32, 33, 34, 35, 36, 37, 38, 39, 40, 41, 42, 43, 44, 45, 46, 47, 48, 49, 50, 51, 52, 53, 54, 55] (by decide +kernel) (by decide +kernel)
set_option maxRecDepth 20000 in
theorem gX7_ofPlayer_X7_isPlayer : GoodIn wsX7_ofPlayer (wsV RX7 140 RX7 yX7_isPlayer wsX7_isPlayer) := goodIn_app (goodIn_of _ (by decide +kernel)) ggX7_ofPlayer_X7_isPlayer
set_option maxRecDepth 20000 in
theorem ggX7_ofPlayer_X7_isIn : GoodIn wsX7_ofPlayer wsX7_isIn := goodIn_r _ [11] (by decide +kernel) (by decide +kernel)
set_option maxRecDepth 20000 in
theorem gX7_ofPlayer_X7_isIn : GoodIn wsX7_ofPlayer (va_wsS RX7 90 yX7_isIn wsX7_isIn) := goodIn_app (goodIn_of _ (by decide +kernel)) ggX7_ofPlayer_X7_isIn
set_option maxRecDepth 20000 in
theorem ggX7_ofPlayer_X7_holds : GoodIn wsX7_ofPlayer wsX7_holds := goodIn_r _ [15, 16, 27, 28, 29, 30, 31, 32, 33, 34, 35, 36, 37, 38, 39, 40, 41, 42, 43, 44, 45, 46, 47, 48, 49, 50, 51, 52, 53, 54, 55] (by decide +kernel) (by decide +kernel)
set_option maxRecDepth 20000 in
theorem gX7_ofPlayer_X7_holds : GoodIn wsX7_ofPlayer (wsV RX7 104 RX7 yX7_holds wsX7_holds) := goodIn_app (goodIn_of _ (by decide +kernel)) ggX7_ofPlayer_X7_holds
set_option maxRecDepth 20000 in
theorem ggX7_ofPlayer_X7_bandsOf : GoodIn wsX7_ofPlayer wsX7_bandsOf := goodIn_r _ [20, 21, 22, 23, 6, 24, 25, 26, 27, 28, 29, 30, 31, 32, 33, 34, 35, 36, 37, 38, 39, 40, 41, 42, 43, 44, 45, 46, 47, 48, 49, 50, 51, 52, 53, 54, 55] (by decide +kernel) (by decide +kernel)
set_option maxRecDepth 20000 in
theorem gX7_ofPlayer_X7_bandsOf : GoodIn wsX7_ofPlayer (wsV RX7 146 RX7 yX7_bandsOf wsX7_bandsOf) := goodIn_app (goodIn_of _ (by decide +kernel)) ggX7_ofPlayer_X7_bandsOf
theorem dX7_ofPlayer_0 : decode cX7_ofPlayer 0 = .ok (.aload_n 0, 1) := by decide +kernel
theorem dX7_ofPlayer_1 : decode cX7_ofPlayer 1 = .ok (.aload_n 0, 1) := by decide +kernel
theorem dX7_ofPlayer_2 : decode cX7_ofPlayer 2 = .ok (.iload_n 1, 1) := by decide +kernel
theorem dX7_ofPlayer_3 : decode cX7_ofPlayer 3 = .ok (.invokevirtual 140, 3) := by decide +kernel
theorem dX7_ofPlayer_6 : decode cX7_ofPlayer 6 = .ok (.ifCond .ne 7, 3) := by decide +kernel
theorem dX7_ofPlayer_9 : decode cX7_ofPlayer 9 = .ok (.iconst 1, 1) := by decide +kernel
theorem dX7_ofPlayer_10 : decode cX7_ofPlayer 10 = .ok (.goto 17, 3) := by decide +kernel
theorem dX7_ofPlayer_13 : decode cX7_ofPlayer 13 = .ok (.iload_n 2, 1) := by decide +kernel
theorem dX7_ofPlayer_14 : decode cX7_ofPlayer 14 = .ok (.iconst 0, 1) := by decide +kernel
theorem dX7_ofPlayer_15 : decode cX7_ofPlayer 15 = .ok (.iconst 2, 1) := by decide +kernel
theorem dX7_ofPlayer_16 : decode cX7_ofPlayer 16 = .ok (.invokestatic 90, 3) := by decide +kernel
theorem dX7_ofPlayer_19 : decode cX7_ofPlayer 19 = .ok (.ifCond .eq 7, 3) := by decide +kernel
theorem dX7_ofPlayer_22 : decode cX7_ofPlayer 22 = .ok (.iconst 0, 1) := by decide +kernel
theorem dX7_ofPlayer_23 : decode cX7_ofPlayer 23 = .ok (.goto 4, 3) := by decide +kernel
theorem dX7_ofPlayer_26 : decode cX7_ofPlayer 26 = .ok (.iconst 2, 1) := by decide +kernel
theorem dX7_ofPlayer_27 : decode cX7_ofPlayer 27 = .ok (.invokevirtual 104, 3) := by decide +kernel
theorem dX7_ofPlayer_30 : decode cX7_ofPlayer 30 = .ok (.ifCond .ne 5, 3) := by decide +kernel
theorem dX7_ofPlayer_33 : decode cX7_ofPlayer 33 = .ok (.iconst 0, 1) := by decide +kernel
theorem dX7_ofPlayer_34 : decode cX7_ofPlayer 34 = .ok (.ireturn, 1) := by decide +kernel
theorem dX7_ofPlayer_35 : decode cX7_ofPlayer 35 = .ok (.iload_n 2, 1) := by decide +kernel
theorem dX7_ofPlayer_36 : decode cX7_ofPlayer 36 = .ok (.ifCond .ne 12, 3) := by decide +kernel
theorem dX7_ofPlayer_39 : decode cX7_ofPlayer 39 = .ok (.aload_n 0, 1) := by decide +kernel
theorem dX7_ofPlayer_40 : decode cX7_ofPlayer 40 = .ok (.getfield 29, 3) := by decide +kernel
theorem dX7_ofPlayer_43 : decode cX7_ofPlayer 43 = .ok (.iload_n 1, 1) := by decide +kernel
theorem dX7_ofPlayer_44 : decode cX7_ofPlayer 44 = .ok (.iaload, 1) := by decide +kernel
theorem dX7_ofPlayer_45 : decode cX7_ofPlayer 45 = .ok (.goto 22, 3) := by decide +kernel
theorem dX7_ofPlayer_48 : decode cX7_ofPlayer 48 = .ok (.iload_n 2, 1) := by decide +kernel
theorem dX7_ofPlayer_49 : decode cX7_ofPlayer 49 = .ok (.iconst 1, 1) := by decide +kernel
theorem dX7_ofPlayer_50 : decode cX7_ofPlayer 50 = .ok (.if_icmp .ne 11, 3) := by decide +kernel
theorem dX7_ofPlayer_53 : decode cX7_ofPlayer 53 = .ok (.aload_n 0, 1) := by decide +kernel
theorem dX7_ofPlayer_54 : decode cX7_ofPlayer 54 = .ok (.iload_n 1, 1) := by decide +kernel
