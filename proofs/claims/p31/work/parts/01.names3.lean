theorem dX0_init_0 : decode cX0_init 0 = .ok (.aload_n 0, 1) := by decide +kernel
theorem dX0_init_1 : decode cX0_init 1 = .ok (.invokespecial 3, 3) := by decide +kernel
theorem dX0_init_4 : decode cX0_init 4 = .ok (.aload_n 0, 1) := by decide +kernel
theorem dX0_init_5 : decode cX0_init 5 = .ok (.new 9, 3) := by decide +kernel
theorem dX0_init_8 : decode cX0_init 8 = .ok (.dup, 1) := by decide +kernel
theorem dX0_init_9 : decode cX0_init 9 = .ok (.invokespecial 11, 3) := by decide +kernel
theorem dX0_init_12 : decode cX0_init 12 = .ok (.putfield 12, 3) := by decide +kernel
theorem dX0_init_15 : decode cX0_init 15 = .ok (.aload_n 0, 1) := by decide +kernel
theorem dX0_init_16 : decode cX0_init 16 = .ok (.bipush 24, 2) := by decide +kernel
theorem dX0_init_18 : decode cX0_init 18 = .ok (.newarray .int, 2) := by decide +kernel
theorem dX0_init_20 : decode cX0_init 20 = .ok (.putfield 18, 3) := by decide +kernel
theorem dX0_init_23 : decode cX0_init 23 = .ok (.aload_n 0, 1) := by decide +kernel
theorem dX0_init_24 : decode cX0_init 24 = .ok (.iconst 5, 1) := by decide +kernel
theorem dX0_init_25 : decode cX0_init 25 = .ok (.newarray .int, 2) := by decide +kernel
theorem dX0_init_27 : decode cX0_init 27 = .ok (.putfield 22, 3) := by decide +kernel
theorem dX0_init_30 : decode cX0_init 30 = .ok (.aload_n 0, 1) := by decide +kernel
theorem dX0_init_31 : decode cX0_init 31 = .ok (.iconst (-1), 1) := by decide +kernel
theorem dX0_init_32 : decode cX0_init 32 = .ok (.putfield 25, 3) := by decide +kernel
theorem dX0_init_35 : decode cX0_init 35 = .ok (.aload_n 0, 1) := by decide +kernel
theorem dX0_init_36 : decode cX0_init 36 = .ok (.iconst (-1), 1) := by decide +kernel
theorem dX0_init_37 : decode cX0_init 37 = .ok (.putfield 29, 3) := by decide +kernel
theorem dX0_init_40 : decode cX0_init 40 = .ok (.aload_n 0, 1) := by decide +kernel
theorem dX0_init_41 : decode cX0_init 41 = .ok (.getfield 22, 3) := by decide +kernel
theorem dX0_init_44 : decode cX0_init 44 = .ok (.iconst (-1), 1) := by decide +kernel
theorem dX0_init_45 : decode cX0_init 45 = .ok (.invokestatic 32, 3) := by decide +kernel
theorem dX0_init_48 : decode cX0_init 48 = .ok (.return_, 1) := by decide +kernel
theorem dX0_phraseCount_0 : decode cX0_phraseCount 0 = .ok (.aload_n 0, 1) := by decide +kernel
theorem dX0_phraseCount_1 : decode cX0_phraseCount 1 = .ok (.getfield 38, 3) := by decide +kernel
theorem dX0_phraseCount_4 : decode cX0_phraseCount 4 = .ok (.iconst 4, 1) := by decide +kernel
theorem dX0_phraseCount_5 : decode cX0_phraseCount 5 = .ok (.idiv, 1) := by decide +kernel
theorem dX0_phraseCount_6 : decode cX0_phraseCount 6 = .ok (.ireturn, 1) := by decide +kernel
set_option maxRecDepth 20000 in
theorem ggX0_seatOf_Jx4a65c_size_8abf5 : GoodIn wsX0_seatOf wsJx4a65c_size_8abf5 := goodIn_r _ [8, 9, 36, 37, 38] (by decide +kernel) (by decide +kernel)
set_option maxRecDepth 20000 in
theorem gX0_seatOf_Jx4a65c_size_8abf5 : GoodIn wsX0_seatOf (wsV RX0 41 RJx4a65c yJx4a65c_size_8abf5 wsJx4a65c_size_8abf5) := goodIn_app (goodIn_of _ (by decide +kernel)) ggX0_seatOf_Jx4a65c_size_8abf5
set_option maxRecDepth 20000 in
theorem ggX0_seatOf_Jx4a65c_get_915e3 : GoodIn wsX0_seatOf wsJx4a65c_get_915e3 := goodIn_r _ [13, 9, 14, 15, 16, 17, 18, 19, 20, 21, 22, 23, 24, 7, 25, 26, 36, 37, 38] (by decide +kernel) (by decide +kernel)
set_option maxRecDepth 20000 in
theorem gX0_seatOf_Jx4a65c_get_915e3 : GoodIn wsX0_seatOf (wsV RX0 45 RJx4a65c yJx4a65c_get_915e3 wsJx4a65c_get_915e3) := goodIn_app (goodIn_of _ (by decide +kernel)) ggX0_seatOf_Jx4a65c_get_915e3
theorem dX0_seatOf_0 : decode cX0_seatOf 0 = .ok (.iconst 0, 1) := by decide +kernel
theorem dX0_seatOf_1 : decode cX0_seatOf 1 = .ok (.istore_n 2, 1) := by decide +kernel
theorem dX0_seatOf_2 : decode cX0_seatOf 2 = .ok (.iload_n 2, 1) := by decide +kernel
theorem dX0_seatOf_3 : decode cX0_seatOf 3 = .ok (.aload_n 0, 1) := by decide +kernel
theorem dX0_seatOf_4 : decode cX0_seatOf 4 = .ok (.getfield 12, 3) := by decide +kernel
theorem dX0_seatOf_7 : decode cX0_seatOf 7 = .ok (.invokevirtual 41, 3) := by decide +kernel
theorem dX0_seatOf_10 : decode cX0_seatOf 10 = .ok (.if_icmp .ge 29, 3) := by decide +kernel
theorem dX0_seatOf_13 : decode cX0_seatOf 13 = .ok (.aload_n 0, 1) := by decide +kernel
theorem dX0_seatOf_14 : decode cX0_seatOf 14 = .ok (.getfield 12, 3) := by decide +kernel
theorem dX0_seatOf_17 : decode cX0_seatOf 17 = .ok (.iload_n 2, 1) := by decide +kernel
theorem dX0_seatOf_18 : decode cX0_seatOf 18 = .ok (.invokevirtual 45, 3) := by decide +kernel
theorem dX0_seatOf_21 : decode cX0_seatOf 21 = .ok (.checkcast 49, 3) := by decide +kernel
theorem dX0_seatOf_24 : decode cX0_seatOf 24 = .ok (.getfield 51, 3) := by decide +kernel
theorem dX0_seatOf_27 : decode cX0_seatOf 27 = .ok (.aload_n 1, 1) := by decide +kernel
theorem dX0_seatOf_28 : decode cX0_seatOf 28 = .ok (.if_acmp .ne 5, 3) := by decide +kernel
theorem dX0_seatOf_31 : decode cX0_seatOf 31 = .ok (.iload_n 2, 1) := by decide +kernel
theorem dX0_seatOf_32 : decode cX0_seatOf 32 = .ok (.ireturn, 1) := by decide +kernel
theorem dX0_seatOf_33 : decode cX0_seatOf 33 = .ok (.iinc 2 1, 3) := by decide +kernel
theorem dX0_seatOf_36 : decode cX0_seatOf 36 = .ok (.goto (-34), 3) := by decide +kernel
theorem dX0_seatOf_39 : decode cX0_seatOf 39 = .ok (.iconst (-1), 1) := by decide +kernel
theorem dX0_seatOf_40 : decode cX0_seatOf 40 = .ok (.ireturn, 1) := by decide +kernel
set_option maxRecDepth 20000 in
theorem ggX0_spoilPhrase_Jx4a65c_size_8abf5 : GoodIn wsX0_spoilPhrase wsJx4a65c_size_8abf5 := goodIn_r _ [8, 9, 36, 37, 38] (by decide +kernel) (by decide +kernel)
set_option maxRecDepth 20000 in
theorem gX0_spoilPhrase_Jx4a65c_size_8abf5 : GoodIn wsX0_spoilPhrase (wsV RX0 41 RJx4a65c yJx4a65c_size_8abf5 wsJx4a65c_size_8abf5) := goodIn_app (goodIn_of _ (by decide +kernel)) ggX0_spoilPhrase_Jx4a65c_size_8abf5
set_option maxRecDepth 20000 in
theorem ggX0_spoilPhrase_Jx4a65c_get_915e3 : GoodIn wsX0_spoilPhrase wsJx4a65c_get_915e3 := goodIn_r _ [13, 9, 14, 15, 16, 17, 18, 19, 20, 21, 22, 23, 24, 7, 25, 26, 36, 37, 38] (by decide +kernel) (by decide +kernel)
set_option maxRecDepth 20000 in
theorem gX0_spoilPhrase_Jx4a65c_get_915e3 : GoodIn wsX0_spoilPhrase (wsV RX0 45 RJx4a65c yJx4a65c_get_915e3 wsJx4a65c_get_915e3) := goodIn_app (goodIn_of _ (by decide +kernel)) ggX0_spoilPhrase_Jx4a65c_get_915e3
theorem dX0_spoilPhrase_0 : decode cX0_spoilPhrase 0 = .ok (.iconst 0, 1) := by decide +kernel
theorem dX0_spoilPhrase_1 : decode cX0_spoilPhrase 1 = .ok (.istore_n 2, 1) := by decide +kernel
theorem dX0_spoilPhrase_2 : decode cX0_spoilPhrase 2 = .ok (.iload_n 2, 1) := by decide +kernel
theorem dX0_spoilPhrase_3 : decode cX0_spoilPhrase 3 = .ok (.aload_n 0, 1) := by decide +kernel
theorem dX0_spoilPhrase_4 : decode cX0_spoilPhrase 4 = .ok (.getfield 12, 3) := by decide +kernel
theorem dX0_spoilPhrase_7 : decode cX0_spoilPhrase 7 = .ok (.invokevirtual 41, 3) := by decide +kernel
theorem dX0_spoilPhrase_10 : decode cX0_spoilPhrase 10 = .ok (.if_icmp .ge 38, 3) := by decide +kernel
theorem dX0_spoilPhrase_13 : decode cX0_spoilPhrase 13 = .ok (.aload_n 0, 1) := by decide +kernel
theorem dX0_spoilPhrase_14 : decode cX0_spoilPhrase 14 = .ok (.getfield 12, 3) := by decide +kernel
theorem dX0_spoilPhrase_17 : decode cX0_spoilPhrase 17 = .ok (.iload_n 2, 1) := by decide +kernel
theorem dX0_spoilPhrase_18 : decode cX0_spoilPhrase 18 = .ok (.invokevirtual 45, 3) := by decide +kernel
theorem dX0_spoilPhrase_21 : decode cX0_spoilPhrase 21 = .ok (.checkcast 49, 3) := by decide +kernel
theorem dX0_spoilPhrase_24 : decode cX0_spoilPhrase 24 = .ok (.astore_n 3, 1) := by decide +kernel
theorem dX0_spoilPhrase_25 : decode cX0_spoilPhrase 25 = .ok (.aload_n 3, 1) := by decide +kernel
theorem dX0_spoilPhrase_26 : decode cX0_spoilPhrase 26 = .ok (.getfield 55, 3) := by decide +kernel
theorem dX0_spoilPhrase_29 : decode cX0_spoilPhrase 29 = .ok (.iload_n 1, 1) := by decide +kernel
theorem dX0_spoilPhrase_30 : decode cX0_spoilPhrase 30 = .ok (.iaload, 1) := by decide +kernel
theorem dX0_spoilPhrase_31 : decode cX0_spoilPhrase 31 = .ok (.iconst 1, 1) := by decide +kernel
theorem dX0_spoilPhrase_32 : decode cX0_spoilPhrase 32 = .ok (.if_icmp .ne 10, 3) := by decide +kernel
theorem dX0_spoilPhrase_35 : decode cX0_spoilPhrase 35 = .ok (.aload_n 3, 1) := by decide +kernel
theorem dX0_spoilPhrase_36 : decode cX0_spoilPhrase 36 = .ok (.getfield 55, 3) := by decide +kernel
theorem dX0_spoilPhrase_39 : decode cX0_spoilPhrase 39 = .ok (.iload_n 1, 1) := by decide +kernel
theorem dX0_spoilPhrase_40 : decode cX0_spoilPhrase 40 = .ok (.iconst 2, 1) := by decide +kernel
theorem dX0_spoilPhrase_41 : decode cX0_spoilPhrase 41 = .ok (.iastore, 1) := by decide +kernel
theorem dX0_spoilPhrase_42 : decode cX0_spoilPhrase 42 = .ok (.iinc 2 1, 3) := by decide +kernel
theorem dX0_spoilPhrase_45 : decode cX0_spoilPhrase 45 = .ok (.goto (-43), 3) := by decide +kernel
theorem dX0_spoilPhrase_48 : decode cX0_spoilPhrase 48 = .ok (.return_, 1) := by decide +kernel
set_option maxRecDepth 20000 in
theorem ggX0_learnPhrase_Jx4a65c_size_8abf5 : GoodIn wsX0_learnPhrase wsJx4a65c_size_8abf5 := goodIn_r _ [8, 9, 44, 45, 46] (by decide +kernel) (by decide +kernel)
set_option maxRecDepth 20000 in
theorem gX0_learnPhrase_Jx4a65c_size_8abf5 : GoodIn wsX0_learnPhrase (wsV RX0 41 RJx4a65c yJx4a65c_size_8abf5 wsJx4a65c_size_8abf5) := goodIn_app (goodIn_of _ (by decide +kernel)) ggX0_learnPhrase_Jx4a65c_size_8abf5
set_option maxRecDepth 20000 in
theorem ggX0_learnPhrase_Jx4a65c_get_915e3 : GoodIn wsX0_learnPhrase wsJx4a65c_get_915e3 := goodIn_r _ [13, 9, 14, 15, 16, 17, 18, 19, 20, 21, 22, 23, 24, 7, 25, 26, 44, 45, 46] (by decide +kernel) (by decide +kernel)
set_option maxRecDepth 20000 in
theorem gX0_learnPhrase_Jx4a65c_get_915e3 : GoodIn wsX0_learnPhrase (wsV RX0 45 RJx4a65c yJx4a65c_get_915e3 wsJx4a65c_get_915e3) := goodIn_app (goodIn_of _ (by decide +kernel)) ggX0_learnPhrase_Jx4a65c_get_915e3
set_option maxRecDepth 20000 in
theorem ggX0_learnPhrase_X5_learn : GoodIn wsX0_learnPhrase wsX5_learn := goodIn_r _ [31, 32, 33, 34, 42, 43, 47, 48, 49, 50, 51, 52] (by decide +kernel) (by decide +kernel)
set_option maxRecDepth 20000 in
theorem gX0_learnPhrase_X5_learn : GoodIn wsX0_learnPhrase (wsV RX0 58 RX5 yX5_learn wsX5_learn) := goodIn_app (goodIn_of _ (by decide +kernel)) ggX0_learnPhrase_X5_learn
theorem dX0_learnPhrase_0 : decode cX0_learnPhrase 0 = .ok (.iconst 0, 1) := by decide +kernel
theorem dX0_learnPhrase_1 : decode cX0_learnPhrase 1 = .ok (.istore_n 2, 1) := by decide +kernel
theorem dX0_learnPhrase_2 : decode cX0_learnPhrase 2 = .ok (.iconst 0, 1) := by decide +kernel
theorem dX0_learnPhrase_3 : decode cX0_learnPhrase 3 = .ok (.istore_n 3, 1) := by decide +kernel
theorem dX0_learnPhrase_4 : decode cX0_learnPhrase 4 = .ok (.iload_n 3, 1) := by decide +kernel
theorem dX0_learnPhrase_5 : decode cX0_learnPhrase 5 = .ok (.aload_n 0, 1) := by decide +kernel
theorem dX0_learnPhrase_6 : decode cX0_learnPhrase 6 = .ok (.getfield 12, 3) := by decide +kernel
theorem dX0_learnPhrase_9 : decode cX0_learnPhrase 9 = .ok (.invokevirtual 41, 3) := by decide +kernel
theorem dX0_learnPhrase_12 : decode cX0_learnPhrase 12 = .ok (.if_icmp .ge 87, 3) := by decide +kernel
theorem dX0_learnPhrase_15 : decode cX0_learnPhrase 15 = .ok (.aload_n 0, 1) := by decide +kernel
theorem dX0_learnPhrase_16 : decode cX0_learnPhrase 16 = .ok (.getfield 12, 3) := by decide +kernel
theorem dX0_learnPhrase_19 : decode cX0_learnPhrase 19 = .ok (.iload_n 3, 1) := by decide +kernel
theorem dX0_learnPhrase_20 : decode cX0_learnPhrase 20 = .ok (.invokevirtual 45, 3) := by decide +kernel
theorem dX0_learnPhrase_23 : decode cX0_learnPhrase 23 = .ok (.checkcast 49, 3) := by decide +kernel
theorem dX0_learnPhrase_26 : decode cX0_learnPhrase 26 = .ok (.astore 4, 2) := by decide +kernel
theorem dX0_learnPhrase_28 : decode cX0_learnPhrase 28 = .ok (.iload_n 3, 1) := by decide +kernel
theorem dX0_learnPhrase_29 : decode cX0_learnPhrase 29 = .ok (.iconst 1, 1) := by decide +kernel
theorem dX0_learnPhrase_30 : decode cX0_learnPhrase 30 = .ok (.iadd, 1) := by decide +kernel
theorem dX0_learnPhrase_31 : decode cX0_learnPhrase 31 = .ok (.aload_n 0, 1) := by decide +kernel
theorem dX0_learnPhrase_32 : decode cX0_learnPhrase 32 = .ok (.getfield 12, 3) := by decide +kernel
theorem dX0_learnPhrase_35 : decode cX0_learnPhrase 35 = .ok (.invokevirtual 41, 3) := by decide +kernel
theorem dX0_learnPhrase_38 : decode cX0_learnPhrase 38 = .ok (.if_icmp .ge 24, 3) := by decide +kernel
theorem dX0_learnPhrase_41 : decode cX0_learnPhrase 41 = .ok (.aload_n 0, 1) := by decide +kernel
theorem dX0_learnPhrase_42 : decode cX0_learnPhrase 42 = .ok (.getfield 12, 3) := by decide +kernel
theorem dX0_learnPhrase_45 : decode cX0_learnPhrase 45 = .ok (.iload_n 3, 1) := by decide +kernel
theorem dX0_learnPhrase_46 : decode cX0_learnPhrase 46 = .ok (.iconst 1, 1) := by decide +kernel
theorem dX0_learnPhrase_47 : decode cX0_learnPhrase 47 = .ok (.iadd, 1) := by decide +kernel
theorem dX0_learnPhrase_48 : decode cX0_learnPhrase 48 = .ok (.invokevirtual 45, 3) := by decide +kernel
theorem dX0_learnPhrase_51 : decode cX0_learnPhrase 51 = .ok (.checkcast 49, 3) := by decide +kernel
theorem dX0_learnPhrase_54 : decode cX0_learnPhrase 54 = .ok (.getfield 55, 3) := by decide +kernel
theorem dX0_learnPhrase_57 : decode cX0_learnPhrase 57 = .ok (.iload_n 1, 1) := by decide +kernel
theorem dX0_learnPhrase_58 : decode cX0_learnPhrase 58 = .ok (.iaload, 1) := by decide +kernel
theorem dX0_learnPhrase_59 : decode cX0_learnPhrase 59 = .ok (.goto 4, 3) := by decide +kernel
theorem dX0_learnPhrase_62 : decode cX0_learnPhrase 62 = .ok (.iconst 0, 1) := by decide +kernel
theorem dX0_learnPhrase_63 : decode cX0_learnPhrase 63 = .ok (.istore 5, 2) := by decide +kernel
theorem dX0_learnPhrase_65 : decode cX0_learnPhrase 65 = .ok (.aload 4, 2) := by decide +kernel
theorem dX0_learnPhrase_67 : decode cX0_learnPhrase 67 = .ok (.getfield 55, 3) := by decide +kernel
theorem dX0_learnPhrase_70 : decode cX0_learnPhrase 70 = .ok (.iload_n 1, 1) := by decide +kernel
theorem dX0_learnPhrase_71 : decode cX0_learnPhrase 71 = .ok (.iaload, 1) := by decide +kernel
theorem dX0_learnPhrase_72 : decode cX0_learnPhrase 72 = .ok (.istore 6, 2) := by decide +kernel
theorem dX0_learnPhrase_74 : decode cX0_learnPhrase 74 = .ok (.aload 4, 2) := by decide +kernel
theorem dX0_learnPhrase_76 : decode cX0_learnPhrase 76 = .ok (.getfield 55, 3) := by decide +kernel
theorem dX0_learnPhrase_79 : decode cX0_learnPhrase 79 = .ok (.iload_n 1, 1) := by decide +kernel
theorem dX0_learnPhrase_80 : decode cX0_learnPhrase 80 = .ok (.aload 4, 2) := by decide +kernel
theorem dX0_learnPhrase_82 : decode cX0_learnPhrase 82 = .ok (.iload_n 1, 1) := by decide +kernel
theorem dX0_learnPhrase_83 : decode cX0_learnPhrase 83 = .ok (.iload_n 2, 1) := by decide +kernel
theorem dX0_learnPhrase_84 : decode cX0_learnPhrase 84 = .ok (.iload 5, 2) := by decide +kernel
theorem dX0_learnPhrase_86 : decode cX0_learnPhrase 86 = .ok (.invokevirtual 58, 3) := by decide +kernel
theorem dX0_learnPhrase_89 : decode cX0_learnPhrase 89 = .ok (.iastore, 1) := by decide +kernel
theorem dX0_learnPhrase_90 : decode cX0_learnPhrase 90 = .ok (.iload 6, 2) := by decide +kernel
theorem dX0_learnPhrase_92 : decode cX0_learnPhrase 92 = .ok (.istore_n 2, 1) := by decide +kernel
theorem dX0_learnPhrase_93 : decode cX0_learnPhrase 93 = .ok (.iinc 3 1, 3) := by decide +kernel
theorem dX0_learnPhrase_96 : decode cX0_learnPhrase 96 = .ok (.goto (-92), 3) := by decide +kernel
theorem dX0_learnPhrase_99 : decode cX0_learnPhrase 99 = .ok (.return_, 1) := by decide +kernel
set_option maxRecDepth 20000 in
theorem ggX0_wearPans_Jx4a65c_size_8abf5 : GoodIn wsX0_wearPans wsJx4a65c_size_8abf5 := goodIn_r _ [9, 10, 49, 50, 51] (by decide +kernel) (by decide +kernel)
set_option maxRecDepth 20000 in
theorem gX0_wearPans_Jx4a65c_size_8abf5 : GoodIn wsX0_wearPans (wsV RX0 41 RJx4a65c yJx4a65c_size_8abf5 wsJx4a65c_size_8abf5) := goodIn_app (goodIn_of _ (by decide +kernel)) ggX0_wearPans_Jx4a65c_size_8abf5
set_option maxRecDepth 20000 in
theorem ggX0_wearPans_Jx4a65c_get_915e3 : GoodIn wsX0_wearPans wsJx4a65c_get_915e3 := goodIn_r _ [14, 10, 15, 16, 17, 18, 19, 20, 21, 22, 23, 24, 25, 8, 26, 27, 49, 50, 51] (by decide +kernel) (by decide +kernel)
set_option maxRecDepth 20000 in
theorem gX0_wearPans_Jx4a65c_get_915e3 : GoodIn wsX0_wearPans (wsV RX0 45 RJx4a65c yJx4a65c_get_915e3 wsJx4a65c_get_915e3) := goodIn_app (goodIn_of _ (by decide +kernel)) ggX0_wearPans_Jx4a65c_get_915e3
set_option maxRecDepth 20000 in
theorem ggX0_wearPans_X1_lowerTones : GoodIn wsX0_wearPans wsX1_lowerTones := goodIn_r _ [32, 33, 52, 53, 54, 55, 56] (by decide +kernel) (by decide +kernel)
set_option maxRecDepth 20000 in
theorem gX0_wearPans_X1_lowerTones : GoodIn wsX0_wearPans (wsV RX0 68 RX1 yX1_lowerTones wsX1_lowerTones) := goodIn_app (goodIn_of _ (by decide +kernel)) ggX0_wearPans_X1_lowerTones
theorem dX0_wearPans_0 : decode cX0_wearPans 0 = .ok (.iconst 0, 1) := by decide +kernel
theorem dX0_wearPans_1 : decode cX0_wearPans 1 = .ok (.istore_n 1, 1) := by decide +kernel
theorem dX0_wearPans_2 : decode cX0_wearPans 2 = .ok (.iload_n 1, 1) := by decide +kernel
theorem dX0_wearPans_3 : decode cX0_wearPans 3 = .ok (.aload_n 0, 1) := by decide +kernel
theorem dX0_wearPans_4 : decode cX0_wearPans 4 = .ok (.getfield 12, 3) := by decide +kernel
theorem dX0_wearPans_7 : decode cX0_wearPans 7 = .ok (.invokevirtual 41, 3) := by decide +kernel
theorem dX0_wearPans_10 : decode cX0_wearPans 10 = .ok (.if_icmp .ge 35, 3) := by decide +kernel
theorem dX0_wearPans_13 : decode cX0_wearPans 13 = .ok (.aload_n 0, 1) := by decide +kernel
theorem dX0_wearPans_14 : decode cX0_wearPans 14 = .ok (.getfield 12, 3) := by decide +kernel
theorem dX0_wearPans_17 : decode cX0_wearPans 17 = .ok (.iload_n 1, 1) := by decide +kernel
theorem dX0_wearPans_18 : decode cX0_wearPans 18 = .ok (.invokevirtual 45, 3) := by decide +kernel
theorem dX0_wearPans_21 : decode cX0_wearPans 21 = .ok (.checkcast 49, 3) := by decide +kernel
theorem dX0_wearPans_24 : decode cX0_wearPans 24 = .ok (.getfield 51, 3) := by decide +kernel
theorem dX0_wearPans_27 : decode cX0_wearPans 27 = .ok (.getfield 62, 3) := by decide +kernel
theorem dX0_wearPans_30 : decode cX0_wearPans 30 = .ok (.astore_n 2, 1) := by decide +kernel
theorem dX0_wearPans_31 : decode cX0_wearPans 31 = .ok (.aload_n 2, 1) := by decide +kernel
theorem dX0_wearPans_32 : decode cX0_wearPans 32 = .ok (.ifnull 7, 3) := by decide +kernel
theorem dX0_wearPans_35 : decode cX0_wearPans 35 = .ok (.aload_n 2, 1) := by decide +kernel
theorem dX0_wearPans_36 : decode cX0_wearPans 36 = .ok (.invokevirtual 68, 3) := by decide +kernel
theorem dX0_wearPans_39 : decode cX0_wearPans 39 = .ok (.iinc 1 1, 3) := by decide +kernel
theorem dX0_wearPans_42 : decode cX0_wearPans 42 = .ok (.goto (-40), 3) := by decide +kernel
theorem dX0_wearPans_45 : decode cX0_wearPans 45 = .ok (.return_, 1) := by decide +kernel
set_option maxRecDepth 20000 in
theorem ggX0_countRight_Jx4a65c_size_8abf5 : GoodIn wsX0_countRight wsJx4a65c_size_8abf5 := goodIn_r _ [8, 9, 36, 37, 38] (by decide +kernel) (by decide +kernel)
set_option maxRecDepth 20000 in
theorem gX0_countRight_Jx4a65c_size_8abf5 : GoodIn wsX0_countRight (wsV RX0 41 RJx4a65c yJx4a65c_size_8abf5 wsJx4a65c_size_8abf5) := goodIn_app (goodIn_of _ (by decide +kernel)) ggX0_countRight_Jx4a65c_size_8abf5
set_option maxRecDepth 20000 in
theorem ggX0_countRight_Jx4a65c_get_915e3 : GoodIn wsX0_countRight wsJx4a65c_get_915e3 := goodIn_r _ [13, 9, 14, 15, 16, 17, 18, 19, 20, 21, 22, 23, 24, 7, 25, 26, 36, 37, 38] (by decide +kernel) (by decide +kernel)
set_option maxRecDepth 20000 in
theorem gX0_countRight_Jx4a65c_get_915e3 : GoodIn wsX0_countRight (wsV RX0 45 RJx4a65c yJx4a65c_get_915e3 wsJx4a65c_get_915e3) := goodIn_app (goodIn_of _ (by decide +kernel)) ggX0_countRight_Jx4a65c_get_915e3
theorem dX0_countRight_0 : decode cX0_countRight 0 = .ok (.iconst 0, 1) := by decide +kernel
theorem dX0_countRight_1 : decode cX0_countRight 1 = .ok (.istore_n 2, 1) := by decide +kernel
theorem dX0_countRight_2 : decode cX0_countRight 2 = .ok (.iconst 0, 1) := by decide +kernel
theorem dX0_countRight_3 : decode cX0_countRight 3 = .ok (.istore_n 3, 1) := by decide +kernel
theorem dX0_countRight_4 : decode cX0_countRight 4 = .ok (.iload_n 3, 1) := by decide +kernel
theorem dX0_countRight_5 : decode cX0_countRight 5 = .ok (.aload_n 0, 1) := by decide +kernel
theorem dX0_countRight_6 : decode cX0_countRight 6 = .ok (.getfield 12, 3) := by decide +kernel
theorem dX0_countRight_9 : decode cX0_countRight 9 = .ok (.invokevirtual 41, 3) := by decide +kernel
theorem dX0_countRight_12 : decode cX0_countRight 12 = .ok (.if_icmp .ge 32, 3) := by decide +kernel
theorem dX0_countRight_15 : decode cX0_countRight 15 = .ok (.aload_n 0, 1) := by decide +kernel
theorem dX0_countRight_16 : decode cX0_countRight 16 = .ok (.getfield 12, 3) := by decide +kernel
theorem dX0_countRight_19 : decode cX0_countRight 19 = .ok (.iload_n 3, 1) := by decide +kernel
theorem dX0_countRight_20 : decode cX0_countRight 20 = .ok (.invokevirtual 45, 3) := by decide +kernel
theorem dX0_countRight_23 : decode cX0_countRight 23 = .ok (.checkcast 49, 3) := by decide +kernel
theorem dX0_countRight_26 : decode cX0_countRight 26 = .ok (.getfield 55, 3) := by decide +kernel
theorem dX0_countRight_29 : decode cX0_countRight 29 = .ok (.iload_n 1, 1) := by decide +kernel
theorem dX0_countRight_30 : decode cX0_countRight 30 = .ok (.iaload, 1) := by decide +kernel
theorem dX0_countRight_31 : decode cX0_countRight 31 = .ok (.iconst 1, 1) := by decide +kernel
theorem dX0_countRight_32 : decode cX0_countRight 32 = .ok (.if_icmp .ne 6, 3) := by decide +kernel
theorem dX0_countRight_35 : decode cX0_countRight 35 = .ok (.iinc 2 1, 3) := by decide +kernel
theorem dX0_countRight_38 : decode cX0_countRight 38 = .ok (.iinc 3 1, 3) := by decide +kernel
theorem dX0_countRight_41 : decode cX0_countRight 41 = .ok (.goto (-37), 3) := by decide +kernel
theorem dX0_countRight_44 : decode cX0_countRight 44 = .ok (.iload_n 2, 1) := by decide +kernel
theorem dX0_countRight_45 : decode cX0_countRight 45 = .ok (.ireturn, 1) := by decide +kernel
theorem dX0_countMarks_0 : decode cX0_countMarks 0 = .ok (.iconst 0, 1) := by decide +kernel
theorem dX0_countMarks_1 : decode cX0_countMarks 1 = .ok (.istore_n 1, 1) := by decide +kernel
theorem dX0_countMarks_2 : decode cX0_countMarks 2 = .ok (.iconst 0, 1) := by decide +kernel
theorem dX0_countMarks_3 : decode cX0_countMarks 3 = .ok (.istore_n 2, 1) := by decide +kernel
theorem dX0_countMarks_4 : decode cX0_countMarks 4 = .ok (.iload_n 2, 1) := by decide +kernel
theorem dX0_countMarks_5 : decode cX0_countMarks 5 = .ok (.iconst 5, 1) := by decide +kernel
theorem dX0_countMarks_6 : decode cX0_countMarks 6 = .ok (.if_icmp .ge 22, 3) := by decide +kernel
theorem dX0_countMarks_9 : decode cX0_countMarks 9 = .ok (.aload_n 0, 1) := by decide +kernel
theorem dX0_countMarks_10 : decode cX0_countMarks 10 = .ok (.getfield 22, 3) := by decide +kernel
theorem dX0_countMarks_13 : decode cX0_countMarks 13 = .ok (.iload_n 2, 1) := by decide +kernel
theorem dX0_countMarks_14 : decode cX0_countMarks 14 = .ok (.iaload, 1) := by decide +kernel
theorem dX0_countMarks_15 : decode cX0_countMarks 15 = .ok (.iconst (-1), 1) := by decide +kernel
theorem dX0_countMarks_16 : decode cX0_countMarks 16 = .ok (.if_icmp .eq 6, 3) := by decide +kernel
theorem dX0_countMarks_19 : decode cX0_countMarks 19 = .ok (.iinc 1 1, 3) := by decide +kernel
theorem dX0_countMarks_22 : decode cX0_countMarks 22 = .ok (.iinc 2 1, 3) := by decide +kernel
theorem dX0_countMarks_25 : decode cX0_countMarks 25 = .ok (.goto (-21), 3) := by decide +kernel
theorem dX0_countMarks_28 : decode cX0_countMarks 28 = .ok (.iload_n 1, 1) := by decide +kernel
theorem dX0_countMarks_29 : decode cX0_countMarks 29 = .ok (.ireturn, 1) := by decide +kernel
set_option maxRecDepth 20000 in
theorem ggX0_isRanked_X0_countMarks : GoodIn wsX0_isRanked wsX0_countMarks := goodIn_r _ [5, 6, 7, 8, 9, 10, 11, 12, 13] (by decide +kernel) (by decide +kernel)
set_option maxRecDepth 20000 in
theorem gX0_isRanked_X0_countMarks : GoodIn wsX0_isRanked (wsV RX0 73 RX0 yX0_countMarks wsX0_countMarks) := goodIn_app (goodIn_of _ (by decide +kernel)) ggX0_isRanked_X0_countMarks
theorem dX0_isRanked_0 : decode cX0_isRanked 0 = .ok (.aload_n 0, 1) := by decide +kernel
theorem dX0_isRanked_1 : decode cX0_isRanked 1 = .ok (.invokevirtual 73, 3) := by decide +kernel
theorem dX0_isRanked_4 : decode cX0_isRanked 4 = .ok (.iconst 5, 1) := by decide +kernel
theorem dX0_isRanked_5 : decode cX0_isRanked 5 = .ok (.if_icmp .ne 7, 3) := by decide +kernel
theorem dX0_isRanked_8 : decode cX0_isRanked 8 = .ok (.iconst 1, 1) := by decide +kernel
theorem dX0_isRanked_9 : decode cX0_isRanked 9 = .ok (.goto 4, 3) := by decide +kernel
theorem dX0_isRanked_12 : decode cX0_isRanked 12 = .ok (.iconst 0, 1) := by decide +kernel
theorem dX0_isRanked_13 : decode cX0_isRanked 13 = .ok (.ireturn, 1) := by decide +kernel
theorem dX0_countScore_0 : decode cX0_countScore 0 = .ok (.iconst 0, 1) := by decide +kernel
theorem dX0_countScore_1 : decode cX0_countScore 1 = .ok (.istore_n 1, 1) := by decide +kernel
theorem dX0_countScore_2 : decode cX0_countScore 2 = .ok (.bipush 100, 2) := by decide +kernel
theorem dX0_countScore_4 : decode cX0_countScore 4 = .ok (.istore_n 2, 1) := by decide +kernel
theorem dX0_countScore_5 : decode cX0_countScore 5 = .ok (.iconst 0, 1) := by decide +kernel
theorem dX0_countScore_6 : decode cX0_countScore 6 = .ok (.istore_n 3, 1) := by decide +kernel
theorem dX0_countScore_7 : decode cX0_countScore 7 = .ok (.iconst 0, 1) := by decide +kernel
theorem dX0_countScore_8 : decode cX0_countScore 8 = .ok (.istore 4, 2) := by decide +kernel
theorem dX0_countScore_10 : decode cX0_countScore 10 = .ok (.iload 4, 2) := by decide +kernel
theorem dX0_countScore_12 : decode cX0_countScore 12 = .ok (.iconst 5, 1) := by decide +kernel
theorem dX0_countScore_13 : decode cX0_countScore 13 = .ok (.if_icmp .ge 43, 3) := by decide +kernel
theorem dX0_countScore_16 : decode cX0_countScore 16 = .ok (.iload_n 1, 1) := by decide +kernel
theorem dX0_countScore_17 : decode cX0_countScore 17 = .ok (.aload_n 0, 1) := by decide +kernel
theorem dX0_countScore_18 : decode cX0_countScore 18 = .ok (.getfield 22, 3) := by decide +kernel
theorem dX0_countScore_21 : decode cX0_countScore 21 = .ok (.iload 4, 2) := by decide +kernel
theorem dX0_countScore_23 : decode cX0_countScore 23 = .ok (.iaload, 1) := by decide +kernel
theorem dX0_countScore_24 : decode cX0_countScore 24 = .ok (.iadd, 1) := by decide +kernel
theorem dX0_countScore_25 : decode cX0_countScore 25 = .ok (.istore_n 1, 1) := by decide +kernel
theorem dX0_countScore_26 : decode cX0_countScore 26 = .ok (.iload_n 2, 1) := by decide +kernel
theorem dX0_countScore_27 : decode cX0_countScore 27 = .ok (.aload_n 0, 1) := by decide +kernel
theorem dX0_countScore_28 : decode cX0_countScore 28 = .ok (.getfield 22, 3) := by decide +kernel
theorem dX0_countScore_31 : decode cX0_countScore 31 = .ok (.iload 4, 2) := by decide +kernel
theorem dX0_countScore_33 : decode cX0_countScore 33 = .ok (.iaload, 1) := by decide +kernel
theorem dX0_countScore_34 : decode cX0_countScore 34 = .ok (.invokestatic 76, 3) := by decide +kernel
theorem dX0_countScore_37 : decode cX0_countScore 37 = .ok (.istore_n 2, 1) := by decide +kernel
theorem dX0_countScore_38 : decode cX0_countScore 38 = .ok (.iload_n 3, 1) := by decide +kernel
theorem dX0_countScore_39 : decode cX0_countScore 39 = .ok (.aload_n 0, 1) := by decide +kernel
theorem dX0_countScore_40 : decode cX0_countScore 40 = .ok (.getfield 22, 3) := by decide +kernel
theorem dX0_countScore_43 : decode cX0_countScore 43 = .ok (.iload 4, 2) := by decide +kernel
theorem dX0_countScore_45 : decode cX0_countScore 45 = .ok (.iaload, 1) := by decide +kernel
theorem dX0_countScore_46 : decode cX0_countScore 46 = .ok (.invokestatic 82, 3) := by decide +kernel
theorem dX0_countScore_49 : decode cX0_countScore 49 = .ok (.istore_n 3, 1) := by decide +kernel
theorem dX0_countScore_50 : decode cX0_countScore 50 = .ok (.iinc 4 1, 3) := by decide +kernel
theorem dX0_countScore_53 : decode cX0_countScore 53 = .ok (.goto (-43), 3) := by decide +kernel
theorem dX0_countScore_56 : decode cX0_countScore 56 = .ok (.iload_n 1, 1) := by decide +kernel
theorem dX0_countScore_57 : decode cX0_countScore 57 = .ok (.iload_n 2, 1) := by decide +kernel
theorem dX0_countScore_58 : decode cX0_countScore 58 = .ok (.isub, 1) := by decide +kernel
theorem dX0_countScore_59 : decode cX0_countScore 59 = .ok (.iload_n 3, 1) := by decide +kernel
theorem dX0_countScore_60 : decode cX0_countScore 60 = .ok (.isub, 1) := by decide +kernel
theorem dX0_countScore_61 : decode cX0_countScore 61 = .ok (.aload_n 0, 1) := by decide +kernel
theorem dX0_countScore_62 : decode cX0_countScore 62 = .ok (.getfield 85, 3) := by decide +kernel
theorem dX0_countScore_65 : decode cX0_countScore 65 = .ok (.isub, 1) := by decide +kernel
theorem dX0_countScore_66 : decode cX0_countScore 66 = .ok (.ireturn, 1) := by decide +kernel
theorem dX1_init_0 : decode cX1_init 0 = .ok (.aload_n 0, 1) := by decide +kernel
theorem dX1_init_1 : decode cX1_init 1 = .ok (.invokespecial 3, 3) := by decide +kernel
theorem dX1_init_4 : decode cX1_init 4 = .ok (.aload_n 0, 1) := by decide +kernel
theorem dX1_init_5 : decode cX1_init 5 = .ok (.iconst 4, 1) := by decide +kernel
theorem dX1_init_6 : decode cX1_init 6 = .ok (.newarray .int, 2) := by decide +kernel
theorem dX1_init_8 : decode cX1_init 8 = .ok (.putfield 9, 3) := by decide +kernel
theorem dX1_init_11 : decode cX1_init 11 = .ok (.aload_n 0, 1) := by decide +kernel
theorem dX1_init_12 : decode cX1_init 12 = .ok (.iconst 4, 1) := by decide +kernel
theorem dX1_init_13 : decode cX1_init 13 = .ok (.newarray .int, 2) := by decide +kernel
theorem dX1_init_15 : decode cX1_init 15 = .ok (.putfield 15, 3) := by decide +kernel
theorem dX1_init_18 : decode cX1_init 18 = .ok (.aload_n 0, 1) := by decide +kernel
theorem dX1_init_19 : decode cX1_init 19 = .ok (.iconst 4, 1) := by decide +kernel
theorem dX1_init_20 : decode cX1_init 20 = .ok (.newarray .boolean, 2) := by decide +kernel
theorem dX1_init_22 : decode cX1_init 22 = .ok (.putfield 18, 3) := by decide +kernel
theorem dX1_init_25 : decode cX1_init 25 = .ok (.aload_n 0, 1) := by decide +kernel
theorem dX1_init_26 : decode cX1_init 26 = .ok (.iload_n 1, 1) := by decide +kernel
theorem dX1_init_27 : decode cX1_init 27 = .ok (.putfield 22, 3) := by decide +kernel
theorem dX1_init_30 : decode cX1_init 30 = .ok (.return_, 1) := by decide +kernel
theorem dX1_isCracked_0 : decode cX1_isCracked 0 = .ok (.aload_n 0, 1) := by decide +kernel
theorem dX1_isCracked_1 : decode cX1_isCracked 1 = .ok (.getfield 15, 3) := by decide +kernel
theorem dX1_isCracked_4 : decode cX1_isCracked 4 = .ok (.iload_n 1, 1) := by decide +kernel
theorem dX1_isCracked_5 : decode cX1_isCracked 5 = .ok (.iaload, 1) := by decide +kernel
theorem dX1_isCracked_6 : decode cX1_isCracked 6 = .ok (.bipush 6, 2) := by decide +kernel
theorem dX1_isCracked_8 : decode cX1_isCracked 8 = .ok (.if_icmp .le 7, 3) := by decide +kernel
theorem dX1_isCracked_11 : decode cX1_isCracked 11 = .ok (.iconst 1, 1) := by decide +kernel
theorem dX1_isCracked_12 : decode cX1_isCracked 12 = .ok (.goto 4, 3) := by decide +kernel
theorem dX1_isCracked_15 : decode cX1_isCracked 15 = .ok (.iconst 0, 1) := by decide +kernel
theorem dX1_isCracked_16 : decode cX1_isCracked 16 = .ok (.ireturn, 1) := by decide +kernel
set_option maxRecDepth 20000 in
theorem ggX1_bears_X1_isCracked : GoodIn wsX1_bears wsX1_isCracked := goodIn_r _ [6, 7, 8, 9, 10, 11, 12] (by decide +kernel) (by decide +kernel)
set_option maxRecDepth 20000 in
theorem gX1_bears_X1_isCracked : GoodIn wsX1_bears (wsV RX1 26 RX1 yX1_isCracked wsX1_isCracked) := goodIn_app (goodIn_of _ (by decide +kernel)) ggX1_bears_X1_isCracked
theorem dX1_bears_0 : decode cX1_bears 0 = .ok (.aload_n 0, 1) := by decide +kernel
theorem dX1_bears_1 : decode cX1_bears 1 = .ok (.iload_n 1, 1) := by decide +kernel
theorem dX1_bears_2 : decode cX1_bears 2 = .ok (.invokevirtual 26, 3) := by decide +kernel
theorem dX1_bears_5 : decode cX1_bears 5 = .ok (.ifCond .ne 20, 3) := by decide +kernel
theorem dX1_bears_8 : decode cX1_bears 8 = .ok (.iload_n 2, 1) := by decide +kernel
theorem dX1_bears_9 : decode cX1_bears 9 = .ok (.ifCond .ne 12, 3) := by decide +kernel
theorem dX1_bears_12 : decode cX1_bears 12 = .ok (.aload_n 0, 1) := by decide +kernel
theorem dX1_bears_13 : decode cX1_bears 13 = .ok (.getfield 18, 3) := by decide +kernel
theorem dX1_bears_16 : decode cX1_bears 16 = .ok (.iload_n 1, 1) := by decide +kernel
theorem dX1_bears_17 : decode cX1_bears 17 = .ok (.baload, 1) := by decide +kernel
theorem dX1_bears_18 : decode cX1_bears 18 = .ok (.ifCond .ne 7, 3) := by decide +kernel
theorem dX1_bears_21 : decode cX1_bears 21 = .ok (.iconst 1, 1) := by decide +kernel
theorem dX1_bears_22 : decode cX1_bears 22 = .ok (.goto 4, 3) := by decide +kernel
theorem dX1_bears_25 : decode cX1_bears 25 = .ok (.iconst 0, 1) := by decide +kernel
theorem dX1_bears_26 : decode cX1_bears 26 = .ok (.ireturn, 1) := by decide +kernel
theorem dX1_beat_0 : decode cX1_beat 0 = .ok (.iload_n 3, 1) := by decide +kernel
theorem dX1_beat_1 : decode cX1_beat 1 = .ok (.ifCond .eq 7, 3) := by decide +kernel
theorem dX1_beat_4 : decode cX1_beat 4 = .ok (.iload_n 2, 1) := by decide +kernel
theorem dX1_beat_5 : decode cX1_beat 5 = .ok (.goto 5, 3) := by decide +kernel
theorem dX1_beat_8 : decode cX1_beat 8 = .ok (.iload_n 2, 1) := by decide +kernel
theorem dX1_beat_9 : decode cX1_beat 9 = .ok (.ineg, 1) := by decide +kernel
theorem dX1_beat_10 : decode cX1_beat 10 = .ok (.istore 4, 2) := by decide +kernel
theorem dX1_beat_12 : decode cX1_beat 12 = .ok (.aload_n 0, 1) := by decide +kernel
theorem dX1_beat_13 : decode cX1_beat 13 = .ok (.getfield 9, 3) := by decide +kernel
theorem dX1_beat_16 : decode cX1_beat 16 = .ok (.iload_n 1, 1) := by decide +kernel
theorem dX1_beat_17 : decode cX1_beat 17 = .ok (.dup2, 1) := by decide +kernel
theorem dX1_beat_18 : decode cX1_beat 18 = .ok (.iaload, 1) := by decide +kernel
theorem dX1_beat_19 : decode cX1_beat 19 = .ok (.iload_n 3, 1) := by decide +kernel
theorem dX1_beat_20 : decode cX1_beat 20 = .ok (.ifCond .eq 10, 3) := by decide +kernel
theorem dX1_beat_23 : decode cX1_beat 23 = .ok (.bipush (-6), 2) := by decide +kernel
theorem dX1_beat_25 : decode cX1_beat 25 = .ok (.iload_n 2, 1) := by decide +kernel
theorem dX1_beat_26 : decode cX1_beat 26 = .ok (.imul, 1) := by decide +kernel
theorem dX1_beat_27 : decode cX1_beat 27 = .ok (.goto 6, 3) := by decide +kernel
theorem dX1_beat_30 : decode cX1_beat 30 = .ok (.iconst 4, 1) := by decide +kernel
theorem dX1_beat_31 : decode cX1_beat 31 = .ok (.iload_n 2, 1) := by decide +kernel
theorem dX1_beat_32 : decode cX1_beat 32 = .ok (.imul, 1) := by decide +kernel
theorem dX1_beat_33 : decode cX1_beat 33 = .ok (.iadd, 1) := by decide +kernel
theorem dX1_beat_34 : decode cX1_beat 34 = .ok (.iastore, 1) := by decide +kernel
theorem dX1_beat_35 : decode cX1_beat 35 = .ok (.aload_n 0, 1) := by decide +kernel
theorem dX1_beat_36 : decode cX1_beat 36 = .ok (.getfield 9, 3) := by decide +kernel
theorem dX1_beat_39 : decode cX1_beat 39 = .ok (.iload_n 1, 1) := by decide +kernel
theorem dX1_beat_40 : decode cX1_beat 40 = .ok (.iconst 1, 1) := by decide +kernel
theorem dX1_beat_41 : decode cX1_beat 41 = .ok (.iadd, 1) := by decide +kernel
theorem dX1_beat_42 : decode cX1_beat 42 = .ok (.iconst 4, 1) := by decide +kernel
theorem dX1_beat_43 : decode cX1_beat 43 = .ok (.irem, 1) := by decide +kernel
theorem dX1_beat_44 : decode cX1_beat 44 = .ok (.dup2, 1) := by decide +kernel
theorem dX1_beat_45 : decode cX1_beat 45 = .ok (.iaload, 1) := by decide +kernel
theorem dX1_beat_46 : decode cX1_beat 46 = .ok (.iload 4, 2) := by decide +kernel
theorem dX1_beat_48 : decode cX1_beat 48 = .ok (.iadd, 1) := by decide +kernel
theorem dX1_beat_49 : decode cX1_beat 49 = .ok (.iastore, 1) := by decide +kernel
theorem dX1_beat_50 : decode cX1_beat 50 = .ok (.aload_n 0, 1) := by decide +kernel
theorem dX1_beat_51 : decode cX1_beat 51 = .ok (.getfield 9, 3) := by decide +kernel
theorem dX1_beat_54 : decode cX1_beat 54 = .ok (.iload_n 1, 1) := by decide +kernel
theorem dX1_beat_55 : decode cX1_beat 55 = .ok (.iconst 4, 1) := by decide +kernel
theorem dX1_beat_56 : decode cX1_beat 56 = .ok (.iadd, 1) := by decide +kernel
theorem dX1_beat_57 : decode cX1_beat 57 = .ok (.iconst 1, 1) := by decide +kernel
theorem dX1_beat_58 : decode cX1_beat 58 = .ok (.isub, 1) := by decide +kernel
theorem dX1_beat_59 : decode cX1_beat 59 = .ok (.iconst 4, 1) := by decide +kernel
theorem dX1_beat_60 : decode cX1_beat 60 = .ok (.irem, 1) := by decide +kernel
theorem dX1_beat_61 : decode cX1_beat 61 = .ok (.dup2, 1) := by decide +kernel
theorem dX1_beat_62 : decode cX1_beat 62 = .ok (.iaload, 1) := by decide +kernel
theorem dX1_beat_63 : decode cX1_beat 63 = .ok (.iload 4, 2) := by decide +kernel
theorem dX1_beat_65 : decode cX1_beat 65 = .ok (.iadd, 1) := by decide +kernel
theorem dX1_beat_66 : decode cX1_beat 66 = .ok (.iastore, 1) := by decide +kernel
theorem dX1_beat_67 : decode cX1_beat 67 = .ok (.aload_n 0, 1) := by decide +kernel
theorem dX1_beat_68 : decode cX1_beat 68 = .ok (.getfield 15, 3) := by decide +kernel
theorem dX1_beat_71 : decode cX1_beat 71 = .ok (.iload_n 1, 1) := by decide +kernel
theorem dX1_beat_72 : decode cX1_beat 72 = .ok (.dup2, 1) := by decide +kernel
theorem dX1_beat_73 : decode cX1_beat 73 = .ok (.iaload, 1) := by decide +kernel
theorem dX1_beat_74 : decode cX1_beat 74 = .ok (.iconst 1, 1) := by decide +kernel
theorem dX1_beat_75 : decode cX1_beat 75 = .ok (.iadd, 1) := by decide +kernel
theorem dX1_beat_76 : decode cX1_beat 76 = .ok (.iastore, 1) := by decide +kernel
theorem dX1_beat_77 : decode cX1_beat 77 = .ok (.aload_n 0, 1) := by decide +kernel
theorem dX1_beat_78 : decode cX1_beat 78 = .ok (.getfield 18, 3) := by decide +kernel
theorem dX1_beat_81 : decode cX1_beat 81 = .ok (.iload_n 1, 1) := by decide +kernel
theorem dX1_beat_82 : decode cX1_beat 82 = .ok (.dup2, 1) := by decide +kernel
theorem dX1_beat_83 : decode cX1_beat 83 = .ok (.baload, 1) := by decide +kernel
theorem dX1_beat_84 : decode cX1_beat 84 = .ok (.iload_n 3, 1) := by decide +kernel
theorem dX1_beat_85 : decode cX1_beat 85 = .ok (.ior, 1) := by decide +kernel
theorem dX1_beat_86 : decode cX1_beat 86 = .ok (.bastore, 1) := by decide +kernel
theorem dX1_beat_87 : decode cX1_beat 87 = .ok (.return_, 1) := by decide +kernel
theorem dX1_lowerTones_0 : decode cX1_lowerTones 0 = .ok (.iconst 0, 1) := by decide +kernel
theorem dX1_lowerTones_1 : decode cX1_lowerTones 1 = .ok (.istore_n 1, 1) := by decide +kernel
theorem dX1_lowerTones_2 : decode cX1_lowerTones 2 = .ok (.iload_n 1, 1) := by decide +kernel
theorem dX1_lowerTones_3 : decode cX1_lowerTones 3 = .ok (.iconst 4, 1) := by decide +kernel
theorem dX1_lowerTones_4 : decode cX1_lowerTones 4 = .ok (.if_icmp .ge 19, 3) := by decide +kernel
theorem dX1_lowerTones_7 : decode cX1_lowerTones 7 = .ok (.aload_n 0, 1) := by decide +kernel
theorem dX1_lowerTones_8 : decode cX1_lowerTones 8 = .ok (.getfield 9, 3) := by decide +kernel
theorem dX1_lowerTones_11 : decode cX1_lowerTones 11 = .ok (.iload_n 1, 1) := by decide +kernel
theorem dX1_lowerTones_12 : decode cX1_lowerTones 12 = .ok (.dup2, 1) := by decide +kernel
theorem dX1_lowerTones_13 : decode cX1_lowerTones 13 = .ok (.iaload, 1) := by decide +kernel
theorem dX1_lowerTones_14 : decode cX1_lowerTones 14 = .ok (.iconst 1, 1) := by decide +kernel
theorem dX1_lowerTones_15 : decode cX1_lowerTones 15 = .ok (.isub, 1) := by decide +kernel
theorem dX1_lowerTones_16 : decode cX1_lowerTones 16 = .ok (.iastore, 1) := by decide +kernel
theorem dX1_lowerTones_17 : decode cX1_lowerTones 17 = .ok (.iinc 1 1, 3) := by decide +kernel
theorem dX1_lowerTones_20 : decode cX1_lowerTones 20 = .ok (.goto (-18), 3) := by decide +kernel
theorem dX1_lowerTones_23 : decode cX1_lowerTones 23 = .ok (.return_, 1) := by decide +kernel
theorem dX1_copyFrom_0 : decode cX1_copyFrom 0 = .ok (.iconst 0, 1) := by decide +kernel
theorem dX1_copyFrom_1 : decode cX1_copyFrom 1 = .ok (.istore_n 2, 1) := by decide +kernel
theorem dX1_copyFrom_2 : decode cX1_copyFrom 2 = .ok (.iload_n 2, 1) := by decide +kernel
theorem dX1_copyFrom_3 : decode cX1_copyFrom 3 = .ok (.iconst 4, 1) := by decide +kernel
theorem dX1_copyFrom_4 : decode cX1_copyFrom 4 = .ok (.if_icmp .ge 45, 3) := by decide +kernel
theorem dX1_copyFrom_7 : decode cX1_copyFrom 7 = .ok (.aload_n 0, 1) := by decide +kernel
theorem dX1_copyFrom_8 : decode cX1_copyFrom 8 = .ok (.getfield 9, 3) := by decide +kernel
theorem dX1_copyFrom_11 : decode cX1_copyFrom 11 = .ok (.iload_n 2, 1) := by decide +kernel
theorem dX1_copyFrom_12 : decode cX1_copyFrom 12 = .ok (.aload_n 1, 1) := by decide +kernel
theorem dX1_copyFrom_13 : decode cX1_copyFrom 13 = .ok (.getfield 9, 3) := by decide +kernel
theorem dX1_copyFrom_16 : decode cX1_copyFrom 16 = .ok (.iload_n 2, 1) := by decide +kernel
theorem dX1_copyFrom_17 : decode cX1_copyFrom 17 = .ok (.iaload, 1) := by decide +kernel
theorem dX1_copyFrom_18 : decode cX1_copyFrom 18 = .ok (.iastore, 1) := by decide +kernel
theorem dX1_copyFrom_19 : decode cX1_copyFrom 19 = .ok (.aload_n 0, 1) := by decide +kernel
theorem dX1_copyFrom_20 : decode cX1_copyFrom 20 = .ok (.getfield 15, 3) := by decide +kernel
theorem dX1_copyFrom_23 : decode cX1_copyFrom 23 = .ok (.iload_n 2, 1) := by decide +kernel
theorem dX1_copyFrom_24 : decode cX1_copyFrom 24 = .ok (.aload_n 1, 1) := by decide +kernel
theorem dX1_copyFrom_25 : decode cX1_copyFrom 25 = .ok (.getfield 15, 3) := by decide +kernel
theorem dX1_copyFrom_28 : decode cX1_copyFrom 28 = .ok (.iload_n 2, 1) := by decide +kernel
theorem dX1_copyFrom_29 : decode cX1_copyFrom 29 = .ok (.iaload, 1) := by decide +kernel
theorem dX1_copyFrom_30 : decode cX1_copyFrom 30 = .ok (.iastore, 1) := by decide +kernel
theorem dX1_copyFrom_31 : decode cX1_copyFrom 31 = .ok (.aload_n 0, 1) := by decide +kernel
theorem dX1_copyFrom_32 : decode cX1_copyFrom 32 = .ok (.getfield 18, 3) := by decide +kernel
theorem dX1_copyFrom_35 : decode cX1_copyFrom 35 = .ok (.iload_n 2, 1) := by decide +kernel
theorem dX1_copyFrom_36 : decode cX1_copyFrom 36 = .ok (.aload_n 1, 1) := by decide +kernel
theorem dX1_copyFrom_37 : decode cX1_copyFrom 37 = .ok (.getfield 18, 3) := by decide +kernel
theorem dX1_copyFrom_40 : decode cX1_copyFrom 40 = .ok (.iload_n 2, 1) := by decide +kernel
theorem dX1_copyFrom_41 : decode cX1_copyFrom 41 = .ok (.baload, 1) := by decide +kernel
theorem dX1_copyFrom_42 : decode cX1_copyFrom 42 = .ok (.bastore, 1) := by decide +kernel
theorem dX1_copyFrom_43 : decode cX1_copyFrom 43 = .ok (.iinc 2 1, 3) := by decide +kernel
theorem dX1_copyFrom_46 : decode cX1_copyFrom 46 = .ok (.goto (-44), 3) := by decide +kernel
theorem dX1_copyFrom_49 : decode cX1_copyFrom 49 = .ok (.return_, 1) := by decide +kernel
set_option maxRecDepth 20000 in
theorem ggX1_isTunable_X1_isCracked : GoodIn wsX1_isTunable wsX1_isCracked := goodIn_r _ [10, 11, 12, 13, 14, 15, 16] (by decide +kernel) (by decide +kernel)
set_option maxRecDepth 20000 in
theorem gX1_isTunable_X1_isCracked : GoodIn wsX1_isTunable (wsV RX1 26 RX1 yX1_isCracked wsX1_isCracked) := goodIn_app (goodIn_of _ (by decide +kernel)) ggX1_isTunable_X1_isCracked
theorem dX1_isTunable_0 : decode cX1_isTunable 0 = .ok (.iconst 0, 1) := by decide +kernel
theorem dX1_isTunable_1 : decode cX1_isTunable 1 = .ok (.istore_n 3, 1) := by decide +kernel
theorem dX1_isTunable_2 : decode cX1_isTunable 2 = .ok (.iconst 0, 1) := by decide +kernel
theorem dX1_isTunable_3 : decode cX1_isTunable 3 = .ok (.istore 4, 2) := by decide +kernel
theorem dX1_isTunable_5 : decode cX1_isTunable 5 = .ok (.iload 4, 2) := by decide +kernel
theorem dX1_isTunable_7 : decode cX1_isTunable 7 = .ok (.iconst 4, 1) := by decide +kernel
theorem dX1_isTunable_8 : decode cX1_isTunable 8 = .ok (.if_icmp .ge 56, 3) := by decide +kernel
theorem dX1_isTunable_11 : decode cX1_isTunable 11 = .ok (.aload_n 0, 1) := by decide +kernel
theorem dX1_isTunable_12 : decode cX1_isTunable 12 = .ok (.getfield 9, 3) := by decide +kernel
theorem dX1_isTunable_15 : decode cX1_isTunable 15 = .ok (.iload 4, 2) := by decide +kernel
theorem dX1_isTunable_17 : decode cX1_isTunable 17 = .ok (.iaload, 1) := by decide +kernel
theorem dX1_isTunable_18 : decode cX1_isTunable 18 = .ok (.iload_n 1, 1) := by decide +kernel
theorem dX1_isTunable_19 : decode cX1_isTunable 19 = .ok (.isub, 1) := by decide +kernel
theorem dX1_isTunable_20 : decode cX1_isTunable 20 = .ok (.invokestatic 30, 3) := by decide +kernel
theorem dX1_isTunable_23 : decode cX1_isTunable 23 = .ok (.iconst 5, 1) := by decide +kernel
theorem dX1_isTunable_24 : decode cX1_isTunable 24 = .ok (.isub, 1) := by decide +kernel
theorem dX1_isTunable_25 : decode cX1_isTunable 25 = .ok (.istore 5, 2) := by decide +kernel
theorem dX1_isTunable_27 : decode cX1_isTunable 27 = .ok (.aload_n 0, 1) := by decide +kernel
theorem dX1_isTunable_28 : decode cX1_isTunable 28 = .ok (.iload 4, 2) := by decide +kernel
theorem dX1_isTunable_30 : decode cX1_isTunable 30 = .ok (.invokevirtual 26, 3) := by decide +kernel
theorem dX1_isTunable_33 : decode cX1_isTunable 33 = .ok (.ifCond .ne 12, 3) := by decide +kernel
theorem dX1_isTunable_36 : decode cX1_isTunable 36 = .ok (.iload 5, 2) := by decide +kernel
theorem dX1_isTunable_38 : decode cX1_isTunable 38 = .ok (.bipush 24, 2) := by decide +kernel
theorem dX1_isTunable_40 : decode cX1_isTunable 40 = .ok (.iload_n 2, 1) := by decide +kernel
theorem dX1_isTunable_41 : decode cX1_isTunable 41 = .ok (.imul, 1) := by decide +kernel
theorem dX1_isTunable_42 : decode cX1_isTunable 42 = .ok (.if_icmp .le 5, 3) := by decide +kernel
theorem dX1_isTunable_45 : decode cX1_isTunable 45 = .ok (.iconst 0, 1) := by decide +kernel
theorem dX1_isTunable_46 : decode cX1_isTunable 46 = .ok (.ireturn, 1) := by decide +kernel
theorem dX1_isTunable_47 : decode cX1_isTunable 47 = .ok (.iload 5, 2) := by decide +kernel
theorem dX1_isTunable_49 : decode cX1_isTunable 49 = .ok (.iconst 4, 1) := by decide +kernel
theorem dX1_isTunable_50 : decode cX1_isTunable 50 = .ok (.iload_n 2, 1) := by decide +kernel
theorem dX1_isTunable_51 : decode cX1_isTunable 51 = .ok (.imul, 1) := by decide +kernel
theorem dX1_isTunable_52 : decode cX1_isTunable 52 = .ok (.if_icmp .le 6, 3) := by decide +kernel
theorem dX1_isTunable_55 : decode cX1_isTunable 55 = .ok (.iinc 3 1, 3) := by decide +kernel
theorem dX1_isTunable_58 : decode cX1_isTunable 58 = .ok (.iinc 4 1, 3) := by decide +kernel
theorem dX1_isTunable_61 : decode cX1_isTunable 61 = .ok (.goto (-56), 3) := by decide +kernel
theorem dX1_isTunable_64 : decode cX1_isTunable 64 = .ok (.iload_n 3, 1) := by decide +kernel
theorem dX1_isTunable_65 : decode cX1_isTunable 65 = .ok (.iload_n 2, 1) := by decide +kernel
theorem dX1_isTunable_66 : decode cX1_isTunable 66 = .ok (.if_icmp .gt 7, 3) := by decide +kernel
theorem dX1_isTunable_69 : decode cX1_isTunable 69 = .ok (.iconst 1, 1) := by decide +kernel
theorem dX1_isTunable_70 : decode cX1_isTunable 70 = .ok (.goto 4, 3) := by decide +kernel
theorem dX1_isTunable_73 : decode cX1_isTunable 73 = .ok (.iconst 0, 1) := by decide +kernel
theorem dX1_isTunable_74 : decode cX1_isTunable 74 = .ok (.ireturn, 1) := by decide +kernel
theorem dX2_init_0 : decode cX2_init 0 = .ok (.aload_n 0, 1) := by decide +kernel
theorem dX2_init_1 : decode cX2_init 1 = .ok (.invokespecial 3, 3) := by decide +kernel
theorem dX2_init_4 : decode cX2_init 4 = .ok (.aload_n 0, 1) := by decide +kernel
theorem dX2_init_5 : decode cX2_init 5 = .ok (.bipush 6, 2) := by decide +kernel
theorem dX2_init_7 : decode cX2_init 7 = .ok (.newarray .int, 2) := by decide +kernel
theorem dX2_init_9 : decode cX2_init 9 = .ok (.putfield 9, 3) := by decide +kernel
theorem dX2_init_12 : decode cX2_init 12 = .ok (.aload_n 0, 1) := by decide +kernel
theorem dX2_init_13 : decode cX2_init 13 = .ok (.bipush 6, 2) := by decide +kernel
theorem dX2_init_15 : decode cX2_init 15 = .ok (.bipush 8, 2) := by decide +kernel
theorem dX2_init_17 : decode cX2_init 17 = .ok (.multianewarray 15 2, 4) := by decide +kernel
theorem dX2_init_21 : decode cX2_init 21 = .ok (.putfield 17, 3) := by decide +kernel
theorem dX2_init_24 : decode cX2_init 24 = .ok (.return_, 1) := by decide +kernel
set_option maxRecDepth 20000 in
theorem ggX2_findBest_X0_phraseCount : GoodIn wsX2_findBest wsX0_phraseCount := goodIn_r _ [7, 8, 68, 69, 70, 71, 72, 73, 74] (by decide +kernel) (by decide +kernel)
set_option maxRecDepth 20000 in
theorem gX2_findBest_X0_phraseCount : GoodIn wsX2_findBest (wsV RX2 20 RX0 yX0_phraseCount wsX0_phraseCount) := goodIn_app (goodIn_of _ (by decide +kernel)) ggX2_findBest_X0_phraseCount
set_option maxRecDepth 20000 in
theorem ggX2_findBest_X2_countFewest : GoodIn wsX2_findBest wsX2_countFewest := goodIn_r _ [13, 14, 15, 2, 16, 17, 18, 19, 20, 21, 22, 23, 24, 25, 26, 27, 28, 29, 30, 31, 32, 33, 34, 35, 36, 37, 38, 39, 40, 41, 42, 43, 44, 12, 45, 3, 4, 5, 6, 7, 8, 46, 47, 48, 49, 50, 51, 52, 53, 54, 55, 56, 57, 58, 59, 60, 61, 62, 63, 64, 65, 68, 69, 70, 71, 72, 73, 74, 66, 67, 75, 76, 77, 78, 79, 80, 81, 82, 83, 84, 85] (by decide +kernel) (by decide +kernel)
set_option maxRecDepth 20000 in
theorem gX2_findBest_X2_countFewest : GoodIn wsX2_findBest (wsV RX2 26 RX2 yX2_countFewest wsX2_countFewest) := goodIn_app (goodIn_of _ (by decide +kernel)) ggX2_findBest_X2_countFewest
set_option maxRecDepth 20000 in
theorem ggX2_findBest_X2_bestSeat : GoodIn wsX2_findBest wsX2_bestSeat := goodIn_r _ [45, 14, 15, 17, 18, 2, 3, 4, 5, 6, 7, 8, 19, 20, 21, 22, 23, 24, 25, 26, 27, 28, 29, 30, 31, 32, 33, 34, 35, 36, 37, 38, 39, 40, 41, 46, 47, 12, 48, 49, 50, 51, 52, 53, 54, 55, 56, 57, 58, 59, 60, 61, 62, 68, 69, 70, 71, 72, 73, 74, 75, 76, 77, 78, 79, 80, 81, 82, 66, 67, 83, 84, 85] (by decide +kernel) (by decide +kernel)
set_option maxRecDepth 20000 in
theorem gX2_findBest_X2_bestSeat : GoodIn wsX2_findBest (wsV RX2 30 RX2 yX2_bestSeat wsX2_bestSeat) := goodIn_app (goodIn_of _ (by decide +kernel)) ggX2_findBest_X2_bestSeat
theorem dX2_findBest_0 : decode cX2_findBest 0 = .ok (.aload_n 1, 1) := by decide +kernel
theorem dX2_findBest_1 : decode cX2_findBest 1 = .ok (.invokevirtual 20, 3) := by decide +kernel
theorem dX2_findBest_4 : decode cX2_findBest 4 = .ok (.istore_n 3, 1) := by decide +kernel
theorem dX2_findBest_5 : decode cX2_findBest 5 = .ok (.iload_n 3, 1) := by decide +kernel
theorem dX2_findBest_6 : decode cX2_findBest 6 = .ok (.iconst 1, 1) := by decide +kernel
theorem dX2_findBest_7 : decode cX2_findBest 7 = .ok (.isub, 1) := by decide +kernel
theorem dX2_findBest_8 : decode cX2_findBest 8 = .ok (.istore 4, 2) := by decide +kernel
theorem dX2_findBest_10 : decode cX2_findBest 10 = .ok (.iload 4, 2) := by decide +kernel
theorem dX2_findBest_12 : decode cX2_findBest 12 = .ok (.ifCond .lt 22, 3) := by decide +kernel
theorem dX2_findBest_15 : decode cX2_findBest 15 = .ok (.aload_n 0, 1) := by decide +kernel
theorem dX2_findBest_16 : decode cX2_findBest 16 = .ok (.aload_n 1, 1) := by decide +kernel
theorem dX2_findBest_17 : decode cX2_findBest 17 = .ok (.iload 4, 2) := by decide +kernel
theorem dX2_findBest_19 : decode cX2_findBest 19 = .ok (.iload_n 2, 1) := by decide +kernel
theorem dX2_findBest_20 : decode cX2_findBest 20 = .ok (.invokevirtual 26, 3) := by decide +kernel
theorem dX2_findBest_23 : decode cX2_findBest 23 = .ok (.ifCond .ne 5, 3) := by decide +kernel
theorem dX2_findBest_26 : decode cX2_findBest 26 = .ok (.iconst (-1), 1) := by decide +kernel
theorem dX2_findBest_27 : decode cX2_findBest 27 = .ok (.ireturn, 1) := by decide +kernel
theorem dX2_findBest_28 : decode cX2_findBest 28 = .ok (.iinc 4 (-1), 3) := by decide +kernel
theorem dX2_findBest_31 : decode cX2_findBest 31 = .ok (.goto (-21), 3) := by decide +kernel
theorem dX2_findBest_34 : decode cX2_findBest 34 = .ok (.iconst (-1), 1) := by decide +kernel
theorem dX2_findBest_35 : decode cX2_findBest 35 = .ok (.istore 4, 2) := by decide +kernel
theorem dX2_findBest_37 : decode cX2_findBest 37 = .ok (.iconst 0, 1) := by decide +kernel
theorem dX2_findBest_38 : decode cX2_findBest 38 = .ok (.istore 5, 2) := by decide +kernel
theorem dX2_findBest_40 : decode cX2_findBest 40 = .ok (.iload 5, 2) := by decide +kernel
theorem dX2_findBest_42 : decode cX2_findBest 42 = .ok (.iload_n 3, 1) := by decide +kernel
theorem dX2_findBest_43 : decode cX2_findBest 43 = .ok (.if_icmp .ge 29, 3) := by decide +kernel
theorem dX2_findBest_46 : decode cX2_findBest 46 = .ok (.aload_n 0, 1) := by decide +kernel
theorem dX2_findBest_47 : decode cX2_findBest 47 = .ok (.aload_n 1, 1) := by decide +kernel
theorem dX2_findBest_48 : decode cX2_findBest 48 = .ok (.iload 5, 2) := by decide +kernel
theorem dX2_findBest_50 : decode cX2_findBest 50 = .ok (.iload 4, 2) := by decide +kernel
theorem dX2_findBest_52 : decode cX2_findBest 52 = .ok (.invokevirtual 30, 3) := by decide +kernel
theorem dX2_findBest_55 : decode cX2_findBest 55 = .ok (.istore 4, 2) := by decide +kernel
theorem dX2_findBest_57 : decode cX2_findBest 57 = .ok (.aload_n 0, 1) := by decide +kernel
theorem dX2_findBest_58 : decode cX2_findBest 58 = .ok (.getfield 9, 3) := by decide +kernel
theorem dX2_findBest_61 : decode cX2_findBest 61 = .ok (.iload 5, 2) := by decide +kernel
theorem dX2_findBest_63 : decode cX2_findBest 63 = .ok (.iload 4, 2) := by decide +kernel
theorem dX2_findBest_65 : decode cX2_findBest 65 = .ok (.iastore, 1) := by decide +kernel
theorem dX2_findBest_66 : decode cX2_findBest 66 = .ok (.iinc 5 1, 3) := by decide +kernel
theorem dX2_findBest_69 : decode cX2_findBest 69 = .ok (.goto (-29), 3) := by decide +kernel
theorem dX2_findBest_72 : decode cX2_findBest 72 = .ok (.iload_n 3, 1) := by decide +kernel
theorem dX2_findBest_73 : decode cX2_findBest 73 = .ok (.ifCond .le 29, 3) := by decide +kernel
theorem dX2_findBest_76 : decode cX2_findBest 76 = .ok (.aload_n 0, 1) := by decide +kernel
theorem dX2_findBest_77 : decode cX2_findBest 77 = .ok (.getfield 9, 3) := by decide +kernel
theorem dX2_findBest_80 : decode cX2_findBest 80 = .ok (.iconst 0, 1) := by decide +kernel
theorem dX2_findBest_81 : decode cX2_findBest 81 = .ok (.iaload, 1) := by decide +kernel
theorem dX2_findBest_82 : decode cX2_findBest 82 = .ok (.iconst (-1), 1) := by decide +kernel
theorem dX2_findBest_83 : decode cX2_findBest 83 = .ok (.if_icmp .eq 19, 3) := by decide +kernel
theorem dX2_findBest_86 : decode cX2_findBest 86 = .ok (.aload_n 0, 1) := by decide +kernel
theorem dX2_findBest_87 : decode cX2_findBest 87 = .ok (.getfield 17, 3) := by decide +kernel
theorem dX2_findBest_90 : decode cX2_findBest 90 = .ok (.iconst 0, 1) := by decide +kernel
theorem dX2_findBest_91 : decode cX2_findBest 91 = .ok (.aaload, 1) := by decide +kernel
theorem dX2_findBest_92 : decode cX2_findBest 92 = .ok (.aload_n 0, 1) := by decide +kernel
theorem dX2_findBest_93 : decode cX2_findBest 93 = .ok (.getfield 9, 3) := by decide +kernel
theorem dX2_findBest_96 : decode cX2_findBest 96 = .ok (.iconst 0, 1) := by decide +kernel
theorem dX2_findBest_97 : decode cX2_findBest 97 = .ok (.iaload, 1) := by decide +kernel
theorem dX2_findBest_98 : decode cX2_findBest 98 = .ok (.iaload, 1) := by decide +kernel
theorem dX2_findBest_99 : decode cX2_findBest 99 = .ok (.goto 4, 3) := by decide +kernel
theorem dX2_findBest_102 : decode cX2_findBest 102 = .ok (.iconst (-1), 1) := by decide +kernel
theorem dX2_findBest_103 : decode cX2_findBest 103 = .ok (.ireturn, 1) := by decide +kernel
set_option maxRecDepth 20000 in
theorem ggX2_countUntuned_Jx4a65c_size_8abf5 : GoodIn wsX2_countUntuned wsJx4a65c_size_8abf5 := goodIn_r _ [8, 9, 69, 70, 71] (by decide +kernel) (by decide +kernel)
set_option maxRecDepth 20000 in
theorem gX2_countUntuned_Jx4a65c_size_8abf5 : GoodIn wsX2_countUntuned (wsV RX2 38 RJx4a65c yJx4a65c_size_8abf5 wsJx4a65c_size_8abf5) := goodIn_app (goodIn_of _ (by decide +kernel)) ggX2_countUntuned_Jx4a65c_size_8abf5
set_option maxRecDepth 20000 in
theorem ggX2_countUntuned_X0_phraseCount : GoodIn wsX2_countUntuned wsX0_phraseCount := goodIn_r _ [14, 15, 60, 61, 62, 63, 64, 65, 66] (by decide +kernel) (by decide +kernel)
set_option maxRecDepth 20000 in
theorem gX2_countUntuned_X0_phraseCount : GoodIn wsX2_countUntuned (wsV RX2 20 RX0 yX0_phraseCount wsX0_phraseCount) := goodIn_app (goodIn_of _ (by decide +kernel)) ggX2_countUntuned_X0_phraseCount
set_option maxRecDepth 20000 in
theorem ggX2_countUntuned_X2_isPlaying : GoodIn wsX2_countUntuned wsX2_isPlaying := goodIn_r _ [20, 21, 72, 73] (by decide +kernel) (by decide +kernel)
set_option maxRecDepth 20000 in
theorem gX2_countUntuned_X2_isPlaying : GoodIn wsX2_countUntuned (wsV RX2 43 RX2 yX2_isPlaying wsX2_isPlaying) := goodIn_app (goodIn_of _ (by decide +kernel)) ggX2_countUntuned_X2_isPlaying
set_option maxRecDepth 20000 in
theorem ggX2_countUntuned_Jx4a65c_get_915e3 : GoodIn wsX2_countUntuned wsJx4a65c_get_915e3 := goodIn_r _ [25, 9, 26, 27, 28, 29, 30, 31, 32, 33, 34, 35, 36, 7, 37, 38, 69, 70, 71] (by decide +kernel) (by decide +kernel)
set_option maxRecDepth 20000 in
theorem gX2_countUntuned_Jx4a65c_get_915e3 : GoodIn wsX2_countUntuned (wsV RX2 47 RJx4a65c yJx4a65c_get_915e3 wsJx4a65c_get_915e3) := goodIn_app (goodIn_of _ (by decide +kernel)) ggX2_countUntuned_Jx4a65c_get_915e3
set_option maxRecDepth 20000 in
theorem ggX2_countUntuned_X4_hasTunedPan : GoodIn wsX2_countUntuned wsX4_hasTunedPan := goodIn_r _ [43, 44, 45, 46, 47, 48, 49, 50, 51, 52, 53, 54, 55, 56, 57, 58, 59, 74, 75, 76, 77, 78, 79, 80, 81, 82, 83, 84] (by decide +kernel) (by decide +kernel)
set_option maxRecDepth 20000 in
theorem gX2_countUntuned_X4_hasTunedPan : GoodIn wsX2_countUntuned (wsV RX2 57 RX4 yX4_hasTunedPan wsX4_hasTunedPan) := goodIn_app (goodIn_of _ (by decide +kernel)) ggX2_countUntuned_X4_hasTunedPan
theorem dX2_countUntuned_0 : decode cX2_countUntuned 0 = .ok (.iconst 0, 1) := by decide +kernel
theorem dX2_countUntuned_1 : decode cX2_countUntuned 1 = .ok (.istore_n 3, 1) := by decide +kernel
theorem dX2_countUntuned_2 : decode cX2_countUntuned 2 = .ok (.iconst 0, 1) := by decide +kernel
theorem dX2_countUntuned_3 : decode cX2_countUntuned 3 = .ok (.istore 4, 2) := by decide +kernel
theorem dX2_countUntuned_5 : decode cX2_countUntuned 5 = .ok (.iload 4, 2) := by decide +kernel
theorem dX2_countUntuned_7 : decode cX2_countUntuned 7 = .ok (.aload_n 1, 1) := by decide +kernel
theorem dX2_countUntuned_8 : decode cX2_countUntuned 8 = .ok (.getfield 34, 3) := by decide +kernel
theorem dX2_countUntuned_11 : decode cX2_countUntuned 11 = .ok (.invokevirtual 38, 3) := by decide +kernel
theorem dX2_countUntuned_14 : decode cX2_countUntuned 14 = .ok (.if_icmp .ge 47, 3) := by decide +kernel
theorem dX2_countUntuned_17 : decode cX2_countUntuned 17 = .ok (.aload_n 0, 1) := by decide +kernel
theorem dX2_countUntuned_18 : decode cX2_countUntuned 18 = .ok (.iload 4, 2) := by decide +kernel
theorem dX2_countUntuned_20 : decode cX2_countUntuned 20 = .ok (.aload_n 1, 1) := by decide +kernel
theorem dX2_countUntuned_21 : decode cX2_countUntuned 21 = .ok (.invokevirtual 20, 3) := by decide +kernel
theorem dX2_countUntuned_24 : decode cX2_countUntuned 24 = .ok (.invokevirtual 43, 3) := by decide +kernel
theorem dX2_countUntuned_27 : decode cX2_countUntuned 27 = .ok (.ifCond .eq 28, 3) := by decide +kernel
theorem dX2_countUntuned_30 : decode cX2_countUntuned 30 = .ok (.aload_n 1, 1) := by decide +kernel
theorem dX2_countUntuned_31 : decode cX2_countUntuned 31 = .ok (.getfield 34, 3) := by decide +kernel
theorem dX2_countUntuned_34 : decode cX2_countUntuned 34 = .ok (.iload 4, 2) := by decide +kernel
theorem dX2_countUntuned_36 : decode cX2_countUntuned 36 = .ok (.invokevirtual 47, 3) := by decide +kernel
theorem dX2_countUntuned_39 : decode cX2_countUntuned 39 = .ok (.checkcast 51, 3) := by decide +kernel
theorem dX2_countUntuned_42 : decode cX2_countUntuned 42 = .ok (.getfield 53, 3) := by decide +kernel
theorem dX2_countUntuned_45 : decode cX2_countUntuned 45 = .ok (.iload_n 2, 1) := by decide +kernel
theorem dX2_countUntuned_46 : decode cX2_countUntuned 46 = .ok (.invokevirtual 57, 3) := by decide +kernel
theorem dX2_countUntuned_49 : decode cX2_countUntuned 49 = .ok (.ifCond .ne 6, 3) := by decide +kernel
theorem dX2_countUntuned_52 : decode cX2_countUntuned 52 = .ok (.iinc 3 1, 3) := by decide +kernel
theorem dX2_countUntuned_55 : decode cX2_countUntuned 55 = .ok (.iinc 4 1, 3) := by decide +kernel
theorem dX2_countUntuned_58 : decode cX2_countUntuned 58 = .ok (.goto (-53), 3) := by decide +kernel
theorem dX2_countUntuned_61 : decode cX2_countUntuned 61 = .ok (.iload_n 3, 1) := by decide +kernel
theorem dX2_countUntuned_62 : decode cX2_countUntuned 62 = .ok (.ireturn, 1) := by decide +kernel
theorem dX2_isPlaying_0 : decode cX2_isPlaying 0 = .ok (.iconst 0, 1) := by decide +kernel
theorem dX2_isPlaying_1 : decode cX2_isPlaying 1 = .ok (.istore_n 3, 1) := by decide +kernel
theorem dX2_isPlaying_2 : decode cX2_isPlaying 2 = .ok (.iload_n 3, 1) := by decide +kernel
theorem dX2_isPlaying_3 : decode cX2_isPlaying 3 = .ok (.iload_n 2, 1) := by decide +kernel
theorem dX2_isPlaying_4 : decode cX2_isPlaying 4 = .ok (.if_icmp .ge 21, 3) := by decide +kernel
theorem dX2_isPlaying_7 : decode cX2_isPlaying 7 = .ok (.aload_n 0, 1) := by decide +kernel
theorem dX2_isPlaying_8 : decode cX2_isPlaying 8 = .ok (.getfield 9, 3) := by decide +kernel
theorem dX2_isPlaying_11 : decode cX2_isPlaying 11 = .ok (.iload_n 3, 1) := by decide +kernel
theorem dX2_isPlaying_12 : decode cX2_isPlaying 12 = .ok (.iaload, 1) := by decide +kernel
theorem dX2_isPlaying_13 : decode cX2_isPlaying 13 = .ok (.iload_n 1, 1) := by decide +kernel
theorem dX2_isPlaying_14 : decode cX2_isPlaying 14 = .ok (.if_icmp .ne 5, 3) := by decide +kernel
theorem dX2_isPlaying_17 : decode cX2_isPlaying 17 = .ok (.iconst 1, 1) := by decide +kernel
theorem dX2_isPlaying_18 : decode cX2_isPlaying 18 = .ok (.ireturn, 1) := by decide +kernel
theorem dX2_isPlaying_19 : decode cX2_isPlaying 19 = .ok (.iinc 3 1, 3) := by decide +kernel
theorem dX2_isPlaying_22 : decode cX2_isPlaying 22 = .ok (.goto (-20), 3) := by decide +kernel
theorem dX2_isPlaying_25 : decode cX2_isPlaying 25 = .ok (.iconst 0, 1) := by decide +kernel
theorem dX2_isPlaying_26 : decode cX2_isPlaying 26 = .ok (.ireturn, 1) := by decide +kernel
set_option maxRecDepth 20000 in
theorem ggX2_countFewest_Jx4a65c_size_8abf5 : GoodIn wsX2_countFewest wsJx4a65c_size_8abf5 := goodIn_r _ [11, 12, 78, 79, 80] (by decide +kernel) (by decide +kernel)
set_option maxRecDepth 20000 in
theorem gX2_countFewest_Jx4a65c_size_8abf5 : GoodIn wsX2_countFewest (wsV RX2 38 RJx4a65c yJx4a65c_size_8abf5 wsJx4a65c_size_8abf5) := goodIn_app (goodIn_of _ (by decide +kernel)) ggX2_countFewest_Jx4a65c_size_8abf5
set_option maxRecDepth 20000 in
theorem ggX2_countFewest_Jx4a65c_get_915e3 : GoodIn wsX2_countFewest wsJx4a65c_get_915e3 := goodIn_r _ [16, 12, 17, 18, 19, 20, 21, 22, 23, 24, 25, 26, 27, 10, 28, 29, 78, 79, 80] (by decide +kernel) (by decide +kernel)
set_option maxRecDepth 20000 in
theorem gX2_countFewest_Jx4a65c_get_915e3 : GoodIn wsX2_countFewest (wsV RX2 47 RJx4a65c yJx4a65c_get_915e3 wsJx4a65c_get_915e3) := goodIn_app (goodIn_of _ (by decide +kernel)) ggX2_countFewest_Jx4a65c_get_915e3
set_option maxRecDepth 20000 in
theorem ggX2_countFewest_X2_bestSeat : GoodIn wsX2_countFewest wsX2_bestSeat := goodIn_r _ [34, 1, 2, 5, 6, 3, 35, 36, 37, 38, 39, 40, 7, 8, 9, 10, 11, 12, 13, 14, 15, 16, 17, 18, 19, 20, 21, 22, 23, 24, 25, 26, 27, 28, 29, 41, 42, 33, 43, 44, 45, 46, 47, 48, 49, 50, 51, 52, 53, 54, 55, 56, 57, 61, 62, 63, 64, 65, 66, 67, 70, 71, 72, 73, 74, 75, 76, 77, 68, 69, 78, 79, 80] (by decide +kernel) (by decide +kernel)
set_option maxRecDepth 20000 in
theorem gX2_countFewest_X2_bestSeat : GoodIn wsX2_countFewest (wsV RX2 30 RX2 yX2_bestSeat wsX2_bestSeat) := goodIn_app (goodIn_of _ (by decide +kernel)) ggX2_countFewest_X2_bestSeat
set_option maxRecDepth 20000 in
theorem ggX2_countFewest_X2_leapsInto : GoodIn wsX2_countFewest wsX2_leapsInto := goodIn_r _ [43, 44, 45, 46, 33, 47, 48, 49, 50, 51, 52, 53, 54, 55, 56, 57, 61, 62, 63, 64, 65, 66, 67] (by decide +kernel) (by decide +kernel)
set_option maxRecDepth 20000 in
theorem gX2_countFewest_X2_leapsInto : GoodIn wsX2_countFewest (va_wsS RX2 70 yX2_leapsInto wsX2_leapsInto) := goodIn_app (goodIn_of _ (by decide +kernel)) ggX2_countFewest_X2_leapsInto
set_option maxRecDepth 20000 in
theorem ggX2_countFewest_X2_leapsInside : GoodIn wsX2_countFewest wsX2_leapsInside := goodIn_r _ [60, 44, 45, 46, 33, 47, 48, 49, 50, 51, 52, 53, 54, 55, 56, 57, 61, 62, 63, 64, 65, 66, 67] (by decide +kernel) (by decide +kernel)
set_option maxRecDepth 20000 in
theorem gX2_countFewest_X2_leapsInside : GoodIn wsX2_countFewest (va_wsS RX2 74 yX2_leapsInside wsX2_leapsInside) := goodIn_app (goodIn_of _ (by decide +kernel)) ggX2_countFewest_X2_leapsInside
theorem dX2_countFewest_0 : decode cX2_countFewest 0 = .ok (.iconst 0, 1) := by decide +kernel
theorem dX2_countFewest_1 : decode cX2_countFewest 1 = .ok (.istore 4, 2) := by decide +kernel
theorem dX2_countFewest_3 : decode cX2_countFewest 3 = .ok (.iconst 0, 1) := by decide +kernel
theorem dX2_countFewest_4 : decode cX2_countFewest 4 = .ok (.istore 5, 2) := by decide +kernel
theorem dX2_countFewest_6 : decode cX2_countFewest 6 = .ok (.iload 5, 2) := by decide +kernel
theorem dX2_countFewest_8 : decode cX2_countFewest 8 = .ok (.aload_n 1, 1) := by decide +kernel
theorem dX2_countFewest_9 : decode cX2_countFewest 9 = .ok (.getfield 34, 3) := by decide +kernel
theorem dX2_countFewest_12 : decode cX2_countFewest 12 = .ok (.invokevirtual 38, 3) := by decide +kernel
theorem dX2_countFewest_15 : decode cX2_countFewest 15 = .ok (.if_icmp .ge 139, 3) := by decide +kernel
theorem dX2_countFewest_18 : decode cX2_countFewest 18 = .ok (.aload_n 1, 1) := by decide +kernel
theorem dX2_countFewest_19 : decode cX2_countFewest 19 = .ok (.getfield 34, 3) := by decide +kernel
theorem dX2_countFewest_22 : decode cX2_countFewest 22 = .ok (.iload 5, 2) := by decide +kernel
theorem dX2_countFewest_24 : decode cX2_countFewest 24 = .ok (.invokevirtual 47, 3) := by decide +kernel
theorem dX2_countFewest_27 : decode cX2_countFewest 27 = .ok (.checkcast 51, 3) := by decide +kernel
theorem dX2_countFewest_30 : decode cX2_countFewest 30 = .ok (.astore 6, 2) := by decide +kernel
theorem dX2_countFewest_32 : decode cX2_countFewest 32 = .ok (.aload_n 0, 1) := by decide +kernel
theorem dX2_countFewest_33 : decode cX2_countFewest 33 = .ok (.getfield 17, 3) := by decide +kernel
theorem dX2_countFewest_36 : decode cX2_countFewest 36 = .ok (.iload_n 2, 1) := by decide +kernel
theorem dX2_countFewest_37 : decode cX2_countFewest 37 = .ok (.aaload, 1) := by decide +kernel
theorem dX2_countFewest_38 : decode cX2_countFewest 38 = .ok (.iload 5, 2) := by decide +kernel
theorem dX2_countFewest_40 : decode cX2_countFewest 40 = .ok (.iconst (-1), 1) := by decide +kernel
theorem dX2_countFewest_41 : decode cX2_countFewest 41 = .ok (.iastore, 1) := by decide +kernel
theorem dX2_countFewest_42 : decode cX2_countFewest 42 = .ok (.iload 5, 2) := by decide +kernel
theorem dX2_countFewest_44 : decode cX2_countFewest 44 = .ok (.iload_n 3, 1) := by decide +kernel
theorem dX2_countFewest_45 : decode cX2_countFewest 45 = .ok (.if_icmp .eq 103, 3) := by decide +kernel
theorem dX2_countFewest_48 : decode cX2_countFewest 48 = .ok (.aload 6, 2) := by decide +kernel
theorem dX2_countFewest_50 : decode cX2_countFewest 50 = .ok (.getfield 63, 3) := by decide +kernel
theorem dX2_countFewest_53 : decode cX2_countFewest 53 = .ok (.iload_n 2, 1) := by decide +kernel
theorem dX2_countFewest_54 : decode cX2_countFewest 54 = .ok (.iaload, 1) := by decide +kernel
theorem dX2_countFewest_55 : decode cX2_countFewest 55 = .ok (.iconst 1, 1) := by decide +kernel
theorem dX2_countFewest_56 : decode cX2_countFewest 56 = .ok (.if_icmp .ne 92, 3) := by decide +kernel
theorem dX2_countFewest_59 : decode cX2_countFewest 59 = .ok (.aload 6, 2) := by decide +kernel
theorem dX2_countFewest_61 : decode cX2_countFewest 61 = .ok (.getfield 53, 3) := by decide +kernel
theorem dX2_countFewest_64 : decode cX2_countFewest 64 = .ok (.getfield 66, 3) := by decide +kernel
theorem dX2_countFewest_67 : decode cX2_countFewest 67 = .ok (.istore 7, 2) := by decide +kernel
theorem dX2_countFewest_69 : decode cX2_countFewest 69 = .ok (.aload_n 0, 1) := by decide +kernel
theorem dX2_countFewest_70 : decode cX2_countFewest 70 = .ok (.aload_n 1, 1) := by decide +kernel
theorem dX2_countFewest_71 : decode cX2_countFewest 71 = .ok (.iload_n 2, 1) := by decide +kernel
theorem dX2_countFewest_72 : decode cX2_countFewest 72 = .ok (.iconst 1, 1) := by decide +kernel
theorem dX2_countFewest_73 : decode cX2_countFewest 73 = .ok (.iadd, 1) := by decide +kernel
theorem dX2_countFewest_74 : decode cX2_countFewest 74 = .ok (.iload 5, 2) := by decide +kernel
theorem dX2_countFewest_76 : decode cX2_countFewest 76 = .ok (.invokevirtual 30, 3) := by decide +kernel
theorem dX2_countFewest_79 : decode cX2_countFewest 79 = .ok (.istore 8, 2) := by decide +kernel
theorem dX2_countFewest_81 : decode cX2_countFewest 81 = .ok (.iload 8, 2) := by decide +kernel
theorem dX2_countFewest_83 : decode cX2_countFewest 83 = .ok (.iconst (-1), 1) := by decide +kernel
theorem dX2_countFewest_84 : decode cX2_countFewest 84 = .ok (.if_icmp .ne 7, 3) := by decide +kernel
theorem dX2_countFewest_87 : decode cX2_countFewest 87 = .ok (.iconst 0, 1) := by decide +kernel
theorem dX2_countFewest_88 : decode cX2_countFewest 88 = .ok (.goto 36, 3) := by decide +kernel
theorem dX2_countFewest_91 : decode cX2_countFewest 91 = .ok (.aload_n 0, 1) := by decide +kernel
theorem dX2_countFewest_92 : decode cX2_countFewest 92 = .ok (.getfield 17, 3) := by decide +kernel
theorem dX2_countFewest_95 : decode cX2_countFewest 95 = .ok (.iload_n 2, 1) := by decide +kernel
theorem dX2_countFewest_96 : decode cX2_countFewest 96 = .ok (.iconst 1, 1) := by decide +kernel
theorem dX2_countFewest_97 : decode cX2_countFewest 97 = .ok (.iadd, 1) := by decide +kernel
theorem dX2_countFewest_98 : decode cX2_countFewest 98 = .ok (.aaload, 1) := by decide +kernel
theorem dX2_countFewest_99 : decode cX2_countFewest 99 = .ok (.iload 8, 2) := by decide +kernel
theorem dX2_countFewest_101 : decode cX2_countFewest 101 = .ok (.iaload, 1) := by decide +kernel
theorem dX2_countFewest_102 : decode cX2_countFewest 102 = .ok (.aload_n 1, 1) := by decide +kernel
theorem dX2_countFewest_103 : decode cX2_countFewest 103 = .ok (.iload_n 2, 1) := by decide +kernel
theorem dX2_countFewest_104 : decode cX2_countFewest 104 = .ok (.iconst 1, 1) := by decide +kernel
theorem dX2_countFewest_105 : decode cX2_countFewest 105 = .ok (.iadd, 1) := by decide +kernel
theorem dX2_countFewest_106 : decode cX2_countFewest 106 = .ok (.iload 8, 2) := by decide +kernel
theorem dX2_countFewest_108 : decode cX2_countFewest 108 = .ok (.iload 5, 2) := by decide +kernel
theorem dX2_countFewest_110 : decode cX2_countFewest 110 = .ok (.if_icmp .ne 7, 3) := by decide +kernel
theorem dX2_countFewest_113 : decode cX2_countFewest 113 = .ok (.iconst 1, 1) := by decide +kernel
theorem dX2_countFewest_114 : decode cX2_countFewest 114 = .ok (.goto 4, 3) := by decide +kernel
theorem dX2_countFewest_117 : decode cX2_countFewest 117 = .ok (.iconst 0, 1) := by decide +kernel
theorem dX2_countFewest_118 : decode cX2_countFewest 118 = .ok (.iload 7, 2) := by decide +kernel
theorem dX2_countFewest_120 : decode cX2_countFewest 120 = .ok (.invokestatic 70, 3) := by decide +kernel
theorem dX2_countFewest_123 : decode cX2_countFewest 123 = .ok (.iadd, 1) := by decide +kernel
theorem dX2_countFewest_124 : decode cX2_countFewest 124 = .ok (.istore 9, 2) := by decide +kernel
theorem dX2_countFewest_126 : decode cX2_countFewest 126 = .ok (.aload_n 0, 1) := by decide +kernel
theorem dX2_countFewest_127 : decode cX2_countFewest 127 = .ok (.getfield 17, 3) := by decide +kernel
theorem dX2_countFewest_130 : decode cX2_countFewest 130 = .ok (.iload_n 2, 1) := by decide +kernel
theorem dX2_countFewest_131 : decode cX2_countFewest 131 = .ok (.aaload, 1) := by decide +kernel
theorem dX2_countFewest_132 : decode cX2_countFewest 132 = .ok (.iload 5, 2) := by decide +kernel
theorem dX2_countFewest_134 : decode cX2_countFewest 134 = .ok (.aload_n 1, 1) := by decide +kernel
theorem dX2_countFewest_135 : decode cX2_countFewest 135 = .ok (.iload_n 2, 1) := by decide +kernel
theorem dX2_countFewest_136 : decode cX2_countFewest 136 = .ok (.iload 7, 2) := by decide +kernel
theorem dX2_countFewest_138 : decode cX2_countFewest 138 = .ok (.invokestatic 74, 3) := by decide +kernel
theorem dX2_countFewest_141 : decode cX2_countFewest 141 = .ok (.iload 9, 2) := by decide +kernel
theorem dX2_countFewest_143 : decode cX2_countFewest 143 = .ok (.iadd, 1) := by decide +kernel
theorem dX2_countFewest_144 : decode cX2_countFewest 144 = .ok (.iastore, 1) := by decide +kernel
theorem dX2_countFewest_145 : decode cX2_countFewest 145 = .ok (.iconst 1, 1) := by decide +kernel
theorem dX2_countFewest_146 : decode cX2_countFewest 146 = .ok (.istore 4, 2) := by decide +kernel
theorem dX2_countFewest_148 : decode cX2_countFewest 148 = .ok (.iinc 5 1, 3) := by decide +kernel
theorem dX2_countFewest_151 : decode cX2_countFewest 151 = .ok (.goto (-145), 3) := by decide +kernel
theorem dX2_countFewest_154 : decode cX2_countFewest 154 = .ok (.iload 4, 2) := by decide +kernel
theorem dX2_countFewest_156 : decode cX2_countFewest 156 = .ok (.ireturn, 1) := by decide +kernel
set_option maxRecDepth 20000 in
theorem ggX2_bestSeat_X0_phraseCount : GoodIn wsX2_bestSeat wsX0_phraseCount := goodIn_r _ [10, 11, 53, 54, 55, 56, 57, 58, 59] (by decide +kernel) (by decide +kernel)
set_option maxRecDepth 20000 in
theorem gX2_bestSeat_X0_phraseCount : GoodIn wsX2_bestSeat (wsV RX2 20 RX0 yX0_phraseCount wsX0_phraseCount) := goodIn_app (goodIn_of _ (by decide +kernel)) ggX2_bestSeat_X0_phraseCount
set_option maxRecDepth 20000 in
theorem ggX2_bestSeat_Jx4a65c_size_8abf5 : GoodIn wsX2_bestSeat wsJx4a65c_size_8abf5 := goodIn_r _ [16, 17, 70, 71, 72] (by decide +kernel) (by decide +kernel)
set_option maxRecDepth 20000 in
theorem gX2_bestSeat_Jx4a65c_size_8abf5 : GoodIn wsX2_bestSeat (wsV RX2 38 RJx4a65c yJx4a65c_size_8abf5 wsJx4a65c_size_8abf5) := goodIn_app (goodIn_of _ (by decide +kernel)) ggX2_bestSeat_Jx4a65c_size_8abf5
set_option maxRecDepth 20000 in
theorem ggX2_bestSeat_Jx4a65c_get_915e3 : GoodIn wsX2_bestSeat wsJx4a65c_get_915e3 := goodIn_r _ [21, 17, 22, 23, 24, 25, 26, 27, 28, 29, 30, 31, 32, 15, 33, 34, 70, 71, 72] (by decide +kernel) (by decide +kernel)
set_option maxRecDepth 20000 in
theorem gX2_bestSeat_Jx4a65c_get_915e3 : GoodIn wsX2_bestSeat (wsV RX2 47 RJx4a65c yJx4a65c_get_915e3 wsJx4a65c_get_915e3) := goodIn_app (goodIn_of _ (by decide +kernel)) ggX2_bestSeat_Jx4a65c_get_915e3
set_option maxRecDepth 20000 in
theorem ggX2_bestSeat_X2_leapsInto : GoodIn wsX2_bestSeat wsX2_leapsInto := goodIn_r _ [38, 39, 40, 41, 37, 42, 43, 44, 45, 46, 47, 48, 49, 50, 51, 52, 53, 54, 55, 56, 57, 58, 59] (by decide +kernel) (by decide +kernel)
set_option maxRecDepth 20000 in
theorem gX2_bestSeat_X2_leapsInto : GoodIn wsX2_bestSeat (va_wsS RX2 70 yX2_leapsInto wsX2_leapsInto) := goodIn_app (goodIn_of _ (by decide +kernel)) ggX2_bestSeat_X2_leapsInto
theorem dX2_bestSeat_0 : decode cX2_bestSeat 0 = .ok (.iconst (-1), 1) := by decide +kernel
theorem dX2_bestSeat_1 : decode cX2_bestSeat 1 = .ok (.istore 4, 2) := by decide +kernel
theorem dX2_bestSeat_3 : decode cX2_bestSeat 3 = .ok (.iconst 0, 1) := by decide +kernel
theorem dX2_bestSeat_4 : decode cX2_bestSeat 4 = .ok (.istore 5, 2) := by decide +kernel
theorem dX2_bestSeat_6 : decode cX2_bestSeat 6 = .ok (.iload_n 2, 1) := by decide +kernel
theorem dX2_bestSeat_7 : decode cX2_bestSeat 7 = .ok (.aload_n 1, 1) := by decide +kernel
theorem dX2_bestSeat_8 : decode cX2_bestSeat 8 = .ok (.invokevirtual 20, 3) := by decide +kernel
theorem dX2_bestSeat_11 : decode cX2_bestSeat 11 = .ok (.if_icmp .lt 5, 3) := by decide +kernel
theorem dX2_bestSeat_14 : decode cX2_bestSeat 14 = .ok (.iconst (-1), 1) := by decide +kernel
theorem dX2_bestSeat_15 : decode cX2_bestSeat 15 = .ok (.ireturn, 1) := by decide +kernel
theorem dX2_bestSeat_16 : decode cX2_bestSeat 16 = .ok (.iconst 0, 1) := by decide +kernel
theorem dX2_bestSeat_17 : decode cX2_bestSeat 17 = .ok (.istore 6, 2) := by decide +kernel
theorem dX2_bestSeat_19 : decode cX2_bestSeat 19 = .ok (.iload 6, 2) := by decide +kernel
theorem dX2_bestSeat_21 : decode cX2_bestSeat 21 = .ok (.aload_n 1, 1) := by decide +kernel
theorem dX2_bestSeat_22 : decode cX2_bestSeat 22 = .ok (.getfield 34, 3) := by decide +kernel
theorem dX2_bestSeat_25 : decode cX2_bestSeat 25 = .ok (.invokevirtual 38, 3) := by decide +kernel
theorem dX2_bestSeat_28 : decode cX2_bestSeat 28 = .ok (.if_icmp .ge 93, 3) := by decide +kernel
theorem dX2_bestSeat_31 : decode cX2_bestSeat 31 = .ok (.aload_n 1, 1) := by decide +kernel
theorem dX2_bestSeat_32 : decode cX2_bestSeat 32 = .ok (.getfield 34, 3) := by decide +kernel
theorem dX2_bestSeat_35 : decode cX2_bestSeat 35 = .ok (.iload 6, 2) := by decide +kernel
theorem dX2_bestSeat_37 : decode cX2_bestSeat 37 = .ok (.invokevirtual 47, 3) := by decide +kernel
theorem dX2_bestSeat_40 : decode cX2_bestSeat 40 = .ok (.checkcast 51, 3) := by decide +kernel
theorem dX2_bestSeat_43 : decode cX2_bestSeat 43 = .ok (.getfield 53, 3) := by decide +kernel
theorem dX2_bestSeat_46 : decode cX2_bestSeat 46 = .ok (.getfield 66, 3) := by decide +kernel
theorem dX2_bestSeat_49 : decode cX2_bestSeat 49 = .ok (.istore 7, 2) := by decide +kernel
theorem dX2_bestSeat_51 : decode cX2_bestSeat 51 = .ok (.aload_n 0, 1) := by decide +kernel
theorem dX2_bestSeat_52 : decode cX2_bestSeat 52 = .ok (.getfield 17, 3) := by decide +kernel
theorem dX2_bestSeat_55 : decode cX2_bestSeat 55 = .ok (.iload_n 2, 1) := by decide +kernel
theorem dX2_bestSeat_56 : decode cX2_bestSeat 56 = .ok (.aaload, 1) := by decide +kernel
theorem dX2_bestSeat_57 : decode cX2_bestSeat 57 = .ok (.iload 6, 2) := by decide +kernel
theorem dX2_bestSeat_59 : decode cX2_bestSeat 59 = .ok (.iaload, 1) := by decide +kernel
theorem dX2_bestSeat_60 : decode cX2_bestSeat 60 = .ok (.aload_n 1, 1) := by decide +kernel
theorem dX2_bestSeat_61 : decode cX2_bestSeat 61 = .ok (.iload_n 2, 1) := by decide +kernel
theorem dX2_bestSeat_62 : decode cX2_bestSeat 62 = .ok (.iload 6, 2) := by decide +kernel
theorem dX2_bestSeat_64 : decode cX2_bestSeat 64 = .ok (.iload_n 3, 1) := by decide +kernel
theorem dX2_bestSeat_65 : decode cX2_bestSeat 65 = .ok (.if_icmp .ne 7, 3) := by decide +kernel
theorem dX2_bestSeat_68 : decode cX2_bestSeat 68 = .ok (.iconst 1, 1) := by decide +kernel
theorem dX2_bestSeat_69 : decode cX2_bestSeat 69 = .ok (.goto 4, 3) := by decide +kernel
theorem dX2_bestSeat_72 : decode cX2_bestSeat 72 = .ok (.iconst 0, 1) := by decide +kernel
theorem dX2_bestSeat_73 : decode cX2_bestSeat 73 = .ok (.iload 7, 2) := by decide +kernel
theorem dX2_bestSeat_75 : decode cX2_bestSeat 75 = .ok (.invokestatic 70, 3) := by decide +kernel
theorem dX2_bestSeat_78 : decode cX2_bestSeat 78 = .ok (.iadd, 1) := by decide +kernel
theorem dX2_bestSeat_79 : decode cX2_bestSeat 79 = .ok (.istore 8, 2) := by decide +kernel
theorem dX2_bestSeat_81 : decode cX2_bestSeat 81 = .ok (.aload_n 0, 1) := by decide +kernel
theorem dX2_bestSeat_82 : decode cX2_bestSeat 82 = .ok (.getfield 17, 3) := by decide +kernel
theorem dX2_bestSeat_85 : decode cX2_bestSeat 85 = .ok (.iload_n 2, 1) := by decide +kernel
theorem dX2_bestSeat_86 : decode cX2_bestSeat 86 = .ok (.aaload, 1) := by decide +kernel
theorem dX2_bestSeat_87 : decode cX2_bestSeat 87 = .ok (.iload 6, 2) := by decide +kernel
theorem dX2_bestSeat_89 : decode cX2_bestSeat 89 = .ok (.iaload, 1) := by decide +kernel
theorem dX2_bestSeat_90 : decode cX2_bestSeat 90 = .ok (.iconst (-1), 1) := by decide +kernel
theorem dX2_bestSeat_91 : decode cX2_bestSeat 91 = .ok (.if_icmp .eq 24, 3) := by decide +kernel
theorem dX2_bestSeat_94 : decode cX2_bestSeat 94 = .ok (.iload 4, 2) := by decide +kernel
theorem dX2_bestSeat_96 : decode cX2_bestSeat 96 = .ok (.iconst (-1), 1) := by decide +kernel
theorem dX2_bestSeat_97 : decode cX2_bestSeat 97 = .ok (.if_icmp .eq 10, 3) := by decide +kernel
theorem dX2_bestSeat_100 : decode cX2_bestSeat 100 = .ok (.iload 8, 2) := by decide +kernel
theorem dX2_bestSeat_102 : decode cX2_bestSeat 102 = .ok (.iload 5, 2) := by decide +kernel
theorem dX2_bestSeat_104 : decode cX2_bestSeat 104 = .ok (.if_icmp .ge 11, 3) := by decide +kernel
theorem dX2_bestSeat_107 : decode cX2_bestSeat 107 = .ok (.iload 6, 2) := by decide +kernel
theorem dX2_bestSeat_109 : decode cX2_bestSeat 109 = .ok (.istore 4, 2) := by decide +kernel
theorem dX2_bestSeat_111 : decode cX2_bestSeat 111 = .ok (.iload 8, 2) := by decide +kernel
theorem dX2_bestSeat_113 : decode cX2_bestSeat 113 = .ok (.istore 5, 2) := by decide +kernel
theorem dX2_bestSeat_115 : decode cX2_bestSeat 115 = .ok (.iinc 6 1, 3) := by decide +kernel
theorem dX2_bestSeat_118 : decode cX2_bestSeat 118 = .ok (.goto (-99), 3) := by decide +kernel
theorem dX2_bestSeat_121 : decode cX2_bestSeat 121 = .ok (.iload 4, 2) := by decide +kernel
theorem dX2_bestSeat_123 : decode cX2_bestSeat 123 = .ok (.ireturn, 1) := by decide +kernel
set_option maxRecDepth 20000 in
theorem ggX2_leapsInside_X2_leapBetween : GoodIn wsX2_leapsInside wsX2_leapBetween := goodIn_r _ [5, 6, 7, 8, 9, 10, 11, 12, 13, 14, 4, 15] (by decide +kernel) (by decide +kernel)
set_option maxRecDepth 20000 in
theorem gX2_leapsInside_X2_leapBetween : GoodIn wsX2_leapsInside (va_wsS RX2 80 yX2_leapBetween wsX2_leapBetween) := goodIn_app (goodIn_of _ (by decide +kernel)) ggX2_leapsInside_X2_leapBetween
theorem dX2_leapsInside_0 : decode cX2_leapsInside 0 = .ok (.iconst 0, 1) := by decide +kernel
theorem dX2_leapsInside_1 : decode cX2_leapsInside 1 = .ok (.istore_n 3, 1) := by decide +kernel
theorem dX2_leapsInside_2 : decode cX2_leapsInside 2 = .ok (.iload_n 1, 1) := by decide +kernel
theorem dX2_leapsInside_3 : decode cX2_leapsInside 3 = .ok (.iconst 4, 1) := by decide +kernel
theorem dX2_leapsInside_4 : decode cX2_leapsInside 4 = .ok (.imul, 1) := by decide +kernel
theorem dX2_leapsInside_5 : decode cX2_leapsInside 5 = .ok (.istore 4, 2) := by decide +kernel
theorem dX2_leapsInside_7 : decode cX2_leapsInside 7 = .ok (.iload 4, 2) := by decide +kernel
theorem dX2_leapsInside_9 : decode cX2_leapsInside 9 = .ok (.iload_n 1, 1) := by decide +kernel
theorem dX2_leapsInside_10 : decode cX2_leapsInside 10 = .ok (.iconst 4, 1) := by decide +kernel
theorem dX2_leapsInside_11 : decode cX2_leapsInside 11 = .ok (.imul, 1) := by decide +kernel
theorem dX2_leapsInside_12 : decode cX2_leapsInside 12 = .ok (.iconst 4, 1) := by decide +kernel
theorem dX2_leapsInside_13 : decode cX2_leapsInside 13 = .ok (.iadd, 1) := by decide +kernel
theorem dX2_leapsInside_14 : decode cX2_leapsInside 14 = .ok (.iconst 1, 1) := by decide +kernel
theorem dX2_leapsInside_15 : decode cX2_leapsInside 15 = .ok (.isub, 1) := by decide +kernel
theorem dX2_leapsInside_16 : decode cX2_leapsInside 16 = .ok (.if_icmp .ge 32, 3) := by decide +kernel
theorem dX2_leapsInside_19 : decode cX2_leapsInside 19 = .ok (.iload_n 3, 1) := by decide +kernel
theorem dX2_leapsInside_20 : decode cX2_leapsInside 20 = .ok (.iload_n 2, 1) := by decide +kernel
theorem dX2_leapsInside_21 : decode cX2_leapsInside 21 = .ok (.aload_n 0, 1) := by decide +kernel
theorem dX2_leapsInside_22 : decode cX2_leapsInside 22 = .ok (.getfield 77, 3) := by decide +kernel
theorem dX2_leapsInside_25 : decode cX2_leapsInside 25 = .ok (.iload 4, 2) := by decide +kernel
theorem dX2_leapsInside_27 : decode cX2_leapsInside 27 = .ok (.iaload, 1) := by decide +kernel
theorem dX2_leapsInside_28 : decode cX2_leapsInside 28 = .ok (.aload_n 0, 1) := by decide +kernel
theorem dX2_leapsInside_29 : decode cX2_leapsInside 29 = .ok (.getfield 77, 3) := by decide +kernel
theorem dX2_leapsInside_32 : decode cX2_leapsInside 32 = .ok (.iload 4, 2) := by decide +kernel
theorem dX2_leapsInside_34 : decode cX2_leapsInside 34 = .ok (.iconst 1, 1) := by decide +kernel
theorem dX2_leapsInside_35 : decode cX2_leapsInside 35 = .ok (.iadd, 1) := by decide +kernel
theorem dX2_leapsInside_36 : decode cX2_leapsInside 36 = .ok (.iaload, 1) := by decide +kernel
theorem dX2_leapsInside_37 : decode cX2_leapsInside 37 = .ok (.invokestatic 80, 3) := by decide +kernel
theorem dX2_leapsInside_40 : decode cX2_leapsInside 40 = .ok (.iadd, 1) := by decide +kernel
theorem dX2_leapsInside_41 : decode cX2_leapsInside 41 = .ok (.istore_n 3, 1) := by decide +kernel
theorem dX2_leapsInside_42 : decode cX2_leapsInside 42 = .ok (.iinc 4 1, 3) := by decide +kernel
theorem dX2_leapsInside_45 : decode cX2_leapsInside 45 = .ok (.goto (-38), 3) := by decide +kernel
theorem dX2_leapsInside_48 : decode cX2_leapsInside 48 = .ok (.iload_n 3, 1) := by decide +kernel
theorem dX2_leapsInside_49 : decode cX2_leapsInside 49 = .ok (.ireturn, 1) := by decide +kernel
set_option maxRecDepth 20000 in
theorem ggX2_leapsInto_X2_leapBetween : GoodIn wsX2_leapsInto wsX2_leapBetween := goodIn_r _ [5, 6, 7, 8, 9, 10, 11, 12, 13, 14, 4, 15] (by decide +kernel) (by decide +kernel)
set_option maxRecDepth 20000 in
theorem gX2_leapsInto_X2_leapBetween : GoodIn wsX2_leapsInto (va_wsS RX2 80 yX2_leapBetween wsX2_leapBetween) := goodIn_app (goodIn_of _ (by decide +kernel)) ggX2_leapsInto_X2_leapBetween
theorem dX2_leapsInto_0 : decode cX2_leapsInto 0 = .ok (.iload_n 1, 1) := by decide +kernel
theorem dX2_leapsInto_1 : decode cX2_leapsInto 1 = .ok (.ifCond .gt 5, 3) := by decide +kernel
theorem dX2_leapsInto_4 : decode cX2_leapsInto 4 = .ok (.iconst 0, 1) := by decide +kernel
theorem dX2_leapsInto_5 : decode cX2_leapsInto 5 = .ok (.ireturn, 1) := by decide +kernel
theorem dX2_leapsInto_6 : decode cX2_leapsInto 6 = .ok (.iload_n 1, 1) := by decide +kernel
theorem dX2_leapsInto_7 : decode cX2_leapsInto 7 = .ok (.iconst 4, 1) := by decide +kernel
theorem dX2_leapsInto_8 : decode cX2_leapsInto 8 = .ok (.imul, 1) := by decide +kernel
theorem dX2_leapsInto_9 : decode cX2_leapsInto 9 = .ok (.istore 4, 2) := by decide +kernel
theorem dX2_leapsInto_11 : decode cX2_leapsInto 11 = .ok (.iload_n 2, 1) := by decide +kernel
theorem dX2_leapsInto_12 : decode cX2_leapsInto 12 = .ok (.ifCond .eq 26, 3) := by decide +kernel
theorem dX2_leapsInto_15 : decode cX2_leapsInto 15 = .ok (.iload_n 3, 1) := by decide +kernel
theorem dX2_leapsInto_16 : decode cX2_leapsInto 16 = .ok (.aload_n 0, 1) := by decide +kernel
theorem dX2_leapsInto_17 : decode cX2_leapsInto 17 = .ok (.getfield 77, 3) := by decide +kernel
theorem dX2_leapsInto_20 : decode cX2_leapsInto 20 = .ok (.iload 4, 2) := by decide +kernel
theorem dX2_leapsInto_22 : decode cX2_leapsInto 22 = .ok (.iconst 1, 1) := by decide +kernel
theorem dX2_leapsInto_23 : decode cX2_leapsInto 23 = .ok (.isub, 1) := by decide +kernel
theorem dX2_leapsInto_24 : decode cX2_leapsInto 24 = .ok (.iaload, 1) := by decide +kernel
theorem dX2_leapsInto_25 : decode cX2_leapsInto 25 = .ok (.aload_n 0, 1) := by decide +kernel
theorem dX2_leapsInto_26 : decode cX2_leapsInto 26 = .ok (.getfield 77, 3) := by decide +kernel
theorem dX2_leapsInto_29 : decode cX2_leapsInto 29 = .ok (.iload 4, 2) := by decide +kernel
theorem dX2_leapsInto_31 : decode cX2_leapsInto 31 = .ok (.iaload, 1) := by decide +kernel
theorem dX2_leapsInto_32 : decode cX2_leapsInto 32 = .ok (.invokestatic 80, 3) := by decide +kernel
theorem dX2_leapsInto_35 : decode cX2_leapsInto 35 = .ok (.goto 4, 3) := by decide +kernel
theorem dX2_leapsInto_38 : decode cX2_leapsInto 38 = .ok (.iconst 2, 1) := by decide +kernel
theorem dX2_leapsInto_39 : decode cX2_leapsInto 39 = .ok (.ireturn, 1) := by decide +kernel
set_option maxRecDepth 20000 in
theorem ggX2_leapBetween_X2_spotOf : GoodIn wsX2_leapBetween wsX2_spotOf := goodIn_r _ [11] (by decide +kernel) (by decide +kernel)
set_option maxRecDepth 20000 in
theorem gX2_leapBetween_X2_spotOf : GoodIn wsX2_leapBetween (va_wsS RX2 84 yX2_spotOf wsX2_spotOf) := goodIn_app (goodIn_of _ (by decide +kernel)) ggX2_leapBetween_X2_spotOf
theorem dX2_leapBetween_0 : decode cX2_leapBetween 0 = .ok (.iload_n 0, 1) := by decide +kernel
theorem dX2_leapBetween_1 : decode cX2_leapBetween 1 = .ok (.iload_n 2, 1) := by decide +kernel
theorem dX2_leapBetween_2 : decode cX2_leapBetween 2 = .ok (.invokestatic 84, 3) := by decide +kernel
theorem dX2_leapBetween_5 : decode cX2_leapBetween 5 = .ok (.iload_n 0, 1) := by decide +kernel
theorem dX2_leapBetween_6 : decode cX2_leapBetween 6 = .ok (.iload_n 1, 1) := by decide +kernel
theorem dX2_leapBetween_7 : decode cX2_leapBetween 7 = .ok (.invokestatic 84, 3) := by decide +kernel
theorem dX2_leapBetween_10 : decode cX2_leapBetween 10 = .ok (.isub, 1) := by decide +kernel
theorem dX2_leapBetween_11 : decode cX2_leapBetween 11 = .ok (.invokestatic 88, 3) := by decide +kernel
theorem dX2_leapBetween_14 : decode cX2_leapBetween 14 = .ok (.istore_n 3, 1) := by decide +kernel
theorem dX2_leapBetween_15 : decode cX2_leapBetween 15 = .ok (.iload_n 3, 1) := by decide +kernel
theorem dX2_leapBetween_16 : decode cX2_leapBetween 16 = .ok (.bipush 12, 2) := by decide +kernel
theorem dX2_leapBetween_18 : decode cX2_leapBetween 18 = .ok (.iload_n 3, 1) := by decide +kernel
theorem dX2_leapBetween_19 : decode cX2_leapBetween 19 = .ok (.isub, 1) := by decide +kernel
theorem dX2_leapBetween_20 : decode cX2_leapBetween 20 = .ok (.invokestatic 94, 3) := by decide +kernel
theorem dX2_leapBetween_23 : decode cX2_leapBetween 23 = .ok (.ireturn, 1) := by decide +kernel
theorem dX2_spotOf_0 : decode cX2_spotOf 0 = .ok (.iload_n 0, 1) := by decide +kernel
theorem dX2_spotOf_1 : decode cX2_spotOf 1 = .ok (.ifCond .ne 13, 3) := by decide +kernel
theorem dX2_spotOf_4 : decode cX2_spotOf 4 = .ok (.bipush 7, 2) := by decide +kernel
theorem dX2_spotOf_6 : decode cX2_spotOf 6 = .ok (.iload_n 1, 1) := by decide +kernel
theorem dX2_spotOf_7 : decode cX2_spotOf 7 = .ok (.imul, 1) := by decide +kernel
theorem dX2_spotOf_8 : decode cX2_spotOf 8 = .ok (.bipush 12, 2) := by decide +kernel
theorem dX2_spotOf_10 : decode cX2_spotOf 10 = .ok (.irem, 1) := by decide +kernel
theorem dX2_spotOf_11 : decode cX2_spotOf 11 = .ok (.goto 12, 3) := by decide +kernel
theorem dX2_spotOf_14 : decode cX2_spotOf 14 = .ok (.iconst 4, 1) := by decide +kernel
theorem dX2_spotOf_15 : decode cX2_spotOf 15 = .ok (.iload_n 1, 1) := by decide +kernel
theorem dX2_spotOf_16 : decode cX2_spotOf 16 = .ok (.iconst 3, 1) := by decide +kernel
theorem dX2_spotOf_17 : decode cX2_spotOf 17 = .ok (.irem, 1) := by decide +kernel
theorem dX2_spotOf_18 : decode cX2_spotOf 18 = .ok (.imul, 1) := by decide +kernel
theorem dX2_spotOf_19 : decode cX2_spotOf 19 = .ok (.iload_n 1, 1) := by decide +kernel
theorem dX2_spotOf_20 : decode cX2_spotOf 20 = .ok (.iconst 3, 1) := by decide +kernel
theorem dX2_spotOf_21 : decode cX2_spotOf 21 = .ok (.idiv, 1) := by decide +kernel
theorem dX2_spotOf_22 : decode cX2_spotOf 22 = .ok (.iadd, 1) := by decide +kernel
theorem dX2_spotOf_23 : decode cX2_spotOf 23 = .ok (.ireturn, 1) := by decide +kernel
set_option maxRecDepth 20000 in
theorem ggX3_init_Jx4a65c_init_da8c8 : GoodIn wsX3_init wsJx4a65c_init_da8c8 := goodIn_r _ [15, 16, 17, 18, 19, 20, 21, 22, 23, 24, 25, 26, 27, 2, 3, 92, 93, 94] (by decide +kernel) (by decide +kernel)
set_option maxRecDepth 20000 in
theorem gX3_init_Jx4a65c_init_da8c8 : GoodIn wsX3_init (wsJx4a65c_init_da8c8) := ggX3_init_Jx4a65c_init_da8c8
set_option maxRecDepth 20000 in
theorem ggX3_init_X1_init : GoodIn wsX3_init wsX1_init := goodIn_r _ [30, 31, 2, 3, 4, 32, 33, 34, 35, 36, 95, 96, 97, 98, 99] (by decide +kernel) (by decide +kernel)
set_option maxRecDepth 20000 in
theorem gX3_init_X1_init : GoodIn wsX3_init (wsX1_init) := ggX3_init_X1_init
set_option maxRecDepth 20000 in
theorem ggX3_init_Jx4a65c_add_9ea2d : GoodIn wsX3_init wsJx4a65c_add_9ea2d := goodIn_r _ [40, 41, 42, 17, 43, 44, 45, 46, 8, 47, 48, 49, 50, 51, 52, 53, 54, 55, 16, 56, 57, 58, 59, 60, 61, 62, 63, 64, 65, 66, 67, 68, 69, 70, 71, 72, 73, 74, 75, 76, 77, 78, 79, 80, 81, 82, 83, 84, 85, 86, 87, 88, 89, 92, 93, 94] (by decide +kernel) (by decide +kernel)
set_option maxRecDepth 20000 in
theorem gX3_init_Jx4a65c_add_9ea2d : GoodIn wsX3_init (wsV RX3 27 RJx4a65c yJx4a65c_add_9ea2d wsJx4a65c_add_9ea2d) := goodIn_app (goodIn_of _ (by decide +kernel)) ggX3_init_Jx4a65c_add_9ea2d
theorem dX3_init_0 : decode cX3_init 0 = .ok (.aload_n 0, 1) := by decide +kernel
theorem dX3_init_1 : decode cX3_init 1 = .ok (.invokespecial 3, 3) := by decide +kernel
theorem dX3_init_4 : decode cX3_init 4 = .ok (.aload_n 0, 1) := by decide +kernel
theorem dX3_init_5 : decode cX3_init 5 = .ok (.iconst 3, 1) := by decide +kernel
theorem dX3_init_6 : decode cX3_init 6 = .ok (.newarray .int, 2) := by decide +kernel
theorem dX3_init_8 : decode cX3_init 8 = .ok (.putfield 9, 3) := by decide +kernel
theorem dX3_init_11 : decode cX3_init 11 = .ok (.aload_n 0, 1) := by decide +kernel
theorem dX3_init_12 : decode cX3_init 12 = .ok (.new 15, 3) := by decide +kernel
theorem dX3_init_15 : decode cX3_init 15 = .ok (.dup, 1) := by decide +kernel
theorem dX3_init_16 : decode cX3_init 16 = .ok (.invokespecial 17, 3) := by decide +kernel
theorem dX3_init_19 : decode cX3_init 19 = .ok (.putfield 18, 3) := by decide +kernel
theorem dX3_init_22 : decode cX3_init 22 = .ok (.iconst 0, 1) := by decide +kernel
theorem dX3_init_23 : decode cX3_init 23 = .ok (.istore_n 1, 1) := by decide +kernel
theorem dX3_init_24 : decode cX3_init 24 = .ok (.iload_n 1, 1) := by decide +kernel
theorem dX3_init_25 : decode cX3_init 25 = .ok (.iconst 3, 1) := by decide +kernel
theorem dX3_init_26 : decode cX3_init 26 = .ok (.if_icmp .ge 25, 3) := by decide +kernel
theorem dX3_init_29 : decode cX3_init 29 = .ok (.aload_n 0, 1) := by decide +kernel
theorem dX3_init_30 : decode cX3_init 30 = .ok (.getfield 18, 3) := by decide +kernel
theorem dX3_init_33 : decode cX3_init 33 = .ok (.new 22, 3) := by decide +kernel
theorem dX3_init_36 : decode cX3_init 36 = .ok (.dup, 1) := by decide +kernel
theorem dX3_init_37 : decode cX3_init 37 = .ok (.iload_n 1, 1) := by decide +kernel
theorem dX3_init_38 : decode cX3_init 38 = .ok (.invokespecial 24, 3) := by decide +kernel
theorem dX3_init_41 : decode cX3_init 41 = .ok (.invokevirtual 27, 3) := by decide +kernel
theorem dX3_init_44 : decode cX3_init 44 = .ok (.pop, 1) := by decide +kernel
theorem dX3_init_45 : decode cX3_init 45 = .ok (.iinc 1 1, 3) := by decide +kernel
theorem dX3_init_48 : decode cX3_init 48 = .ok (.goto (-24), 3) := by decide +kernel
theorem dX3_init_51 : decode cX3_init 51 = .ok (.return_, 1) := by decide +kernel
set_option maxRecDepth 20000 in
theorem ggX3_findRow_X3_fillRow : GoodIn wsX3_findRow wsX3_fillRow := goodIn_r _ [6, 7, 8, 9, 10, 11, 12, 13, 14, 15, 16, 17, 18, 19, 20, 21, 22, 23, 24, 25, 26, 27, 28, 29, 30, 31, 32, 33, 34, 35, 36, 37, 38, 39, 40, 41, 42, 43, 44, 45, 46, 47, 48, 49, 50, 51, 52, 53, 54, 55, 56, 57, 58, 3, 4, 5, 61, 62, 63, 64, 65, 66, 67, 68] (by decide +kernel) (by decide +kernel)
set_option maxRecDepth 20000 in
theorem gX3_findRow_X3_fillRow : GoodIn wsX3_findRow (va_wsS RX3 31 yX3_fillRow wsX3_fillRow) := goodIn_app (goodIn_of _ (by decide +kernel)) ggX3_findRow_X3_fillRow
theorem dX3_findRow_0 : decode cX3_findRow 0 = .ok (.iconst 0, 1) := by decide +kernel
theorem dX3_findRow_1 : decode cX3_findRow 1 = .ok (.istore_n 3, 1) := by decide +kernel
theorem dX3_findRow_2 : decode cX3_findRow 2 = .ok (.iload_n 3, 1) := by decide +kernel
theorem dX3_findRow_3 : decode cX3_findRow 3 = .ok (.iconst 3, 1) := by decide +kernel
theorem dX3_findRow_4 : decode cX3_findRow 4 = .ok (.if_icmp .gt 29, 3) := by decide +kernel
theorem dX3_findRow_7 : decode cX3_findRow 7 = .ok (.aload_n 1, 1) := by decide +kernel
theorem dX3_findRow_8 : decode cX3_findRow 8 = .ok (.aload_n 0, 1) := by decide +kernel
