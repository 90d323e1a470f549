theorem dX7_ofPlayer_55 : decode cX7_ofPlayer 55 = .ok (.invokevirtual 146, 3) := by decide +kernel
theorem dX7_ofPlayer_58 : decode cX7_ofPlayer 58 = .ok (.goto 9, 3) := by decide +kernel
theorem dX7_ofPlayer_61 : decode cX7_ofPlayer 61 = .ok (.aload_n 0, 1) := by decide +kernel
theorem dX7_ofPlayer_62 : decode cX7_ofPlayer 62 = .ok (.getfield 32, 3) := by decide +kernel
theorem dX7_ofPlayer_65 : decode cX7_ofPlayer 65 = .ok (.iload_n 1, 1) := by decide +kernel
theorem dX7_ofPlayer_66 : decode cX7_ofPlayer 66 = .ok (.iaload, 1) := by decide +kernel
theorem dX7_ofPlayer_67 : decode cX7_ofPlayer 67 = .ok (.ireturn, 1) := by decide +kernel
set_option maxRecDepth 20000 in
theorem ggX7_note_X7_isBand : GoodIn wsX7_note wsX7_isBand := goodIn_r _ [6, 7, 8, 5, 9] (by decide +kernel) (by decide +kernel)
set_option maxRecDepth 20000 in
theorem gX7_note_X7_isBand : GoodIn wsX7_note (va_wsS RX7 101 yX7_isBand wsX7_isBand) := goodIn_app (goodIn_of _ (by decide +kernel)) ggX7_note_X7_isBand
set_option maxRecDepth 20000 in
theorem ggX7_note_X7_isIn : GoodIn wsX7_note wsX7_isIn := goodIn_r _ [9] (by decide +kernel) (by decide +kernel)
set_option maxRecDepth 20000 in
theorem gX7_note_X7_isIn : GoodIn wsX7_note (va_wsS RX7 90 yX7_isIn wsX7_isIn) := goodIn_app (goodIn_of _ (by decide +kernel)) ggX7_note_X7_isIn
set_option maxRecDepth 20000 in
theorem ggX7_note_X7_holds : GoodIn wsX7_note wsX7_holds := goodIn_r _ [13, 14, 15, 16, 17, 18, 19, 20, 21, 22, 23, 24, 25, 26, 27, 28, 29, 30, 31, 32, 33, 34, 35, 36, 37, 38, 39, 40, 41, 42, 43] (by decide +kernel) (by decide +kernel)
set_option maxRecDepth 20000 in
theorem gX7_note_X7_holds : GoodIn wsX7_note (wsV RX7 104 RX7 yX7_holds wsX7_holds) := goodIn_app (goodIn_of _ (by decide +kernel)) ggX7_note_X7_holds
theorem dX7_note_0 : decode cX7_note 0 = .ok (.aload_n 0, 1) := by decide +kernel
theorem dX7_note_1 : decode cX7_note 1 = .ok (.iload_n 1, 1) := by decide +kernel
theorem dX7_note_2 : decode cX7_note 2 = .ok (.invokestatic 101, 3) := by decide +kernel
theorem dX7_note_5 : decode cX7_note 5 = .ok (.ifCond .ne 7, 3) := by decide +kernel
theorem dX7_note_8 : decode cX7_note 8 = .ok (.iconst 1, 1) := by decide +kernel
theorem dX7_note_9 : decode cX7_note 9 = .ok (.goto 33, 3) := by decide +kernel
theorem dX7_note_12 : decode cX7_note 12 = .ok (.iload_n 2, 1) := by decide +kernel
theorem dX7_note_13 : decode cX7_note 13 = .ok (.iconst 0, 1) := by decide +kernel
theorem dX7_note_14 : decode cX7_note 14 = .ok (.bipush 11, 2) := by decide +kernel
theorem dX7_note_16 : decode cX7_note 16 = .ok (.invokestatic 90, 3) := by decide +kernel
theorem dX7_note_19 : decode cX7_note 19 = .ok (.ifCond .ne 7, 3) := by decide +kernel
theorem dX7_note_22 : decode cX7_note 22 = .ok (.iconst 2, 1) := by decide +kernel
theorem dX7_note_23 : decode cX7_note 23 = .ok (.goto 19, 3) := by decide +kernel
theorem dX7_note_26 : decode cX7_note 26 = .ok (.aload_n 0, 1) := by decide +kernel
theorem dX7_note_27 : decode cX7_note 27 = .ok (.getfield 47, 3) := by decide +kernel
theorem dX7_note_30 : decode cX7_note 30 = .ok (.iload_n 1, 1) := by decide +kernel
theorem dX7_note_31 : decode cX7_note 31 = .ok (.iaload, 1) := by decide +kernel
theorem dX7_note_32 : decode cX7_note 32 = .ok (.bipush 24, 2) := by decide +kernel
theorem dX7_note_34 : decode cX7_note 34 = .ok (.if_icmp .ne 7, 3) := by decide +kernel
theorem dX7_note_37 : decode cX7_note 37 = .ok (.iconst 3, 1) := by decide +kernel
theorem dX7_note_38 : decode cX7_note 38 = .ok (.goto 4, 3) := by decide +kernel
theorem dX7_note_41 : decode cX7_note 41 = .ok (.iconst 0, 1) := by decide +kernel
theorem dX7_note_42 : decode cX7_note 42 = .ok (.invokevirtual 104, 3) := by decide +kernel
theorem dX7_note_45 : decode cX7_note 45 = .ok (.ifCond .ne 5, 3) := by decide +kernel
theorem dX7_note_48 : decode cX7_note 48 = .ok (.iconst 0, 1) := by decide +kernel
theorem dX7_note_49 : decode cX7_note 49 = .ok (.ireturn, 1) := by decide +kernel
theorem dX7_note_50 : decode cX7_note 50 = .ok (.aload_n 0, 1) := by decide +kernel
theorem dX7_note_51 : decode cX7_note 51 = .ok (.getfield 50, 3) := by decide +kernel
theorem dX7_note_54 : decode cX7_note 54 = .ok (.bipush 24, 2) := by decide +kernel
theorem dX7_note_56 : decode cX7_note 56 = .ok (.iload_n 1, 1) := by decide +kernel
theorem dX7_note_57 : decode cX7_note 57 = .ok (.imul, 1) := by decide +kernel
theorem dX7_note_58 : decode cX7_note 58 = .ok (.aload_n 0, 1) := by decide +kernel
theorem dX7_note_59 : decode cX7_note 59 = .ok (.getfield 47, 3) := by decide +kernel
theorem dX7_note_62 : decode cX7_note 62 = .ok (.iload_n 1, 1) := by decide +kernel
theorem dX7_note_63 : decode cX7_note 63 = .ok (.iaload, 1) := by decide +kernel
theorem dX7_note_64 : decode cX7_note 64 = .ok (.iadd, 1) := by decide +kernel
theorem dX7_note_65 : decode cX7_note 65 = .ok (.iload_n 2, 1) := by decide +kernel
theorem dX7_note_66 : decode cX7_note 66 = .ok (.iastore, 1) := by decide +kernel
theorem dX7_note_67 : decode cX7_note 67 = .ok (.aload_n 0, 1) := by decide +kernel
theorem dX7_note_68 : decode cX7_note 68 = .ok (.getfield 47, 3) := by decide +kernel
theorem dX7_note_71 : decode cX7_note 71 = .ok (.iload_n 1, 1) := by decide +kernel
theorem dX7_note_72 : decode cX7_note 72 = .ok (.dup2, 1) := by decide +kernel
theorem dX7_note_73 : decode cX7_note 73 = .ok (.iaload, 1) := by decide +kernel
theorem dX7_note_74 : decode cX7_note 74 = .ok (.iconst 1, 1) := by decide +kernel
theorem dX7_note_75 : decode cX7_note 75 = .ok (.iadd, 1) := by decide +kernel
theorem dX7_note_76 : decode cX7_note 76 = .ok (.iastore, 1) := by decide +kernel
theorem dX7_note_77 : decode cX7_note 77 = .ok (.aload_n 0, 1) := by decide +kernel
theorem dX7_note_78 : decode cX7_note 78 = .ok (.getfield 47, 3) := by decide +kernel
theorem dX7_note_81 : decode cX7_note 81 = .ok (.iload_n 1, 1) := by decide +kernel
theorem dX7_note_82 : decode cX7_note 82 = .ok (.iaload, 1) := by decide +kernel
theorem dX7_note_83 : decode cX7_note 83 = .ok (.ireturn, 1) := by decide +kernel
theorem dX7_at_0 : decode cX7_at 0 = .ok (.bipush 6, 2) := by decide +kernel
theorem dX7_at_2 : decode cX7_at 2 = .ok (.bipush 8, 2) := by decide +kernel
theorem dX7_at_4 : decode cX7_at 4 = .ok (.iload_n 1, 1) := by decide +kernel
theorem dX7_at_5 : decode cX7_at 5 = .ok (.imul, 1) := by decide +kernel
theorem dX7_at_6 : decode cX7_at 6 = .ok (.iload_n 2, 1) := by decide +kernel
theorem dX7_at_7 : decode cX7_at 7 = .ok (.iadd, 1) := by decide +kernel
theorem dX7_at_8 : decode cX7_at 8 = .ok (.imul, 1) := by decide +kernel
theorem dX7_at_9 : decode cX7_at 9 = .ok (.iload_n 3, 1) := by decide +kernel
theorem dX7_at_10 : decode cX7_at 10 = .ok (.iadd, 1) := by decide +kernel
theorem dX7_at_11 : decode cX7_at 11 = .ok (.ireturn, 1) := by decide +kernel
set_option maxRecDepth 20000 in
theorem ggX7_change_X7_isBand : GoodIn wsX7_change wsX7_isBand := goodIn_r _ [8, 9, 10, 7, 11] (by decide +kernel) (by decide +kernel)
set_option maxRecDepth 20000 in
theorem gX7_change_X7_isBand : GoodIn wsX7_change (va_wsS RX7 101 yX7_isBand wsX7_isBand) := goodIn_app (goodIn_of _ (by decide +kernel)) ggX7_change_X7_isBand
set_option maxRecDepth 20000 in
theorem ggX7_change_X7_isIn : GoodIn wsX7_change wsX7_isIn := goodIn_r _ [11] (by decide +kernel) (by decide +kernel)
set_option maxRecDepth 20000 in
theorem gX7_change_X7_isIn : GoodIn wsX7_change (va_wsS RX7 90 yX7_isIn wsX7_isIn) := goodIn_app (goodIn_of _ (by decide +kernel)) ggX7_change_X7_isIn
set_option maxRecDepth 20000 in
theorem ggX7_change_X7_holds : GoodIn wsX7_change wsX7_holds := goodIn_r _ [15, 16, 21, 22, 23, 24, 25, 26, 27, 28, 29, 30, 31, 32, 33, 34, 35, 36, 37, 38, 39, 40, 41, 42, 43, 44, 45, 46, 47, 48, 49] (by decide +kernel) (by decide +kernel)
set_option maxRecDepth 20000 in
theorem gX7_change_X7_holds : GoodIn wsX7_change (wsV RX7 104 RX7 yX7_holds wsX7_holds) := goodIn_app (goodIn_of _ (by decide +kernel)) ggX7_change_X7_holds
set_option maxRecDepth 20000 in
theorem ggX7_change_X7_at : GoodIn wsX7_change wsX7_at := goodIn_r _ [20] (by decide +kernel) (by decide +kernel)
set_option maxRecDepth 20000 in
theorem gX7_change_X7_at : GoodIn wsX7_change (wsV RX7 153 RX7 yX7_at wsX7_at) := goodIn_app (goodIn_of _ (by decide +kernel)) ggX7_change_X7_at
theorem dX7_change_0 : decode cX7_change 0 = .ok (.iload_n 1, 1) := by decide +kernel
theorem dX7_change_1 : decode cX7_change 1 = .ok (.invokestatic 101, 3) := by decide +kernel
theorem dX7_change_4 : decode cX7_change 4 = .ok (.ifCond .eq 23, 3) := by decide +kernel
theorem dX7_change_7 : decode cX7_change 7 = .ok (.iload_n 2, 1) := by decide +kernel
theorem dX7_change_8 : decode cX7_change 8 = .ok (.iconst 0, 1) := by decide +kernel
theorem dX7_change_9 : decode cX7_change 9 = .ok (.aload_n 0, 1) := by decide +kernel
theorem dX7_change_10 : decode cX7_change 10 = .ok (.getfield 47, 3) := by decide +kernel
theorem dX7_change_13 : decode cX7_change 13 = .ok (.iload_n 1, 1) := by decide +kernel
theorem dX7_change_14 : decode cX7_change 14 = .ok (.iaload, 1) := by decide +kernel
theorem dX7_change_15 : decode cX7_change 15 = .ok (.iconst 1, 1) := by decide +kernel
theorem dX7_change_16 : decode cX7_change 16 = .ok (.isub, 1) := by decide +kernel
theorem dX7_change_17 : decode cX7_change 17 = .ok (.invokestatic 90, 3) := by decide +kernel
theorem dX7_change_20 : decode cX7_change 20 = .ok (.ifCond .eq 7, 3) := by decide +kernel
theorem dX7_change_23 : decode cX7_change 23 = .ok (.iconst 1, 1) := by decide +kernel
theorem dX7_change_24 : decode cX7_change 24 = .ok (.goto 4, 3) := by decide +kernel
theorem dX7_change_27 : decode cX7_change 27 = .ok (.iconst 0, 1) := by decide +kernel
theorem dX7_change_28 : decode cX7_change 28 = .ok (.istore 4, 2) := by decide +kernel
theorem dX7_change_30 : decode cX7_change 30 = .ok (.aload_n 0, 1) := by decide +kernel
theorem dX7_change_31 : decode cX7_change 31 = .ok (.iload 4, 2) := by decide +kernel
theorem dX7_change_33 : decode cX7_change 33 = .ok (.ifCond .ne 7, 3) := by decide +kernel
theorem dX7_change_36 : decode cX7_change 36 = .ok (.iconst 1, 1) := by decide +kernel
theorem dX7_change_37 : decode cX7_change 37 = .ok (.goto 18, 3) := by decide +kernel
theorem dX7_change_40 : decode cX7_change 40 = .ok (.iload_n 3, 1) := by decide +kernel
theorem dX7_change_41 : decode cX7_change 41 = .ok (.iconst 0, 1) := by decide +kernel
theorem dX7_change_42 : decode cX7_change 42 = .ok (.bipush 11, 2) := by decide +kernel
theorem dX7_change_44 : decode cX7_change 44 = .ok (.invokestatic 90, 3) := by decide +kernel
theorem dX7_change_47 : decode cX7_change 47 = .ok (.ifCond .eq 7, 3) := by decide +kernel
theorem dX7_change_50 : decode cX7_change 50 = .ok (.iconst 0, 1) := by decide +kernel
theorem dX7_change_51 : decode cX7_change 51 = .ok (.goto 4, 3) := by decide +kernel
theorem dX7_change_54 : decode cX7_change 54 = .ok (.iconst 2, 1) := by decide +kernel
theorem dX7_change_55 : decode cX7_change 55 = .ok (.invokevirtual 104, 3) := by decide +kernel
theorem dX7_change_58 : decode cX7_change 58 = .ok (.ifCond .ne 5, 3) := by decide +kernel
theorem dX7_change_61 : decode cX7_change 61 = .ok (.iconst 0, 1) := by decide +kernel
theorem dX7_change_62 : decode cX7_change 62 = .ok (.ireturn, 1) := by decide +kernel
theorem dX7_change_63 : decode cX7_change 63 = .ok (.aload_n 0, 1) := by decide +kernel
theorem dX7_change_64 : decode cX7_change 64 = .ok (.getfield 50, 3) := by decide +kernel
theorem dX7_change_67 : decode cX7_change 67 = .ok (.bipush 24, 2) := by decide +kernel
theorem dX7_change_69 : decode cX7_change 69 = .ok (.iload_n 1, 1) := by decide +kernel
theorem dX7_change_70 : decode cX7_change 70 = .ok (.imul, 1) := by decide +kernel
theorem dX7_change_71 : decode cX7_change 71 = .ok (.iload_n 2, 1) := by decide +kernel
theorem dX7_change_72 : decode cX7_change 72 = .ok (.iadd, 1) := by decide +kernel
theorem dX7_change_73 : decode cX7_change 73 = .ok (.iaload, 1) := by decide +kernel
theorem dX7_change_74 : decode cX7_change 74 = .ok (.istore 5, 2) := by decide +kernel
theorem dX7_change_76 : decode cX7_change 76 = .ok (.aload_n 0, 1) := by decide +kernel
theorem dX7_change_77 : decode cX7_change 77 = .ok (.getfield 50, 3) := by decide +kernel
theorem dX7_change_80 : decode cX7_change 80 = .ok (.bipush 24, 2) := by decide +kernel
theorem dX7_change_82 : decode cX7_change 82 = .ok (.iload_n 1, 1) := by decide +kernel
theorem dX7_change_83 : decode cX7_change 83 = .ok (.imul, 1) := by decide +kernel
theorem dX7_change_84 : decode cX7_change 84 = .ok (.iload_n 2, 1) := by decide +kernel
theorem dX7_change_85 : decode cX7_change 85 = .ok (.iadd, 1) := by decide +kernel
theorem dX7_change_86 : decode cX7_change 86 = .ok (.iload_n 3, 1) := by decide +kernel
theorem dX7_change_87 : decode cX7_change 87 = .ok (.iastore, 1) := by decide +kernel
theorem dX7_change_88 : decode cX7_change 88 = .ok (.iconst 0, 1) := by decide +kernel
theorem dX7_change_89 : decode cX7_change 89 = .ok (.istore 6, 2) := by decide +kernel
theorem dX7_change_91 : decode cX7_change 91 = .ok (.iload 6, 2) := by decide +kernel
theorem dX7_change_93 : decode cX7_change 93 = .ok (.aload_n 0, 1) := by decide +kernel
theorem dX7_change_94 : decode cX7_change 94 = .ok (.getfield 41, 3) := by decide +kernel
theorem dX7_change_97 : decode cX7_change 97 = .ok (.iload_n 1, 1) := by decide +kernel
theorem dX7_change_98 : decode cX7_change 98 = .ok (.iaload, 1) := by decide +kernel
theorem dX7_change_99 : decode cX7_change 99 = .ok (.if_icmp .ge 56, 3) := by decide +kernel
theorem dX7_change_102 : decode cX7_change 102 = .ok (.iload 5, 2) := by decide +kernel
theorem dX7_change_104 : decode cX7_change 104 = .ok (.iload_n 3, 1) := by decide +kernel
theorem dX7_change_105 : decode cX7_change 105 = .ok (.if_icmp .eq 50, 3) := by decide +kernel
theorem dX7_change_108 : decode cX7_change 108 = .ok (.aload_n 0, 1) := by decide +kernel
theorem dX7_change_109 : decode cX7_change 109 = .ok (.iload_n 1, 1) := by decide +kernel
theorem dX7_change_110 : decode cX7_change 110 = .ok (.iload 6, 2) := by decide +kernel
theorem dX7_change_112 : decode cX7_change 112 = .ok (.iload_n 2, 1) := by decide +kernel
theorem dX7_change_113 : decode cX7_change 113 = .ok (.iconst 4, 1) := by decide +kernel
theorem dX7_change_114 : decode cX7_change 114 = .ok (.idiv, 1) := by decide +kernel
theorem dX7_change_115 : decode cX7_change 115 = .ok (.invokevirtual 153, 3) := by decide +kernel
theorem dX7_change_118 : decode cX7_change 118 = .ok (.istore 7, 2) := by decide +kernel
theorem dX7_change_120 : decode cX7_change 120 = .ok (.aload_n 0, 1) := by decide +kernel
theorem dX7_change_121 : decode cX7_change 121 = .ok (.getfield 53, 3) := by decide +kernel
theorem dX7_change_124 : decode cX7_change 124 = .ok (.iload 7, 2) := by decide +kernel
theorem dX7_change_126 : decode cX7_change 126 = .ok (.aload_n 0, 1) := by decide +kernel
theorem dX7_change_127 : decode cX7_change 127 = .ok (.getfield 53, 3) := by decide +kernel
theorem dX7_change_130 : decode cX7_change 130 = .ok (.iload 7, 2) := by decide +kernel
theorem dX7_change_132 : decode cX7_change 132 = .ok (.iaload, 1) := by decide +kernel
theorem dX7_change_133 : decode cX7_change 133 = .ok (.iconst 1, 1) := by decide +kernel
theorem dX7_change_134 : decode cX7_change 134 = .ok (.if_icmp .ne 7, 3) := by decide +kernel
theorem dX7_change_137 : decode cX7_change 137 = .ok (.iconst 2, 1) := by decide +kernel
theorem dX7_change_138 : decode cX7_change 138 = .ok (.goto 10, 3) := by decide +kernel
theorem dX7_change_141 : decode cX7_change 141 = .ok (.aload_n 0, 1) := by decide +kernel
theorem dX7_change_142 : decode cX7_change 142 = .ok (.getfield 53, 3) := by decide +kernel
theorem dX7_change_145 : decode cX7_change 145 = .ok (.iload 7, 2) := by decide +kernel
theorem dX7_change_147 : decode cX7_change 147 = .ok (.iaload, 1) := by decide +kernel
theorem dX7_change_148 : decode cX7_change 148 = .ok (.iastore, 1) := by decide +kernel
theorem dX7_change_149 : decode cX7_change 149 = .ok (.iinc 6 1, 3) := by decide +kernel
theorem dX7_change_152 : decode cX7_change 152 = .ok (.goto (-61), 3) := by decide +kernel
theorem dX7_change_155 : decode cX7_change 155 = .ok (.iload 5, 2) := by decide +kernel
theorem dX7_change_157 : decode cX7_change 157 = .ok (.ireturn, 1) := by decide +kernel
set_option maxRecDepth 20000 in
theorem ggX7_tell_X7_isSeat : GoodIn wsX7_tell wsX7_isSeat := goodIn_r _ [6, 7, 8, 9, 5, 10, 11, 12, 13, 28, 29, 30, 31, 32, 33, 34, 35, 36, 37, 38, 39, 40, 41, 42, 43, 44, 45, 46, 47, 48, 49, 50, 51, 52, 53, 54, 55, 56] (by decide +kernel) (by decide +kernel)
set_option maxRecDepth 20000 in
theorem gX7_tell_X7_isSeat : GoodIn wsX7_tell (wsV RX7 157 RX7 yX7_isSeat wsX7_isSeat) := goodIn_app (goodIn_of _ (by decide +kernel)) ggX7_tell_X7_isSeat
set_option maxRecDepth 20000 in
theorem ggX7_tell_X7_isPhrase : GoodIn wsX7_tell wsX7_isPhrase := goodIn_r _ [17, 18, 8, 9, 5, 10, 11, 12, 13, 28, 29, 30, 31, 32, 33, 34, 35, 36, 37, 38, 39, 40, 41, 42, 43, 44, 45, 46, 47, 48, 49, 50, 51, 52, 53, 54, 55, 56] (by decide +kernel) (by decide +kernel)
set_option maxRecDepth 20000 in
theorem gX7_tell_X7_isPhrase : GoodIn wsX7_tell (wsV RX7 160 RX7 yX7_isPhrase wsX7_isPhrase) := goodIn_app (goodIn_of _ (by decide +kernel)) ggX7_tell_X7_isPhrase
set_option maxRecDepth 20000 in
theorem ggX7_tell_X7_holds : GoodIn wsX7_tell wsX7_holds := goodIn_r _ [22, 23, 28, 29, 30, 31, 32, 33, 34, 35, 36, 37, 38, 39, 40, 41, 42, 43, 44, 45, 46, 47, 48, 49, 50, 51, 52, 53, 54, 55, 56] (by decide +kernel) (by decide +kernel)
set_option maxRecDepth 20000 in
theorem gX7_tell_X7_holds : GoodIn wsX7_tell (wsV RX7 104 RX7 yX7_holds wsX7_holds) := goodIn_app (goodIn_of _ (by decide +kernel)) ggX7_tell_X7_holds
set_option maxRecDepth 20000 in
theorem ggX7_tell_X7_at : GoodIn wsX7_tell wsX7_at := goodIn_r _ [27] (by decide +kernel) (by decide +kernel)
set_option maxRecDepth 20000 in
theorem gX7_tell_X7_at : GoodIn wsX7_tell (wsV RX7 153 RX7 yX7_at wsX7_at) := goodIn_app (goodIn_of _ (by decide +kernel)) ggX7_tell_X7_at
theorem dX7_tell_0 : decode cX7_tell 0 = .ok (.aload_n 0, 1) := by decide +kernel
theorem dX7_tell_1 : decode cX7_tell 1 = .ok (.aload_n 0, 1) := by decide +kernel
theorem dX7_tell_2 : decode cX7_tell 2 = .ok (.iload_n 1, 1) := by decide +kernel
theorem dX7_tell_3 : decode cX7_tell 3 = .ok (.iload_n 2, 1) := by decide +kernel
theorem dX7_tell_4 : decode cX7_tell 4 = .ok (.invokevirtual 157, 3) := by decide +kernel
theorem dX7_tell_7 : decode cX7_tell 7 = .ok (.ifCond .eq 16, 3) := by decide +kernel
theorem dX7_tell_10 : decode cX7_tell 10 = .ok (.aload_n 0, 1) := by decide +kernel
theorem dX7_tell_11 : decode cX7_tell 11 = .ok (.iload_n 1, 1) := by decide +kernel
theorem dX7_tell_12 : decode cX7_tell 12 = .ok (.iload_n 3, 1) := by decide +kernel
theorem dX7_tell_13 : decode cX7_tell 13 = .ok (.invokevirtual 160, 3) := by decide +kernel
theorem dX7_tell_16 : decode cX7_tell 16 = .ok (.ifCond .eq 7, 3) := by decide +kernel
theorem dX7_tell_19 : decode cX7_tell 19 = .ok (.iconst 0, 1) := by decide +kernel
theorem dX7_tell_20 : decode cX7_tell 20 = .ok (.goto 4, 3) := by decide +kernel
theorem dX7_tell_23 : decode cX7_tell 23 = .ok (.iconst 1, 1) := by decide +kernel
theorem dX7_tell_24 : decode cX7_tell 24 = .ok (.invokevirtual 104, 3) := by decide +kernel
theorem dX7_tell_27 : decode cX7_tell 27 = .ok (.ifCond .ne 5, 3) := by decide +kernel
theorem dX7_tell_30 : decode cX7_tell 30 = .ok (.iconst 0, 1) := by decide +kernel
theorem dX7_tell_31 : decode cX7_tell 31 = .ok (.ireturn, 1) := by decide +kernel
theorem dX7_tell_32 : decode cX7_tell 32 = .ok (.aload_n 0, 1) := by decide +kernel
theorem dX7_tell_33 : decode cX7_tell 33 = .ok (.getfield 53, 3) := by decide +kernel
theorem dX7_tell_36 : decode cX7_tell 36 = .ok (.aload_n 0, 1) := by decide +kernel
theorem dX7_tell_37 : decode cX7_tell 37 = .ok (.iload_n 1, 1) := by decide +kernel
theorem dX7_tell_38 : decode cX7_tell 38 = .ok (.iload_n 2, 1) := by decide +kernel
theorem dX7_tell_39 : decode cX7_tell 39 = .ok (.iload_n 3, 1) := by decide +kernel
theorem dX7_tell_40 : decode cX7_tell 40 = .ok (.invokevirtual 153, 3) := by decide +kernel
theorem dX7_tell_43 : decode cX7_tell 43 = .ok (.iaload, 1) := by decide +kernel
theorem dX7_tell_44 : decode cX7_tell 44 = .ok (.istore 4, 2) := by decide +kernel
theorem dX7_tell_46 : decode cX7_tell 46 = .ok (.aload_n 0, 1) := by decide +kernel
theorem dX7_tell_47 : decode cX7_tell 47 = .ok (.getfield 53, 3) := by decide +kernel
theorem dX7_tell_50 : decode cX7_tell 50 = .ok (.aload_n 0, 1) := by decide +kernel
theorem dX7_tell_51 : decode cX7_tell 51 = .ok (.iload_n 1, 1) := by decide +kernel
theorem dX7_tell_52 : decode cX7_tell 52 = .ok (.iload_n 2, 1) := by decide +kernel
theorem dX7_tell_53 : decode cX7_tell 53 = .ok (.iload_n 3, 1) := by decide +kernel
theorem dX7_tell_54 : decode cX7_tell 54 = .ok (.invokevirtual 153, 3) := by decide +kernel
theorem dX7_tell_57 : decode cX7_tell 57 = .ok (.iconst 1, 1) := by decide +kernel
theorem dX7_tell_58 : decode cX7_tell 58 = .ok (.iastore, 1) := by decide +kernel
theorem dX7_tell_59 : decode cX7_tell 59 = .ok (.iload 4, 2) := by decide +kernel
theorem dX7_tell_61 : decode cX7_tell 61 = .ok (.ireturn, 1) := by decide +kernel
set_option maxRecDepth 20000 in
theorem ggX7_knownBy_X7_isSeat : GoodIn wsX7_knownBy wsX7_isSeat := goodIn_r _ [6, 7, 8, 9, 5, 10, 11, 12, 13, 18, 19, 20, 21, 22, 23, 24, 25, 26, 27, 28, 29, 30, 31, 32, 33, 34, 35, 36, 37, 38, 39, 40, 41, 42, 43, 44, 45, 46] (by decide +kernel) (by decide +kernel)
set_option maxRecDepth 20000 in
theorem gX7_knownBy_X7_isSeat : GoodIn wsX7_knownBy (wsV RX7 157 RX7 yX7_isSeat wsX7_isSeat) := goodIn_app (goodIn_of _ (by decide +kernel)) ggX7_knownBy_X7_isSeat
set_option maxRecDepth 20000 in
theorem ggX7_knownBy_X7_at : GoodIn wsX7_knownBy wsX7_at := goodIn_r _ [17] (by decide +kernel) (by decide +kernel)
set_option maxRecDepth 20000 in
theorem gX7_knownBy_X7_at : GoodIn wsX7_knownBy (wsV RX7 153 RX7 yX7_at wsX7_at) := goodIn_app (goodIn_of _ (by decide +kernel)) ggX7_knownBy_X7_at
theorem dX7_knownBy_0 : decode cX7_knownBy 0 = .ok (.aload_n 0, 1) := by decide +kernel
theorem dX7_knownBy_1 : decode cX7_knownBy 1 = .ok (.iload_n 1, 1) := by decide +kernel
theorem dX7_knownBy_2 : decode cX7_knownBy 2 = .ok (.iload_n 2, 1) := by decide +kernel
theorem dX7_knownBy_3 : decode cX7_knownBy 3 = .ok (.invokevirtual 157, 3) := by decide +kernel
theorem dX7_knownBy_6 : decode cX7_knownBy 6 = .ok (.ifCond .eq 18, 3) := by decide +kernel
theorem dX7_knownBy_9 : decode cX7_knownBy 9 = .ok (.aload_n 0, 1) := by decide +kernel
theorem dX7_knownBy_10 : decode cX7_knownBy 10 = .ok (.getfield 53, 3) := by decide +kernel
theorem dX7_knownBy_13 : decode cX7_knownBy 13 = .ok (.aload_n 0, 1) := by decide +kernel
theorem dX7_knownBy_14 : decode cX7_knownBy 14 = .ok (.iload_n 1, 1) := by decide +kernel
theorem dX7_knownBy_15 : decode cX7_knownBy 15 = .ok (.iload_n 2, 1) := by decide +kernel
theorem dX7_knownBy_16 : decode cX7_knownBy 16 = .ok (.iload_n 3, 1) := by decide +kernel
theorem dX7_knownBy_17 : decode cX7_knownBy 17 = .ok (.invokevirtual 153, 3) := by decide +kernel
theorem dX7_knownBy_20 : decode cX7_knownBy 20 = .ok (.iaload, 1) := by decide +kernel
theorem dX7_knownBy_21 : decode cX7_knownBy 21 = .ok (.goto 4, 3) := by decide +kernel
theorem dX7_knownBy_24 : decode cX7_knownBy 24 = .ok (.iconst 0, 1) := by decide +kernel
theorem dX7_knownBy_25 : decode cX7_knownBy 25 = .ok (.ireturn, 1) := by decide +kernel
set_option maxRecDepth 20000 in
theorem ggX7_learns_X7_knownBy : GoodIn wsX7_learns wsX7_knownBy := goodIn_r _ [6, 7, 8, 9, 10, 5, 11, 12, 13, 14, 15, 16, 17, 18, 19, 20, 21, 22, 31, 32, 33, 34, 35, 36, 37, 38, 39, 40, 41, 42, 43, 44, 45, 46, 47, 48, 49, 50, 51, 52, 53, 54, 55, 56, 57, 58, 59] (by decide +kernel) (by decide +kernel)
set_option maxRecDepth 20000 in
theorem gX7_learns_X7_knownBy : GoodIn wsX7_learns (wsV RX7 163 RX7 yX7_knownBy wsX7_knownBy) := goodIn_app (goodIn_of _ (by decide +kernel)) ggX7_learns_X7_knownBy
set_option maxRecDepth 20000 in
theorem ggX7_learns_X7_bandsOf : GoodIn wsX7_learns wsX7_bandsOf := goodIn_r _ [26, 27, 28, 29, 5, 30, 12, 1, 31, 32, 33, 34, 35, 36, 37, 38, 39, 40, 41, 42, 43, 44, 45, 46, 47, 48, 49, 50, 51, 52, 53, 54, 55, 56, 57, 58, 59] (by decide +kernel) (by decide +kernel)
set_option maxRecDepth 20000 in
theorem gX7_learns_X7_bandsOf : GoodIn wsX7_learns (wsV RX7 146 RX7 yX7_bandsOf wsX7_bandsOf) := goodIn_app (goodIn_of _ (by decide +kernel)) ggX7_learns_X7_bandsOf
theorem dX7_learns_0 : decode cX7_learns 0 = .ok (.aload_n 0, 1) := by decide +kernel
theorem dX7_learns_1 : decode cX7_learns 1 = .ok (.iload_n 1, 1) := by decide +kernel
theorem dX7_learns_2 : decode cX7_learns 2 = .ok (.iload_n 2, 1) := by decide +kernel
theorem dX7_learns_3 : decode cX7_learns 3 = .ok (.iload_n 3, 1) := by decide +kernel
theorem dX7_learns_4 : decode cX7_learns 4 = .ok (.invokevirtual 163, 3) := by decide +kernel
theorem dX7_learns_7 : decode cX7_learns 7 = .ok (.istore 4, 2) := by decide +kernel
theorem dX7_learns_9 : decode cX7_learns 9 = .ok (.aload_n 0, 1) := by decide +kernel
theorem dX7_learns_10 : decode cX7_learns 10 = .ok (.iload_n 1, 1) := by decide +kernel
theorem dX7_learns_11 : decode cX7_learns 11 = .ok (.iload_n 2, 1) := by decide +kernel
theorem dX7_learns_12 : decode cX7_learns 12 = .ok (.iconst 1, 1) := by decide +kernel
theorem dX7_learns_13 : decode cX7_learns 13 = .ok (.isub, 1) := by decide +kernel
theorem dX7_learns_14 : decode cX7_learns 14 = .ok (.iload_n 3, 1) := by decide +kernel
theorem dX7_learns_15 : decode cX7_learns 15 = .ok (.invokevirtual 163, 3) := by decide +kernel
theorem dX7_learns_18 : decode cX7_learns 18 = .ok (.istore 5, 2) := by decide +kernel
theorem dX7_learns_20 : decode cX7_learns 20 = .ok (.aload_n 0, 1) := by decide +kernel
theorem dX7_learns_21 : decode cX7_learns 21 = .ok (.iload_n 1, 1) := by decide +kernel
theorem dX7_learns_22 : decode cX7_learns 22 = .ok (.iload_n 2, 1) := by decide +kernel
theorem dX7_learns_23 : decode cX7_learns 23 = .ok (.iconst 1, 1) := by decide +kernel
theorem dX7_learns_24 : decode cX7_learns 24 = .ok (.iadd, 1) := by decide +kernel
theorem dX7_learns_25 : decode cX7_learns 25 = .ok (.iload_n 3, 1) := by decide +kernel
theorem dX7_learns_26 : decode cX7_learns 26 = .ok (.invokevirtual 163, 3) := by decide +kernel
theorem dX7_learns_29 : decode cX7_learns 29 = .ok (.istore 6, 2) := by decide +kernel
theorem dX7_learns_31 : decode cX7_learns 31 = .ok (.iload 4, 2) := by decide +kernel
theorem dX7_learns_33 : decode cX7_learns 33 = .ok (.ifCond .eq 27, 3) := by decide +kernel
theorem dX7_learns_36 : decode cX7_learns 36 = .ok (.iload 4, 2) := by decide +kernel
theorem dX7_learns_38 : decode cX7_learns 38 = .ok (.iconst 1, 1) := by decide +kernel
theorem dX7_learns_39 : decode cX7_learns 39 = .ok (.if_icmp .eq 15, 3) := by decide +kernel
theorem dX7_learns_42 : decode cX7_learns 42 = .ok (.iload 5, 2) := by decide +kernel
theorem dX7_learns_44 : decode cX7_learns 44 = .ok (.iconst 1, 1) := by decide +kernel
theorem dX7_learns_45 : decode cX7_learns 45 = .ok (.if_icmp .ne 13, 3) := by decide +kernel
theorem dX7_learns_48 : decode cX7_learns 48 = .ok (.iload 6, 2) := by decide +kernel
theorem dX7_learns_50 : decode cX7_learns 50 = .ok (.iconst 1, 1) := by decide +kernel
theorem dX7_learns_51 : decode cX7_learns 51 = .ok (.if_icmp .ne 7, 3) := by decide +kernel
theorem dX7_learns_54 : decode cX7_learns 54 = .ok (.iconst 1, 1) := by decide +kernel
theorem dX7_learns_55 : decode cX7_learns 55 = .ok (.goto 4, 3) := by decide +kernel
theorem dX7_learns_58 : decode cX7_learns 58 = .ok (.iconst 2, 1) := by decide +kernel
theorem dX7_learns_59 : decode cX7_learns 59 = .ok (.ireturn, 1) := by decide +kernel
theorem dX7_learns_60 : decode cX7_learns 60 = .ok (.iload 5, 2) := by decide +kernel
theorem dX7_learns_62 : decode cX7_learns 62 = .ok (.ifCond .eq 8, 3) := by decide +kernel
theorem dX7_learns_65 : decode cX7_learns 65 = .ok (.iload 5, 2) := by decide +kernel
theorem dX7_learns_67 : decode cX7_learns 67 = .ok (.goto 5, 3) := by decide +kernel
theorem dX7_learns_70 : decode cX7_learns 70 = .ok (.iload 6, 2) := by decide +kernel
theorem dX7_learns_72 : decode cX7_learns 72 = .ok (.istore 7, 2) := by decide +kernel
theorem dX7_learns_74 : decode cX7_learns 74 = .ok (.iload 7, 2) := by decide +kernel
theorem dX7_learns_76 : decode cX7_learns 76 = .ok (.iconst 1, 1) := by decide +kernel
theorem dX7_learns_77 : decode cX7_learns 77 = .ok (.if_icmp .ne 26, 3) := by decide +kernel
theorem dX7_learns_80 : decode cX7_learns 80 = .ok (.aload_n 0, 1) := by decide +kernel
theorem dX7_learns_81 : decode cX7_learns 81 = .ok (.aload_n 0, 1) := by decide +kernel
theorem dX7_learns_82 : decode cX7_learns 82 = .ok (.getfield 44, 3) := by decide +kernel
theorem dX7_learns_85 : decode cX7_learns 85 = .ok (.bipush 8, 2) := by decide +kernel
theorem dX7_learns_87 : decode cX7_learns 87 = .ok (.iload_n 1, 1) := by decide +kernel
theorem dX7_learns_88 : decode cX7_learns 88 = .ok (.imul, 1) := by decide +kernel
theorem dX7_learns_89 : decode cX7_learns 89 = .ok (.iload_n 2, 1) := by decide +kernel
theorem dX7_learns_90 : decode cX7_learns 90 = .ok (.iadd, 1) := by decide +kernel
theorem dX7_learns_91 : decode cX7_learns 91 = .ok (.iaload, 1) := by decide +kernel
theorem dX7_learns_92 : decode cX7_learns 92 = .ok (.invokevirtual 146, 3) := by decide +kernel
theorem dX7_learns_95 : decode cX7_learns 95 = .ok (.iconst 2, 1) := by decide +kernel
theorem dX7_learns_96 : decode cX7_learns 96 = .ok (.if_icmp .ne 7, 3) := by decide +kernel
theorem dX7_learns_99 : decode cX7_learns 99 = .ok (.iconst 2, 1) := by decide +kernel
theorem dX7_learns_100 : decode cX7_learns 100 = .ok (.goto 5, 3) := by decide +kernel
theorem dX7_learns_103 : decode cX7_learns 103 = .ok (.iload 7, 2) := by decide +kernel
theorem dX7_learns_105 : decode cX7_learns 105 = .ok (.ireturn, 1) := by decide +kernel
set_option maxRecDepth 20000 in
theorem ggX7_drill_X7_isPhrase : GoodIn wsX7_drill wsX7_isPhrase := goodIn_r _ [13, 14, 15, 16, 12, 17, 18, 19, 20, 50, 51, 52, 53, 54, 55, 56, 57, 58, 59, 60, 61, 62, 63, 64, 65, 66, 67, 68, 69, 70, 71, 72, 73, 74, 75, 76, 77, 78] (by decide +kernel) (by decide +kernel)
set_option maxRecDepth 20000 in
theorem gX7_drill_X7_isPhrase : GoodIn wsX7_drill (wsV RX7 160 RX7 yX7_isPhrase wsX7_isPhrase) := goodIn_app (goodIn_of _ (by decide +kernel)) ggX7_drill_X7_isPhrase
set_option maxRecDepth 20000 in
theorem ggX7_drill_X7_holds : GoodIn wsX7_drill wsX7_holds := goodIn_r _ [24, 25, 50, 51, 52, 53, 54, 55, 56, 57, 58, 59, 60, 61, 62, 63, 64, 65, 66, 67, 68, 69, 70, 71, 72, 73, 74, 75, 76, 77, 78] (by decide +kernel) (by decide +kernel)
set_option maxRecDepth 20000 in
theorem gX7_drill_X7_holds : GoodIn wsX7_drill (wsV RX7 104 RX7 yX7_holds wsX7_holds) := goodIn_app (goodIn_of _ (by decide +kernel)) ggX7_drill_X7_holds
set_option maxRecDepth 20000 in
theorem ggX7_drill_X7_learns : GoodIn wsX7_drill wsX7_learns := goodIn_r _ [29, 7, 30, 31, 32, 12, 33, 5, 34, 35, 36, 37, 1, 15, 16, 17, 18, 19, 20, 38, 39, 40, 41, 42, 43, 44, 45, 46, 47, 48, 49, 50, 51, 52, 53, 54, 55, 56, 57, 58, 59, 60, 61, 62, 63, 64, 65, 66, 67, 68, 69, 70, 71, 72, 73, 74, 75, 76, 77, 78] (by decide +kernel) (by decide +kernel)
set_option maxRecDepth 20000 in
theorem gX7_drill_X7_learns : GoodIn wsX7_drill (wsV RX7 166 RX7 yX7_learns wsX7_learns) := goodIn_app (goodIn_of _ (by decide +kernel)) ggX7_drill_X7_learns
set_option maxRecDepth 20000 in
theorem ggX7_drill_X7_at : GoodIn wsX7_drill wsX7_at := goodIn_r _ [41] (by decide +kernel) (by decide +kernel)
set_option maxRecDepth 20000 in
theorem gX7_drill_X7_at : GoodIn wsX7_drill (wsV RX7 153 RX7 yX7_at wsX7_at) := goodIn_app (goodIn_of _ (by decide +kernel)) ggX7_drill_X7_at
theorem dX7_drill_0 : decode cX7_drill 0 = .ok (.aload_n 0, 1) := by decide +kernel
theorem dX7_drill_1 : decode cX7_drill 1 = .ok (.iload_n 1, 1) := by decide +kernel
theorem dX7_drill_2 : decode cX7_drill 2 = .ok (.iload_n 2, 1) := by decide +kernel
theorem dX7_drill_3 : decode cX7_drill 3 = .ok (.invokevirtual 160, 3) := by decide +kernel
theorem dX7_drill_6 : decode cX7_drill 6 = .ok (.istore_n 3, 1) := by decide +kernel
theorem dX7_drill_7 : decode cX7_drill 7 = .ok (.aload_n 0, 1) := by decide +kernel
theorem dX7_drill_8 : decode cX7_drill 8 = .ok (.iload_n 3, 1) := by decide +kernel
theorem dX7_drill_9 : decode cX7_drill 9 = .ok (.ifCond .ne 7, 3) := by decide +kernel
theorem dX7_drill_12 : decode cX7_drill 12 = .ok (.iconst 1, 1) := by decide +kernel
theorem dX7_drill_13 : decode cX7_drill 13 = .ok (.goto 30, 3) := by decide +kernel
theorem dX7_drill_16 : decode cX7_drill 16 = .ok (.aload_n 0, 1) := by decide +kernel
theorem dX7_drill_17 : decode cX7_drill 17 = .ok (.getfield 41, 3) := by decide +kernel
theorem dX7_drill_20 : decode cX7_drill 20 = .ok (.iload_n 1, 1) := by decide +kernel
theorem dX7_drill_21 : decode cX7_drill 21 = .ok (.iaload, 1) := by decide +kernel
theorem dX7_drill_22 : decode cX7_drill 22 = .ok (.ifCond .eq 16, 3) := by decide +kernel
theorem dX7_drill_25 : decode cX7_drill 25 = .ok (.aload_n 0, 1) := by decide +kernel
theorem dX7_drill_26 : decode cX7_drill 26 = .ok (.getfield 59, 3) := by decide +kernel
theorem dX7_drill_29 : decode cX7_drill 29 = .ok (.iload_n 1, 1) := by decide +kernel
theorem dX7_drill_30 : decode cX7_drill 30 = .ok (.iaload, 1) := by decide +kernel
theorem dX7_drill_31 : decode cX7_drill 31 = .ok (.aload_n 0, 1) := by decide +kernel
theorem dX7_drill_32 : decode cX7_drill 32 = .ok (.getfield 143, 3) := by decide +kernel
theorem dX7_drill_35 : decode cX7_drill 35 = .ok (.if_icmp .ne 7, 3) := by decide +kernel
theorem dX7_drill_38 : decode cX7_drill 38 = .ok (.iconst 2, 1) := by decide +kernel
theorem dX7_drill_39 : decode cX7_drill 39 = .ok (.goto 4, 3) := by decide +kernel
theorem dX7_drill_42 : decode cX7_drill 42 = .ok (.iconst 0, 1) := by decide +kernel
theorem dX7_drill_43 : decode cX7_drill 43 = .ok (.invokevirtual 104, 3) := by decide +kernel
theorem dX7_drill_46 : decode cX7_drill 46 = .ok (.ifCond .ne 5, 3) := by decide +kernel
theorem dX7_drill_49 : decode cX7_drill 49 = .ok (.iconst 0, 1) := by decide +kernel
theorem dX7_drill_50 : decode cX7_drill 50 = .ok (.ireturn, 1) := by decide +kernel
theorem dX7_drill_51 : decode cX7_drill 51 = .ok (.aload_n 0, 1) := by decide +kernel
theorem dX7_drill_52 : decode cX7_drill 52 = .ok (.getfield 59, 3) := by decide +kernel
theorem dX7_drill_55 : decode cX7_drill 55 = .ok (.iload_n 1, 1) := by decide +kernel
theorem dX7_drill_56 : decode cX7_drill 56 = .ok (.aload_n 0, 1) := by decide +kernel
theorem dX7_drill_57 : decode cX7_drill 57 = .ok (.getfield 143, 3) := by decide +kernel
theorem dX7_drill_60 : decode cX7_drill 60 = .ok (.iastore, 1) := by decide +kernel
theorem dX7_drill_61 : decode cX7_drill 61 = .ok (.iconst 0, 1) := by decide +kernel
theorem dX7_drill_62 : decode cX7_drill 62 = .ok (.istore 4, 2) := by decide +kernel
theorem dX7_drill_64 : decode cX7_drill 64 = .ok (.iload 4, 2) := by decide +kernel
theorem dX7_drill_66 : decode cX7_drill 66 = .ok (.aload_n 0, 1) := by decide +kernel
theorem dX7_drill_67 : decode cX7_drill 67 = .ok (.getfield 41, 3) := by decide +kernel
theorem dX7_drill_70 : decode cX7_drill 70 = .ok (.iload_n 1, 1) := by decide +kernel
theorem dX7_drill_71 : decode cX7_drill 71 = .ok (.iaload, 1) := by decide +kernel
theorem dX7_drill_72 : decode cX7_drill 72 = .ok (.if_icmp .ge 24, 3) := by decide +kernel
theorem dX7_drill_75 : decode cX7_drill 75 = .ok (.aload_n 0, 1) := by decide +kernel
theorem dX7_drill_76 : decode cX7_drill 76 = .ok (.getfield 56, 3) := by decide +kernel
theorem dX7_drill_79 : decode cX7_drill 79 = .ok (.iload 4, 2) := by decide +kernel
theorem dX7_drill_81 : decode cX7_drill 81 = .ok (.aload_n 0, 1) := by decide +kernel
theorem dX7_drill_82 : decode cX7_drill 82 = .ok (.iload_n 1, 1) := by decide +kernel
theorem dX7_drill_83 : decode cX7_drill 83 = .ok (.iload 4, 2) := by decide +kernel
theorem dX7_drill_85 : decode cX7_drill 85 = .ok (.iload_n 2, 1) := by decide +kernel
theorem dX7_drill_86 : decode cX7_drill 86 = .ok (.invokevirtual 166, 3) := by decide +kernel
theorem dX7_drill_89 : decode cX7_drill 89 = .ok (.iastore, 1) := by decide +kernel
theorem dX7_drill_90 : decode cX7_drill 90 = .ok (.iinc 4 1, 3) := by decide +kernel
theorem dX7_drill_93 : decode cX7_drill 93 = .ok (.goto (-29), 3) := by decide +kernel
theorem dX7_drill_96 : decode cX7_drill 96 = .ok (.iconst 0, 1) := by decide +kernel
theorem dX7_drill_97 : decode cX7_drill 97 = .ok (.istore 4, 2) := by decide +kernel
theorem dX7_drill_99 : decode cX7_drill 99 = .ok (.iconst 0, 1) := by decide +kernel
theorem dX7_drill_100 : decode cX7_drill 100 = .ok (.istore 5, 2) := by decide +kernel
theorem dX7_drill_102 : decode cX7_drill 102 = .ok (.iload 5, 2) := by decide +kernel
theorem dX7_drill_104 : decode cX7_drill 104 = .ok (.aload_n 0, 1) := by decide +kernel
theorem dX7_drill_105 : decode cX7_drill 105 = .ok (.getfield 41, 3) := by decide +kernel
theorem dX7_drill_108 : decode cX7_drill 108 = .ok (.iload_n 1, 1) := by decide +kernel
theorem dX7_drill_109 : decode cX7_drill 109 = .ok (.iaload, 1) := by decide +kernel
theorem dX7_drill_110 : decode cX7_drill 110 = .ok (.if_icmp .ge 106, 3) := by decide +kernel
theorem dX7_drill_113 : decode cX7_drill 113 = .ok (.aload_n 0, 1) := by decide +kernel
theorem dX7_drill_114 : decode cX7_drill 114 = .ok (.getfield 53, 3) := by decide +kernel
theorem dX7_drill_117 : decode cX7_drill 117 = .ok (.aload_n 0, 1) := by decide +kernel
theorem dX7_drill_118 : decode cX7_drill 118 = .ok (.iload_n 1, 1) := by decide +kernel
theorem dX7_drill_119 : decode cX7_drill 119 = .ok (.iload 5, 2) := by decide +kernel
theorem dX7_drill_121 : decode cX7_drill 121 = .ok (.iload_n 2, 1) := by decide +kernel
theorem dX7_drill_122 : decode cX7_drill 122 = .ok (.invokevirtual 153, 3) := by decide +kernel
theorem dX7_drill_125 : decode cX7_drill 125 = .ok (.aload_n 0, 1) := by decide +kernel
theorem dX7_drill_126 : decode cX7_drill 126 = .ok (.getfield 56, 3) := by decide +kernel
theorem dX7_drill_129 : decode cX7_drill 129 = .ok (.iload 5, 2) := by decide +kernel
theorem dX7_drill_131 : decode cX7_drill 131 = .ok (.iaload, 1) := by decide +kernel
theorem dX7_drill_132 : decode cX7_drill 132 = .ok (.iastore, 1) := by decide +kernel
theorem dX7_drill_133 : decode cX7_drill 133 = .ok (.iload 4, 2) := by decide +kernel
theorem dX7_drill_135 : decode cX7_drill 135 = .ok (.aload_n 0, 1) := by decide +kernel
theorem dX7_drill_136 : decode cX7_drill 136 = .ok (.getfield 56, 3) := by decide +kernel
theorem dX7_drill_139 : decode cX7_drill 139 = .ok (.iload 5, 2) := by decide +kernel
theorem dX7_drill_141 : decode cX7_drill 141 = .ok (.iaload, 1) := by decide +kernel
theorem dX7_drill_142 : decode cX7_drill 142 = .ok (.iconst 1, 1) := by decide +kernel
theorem dX7_drill_143 : decode cX7_drill 143 = .ok (.if_icmp .ne 7, 3) := by decide +kernel
theorem dX7_drill_146 : decode cX7_drill 146 = .ok (.iconst 1, 1) := by decide +kernel
theorem dX7_drill_147 : decode cX7_drill 147 = .ok (.goto 4, 3) := by decide +kernel
theorem dX7_drill_150 : decode cX7_drill 150 = .ok (.iconst 0, 1) := by decide +kernel
theorem dX7_drill_151 : decode cX7_drill 151 = .ok (.iadd, 1) := by decide +kernel
theorem dX7_drill_152 : decode cX7_drill 152 = .ok (.istore 4, 2) := by decide +kernel
theorem dX7_drill_154 : decode cX7_drill 154 = .ok (.aload_n 0, 1) := by decide +kernel
theorem dX7_drill_155 : decode cX7_drill 155 = .ok (.getfield 32, 3) := by decide +kernel
theorem dX7_drill_158 : decode cX7_drill 158 = .ok (.aload_n 0, 1) := by decide +kernel
theorem dX7_drill_159 : decode cX7_drill 159 = .ok (.getfield 44, 3) := by decide +kernel
theorem dX7_drill_162 : decode cX7_drill 162 = .ok (.bipush 8, 2) := by decide +kernel
theorem dX7_drill_164 : decode cX7_drill 164 = .ok (.iload_n 1, 1) := by decide +kernel
theorem dX7_drill_165 : decode cX7_drill 165 = .ok (.imul, 1) := by decide +kernel
theorem dX7_drill_166 : decode cX7_drill 166 = .ok (.iload 5, 2) := by decide +kernel
theorem dX7_drill_168 : decode cX7_drill 168 = .ok (.iadd, 1) := by decide +kernel
theorem dX7_drill_169 : decode cX7_drill 169 = .ok (.iaload, 1) := by decide +kernel
theorem dX7_drill_170 : decode cX7_drill 170 = .ok (.iaload, 1) := by decide +kernel
theorem dX7_drill_171 : decode cX7_drill 171 = .ok (.istore 6, 2) := by decide +kernel
theorem dX7_drill_173 : decode cX7_drill 173 = .ok (.iconst 0, 1) := by decide +kernel
theorem dX7_drill_174 : decode cX7_drill 174 = .ok (.istore 7, 2) := by decide +kernel
theorem dX7_drill_176 : decode cX7_drill 176 = .ok (.iload 7, 2) := by decide +kernel
theorem dX7_drill_178 : decode cX7_drill 178 = .ok (.iconst 4, 1) := by decide +kernel
theorem dX7_drill_179 : decode cX7_drill 179 = .ok (.if_icmp .ge 31, 3) := by decide +kernel
theorem dX7_drill_182 : decode cX7_drill 182 = .ok (.iload 6, 2) := by decide +kernel
theorem dX7_drill_184 : decode cX7_drill 184 = .ok (.iconst (-1), 1) := by decide +kernel
theorem dX7_drill_185 : decode cX7_drill 185 = .ok (.if_icmp .eq 25, 3) := by decide +kernel
theorem dX7_drill_188 : decode cX7_drill 188 = .ok (.aload_n 0, 1) := by decide +kernel
theorem dX7_drill_189 : decode cX7_drill 189 = .ok (.getfield 7, 3) := by decide +kernel
theorem dX7_drill_192 : decode cX7_drill 192 = .ok (.iconst 4, 1) := by decide +kernel
theorem dX7_drill_193 : decode cX7_drill 193 = .ok (.iload 6, 2) := by decide +kernel
theorem dX7_drill_195 : decode cX7_drill 195 = .ok (.imul, 1) := by decide +kernel
theorem dX7_drill_196 : decode cX7_drill 196 = .ok (.iload 7, 2) := by decide +kernel
theorem dX7_drill_198 : decode cX7_drill 198 = .ok (.iadd, 1) := by decide +kernel
theorem dX7_drill_199 : decode cX7_drill 199 = .ok (.dup2, 1) := by decide +kernel
theorem dX7_drill_200 : decode cX7_drill 200 = .ok (.iaload, 1) := by decide +kernel
theorem dX7_drill_201 : decode cX7_drill 201 = .ok (.iconst 1, 1) := by decide +kernel
theorem dX7_drill_202 : decode cX7_drill 202 = .ok (.isub, 1) := by decide +kernel
theorem dX7_drill_203 : decode cX7_drill 203 = .ok (.iastore, 1) := by decide +kernel
theorem dX7_drill_204 : decode cX7_drill 204 = .ok (.iinc 7 1, 3) := by decide +kernel
theorem dX7_drill_207 : decode cX7_drill 207 = .ok (.goto (-31), 3) := by decide +kernel
theorem dX7_drill_210 : decode cX7_drill 210 = .ok (.iinc 5 1, 3) := by decide +kernel
theorem dX7_drill_213 : decode cX7_drill 213 = .ok (.goto (-111), 3) := by decide +kernel
theorem dX7_drill_216 : decode cX7_drill 216 = .ok (.iload 4, 2) := by decide +kernel
theorem dX7_drill_218 : decode cX7_drill 218 = .ok (.ireturn, 1) := by decide +kernel
set_option maxRecDepth 20000 in
theorem ggX7_pass_X7_isIn : GoodIn wsX7_pass wsX7_isIn := goodIn_r _ [5] (by decide +kernel) (by decide +kernel)
set_option maxRecDepth 20000 in
theorem gX7_pass_X7_isIn : GoodIn wsX7_pass (va_wsS RX7 90 yX7_isIn wsX7_isIn) := goodIn_app (goodIn_of _ (by decide +kernel)) ggX7_pass_X7_isIn
set_option maxRecDepth 20000 in
theorem ggX7_pass_X7_holds : GoodIn wsX7_pass wsX7_holds := goodIn_r _ [9, 10, 11, 12, 13, 14, 15, 16, 17, 18, 19, 20, 21, 22, 23, 24, 25, 26, 27, 28, 29, 30, 31, 32, 33, 34, 35, 36, 37, 38, 39] (by decide +kernel) (by decide +kernel)
set_option maxRecDepth 20000 in
theorem gX7_pass_X7_holds : GoodIn wsX7_pass (wsV RX7 104 RX7 yX7_holds wsX7_holds) := goodIn_app (goodIn_of _ (by decide +kernel)) ggX7_pass_X7_holds
theorem dX7_pass_0 : decode cX7_pass 0 = .ok (.aload_n 0, 1) := by decide +kernel
theorem dX7_pass_1 : decode cX7_pass 1 = .ok (.iload_n 1, 1) := by decide +kernel
theorem dX7_pass_2 : decode cX7_pass 2 = .ok (.iconst 1, 1) := by decide +kernel
theorem dX7_pass_3 : decode cX7_pass 3 = .ok (.bipush 30, 2) := by decide +kernel
theorem dX7_pass_5 : decode cX7_pass 5 = .ok (.invokestatic 90, 3) := by decide +kernel
theorem dX7_pass_8 : decode cX7_pass 8 = .ok (.ifCond .ne 7, 3) := by decide +kernel
theorem dX7_pass_11 : decode cX7_pass 11 = .ok (.iconst 1, 1) := by decide +kernel
theorem dX7_pass_12 : decode cX7_pass 12 = .ok (.goto 20, 3) := by decide +kernel
theorem dX7_pass_15 : decode cX7_pass 15 = .ok (.aload_n 0, 1) := by decide +kernel
theorem dX7_pass_16 : decode cX7_pass 16 = .ok (.getfield 143, 3) := by decide +kernel
theorem dX7_pass_19 : decode cX7_pass 19 = .ok (.iload_n 1, 1) := by decide +kernel
theorem dX7_pass_20 : decode cX7_pass 20 = .ok (.iadd, 1) := by decide +kernel
theorem dX7_pass_21 : decode cX7_pass 21 = .ok (.sipush 1000, 3) := by decide +kernel
theorem dX7_pass_24 : decode cX7_pass 24 = .ok (.if_icmp .le 7, 3) := by decide +kernel
theorem dX7_pass_27 : decode cX7_pass 27 = .ok (.iconst 2, 1) := by decide +kernel
theorem dX7_pass_28 : decode cX7_pass 28 = .ok (.goto 4, 3) := by decide +kernel
theorem dX7_pass_31 : decode cX7_pass 31 = .ok (.iconst 0, 1) := by decide +kernel
theorem dX7_pass_32 : decode cX7_pass 32 = .ok (.invokevirtual 104, 3) := by decide +kernel
theorem dX7_pass_35 : decode cX7_pass 35 = .ok (.ifCond .ne 5, 3) := by decide +kernel
theorem dX7_pass_38 : decode cX7_pass 38 = .ok (.iconst 0, 1) := by decide +kernel
theorem dX7_pass_39 : decode cX7_pass 39 = .ok (.ireturn, 1) := by decide +kernel
theorem dX7_pass_40 : decode cX7_pass 40 = .ok (.aload_n 0, 1) := by decide +kernel
theorem dX7_pass_41 : decode cX7_pass 41 = .ok (.dup, 1) := by decide +kernel
theorem dX7_pass_42 : decode cX7_pass 42 = .ok (.getfield 143, 3) := by decide +kernel
theorem dX7_pass_45 : decode cX7_pass 45 = .ok (.iload_n 1, 1) := by decide +kernel
theorem dX7_pass_46 : decode cX7_pass 46 = .ok (.iadd, 1) := by decide +kernel
theorem dX7_pass_47 : decode cX7_pass 47 = .ok (.putfield 143, 3) := by decide +kernel
theorem dX7_pass_50 : decode cX7_pass 50 = .ok (.aload_n 0, 1) := by decide +kernel
theorem dX7_pass_51 : decode cX7_pass 51 = .ok (.getfield 143, 3) := by decide +kernel
theorem dX7_pass_54 : decode cX7_pass 54 = .ok (.ireturn, 1) := by decide +kernel
set_option maxRecDepth 20000 in
theorem ggX7_seat_X7_isSeat : GoodIn wsX7_seat wsX7_isSeat := goodIn_r _ [6, 7, 8, 9, 5, 10, 11, 12, 13, 19, 20, 21, 22, 23, 24, 25, 26, 27, 28, 29, 30, 31, 32, 33, 34, 35, 36, 37, 38, 39, 40, 41, 42, 43, 44, 45, 46, 47] (by decide +kernel) (by decide +kernel)
set_option maxRecDepth 20000 in
theorem gX7_seat_X7_isSeat : GoodIn wsX7_seat (wsV RX7 157 RX7 yX7_isSeat wsX7_isSeat) := goodIn_app (goodIn_of _ (by decide +kernel)) ggX7_seat_X7_isSeat
set_option maxRecDepth 20000 in
theorem ggX7_seat_X7_holds : GoodIn wsX7_seat wsX7_holds := goodIn_r _ [17, 18, 19, 20, 21, 22, 23, 24, 25, 26, 27, 28, 29, 30, 31, 32, 33, 34, 35, 36, 37, 38, 39, 40, 41, 42, 43, 44, 45, 46, 47] (by decide +kernel) (by decide +kernel)
set_option maxRecDepth 20000 in
theorem gX7_seat_X7_holds : GoodIn wsX7_seat (wsV RX7 104 RX7 yX7_holds wsX7_holds) := goodIn_app (goodIn_of _ (by decide +kernel)) ggX7_seat_X7_holds
theorem dX7_seat_0 : decode cX7_seat 0 = .ok (.aload_n 0, 1) := by decide +kernel
theorem dX7_seat_1 : decode cX7_seat 1 = .ok (.aload_n 0, 1) := by decide +kernel
theorem dX7_seat_2 : decode cX7_seat 2 = .ok (.iload_n 1, 1) := by decide +kernel
theorem dX7_seat_3 : decode cX7_seat 3 = .ok (.iload_n 2, 1) := by decide +kernel
theorem dX7_seat_4 : decode cX7_seat 4 = .ok (.invokevirtual 157, 3) := by decide +kernel
theorem dX7_seat_7 : decode cX7_seat 7 = .ok (.ifCond .eq 7, 3) := by decide +kernel
theorem dX7_seat_10 : decode cX7_seat 10 = .ok (.iconst 0, 1) := by decide +kernel
theorem dX7_seat_11 : decode cX7_seat 11 = .ok (.goto 4, 3) := by decide +kernel
theorem dX7_seat_14 : decode cX7_seat 14 = .ok (.iconst 1, 1) := by decide +kernel
theorem dX7_seat_15 : decode cX7_seat 15 = .ok (.invokevirtual 104, 3) := by decide +kernel
theorem dX7_seat_18 : decode cX7_seat 18 = .ok (.ifCond .eq 17, 3) := by decide +kernel
theorem dX7_seat_21 : decode cX7_seat 21 = .ok (.aload_n 0, 1) := by decide +kernel
theorem dX7_seat_22 : decode cX7_seat 22 = .ok (.getfield 44, 3) := by decide +kernel
theorem dX7_seat_25 : decode cX7_seat 25 = .ok (.bipush 8, 2) := by decide +kernel
theorem dX7_seat_27 : decode cX7_seat 27 = .ok (.iload_n 1, 1) := by decide +kernel
theorem dX7_seat_28 : decode cX7_seat 28 = .ok (.imul, 1) := by decide +kernel
theorem dX7_seat_29 : decode cX7_seat 29 = .ok (.iload_n 2, 1) := by decide +kernel
theorem dX7_seat_30 : decode cX7_seat 30 = .ok (.iadd, 1) := by decide +kernel
theorem dX7_seat_31 : decode cX7_seat 31 = .ok (.iaload, 1) := by decide +kernel
theorem dX7_seat_32 : decode cX7_seat 32 = .ok (.goto 4, 3) := by decide +kernel
theorem dX7_seat_35 : decode cX7_seat 35 = .ok (.iconst 0, 1) := by decide +kernel
theorem dX7_seat_36 : decode cX7_seat 36 = .ok (.ireturn, 1) := by decide +kernel
set_option maxRecDepth 20000 in
theorem ggX7_knows_X7_isSeat : GoodIn wsX7_knows wsX7_isSeat := goodIn_r _ [6, 7, 8, 9, 5, 10, 11, 12, 13, 28, 29, 30, 31, 32, 33, 34, 35, 36, 37, 38, 39, 40, 41, 42, 43, 44, 45, 46, 47, 48, 49, 50, 51, 52, 53, 54, 55, 56] (by decide +kernel) (by decide +kernel)
set_option maxRecDepth 20000 in
theorem gX7_knows_X7_isSeat : GoodIn wsX7_knows (wsV RX7 157 RX7 yX7_isSeat wsX7_isSeat) := goodIn_app (goodIn_of _ (by decide +kernel)) ggX7_knows_X7_isSeat
set_option maxRecDepth 20000 in
theorem ggX7_knows_X7_isPhrase : GoodIn wsX7_knows wsX7_isPhrase := goodIn_r _ [17, 18, 8, 9, 5, 10, 11, 12, 13, 28, 29, 30, 31, 32, 33, 34, 35, 36, 37, 38, 39, 40, 41, 42, 43, 44, 45, 46, 47, 48, 49, 50, 51, 52, 53, 54, 55, 56] (by decide +kernel) (by decide +kernel)
set_option maxRecDepth 20000 in
theorem gX7_knows_X7_isPhrase : GoodIn wsX7_knows (wsV RX7 160 RX7 yX7_isPhrase wsX7_isPhrase) := goodIn_app (goodIn_of _ (by decide +kernel)) ggX7_knows_X7_isPhrase
set_option maxRecDepth 20000 in
theorem ggX7_knows_X7_holds : GoodIn wsX7_knows wsX7_holds := goodIn_r _ [22, 23, 28, 29, 30, 31, 32, 33, 34, 35, 36, 37, 38, 39, 40, 41, 42, 43, 44, 45, 46, 47, 48, 49, 50, 51, 52, 53, 54, 55, 56] (by decide +kernel) (by decide +kernel)
set_option maxRecDepth 20000 in
theorem gX7_knows_X7_holds : GoodIn wsX7_knows (wsV RX7 104 RX7 yX7_holds wsX7_holds) := goodIn_app (goodIn_of _ (by decide +kernel)) ggX7_knows_X7_holds
set_option maxRecDepth 20000 in
theorem ggX7_knows_X7_at : GoodIn wsX7_knows wsX7_at := goodIn_r _ [27] (by decide +kernel) (by decide +kernel)
set_option maxRecDepth 20000 in
theorem gX7_knows_X7_at : GoodIn wsX7_knows (wsV RX7 153 RX7 yX7_at wsX7_at) := goodIn_app (goodIn_of _ (by decide +kernel)) ggX7_knows_X7_at
theorem dX7_knows_0 : decode cX7_knows 0 = .ok (.aload_n 0, 1) := by decide +kernel
theorem dX7_knows_1 : decode cX7_knows 1 = .ok (.aload_n 0, 1) := by decide +kernel
theorem dX7_knows_2 : decode cX7_knows 2 = .ok (.iload_n 1, 1) := by decide +kernel
theorem dX7_knows_3 : decode cX7_knows 3 = .ok (.iload_n 2, 1) := by decide +kernel
theorem dX7_knows_4 : decode cX7_knows 4 = .ok (.invokevirtual 157, 3) := by decide +kernel
theorem dX7_knows_7 : decode cX7_knows 7 = .ok (.ifCond .eq 16, 3) := by decide +kernel
theorem dX7_knows_10 : decode cX7_knows 10 = .ok (.aload_n 0, 1) := by decide +kernel
theorem dX7_knows_11 : decode cX7_knows 11 = .ok (.iload_n 1, 1) := by decide +kernel
theorem dX7_knows_12 : decode cX7_knows 12 = .ok (.iload_n 3, 1) := by decide +kernel
theorem dX7_knows_13 : decode cX7_knows 13 = .ok (.invokevirtual 160, 3) := by decide +kernel
theorem dX7_knows_16 : decode cX7_knows 16 = .ok (.ifCond .eq 7, 3) := by decide +kernel
theorem dX7_knows_19 : decode cX7_knows 19 = .ok (.iconst 0, 1) := by decide +kernel
theorem dX7_knows_20 : decode cX7_knows 20 = .ok (.goto 4, 3) := by decide +kernel
theorem dX7_knows_23 : decode cX7_knows 23 = .ok (.iconst 1, 1) := by decide +kernel
theorem dX7_knows_24 : decode cX7_knows 24 = .ok (.invokevirtual 104, 3) := by decide +kernel
theorem dX7_knows_27 : decode cX7_knows 27 = .ok (.ifCond .eq 18, 3) := by decide +kernel
theorem dX7_knows_30 : decode cX7_knows 30 = .ok (.aload_n 0, 1) := by decide +kernel
theorem dX7_knows_31 : decode cX7_knows 31 = .ok (.getfield 53, 3) := by decide +kernel
theorem dX7_knows_34 : decode cX7_knows 34 = .ok (.aload_n 0, 1) := by decide +kernel
theorem dX7_knows_35 : decode cX7_knows 35 = .ok (.iload_n 1, 1) := by decide +kernel
theorem dX7_knows_36 : decode cX7_knows 36 = .ok (.iload_n 2, 1) := by decide +kernel
theorem dX7_knows_37 : decode cX7_knows 37 = .ok (.iload_n 3, 1) := by decide +kernel
theorem dX7_knows_38 : decode cX7_knows 38 = .ok (.invokevirtual 153, 3) := by decide +kernel
theorem dX7_knows_41 : decode cX7_knows 41 = .ok (.iaload, 1) := by decide +kernel
theorem dX7_knows_42 : decode cX7_knows 42 = .ok (.goto 4, 3) := by decide +kernel
theorem dX7_knows_45 : decode cX7_knows 45 = .ok (.iconst 0, 1) := by decide +kernel
theorem dX7_knows_46 : decode cX7_knows 46 = .ok (.ireturn, 1) := by decide +kernel
set_option maxRecDepth 20000 in
theorem ggX7_ofBand_X7_isBand : GoodIn wsX7_ofBand wsX7_isBand := goodIn_r _ [10, 11, 12, 9, 13] (by decide +kernel) (by decide +kernel)
set_option maxRecDepth 20000 in
theorem gX7_ofBand_X7_isBand : GoodIn wsX7_ofBand (va_wsS RX7 101 yX7_isBand wsX7_isBand) := goodIn_app (goodIn_of _ (by decide +kernel)) ggX7_ofBand_X7_isBand
set_option maxRecDepth 20000 in
theorem ggX7_ofBand_X7_isIn : GoodIn wsX7_ofBand wsX7_isIn := goodIn_r _ [13] (by decide +kernel) (by decide +kernel)
set_option maxRecDepth 20000 in
theorem gX7_ofBand_X7_isIn : GoodIn wsX7_ofBand (va_wsS RX7 90 yX7_isIn wsX7_isIn) := goodIn_app (goodIn_of _ (by decide +kernel)) ggX7_ofBand_X7_isIn
set_option maxRecDepth 20000 in
theorem ggX7_ofBand_X7_holds : GoodIn wsX7_ofBand wsX7_holds := goodIn_r _ [17, 18, 19, 20, 21, 22, 23, 24, 25, 26, 27, 28, 29, 30, 31, 32, 33, 34, 35, 36, 37, 38, 39, 40, 41, 42, 43, 44, 45, 46, 47] (by decide +kernel) (by decide +kernel)
set_option maxRecDepth 20000 in
theorem gX7_ofBand_X7_holds : GoodIn wsX7_ofBand (wsV RX7 104 RX7 yX7_holds wsX7_holds) := goodIn_app (goodIn_of _ (by decide +kernel)) ggX7_ofBand_X7_holds
theorem dX7_ofBand_0 : decode cX7_ofBand 0 = .ok (.aload_n 0, 1) := by decide +kernel
theorem dX7_ofBand_1 : decode cX7_ofBand 1 = .ok (.iload_n 1, 1) := by decide +kernel
theorem dX7_ofBand_2 : decode cX7_ofBand 2 = .ok (.invokestatic 101, 3) := by decide +kernel
theorem dX7_ofBand_5 : decode cX7_ofBand 5 = .ok (.ifCond .ne 7, 3) := by decide +kernel
theorem dX7_ofBand_8 : decode cX7_ofBand 8 = .ok (.iconst 1, 1) := by decide +kernel
theorem dX7_ofBand_9 : decode cX7_ofBand 9 = .ok (.goto 17, 3) := by decide +kernel
theorem dX7_ofBand_12 : decode cX7_ofBand 12 = .ok (.iload_n 2, 1) := by decide +kernel
theorem dX7_ofBand_13 : decode cX7_ofBand 13 = .ok (.iconst 0, 1) := by decide +kernel
theorem dX7_ofBand_14 : decode cX7_ofBand 14 = .ok (.iconst 4, 1) := by decide +kernel
theorem dX7_ofBand_15 : decode cX7_ofBand 15 = .ok (.invokestatic 90, 3) := by decide +kernel
theorem dX7_ofBand_18 : decode cX7_ofBand 18 = .ok (.ifCond .eq 7, 3) := by decide +kernel
theorem dX7_ofBand_21 : decode cX7_ofBand 21 = .ok (.iconst 0, 1) := by decide +kernel
theorem dX7_ofBand_22 : decode cX7_ofBand 22 = .ok (.goto 4, 3) := by decide +kernel
theorem dX7_ofBand_25 : decode cX7_ofBand 25 = .ok (.iconst 2, 1) := by decide +kernel
theorem dX7_ofBand_26 : decode cX7_ofBand 26 = .ok (.invokevirtual 104, 3) := by decide +kernel
theorem dX7_ofBand_29 : decode cX7_ofBand 29 = .ok (.ifCond .ne 5, 3) := by decide +kernel
theorem dX7_ofBand_32 : decode cX7_ofBand 32 = .ok (.iconst 0, 1) := by decide +kernel
theorem dX7_ofBand_33 : decode cX7_ofBand 33 = .ok (.ireturn, 1) := by decide +kernel
theorem dX7_ofBand_34 : decode cX7_ofBand 34 = .ok (.iload_n 2, 1) := by decide +kernel
theorem dX7_ofBand_35 : decode cX7_ofBand 35 = .ok (.iconst 3, 1) := by decide +kernel
theorem dX7_ofBand_36 : decode cX7_ofBand 36 = .ok (.if_icmp .ge 39, 3) := by decide +kernel
theorem dX7_ofBand_39 : decode cX7_ofBand 39 = .ok (.iload_n 2, 1) := by decide +kernel
theorem dX7_ofBand_40 : decode cX7_ofBand 40 = .ok (.ifCond .ne 12, 3) := by decide +kernel
theorem dX7_ofBand_43 : decode cX7_ofBand 43 = .ok (.aload_n 0, 1) := by decide +kernel
theorem dX7_ofBand_44 : decode cX7_ofBand 44 = .ok (.getfield 41, 3) := by decide +kernel
theorem dX7_ofBand_47 : decode cX7_ofBand 47 = .ok (.iload_n 1, 1) := by decide +kernel
theorem dX7_ofBand_48 : decode cX7_ofBand 48 = .ok (.iaload, 1) := by decide +kernel
theorem dX7_ofBand_49 : decode cX7_ofBand 49 = .ok (.goto 25, 3) := by decide +kernel
theorem dX7_ofBand_52 : decode cX7_ofBand 52 = .ok (.iload_n 2, 1) := by decide +kernel
theorem dX7_ofBand_53 : decode cX7_ofBand 53 = .ok (.iconst 1, 1) := by decide +kernel
theorem dX7_ofBand_54 : decode cX7_ofBand 54 = .ok (.if_icmp .ne 12, 3) := by decide +kernel
theorem dX7_ofBand_57 : decode cX7_ofBand 57 = .ok (.aload_n 0, 1) := by decide +kernel
theorem dX7_ofBand_58 : decode cX7_ofBand 58 = .ok (.getfield 47, 3) := by decide +kernel
theorem dX7_ofBand_61 : decode cX7_ofBand 61 = .ok (.iload_n 1, 1) := by decide +kernel
theorem dX7_ofBand_62 : decode cX7_ofBand 62 = .ok (.iaload, 1) := by decide +kernel
theorem dX7_ofBand_63 : decode cX7_ofBand 63 = .ok (.goto 11, 3) := by decide +kernel
theorem dX7_ofBand_66 : decode cX7_ofBand 66 = .ok (.aload_n 0, 1) := by decide +kernel
theorem dX7_ofBand_67 : decode cX7_ofBand 67 = .ok (.getfield 47, 3) := by decide +kernel
theorem dX7_ofBand_70 : decode cX7_ofBand 70 = .ok (.iload_n 1, 1) := by decide +kernel
theorem dX7_ofBand_71 : decode cX7_ofBand 71 = .ok (.iaload, 1) := by decide +kernel
theorem dX7_ofBand_72 : decode cX7_ofBand 72 = .ok (.iconst 4, 1) := by decide +kernel
theorem dX7_ofBand_73 : decode cX7_ofBand 73 = .ok (.idiv, 1) := by decide +kernel
theorem dX7_ofBand_74 : decode cX7_ofBand 74 = .ok (.ireturn, 1) := by decide +kernel
theorem dX7_ofBand_75 : decode cX7_ofBand 75 = .ok (.iload_n 2, 1) := by decide +kernel
theorem dX7_ofBand_76 : decode cX7_ofBand 76 = .ok (.iconst 3, 1) := by decide +kernel
theorem dX7_ofBand_77 : decode cX7_ofBand 77 = .ok (.if_icmp .ne 25, 3) := by decide +kernel
theorem dX7_ofBand_80 : decode cX7_ofBand 80 = .ok (.aload_n 0, 1) := by decide +kernel
theorem dX7_ofBand_81 : decode cX7_ofBand 81 = .ok (.getfield 62, 3) := by decide +kernel
theorem dX7_ofBand_84 : decode cX7_ofBand 84 = .ok (.iload_n 1, 1) := by decide +kernel
theorem dX7_ofBand_85 : decode cX7_ofBand 85 = .ok (.baload, 1) := by decide +kernel
theorem dX7_ofBand_86 : decode cX7_ofBand 86 = .ok (.ifCond .eq 12, 3) := by decide +kernel
theorem dX7_ofBand_89 : decode cX7_ofBand 89 = .ok (.aload_n 0, 1) := by decide +kernel
theorem dX7_ofBand_90 : decode cX7_ofBand 90 = .ok (.getfield 65, 3) := by decide +kernel
theorem dX7_ofBand_93 : decode cX7_ofBand 93 = .ok (.iload_n 1, 1) := by decide +kernel
theorem dX7_ofBand_94 : decode cX7_ofBand 94 = .ok (.iaload, 1) := by decide +kernel
theorem dX7_ofBand_95 : decode cX7_ofBand 95 = .ok (.goto 25, 3) := by decide +kernel
theorem dX7_ofBand_98 : decode cX7_ofBand 98 = .ok (.iconst (-1), 1) := by decide +kernel
theorem dX7_ofBand_99 : decode cX7_ofBand 99 = .ok (.goto 21, 3) := by decide +kernel
theorem dX7_ofBand_102 : decode cX7_ofBand 102 = .ok (.aload_n 0, 1) := by decide +kernel
theorem dX7_ofBand_103 : decode cX7_ofBand 103 = .ok (.getfield 59, 3) := by decide +kernel
theorem dX7_ofBand_106 : decode cX7_ofBand 106 = .ok (.iload_n 1, 1) := by decide +kernel
theorem dX7_ofBand_107 : decode cX7_ofBand 107 = .ok (.iaload, 1) := by decide +kernel
theorem dX7_ofBand_108 : decode cX7_ofBand 108 = .ok (.aload_n 0, 1) := by decide +kernel
theorem dX7_ofBand_109 : decode cX7_ofBand 109 = .ok (.getfield 143, 3) := by decide +kernel
theorem dX7_ofBand_112 : decode cX7_ofBand 112 = .ok (.if_icmp .ne 7, 3) := by decide +kernel
theorem dX7_ofBand_115 : decode cX7_ofBand 115 = .ok (.iconst 1, 1) := by decide +kernel
theorem dX7_ofBand_116 : decode cX7_ofBand 116 = .ok (.goto 4, 3) := by decide +kernel
theorem dX7_ofBand_119 : decode cX7_ofBand 119 = .ok (.iconst 0, 1) := by decide +kernel
theorem dX7_ofBand_120 : decode cX7_ofBand 120 = .ok (.ireturn, 1) := by decide +kernel
theorem dX7_lies_0 : decode cX7_lies 0 = .ok (.iload_n 1, 1) := by decide +kernel
theorem dX7_lies_1 : decode cX7_lies 1 = .ok (.ifCond .ne 13, 3) := by decide +kernel
theorem dX7_lies_4 : decode cX7_lies 4 = .ok (.bipush 7, 2) := by decide +kernel
theorem dX7_lies_6 : decode cX7_lies 6 = .ok (.iload_n 0, 1) := by decide +kernel
theorem dX7_lies_7 : decode cX7_lies 7 = .ok (.imul, 1) := by decide +kernel
theorem dX7_lies_8 : decode cX7_lies 8 = .ok (.bipush 12, 2) := by decide +kernel
theorem dX7_lies_10 : decode cX7_lies 10 = .ok (.irem, 1) := by decide +kernel
theorem dX7_lies_11 : decode cX7_lies 11 = .ok (.goto 12, 3) := by decide +kernel
theorem dX7_lies_14 : decode cX7_lies 14 = .ok (.iconst 4, 1) := by decide +kernel
theorem dX7_lies_15 : decode cX7_lies 15 = .ok (.iload_n 0, 1) := by decide +kernel
theorem dX7_lies_16 : decode cX7_lies 16 = .ok (.iconst 3, 1) := by decide +kernel
theorem dX7_lies_17 : decode cX7_lies 17 = .ok (.irem, 1) := by decide +kernel
theorem dX7_lies_18 : decode cX7_lies 18 = .ok (.imul, 1) := by decide +kernel
theorem dX7_lies_19 : decode cX7_lies 19 = .ok (.iload_n 0, 1) := by decide +kernel
theorem dX7_lies_20 : decode cX7_lies 20 = .ok (.iconst 3, 1) := by decide +kernel
theorem dX7_lies_21 : decode cX7_lies 21 = .ok (.idiv, 1) := by decide +kernel
theorem dX7_lies_22 : decode cX7_lies 22 = .ok (.iadd, 1) := by decide +kernel
theorem dX7_lies_23 : decode cX7_lies 23 = .ok (.ireturn, 1) := by decide +kernel
set_option maxRecDepth 20000 in
theorem ggX7_leap_X7_lies : GoodIn wsX7_leap wsX7_lies := goodIn_r _ [5] (by decide +kernel) (by decide +kernel)
set_option maxRecDepth 20000 in
theorem gX7_leap_X7_lies : GoodIn wsX7_leap (va_wsS RX7 169 yX7_lies wsX7_lies) := goodIn_app (goodIn_of _ (by decide +kernel)) ggX7_leap_X7_lies
theorem dX7_leap_0 : decode cX7_leap 0 = .ok (.aload_n 0, 1) := by decide +kernel
theorem dX7_leap_1 : decode cX7_leap 1 = .ok (.getfield 50, 3) := by decide +kernel
theorem dX7_leap_4 : decode cX7_leap 4 = .ok (.bipush 24, 2) := by decide +kernel
theorem dX7_leap_6 : decode cX7_leap 6 = .ok (.iload_n 1, 1) := by decide +kernel
theorem dX7_leap_7 : decode cX7_leap 7 = .ok (.imul, 1) := by decide +kernel
theorem dX7_leap_8 : decode cX7_leap 8 = .ok (.iload_n 2, 1) := by decide +kernel
theorem dX7_leap_9 : decode cX7_leap 9 = .ok (.iadd, 1) := by decide +kernel
theorem dX7_leap_10 : decode cX7_leap 10 = .ok (.iaload, 1) := by decide +kernel
theorem dX7_leap_11 : decode cX7_leap 11 = .ok (.iload_n 3, 1) := by decide +kernel
theorem dX7_leap_12 : decode cX7_leap 12 = .ok (.invokestatic 169, 3) := by decide +kernel
theorem dX7_leap_15 : decode cX7_leap 15 = .ok (.istore 4, 2) := by decide +kernel
theorem dX7_leap_17 : decode cX7_leap 17 = .ok (.aload_n 0, 1) := by decide +kernel
theorem dX7_leap_18 : decode cX7_leap 18 = .ok (.getfield 50, 3) := by decide +kernel
theorem dX7_leap_21 : decode cX7_leap 21 = .ok (.bipush 24, 2) := by decide +kernel
theorem dX7_leap_23 : decode cX7_leap 23 = .ok (.iload_n 1, 1) := by decide +kernel
theorem dX7_leap_24 : decode cX7_leap 24 = .ok (.imul, 1) := by decide +kernel
theorem dX7_leap_25 : decode cX7_leap 25 = .ok (.iload_n 2, 1) := by decide +kernel
theorem dX7_leap_26 : decode cX7_leap 26 = .ok (.iadd, 1) := by decide +kernel
theorem dX7_leap_27 : decode cX7_leap 27 = .ok (.iconst 1, 1) := by decide +kernel
theorem dX7_leap_28 : decode cX7_leap 28 = .ok (.iadd, 1) := by decide +kernel
theorem dX7_leap_29 : decode cX7_leap 29 = .ok (.iaload, 1) := by decide +kernel
theorem dX7_leap_30 : decode cX7_leap 30 = .ok (.iload_n 3, 1) := by decide +kernel
theorem dX7_leap_31 : decode cX7_leap 31 = .ok (.invokestatic 169, 3) := by decide +kernel
theorem dX7_leap_34 : decode cX7_leap 34 = .ok (.istore 5, 2) := by decide +kernel
theorem dX7_leap_36 : decode cX7_leap 36 = .ok (.iload 4, 2) := by decide +kernel
theorem dX7_leap_38 : decode cX7_leap 38 = .ok (.iload 5, 2) := by decide +kernel
theorem dX7_leap_40 : decode cX7_leap 40 = .ok (.if_icmp .le 11, 3) := by decide +kernel
theorem dX7_leap_43 : decode cX7_leap 43 = .ok (.iload 4, 2) := by decide +kernel
theorem dX7_leap_45 : decode cX7_leap 45 = .ok (.iload 5, 2) := by decide +kernel
theorem dX7_leap_47 : decode cX7_leap 47 = .ok (.isub, 1) := by decide +kernel
theorem dX7_leap_48 : decode cX7_leap 48 = .ok (.goto 8, 3) := by decide +kernel
theorem dX7_leap_51 : decode cX7_leap 51 = .ok (.iload 5, 2) := by decide +kernel
theorem dX7_leap_53 : decode cX7_leap 53 = .ok (.iload 4, 2) := by decide +kernel
theorem dX7_leap_55 : decode cX7_leap 55 = .ok (.isub, 1) := by decide +kernel
theorem dX7_leap_56 : decode cX7_leap 56 = .ok (.istore 6, 2) := by decide +kernel
theorem dX7_leap_58 : decode cX7_leap 58 = .ok (.iload 6, 2) := by decide +kernel
theorem dX7_leap_60 : decode cX7_leap 60 = .ok (.bipush 12, 2) := by decide +kernel
theorem dX7_leap_62 : decode cX7_leap 62 = .ok (.iload 6, 2) := by decide +kernel
theorem dX7_leap_64 : decode cX7_leap 64 = .ok (.isub, 1) := by decide +kernel
theorem dX7_leap_65 : decode cX7_leap 65 = .ok (.if_icmp .ge 8, 3) := by decide +kernel
theorem dX7_leap_68 : decode cX7_leap 68 = .ok (.iload 6, 2) := by decide +kernel
theorem dX7_leap_70 : decode cX7_leap 70 = .ok (.goto 8, 3) := by decide +kernel
theorem dX7_leap_73 : decode cX7_leap 73 = .ok (.bipush 12, 2) := by decide +kernel
theorem dX7_leap_75 : decode cX7_leap 75 = .ok (.iload 6, 2) := by decide +kernel
theorem dX7_leap_77 : decode cX7_leap 77 = .ok (.isub, 1) := by decide +kernel
theorem dX7_leap_78 : decode cX7_leap 78 = .ok (.ireturn, 1) := by decide +kernel
set_option maxRecDepth 20000 in
theorem ggX7_within_X7_leap : GoodIn wsX7_within wsX7_leap := goodIn_r _ [5, 6, 7, 8, 4, 9, 10, 11, 12, 13, 14, 15, 16, 17, 18, 19, 20, 21, 22, 23, 24, 25, 26, 27, 28, 29, 30, 31, 32, 33, 34, 35, 36, 37, 38] (by decide +kernel) (by decide +kernel)
set_option maxRecDepth 20000 in
theorem gX7_within_X7_leap : GoodIn wsX7_within (wsV RX7 172 RX7 yX7_leap wsX7_leap) := goodIn_app (goodIn_of _ (by decide +kernel)) ggX7_within_X7_leap
theorem dX7_within_0 : decode cX7_within 0 = .ok (.aload_n 0, 1) := by decide +kernel
theorem dX7_within_1 : decode cX7_within 1 = .ok (.iload_n 1, 1) := by decide +kernel
theorem dX7_within_2 : decode cX7_within 2 = .ok (.iconst 4, 1) := by decide +kernel
theorem dX7_within_3 : decode cX7_within 3 = .ok (.iload_n 2, 1) := by decide +kernel
theorem dX7_within_4 : decode cX7_within 4 = .ok (.imul, 1) := by decide +kernel
theorem dX7_within_5 : decode cX7_within 5 = .ok (.iload_n 3, 1) := by decide +kernel
theorem dX7_within_6 : decode cX7_within 6 = .ok (.invokevirtual 172, 3) := by decide +kernel
theorem dX7_within_9 : decode cX7_within 9 = .ok (.aload_n 0, 1) := by decide +kernel
theorem dX7_within_10 : decode cX7_within 10 = .ok (.iload_n 1, 1) := by decide +kernel
theorem dX7_within_11 : decode cX7_within 11 = .ok (.iconst 4, 1) := by decide +kernel
theorem dX7_within_12 : decode cX7_within 12 = .ok (.iload_n 2, 1) := by decide +kernel
theorem dX7_within_13 : decode cX7_within 13 = .ok (.imul, 1) := by decide +kernel
theorem dX7_within_14 : decode cX7_within 14 = .ok (.iconst 1, 1) := by decide +kernel
theorem dX7_within_15 : decode cX7_within 15 = .ok (.iadd, 1) := by decide +kernel
theorem dX7_within_16 : decode cX7_within 16 = .ok (.iload_n 3, 1) := by decide +kernel
theorem dX7_within_17 : decode cX7_within 17 = .ok (.invokevirtual 172, 3) := by decide +kernel
theorem dX7_within_20 : decode cX7_within 20 = .ok (.iadd, 1) := by decide +kernel
theorem dX7_within_21 : decode cX7_within 21 = .ok (.aload_n 0, 1) := by decide +kernel
theorem dX7_within_22 : decode cX7_within 22 = .ok (.iload_n 1, 1) := by decide +kernel
theorem dX7_within_23 : decode cX7_within 23 = .ok (.iconst 4, 1) := by decide +kernel
theorem dX7_within_24 : decode cX7_within 24 = .ok (.iload_n 2, 1) := by decide +kernel
theorem dX7_within_25 : decode cX7_within 25 = .ok (.imul, 1) := by decide +kernel
theorem dX7_within_26 : decode cX7_within 26 = .ok (.iconst 2, 1) := by decide +kernel
theorem dX7_within_27 : decode cX7_within 27 = .ok (.iadd, 1) := by decide +kernel
theorem dX7_within_28 : decode cX7_within 28 = .ok (.iload_n 3, 1) := by decide +kernel
theorem dX7_within_29 : decode cX7_within 29 = .ok (.invokevirtual 172, 3) := by decide +kernel
theorem dX7_within_32 : decode cX7_within 32 = .ok (.iadd, 1) := by decide +kernel
theorem dX7_within_33 : decode cX7_within 33 = .ok (.ireturn, 1) := by decide +kernel
set_option maxRecDepth 20000 in
theorem ggX7_between_X7_leap : GoodIn wsX7_between wsX7_leap := goodIn_r _ [7, 8, 9, 10, 6, 11, 12, 13, 14, 15, 16, 17, 18, 19, 20, 21, 22, 23, 24, 25, 26, 27, 28, 29, 30, 31, 32, 33, 34, 35, 36, 37, 38, 39, 40] (by decide +kernel) (by decide +kernel)
set_option maxRecDepth 20000 in
theorem gX7_between_X7_leap : GoodIn wsX7_between (wsV RX7 172 RX7 yX7_leap wsX7_leap) := goodIn_app (goodIn_of _ (by decide +kernel)) ggX7_between_X7_leap
theorem dX7_between_0 : decode cX7_between 0 = .ok (.iload_n 3, 1) := by decide +kernel
theorem dX7_between_1 : decode cX7_between 1 = .ok (.iload 4, 2) := by decide +kernel
theorem dX7_between_3 : decode cX7_between 3 = .ok (.if_icmp .ne 32, 3) := by decide +kernel
theorem dX7_between_6 : decode cX7_between 6 = .ok (.aload_n 0, 1) := by decide +kernel
theorem dX7_between_7 : decode cX7_between 7 = .ok (.iload_n 1, 1) := by decide +kernel
theorem dX7_between_8 : decode cX7_between 8 = .ok (.iconst 4, 1) := by decide +kernel
theorem dX7_between_9 : decode cX7_between 9 = .ok (.iload_n 2, 1) := by decide +kernel
theorem dX7_between_10 : decode cX7_between 10 = .ok (.imul, 1) := by decide +kernel
theorem dX7_between_11 : decode cX7_between 11 = .ok (.iconst 1, 1) := by decide +kernel
theorem dX7_between_12 : decode cX7_between 12 = .ok (.isub, 1) := by decide +kernel
theorem dX7_between_13 : decode cX7_between 13 = .ok (.aload_n 0, 1) := by decide +kernel
theorem dX7_between_14 : decode cX7_between 14 = .ok (.getfield 29, 3) := by decide +kernel
theorem dX7_between_17 : decode cX7_between 17 = .ok (.aload_n 0, 1) := by decide +kernel
theorem dX7_between_18 : decode cX7_between 18 = .ok (.getfield 44, 3) := by decide +kernel
theorem dX7_between_21 : decode cX7_between 21 = .ok (.bipush 8, 2) := by decide +kernel
theorem dX7_between_23 : decode cX7_between 23 = .ok (.iload_n 1, 1) := by decide +kernel
theorem dX7_between_24 : decode cX7_between 24 = .ok (.imul, 1) := by decide +kernel
theorem dX7_between_25 : decode cX7_between 25 = .ok (.iload_n 3, 1) := by decide +kernel
theorem dX7_between_26 : decode cX7_between 26 = .ok (.iadd, 1) := by decide +kernel
theorem dX7_between_27 : decode cX7_between 27 = .ok (.iaload, 1) := by decide +kernel
theorem dX7_between_28 : decode cX7_between 28 = .ok (.iaload, 1) := by decide +kernel
theorem dX7_between_29 : decode cX7_between 29 = .ok (.invokevirtual 172, 3) := by decide +kernel
theorem dX7_between_32 : decode cX7_between 32 = .ok (.goto 4, 3) := by decide +kernel
theorem dX7_between_35 : decode cX7_between 35 = .ok (.iconst 2, 1) := by decide +kernel
theorem dX7_between_36 : decode cX7_between 36 = .ok (.ireturn, 1) := by decide +kernel
set_option maxRecDepth 20000 in
theorem ggX7_lays_X7_between : GoodIn wsX7_lays wsX7_between := goodIn_r _ [13, 6, 7, 14, 15, 16, 12, 17, 18, 19, 20, 21, 30, 31, 32, 33, 34, 35, 36, 37, 38, 39, 40, 41, 42, 43, 44, 45, 46, 47, 48, 49, 50, 51, 52, 53, 54, 55, 56, 57, 58] (by decide +kernel) (by decide +kernel)
set_option maxRecDepth 20000 in
theorem gX7_lays_X7_between : GoodIn wsX7_lays (wsV RX7 176 RX7 yX7_between wsX7_between) := goodIn_app (goodIn_of _ (by decide +kernel)) ggX7_lays_X7_between
set_option maxRecDepth 20000 in
theorem ggX7_lays_X7_at : GoodIn wsX7_lays wsX7_at := goodIn_r _ [25] (by decide +kernel) (by decide +kernel)
set_option maxRecDepth 20000 in
theorem gX7_lays_X7_at : GoodIn wsX7_lays (wsV RX7 153 RX7 yX7_at wsX7_at) := goodIn_app (goodIn_of _ (by decide +kernel)) ggX7_lays_X7_at
set_option maxRecDepth 20000 in
theorem ggX7_lays_X7_within : GoodIn wsX7_lays wsX7_within := goodIn_r _ [29, 14, 15, 16, 12, 17, 18, 19, 20, 21, 30, 31, 32, 33, 34, 35, 36, 37, 38, 39, 40, 41, 42, 43, 44, 45, 46, 47, 48, 49, 50, 51, 52, 53, 54, 55, 56, 57, 58] (by decide +kernel) (by decide +kernel)
set_option maxRecDepth 20000 in
theorem gX7_lays_X7_within : GoodIn wsX7_lays (wsV RX7 180 RX7 yX7_within wsX7_within) := goodIn_app (goodIn_of _ (by decide +kernel)) ggX7_lays_X7_within
theorem dX7_lays_0 : decode cX7_lays 0 = .ok (.aload_n 0, 1) := by decide +kernel
theorem dX7_lays_1 : decode cX7_lays 1 = .ok (.getfield 47, 3) := by decide +kernel
theorem dX7_lays_4 : decode cX7_lays 4 = .ok (.iload_n 1, 1) := by decide +kernel
theorem dX7_lays_5 : decode cX7_lays 5 = .ok (.iaload, 1) := by decide +kernel
theorem dX7_lays_6 : decode cX7_lays 6 = .ok (.iconst 4, 1) := by decide +kernel
theorem dX7_lays_7 : decode cX7_lays 7 = .ok (.idiv, 1) := by decide +kernel
theorem dX7_lays_8 : decode cX7_lays 8 = .ok (.iconst 1, 1) := by decide +kernel
theorem dX7_lays_9 : decode cX7_lays 9 = .ok (.isub, 1) := by decide +kernel
theorem dX7_lays_10 : decode cX7_lays 10 = .ok (.istore_n 3, 1) := by decide +kernel
theorem dX7_lays_11 : decode cX7_lays 11 = .ok (.iload_n 3, 1) := by decide +kernel
theorem dX7_lays_12 : decode cX7_lays 12 = .ok (.istore 4, 2) := by decide +kernel
theorem dX7_lays_14 : decode cX7_lays 14 = .ok (.iload 4, 2) := by decide +kernel
theorem dX7_lays_16 : decode cX7_lays 16 = .ok (.ifCond .lt 204, 3) := by decide +kernel
theorem dX7_lays_19 : decode cX7_lays 19 = .ok (.iconst 0, 1) := by decide +kernel
theorem dX7_lays_20 : decode cX7_lays 20 = .ok (.istore 5, 2) := by decide +kernel
theorem dX7_lays_22 : decode cX7_lays 22 = .ok (.iload 5, 2) := by decide +kernel
theorem dX7_lays_24 : decode cX7_lays 24 = .ok (.aload_n 0, 1) := by decide +kernel
theorem dX7_lays_25 : decode cX7_lays 25 = .ok (.getfield 41, 3) := by decide +kernel
theorem dX7_lays_28 : decode cX7_lays 28 = .ok (.iload_n 1, 1) := by decide +kernel
theorem dX7_lays_29 : decode cX7_lays 29 = .ok (.iaload, 1) := by decide +kernel
theorem dX7_lays_30 : decode cX7_lays 30 = .ok (.if_icmp .ge 184, 3) := by decide +kernel
theorem dX7_lays_33 : decode cX7_lays 33 = .ok (.iload 4, 2) := by decide +kernel
theorem dX7_lays_35 : decode cX7_lays 35 = .ok (.iload_n 3, 1) := by decide +kernel
theorem dX7_lays_36 : decode cX7_lays 36 = .ok (.if_icmp .ne 7, 3) := by decide +kernel
theorem dX7_lays_39 : decode cX7_lays 39 = .ok (.iconst 0, 1) := by decide +kernel
theorem dX7_lays_40 : decode cX7_lays 40 = .ok (.goto 5, 3) := by decide +kernel
theorem dX7_lays_43 : decode cX7_lays 43 = .ok (.ldc 175, 2) := by decide +kernel
theorem dX7_lays_45 : decode cX7_lays 45 = .ok (.istore 6, 2) := by decide +kernel
theorem dX7_lays_47 : decode cX7_lays 47 = .ok (.iconst 0, 1) := by decide +kernel
theorem dX7_lays_48 : decode cX7_lays 48 = .ok (.istore 7, 2) := by decide +kernel
theorem dX7_lays_50 : decode cX7_lays 50 = .ok (.iload 7, 2) := by decide +kernel
theorem dX7_lays_52 : decode cX7_lays 52 = .ok (.aload_n 0, 1) := by decide +kernel
theorem dX7_lays_53 : decode cX7_lays 53 = .ok (.getfield 41, 3) := by decide +kernel
theorem dX7_lays_56 : decode cX7_lays 56 = .ok (.iload_n 1, 1) := by decide +kernel
theorem dX7_lays_57 : decode cX7_lays 57 = .ok (.iaload, 1) := by decide +kernel
theorem dX7_lays_58 : decode cX7_lays 58 = .ok (.if_icmp .ge 62, 3) := by decide +kernel
theorem dX7_lays_61 : decode cX7_lays 61 = .ok (.iload 4, 2) := by decide +kernel
theorem dX7_lays_63 : decode cX7_lays 63 = .ok (.iload_n 3, 1) := by decide +kernel
theorem dX7_lays_64 : decode cX7_lays 64 = .ok (.if_icmp .ge 56, 3) := by decide +kernel
theorem dX7_lays_67 : decode cX7_lays 67 = .ok (.aload_n 0, 1) := by decide +kernel
theorem dX7_lays_68 : decode cX7_lays 68 = .ok (.getfield 77, 3) := by decide +kernel
theorem dX7_lays_71 : decode cX7_lays 71 = .ok (.bipush 8, 2) := by decide +kernel
theorem dX7_lays_73 : decode cX7_lays 73 = .ok (.iload 4, 2) := by decide +kernel
theorem dX7_lays_75 : decode cX7_lays 75 = .ok (.iconst 1, 1) := by decide +kernel
theorem dX7_lays_76 : decode cX7_lays 76 = .ok (.iadd, 1) := by decide +kernel
theorem dX7_lays_77 : decode cX7_lays 77 = .ok (.imul, 1) := by decide +kernel
theorem dX7_lays_78 : decode cX7_lays 78 = .ok (.iload 7, 2) := by decide +kernel
theorem dX7_lays_80 : decode cX7_lays 80 = .ok (.iadd, 1) := by decide +kernel
theorem dX7_lays_81 : decode cX7_lays 81 = .ok (.iaload, 1) := by decide +kernel
theorem dX7_lays_82 : decode cX7_lays 82 = .ok (.aload_n 0, 1) := by decide +kernel
theorem dX7_lays_83 : decode cX7_lays 83 = .ok (.iload_n 1, 1) := by decide +kernel
theorem dX7_lays_84 : decode cX7_lays 84 = .ok (.iload 4, 2) := by decide +kernel
theorem dX7_lays_86 : decode cX7_lays 86 = .ok (.iconst 1, 1) := by decide +kernel
theorem dX7_lays_87 : decode cX7_lays 87 = .ok (.iadd, 1) := by decide +kernel
theorem dX7_lays_88 : decode cX7_lays 88 = .ok (.iload 7, 2) := by decide +kernel
theorem dX7_lays_90 : decode cX7_lays 90 = .ok (.iload 5, 2) := by decide +kernel
theorem dX7_lays_92 : decode cX7_lays 92 = .ok (.invokevirtual 176, 3) := by decide +kernel
theorem dX7_lays_95 : decode cX7_lays 95 = .ok (.iadd, 1) := by decide +kernel
theorem dX7_lays_96 : decode cX7_lays 96 = .ok (.istore 8, 2) := by decide +kernel
theorem dX7_lays_98 : decode cX7_lays 98 = .ok (.iload 8, 2) := by decide +kernel
theorem dX7_lays_100 : decode cX7_lays 100 = .ok (.iload 6, 2) := by decide +kernel
theorem dX7_lays_102 : decode cX7_lays 102 = .ok (.if_icmp .ge 8, 3) := by decide +kernel
theorem dX7_lays_105 : decode cX7_lays 105 = .ok (.iload 8, 2) := by decide +kernel
theorem dX7_lays_107 : decode cX7_lays 107 = .ok (.goto 5, 3) := by decide +kernel
theorem dX7_lays_110 : decode cX7_lays 110 = .ok (.iload 6, 2) := by decide +kernel
theorem dX7_lays_112 : decode cX7_lays 112 = .ok (.istore 6, 2) := by decide +kernel
theorem dX7_lays_114 : decode cX7_lays 114 = .ok (.iinc 7 1, 3) := by decide +kernel
theorem dX7_lays_117 : decode cX7_lays 117 = .ok (.goto (-67), 3) := by decide +kernel
theorem dX7_lays_120 : decode cX7_lays 120 = .ok (.aload_n 0, 1) := by decide +kernel
theorem dX7_lays_121 : decode cX7_lays 121 = .ok (.getfield 53, 3) := by decide +kernel
theorem dX7_lays_124 : decode cX7_lays 124 = .ok (.aload_n 0, 1) := by decide +kernel
theorem dX7_lays_125 : decode cX7_lays 125 = .ok (.iload_n 1, 1) := by decide +kernel
theorem dX7_lays_126 : decode cX7_lays 126 = .ok (.iload 5, 2) := by decide +kernel
theorem dX7_lays_128 : decode cX7_lays 128 = .ok (.iload 4, 2) := by decide +kernel
theorem dX7_lays_130 : decode cX7_lays 130 = .ok (.invokevirtual 153, 3) := by decide +kernel
theorem dX7_lays_133 : decode cX7_lays 133 = .ok (.iaload, 1) := by decide +kernel
theorem dX7_lays_134 : decode cX7_lays 134 = .ok (.iconst 1, 1) := by decide +kernel
theorem dX7_lays_135 : decode cX7_lays 135 = .ok (.if_icmp .ne 20, 3) := by decide +kernel
theorem dX7_lays_138 : decode cX7_lays 138 = .ok (.iload 5, 2) := by decide +kernel
theorem dX7_lays_140 : decode cX7_lays 140 = .ok (.iload_n 2, 1) := by decide +kernel
theorem dX7_lays_141 : decode cX7_lays 141 = .ok (.if_icmp .eq 14, 3) := by decide +kernel
theorem dX7_lays_144 : decode cX7_lays 144 = .ok (.iload 6, 2) := by decide +kernel
theorem dX7_lays_146 : decode cX7_lays 146 = .ok (.ldc 175, 2) := by decide +kernel
theorem dX7_lays_148 : decode cX7_lays 148 = .ok (.if_icmp .ge 7, 3) := by decide +kernel
theorem dX7_lays_151 : decode cX7_lays 151 = .ok (.iconst 1, 1) := by decide +kernel
theorem dX7_lays_152 : decode cX7_lays 152 = .ok (.goto 4, 3) := by decide +kernel
theorem dX7_lays_155 : decode cX7_lays 155 = .ok (.iconst 0, 1) := by decide +kernel
theorem dX7_lays_156 : decode cX7_lays 156 = .ok (.istore 7, 2) := by decide +kernel
theorem dX7_lays_158 : decode cX7_lays 158 = .ok (.aload_n 0, 1) := by decide +kernel
theorem dX7_lays_159 : decode cX7_lays 159 = .ok (.getfield 77, 3) := by decide +kernel
theorem dX7_lays_162 : decode cX7_lays 162 = .ok (.bipush 8, 2) := by decide +kernel
theorem dX7_lays_164 : decode cX7_lays 164 = .ok (.iload 4, 2) := by decide +kernel
theorem dX7_lays_166 : decode cX7_lays 166 = .ok (.imul, 1) := by decide +kernel
theorem dX7_lays_167 : decode cX7_lays 167 = .ok (.iload 5, 2) := by decide +kernel
theorem dX7_lays_169 : decode cX7_lays 169 = .ok (.iadd, 1) := by decide +kernel
theorem dX7_lays_170 : decode cX7_lays 170 = .ok (.iload 7, 2) := by decide +kernel
theorem dX7_lays_172 : decode cX7_lays 172 = .ok (.ifCond .eq 33, 3) := by decide +kernel
theorem dX7_lays_175 : decode cX7_lays 175 = .ok (.aload_n 0, 1) := by decide +kernel
theorem dX7_lays_176 : decode cX7_lays 176 = .ok (.iload_n 1, 1) := by decide +kernel
theorem dX7_lays_177 : decode cX7_lays 177 = .ok (.iload 4, 2) := by decide +kernel
theorem dX7_lays_179 : decode cX7_lays 179 = .ok (.aload_n 0, 1) := by decide +kernel
theorem dX7_lays_180 : decode cX7_lays 180 = .ok (.getfield 29, 3) := by decide +kernel
theorem dX7_lays_183 : decode cX7_lays 183 = .ok (.aload_n 0, 1) := by decide +kernel
theorem dX7_lays_184 : decode cX7_lays 184 = .ok (.getfield 44, 3) := by decide +kernel
theorem dX7_lays_187 : decode cX7_lays 187 = .ok (.bipush 8, 2) := by decide +kernel
theorem dX7_lays_189 : decode cX7_lays 189 = .ok (.iload_n 1, 1) := by decide +kernel
theorem dX7_lays_190 : decode cX7_lays 190 = .ok (.imul, 1) := by decide +kernel
theorem dX7_lays_191 : decode cX7_lays 191 = .ok (.iload 5, 2) := by decide +kernel
theorem dX7_lays_193 : decode cX7_lays 193 = .ok (.iadd, 1) := by decide +kernel
theorem dX7_lays_194 : decode cX7_lays 194 = .ok (.iaload, 1) := by decide +kernel
theorem dX7_lays_195 : decode cX7_lays 195 = .ok (.iaload, 1) := by decide +kernel
theorem dX7_lays_196 : decode cX7_lays 196 = .ok (.invokevirtual 180, 3) := by decide +kernel
theorem dX7_lays_199 : decode cX7_lays 199 = .ok (.iload 6, 2) := by decide +kernel
theorem dX7_lays_201 : decode cX7_lays 201 = .ok (.iadd, 1) := by decide +kernel
theorem dX7_lays_202 : decode cX7_lays 202 = .ok (.goto 5, 3) := by decide +kernel
theorem dX7_lays_205 : decode cX7_lays 205 = .ok (.ldc 175, 2) := by decide +kernel
theorem dX7_lays_207 : decode cX7_lays 207 = .ok (.iastore, 1) := by decide +kernel
theorem dX7_lays_208 : decode cX7_lays 208 = .ok (.iinc 5 1, 3) := by decide +kernel
theorem dX7_lays_211 : decode cX7_lays 211 = .ok (.goto (-189), 3) := by decide +kernel
theorem dX7_lays_214 : decode cX7_lays 214 = .ok (.iinc 4 (-1), 3) := by decide +kernel
theorem dX7_lays_217 : decode cX7_lays 217 = .ok (.goto (-203), 3) := by decide +kernel
theorem dX7_lays_220 : decode cX7_lays 220 = .ok (.ldc 175, 2) := by decide +kernel
theorem dX7_lays_222 : decode cX7_lays 222 = .ok (.istore 4, 2) := by decide +kernel
theorem dX7_lays_224 : decode cX7_lays 224 = .ok (.iconst 0, 1) := by decide +kernel
theorem dX7_lays_225 : decode cX7_lays 225 = .ok (.istore 5, 2) := by decide +kernel
theorem dX7_lays_227 : decode cX7_lays 227 = .ok (.iload 5, 2) := by decide +kernel
theorem dX7_lays_229 : decode cX7_lays 229 = .ok (.iload_n 3, 1) := by decide +kernel
theorem dX7_lays_230 : decode cX7_lays 230 = .ok (.if_icmp .gt 133, 3) := by decide +kernel
theorem dX7_lays_233 : decode cX7_lays 233 = .ok (.ldc 175, 2) := by decide +kernel
theorem dX7_lays_235 : decode cX7_lays 235 = .ok (.istore 6, 2) := by decide +kernel
theorem dX7_lays_237 : decode cX7_lays 237 = .ok (.aload_n 0, 1) := by decide +kernel
theorem dX7_lays_238 : decode cX7_lays 238 = .ok (.getfield 41, 3) := by decide +kernel
theorem dX7_lays_241 : decode cX7_lays 241 = .ok (.iload_n 1, 1) := by decide +kernel
theorem dX7_lays_242 : decode cX7_lays 242 = .ok (.iaload, 1) := by decide +kernel
theorem dX7_lays_243 : decode cX7_lays 243 = .ok (.iconst 1, 1) := by decide +kernel
theorem dX7_lays_244 : decode cX7_lays 244 = .ok (.isub, 1) := by decide +kernel
theorem dX7_lays_245 : decode cX7_lays 245 = .ok (.istore 7, 2) := by decide +kernel
theorem dX7_lays_247 : decode cX7_lays 247 = .ok (.iload 7, 2) := by decide +kernel
theorem dX7_lays_249 : decode cX7_lays 249 = .ok (.ifCond .lt 94, 3) := by decide +kernel
theorem dX7_lays_252 : decode cX7_lays 252 = .ok (.aload_n 0, 1) := by decide +kernel
theorem dX7_lays_253 : decode cX7_lays 253 = .ok (.getfield 77, 3) := by decide +kernel
theorem dX7_lays_256 : decode cX7_lays 256 = .ok (.bipush 8, 2) := by decide +kernel
theorem dX7_lays_258 : decode cX7_lays 258 = .ok (.iload 5, 2) := by decide +kernel
theorem dX7_lays_260 : decode cX7_lays 260 = .ok (.imul, 1) := by decide +kernel
theorem dX7_lays_261 : decode cX7_lays 261 = .ok (.iload 7, 2) := by decide +kernel
theorem dX7_lays_263 : decode cX7_lays 263 = .ok (.iadd, 1) := by decide +kernel
theorem dX7_lays_264 : decode cX7_lays 264 = .ok (.iaload, 1) := by decide +kernel
theorem dX7_lays_265 : decode cX7_lays 265 = .ok (.iload 5, 2) := by decide +kernel
theorem dX7_lays_267 : decode cX7_lays 267 = .ok (.ifCond .ne 7, 3) := by decide +kernel
theorem dX7_lays_270 : decode cX7_lays 270 = .ok (.iconst 0, 1) := by decide +kernel
theorem dX7_lays_271 : decode cX7_lays 271 = .ok (.goto 21, 3) := by decide +kernel
theorem dX7_lays_274 : decode cX7_lays 274 = .ok (.aload_n 0, 1) := by decide +kernel
theorem dX7_lays_275 : decode cX7_lays 275 = .ok (.iload_n 1, 1) := by decide +kernel
theorem dX7_lays_276 : decode cX7_lays 276 = .ok (.iload 5, 2) := by decide +kernel
theorem dX7_lays_278 : decode cX7_lays 278 = .ok (.iload 7, 2) := by decide +kernel
theorem dX7_lays_280 : decode cX7_lays 280 = .ok (.aload_n 0, 1) := by decide +kernel
theorem dX7_lays_281 : decode cX7_lays 281 = .ok (.getfield 80, 3) := by decide +kernel
theorem dX7_lays_284 : decode cX7_lays 284 = .ok (.iload 5, 2) := by decide +kernel
theorem dX7_lays_286 : decode cX7_lays 286 = .ok (.iconst 1, 1) := by decide +kernel
theorem dX7_lays_287 : decode cX7_lays 287 = .ok (.isub, 1) := by decide +kernel
theorem dX7_lays_288 : decode cX7_lays 288 = .ok (.iaload, 1) := by decide +kernel
theorem dX7_lays_289 : decode cX7_lays 289 = .ok (.invokevirtual 176, 3) := by decide +kernel
theorem dX7_lays_292 : decode cX7_lays 292 = .ok (.iadd, 1) := by decide +kernel
theorem dX7_lays_293 : decode cX7_lays 293 = .ok (.istore 8, 2) := by decide +kernel
theorem dX7_lays_295 : decode cX7_lays 295 = .ok (.aload_n 0, 1) := by decide +kernel
theorem dX7_lays_296 : decode cX7_lays 296 = .ok (.getfield 80, 3) := by decide +kernel
theorem dX7_lays_299 : decode cX7_lays 299 = .ok (.iload 5, 2) := by decide +kernel
theorem dX7_lays_301 : decode cX7_lays 301 = .ok (.iload 8, 2) := by decide +kernel
theorem dX7_lays_303 : decode cX7_lays 303 = .ok (.iload 6, 2) := by decide +kernel
theorem dX7_lays_305 : decode cX7_lays 305 = .ok (.if_icmp .gt 8, 3) := by decide +kernel
theorem dX7_lays_308 : decode cX7_lays 308 = .ok (.iload 7, 2) := by decide +kernel
theorem dX7_lays_310 : decode cX7_lays 310 = .ok (.goto 10, 3) := by decide +kernel
theorem dX7_lays_313 : decode cX7_lays 313 = .ok (.aload_n 0, 1) := by decide +kernel
theorem dX7_lays_314 : decode cX7_lays 314 = .ok (.getfield 80, 3) := by decide +kernel
theorem dX7_lays_317 : decode cX7_lays 317 = .ok (.iload 5, 2) := by decide +kernel
theorem dX7_lays_319 : decode cX7_lays 319 = .ok (.iaload, 1) := by decide +kernel
theorem dX7_lays_320 : decode cX7_lays 320 = .ok (.iastore, 1) := by decide +kernel
theorem dX7_lays_321 : decode cX7_lays 321 = .ok (.iload 8, 2) := by decide +kernel
theorem dX7_lays_323 : decode cX7_lays 323 = .ok (.iload 6, 2) := by decide +kernel
theorem dX7_lays_325 : decode cX7_lays 325 = .ok (.if_icmp .ge 8, 3) := by decide +kernel
theorem dX7_lays_328 : decode cX7_lays 328 = .ok (.iload 8, 2) := by decide +kernel
theorem dX7_lays_330 : decode cX7_lays 330 = .ok (.goto 5, 3) := by decide +kernel
theorem dX7_lays_333 : decode cX7_lays 333 = .ok (.iload 6, 2) := by decide +kernel
theorem dX7_lays_335 : decode cX7_lays 335 = .ok (.istore 6, 2) := by decide +kernel
theorem dX7_lays_337 : decode cX7_lays 337 = .ok (.iinc 7 (-1), 3) := by decide +kernel
theorem dX7_lays_340 : decode cX7_lays 340 = .ok (.goto (-93), 3) := by decide +kernel
theorem dX7_lays_343 : decode cX7_lays 343 = .ok (.iload 5, 2) := by decide +kernel
theorem dX7_lays_345 : decode cX7_lays 345 = .ok (.ifCond .ne 8, 3) := by decide +kernel
theorem dX7_lays_348 : decode cX7_lays 348 = .ok (.iload 6, 2) := by decide +kernel
theorem dX7_lays_350 : decode cX7_lays 350 = .ok (.goto 5, 3) := by decide +kernel
theorem dX7_lays_353 : decode cX7_lays 353 = .ok (.iload 4, 2) := by decide +kernel
theorem dX7_lays_355 : decode cX7_lays 355 = .ok (.istore 4, 2) := by decide +kernel
theorem dX7_lays_357 : decode cX7_lays 357 = .ok (.iinc 5 1, 3) := by decide +kernel
theorem dX7_lays_360 : decode cX7_lays 360 = .ok (.goto (-133), 3) := by decide +kernel
theorem dX7_lays_363 : decode cX7_lays 363 = .ok (.iload 4, 2) := by decide +kernel
theorem dX7_lays_365 : decode cX7_lays 365 = .ok (.ireturn, 1) := by decide +kernel
set_option maxRecDepth 20000 in
theorem ggX7_leaps_X7_isBand : GoodIn wsX7_leaps wsX7_isBand := goodIn_r _ [5, 6, 7, 4, 8] (by decide +kernel) (by decide +kernel)
set_option maxRecDepth 20000 in
theorem gX7_leaps_X7_isBand : GoodIn wsX7_leaps (va_wsS RX7 101 yX7_isBand wsX7_isBand) := goodIn_app (goodIn_of _ (by decide +kernel)) ggX7_leaps_X7_isBand
set_option maxRecDepth 20000 in
theorem ggX7_leaps_X7_holds : GoodIn wsX7_leaps wsX7_holds := goodIn_r _ [12, 13, 45, 46, 47, 48, 49, 50, 51, 52, 53, 54, 55, 56, 57, 58, 59, 60, 61, 62, 63, 64, 65, 66, 67, 68, 69, 70, 71, 72, 73] (by decide +kernel) (by decide +kernel)
set_option maxRecDepth 20000 in
theorem gX7_leaps_X7_holds : GoodIn wsX7_leaps (wsV RX7 104 RX7 yX7_holds wsX7_holds) := goodIn_app (goodIn_of _ (by decide +kernel)) ggX7_leaps_X7_holds
set_option maxRecDepth 20000 in
theorem ggX7_leaps_X7_lays : GoodIn wsX7_leaps wsX7_lays := goodIn_r _ [17, 18, 19, 1, 20, 21, 22, 23, 24, 25, 26, 27, 4, 28, 29, 30, 31, 32, 33, 34, 35, 36, 37, 38, 39, 40, 41, 42, 43, 44, 45, 46, 47, 48, 49, 50, 51, 52, 53, 54, 55, 56, 57, 58, 59, 60, 61, 62, 63, 64, 65, 66, 67, 68, 69, 70, 71, 72, 73] (by decide +kernel) (by decide +kernel)
set_option maxRecDepth 20000 in
theorem gX7_leaps_X7_lays : GoodIn wsX7_leaps (wsV RX7 183 RX7 yX7_lays wsX7_lays) := goodIn_app (goodIn_of _ (by decide +kernel)) ggX7_leaps_X7_lays
theorem dX7_leaps_0 : decode cX7_leaps 0 = .ok (.aload_n 0, 1) := by decide +kernel
theorem dX7_leaps_1 : decode cX7_leaps 1 = .ok (.iload_n 1, 1) := by decide +kernel
theorem dX7_leaps_2 : decode cX7_leaps 2 = .ok (.invokestatic 101, 3) := by decide +kernel
theorem dX7_leaps_5 : decode cX7_leaps 5 = .ok (.ifCond .eq 7, 3) := by decide +kernel
theorem dX7_leaps_8 : decode cX7_leaps 8 = .ok (.iconst 0, 1) := by decide +kernel
theorem dX7_leaps_9 : decode cX7_leaps 9 = .ok (.goto 4, 3) := by decide +kernel
theorem dX7_leaps_12 : decode cX7_leaps 12 = .ok (.iconst 1, 1) := by decide +kernel
theorem dX7_leaps_13 : decode cX7_leaps 13 = .ok (.invokevirtual 104, 3) := by decide +kernel
theorem dX7_leaps_16 : decode cX7_leaps 16 = .ok (.ifCond .ne 5, 3) := by decide +kernel
theorem dX7_leaps_19 : decode cX7_leaps 19 = .ok (.iconst 0, 1) := by decide +kernel
theorem dX7_leaps_20 : decode cX7_leaps 20 = .ok (.ireturn, 1) := by decide +kernel
theorem dX7_leaps_21 : decode cX7_leaps 21 = .ok (.aload_n 0, 1) := by decide +kernel
theorem dX7_leaps_22 : decode cX7_leaps 22 = .ok (.iload_n 1, 1) := by decide +kernel
theorem dX7_leaps_23 : decode cX7_leaps 23 = .ok (.iconst (-1), 1) := by decide +kernel
theorem dX7_leaps_24 : decode cX7_leaps 24 = .ok (.invokevirtual 183, 3) := by decide +kernel
theorem dX7_leaps_27 : decode cX7_leaps 27 = .ok (.istore_n 2, 1) := by decide +kernel
theorem dX7_leaps_28 : decode cX7_leaps 28 = .ok (.iload_n 2, 1) := by decide +kernel
theorem dX7_leaps_29 : decode cX7_leaps 29 = .ok (.ldc 175, 2) := by decide +kernel
theorem dX7_leaps_31 : decode cX7_leaps 31 = .ok (.if_icmp .ge 7, 3) := by decide +kernel
theorem dX7_leaps_34 : decode cX7_leaps 34 = .ok (.iload_n 2, 1) := by decide +kernel
theorem dX7_leaps_35 : decode cX7_leaps 35 = .ok (.goto 4, 3) := by decide +kernel
theorem dX7_leaps_38 : decode cX7_leaps 38 = .ok (.iconst (-1), 1) := by decide +kernel
theorem dX7_leaps_39 : decode cX7_leaps 39 = .ok (.ireturn, 1) := by decide +kernel
set_option maxRecDepth 20000 in
theorem ggX7_part_X7_isPhrase : GoodIn wsX7_part wsX7_isPhrase := goodIn_r _ [7, 8, 9, 10, 6, 11, 12, 13, 14, 49, 50, 51, 52, 53, 54, 55, 56, 57, 58, 59, 60, 61, 62, 63, 64, 65, 66, 67, 68, 69, 70, 71, 72, 73, 74, 75, 76, 77] (by decide +kernel) (by decide +kernel)
set_option maxRecDepth 20000 in
theorem gX7_part_X7_isPhrase : GoodIn wsX7_part (wsV RX7 160 RX7 yX7_isPhrase wsX7_isPhrase) := goodIn_app (goodIn_of _ (by decide +kernel)) ggX7_part_X7_isPhrase
set_option maxRecDepth 20000 in
theorem ggX7_part_X7_holds : GoodIn wsX7_part wsX7_holds := goodIn_r _ [18, 19, 49, 50, 51, 52, 53, 54, 55, 56, 57, 58, 59, 60, 61, 62, 63, 64, 65, 66, 67, 68, 69, 70, 71, 72, 73, 74, 75, 76, 77] (by decide +kernel) (by decide +kernel)
set_option maxRecDepth 20000 in
theorem gX7_part_X7_holds : GoodIn wsX7_part (wsV RX7 104 RX7 yX7_holds wsX7_holds) := goodIn_app (goodIn_of _ (by decide +kernel)) ggX7_part_X7_holds
set_option maxRecDepth 20000 in
theorem ggX7_part_X7_lays : GoodIn wsX7_part wsX7_lays := goodIn_r _ [23, 8, 24, 1, 25, 26, 27, 28, 2, 29, 30, 31, 6, 32, 33, 34, 35, 36, 37, 38, 39, 40, 41, 42, 43, 44, 45, 46, 47, 48, 49, 50, 51, 52, 53, 54, 55, 56, 57, 58, 59, 60, 61, 62, 63, 64, 65, 66, 67, 68, 69, 70, 71, 72, 73, 74, 75, 76, 77] (by decide +kernel) (by decide +kernel)
set_option maxRecDepth 20000 in
theorem gX7_part_X7_lays : GoodIn wsX7_part (wsV RX7 183 RX7 yX7_lays wsX7_lays) := goodIn_app (goodIn_of _ (by decide +kernel)) ggX7_part_X7_lays
theorem dX7_part_0 : decode cX7_part 0 = .ok (.aload_n 0, 1) := by decide +kernel
theorem dX7_part_1 : decode cX7_part 1 = .ok (.aload_n 0, 1) := by decide +kernel
theorem dX7_part_2 : decode cX7_part 2 = .ok (.iload_n 1, 1) := by decide +kernel
theorem dX7_part_3 : decode cX7_part 3 = .ok (.iload_n 2, 1) := by decide +kernel
theorem dX7_part_4 : decode cX7_part 4 = .ok (.invokevirtual 160, 3) := by decide +kernel
theorem dX7_part_7 : decode cX7_part 7 = .ok (.ifCond .eq 7, 3) := by decide +kernel
theorem dX7_part_10 : decode cX7_part 10 = .ok (.iconst 0, 1) := by decide +kernel
theorem dX7_part_11 : decode cX7_part 11 = .ok (.goto 4, 3) := by decide +kernel
theorem dX7_part_14 : decode cX7_part 14 = .ok (.iconst 1, 1) := by decide +kernel
theorem dX7_part_15 : decode cX7_part 15 = .ok (.invokevirtual 104, 3) := by decide +kernel
theorem dX7_part_18 : decode cX7_part 18 = .ok (.ifCond .ne 5, 3) := by decide +kernel
theorem dX7_part_21 : decode cX7_part 21 = .ok (.iconst 0, 1) := by decide +kernel
theorem dX7_part_22 : decode cX7_part 22 = .ok (.ireturn, 1) := by decide +kernel
theorem dX7_part_23 : decode cX7_part 23 = .ok (.aload_n 0, 1) := by decide +kernel
theorem dX7_part_24 : decode cX7_part 24 = .ok (.iload_n 1, 1) := by decide +kernel
theorem dX7_part_25 : decode cX7_part 25 = .ok (.iconst (-1), 1) := by decide +kernel
theorem dX7_part_26 : decode cX7_part 26 = .ok (.invokevirtual 183, 3) := by decide +kernel
theorem dX7_part_29 : decode cX7_part 29 = .ok (.ldc 175, 2) := by decide +kernel
theorem dX7_part_31 : decode cX7_part 31 = .ok (.if_icmp .ge 12, 3) := by decide +kernel
theorem dX7_part_34 : decode cX7_part 34 = .ok (.aload_n 0, 1) := by decide +kernel
theorem dX7_part_35 : decode cX7_part 35 = .ok (.getfield 80, 3) := by decide +kernel
theorem dX7_part_38 : decode cX7_part 38 = .ok (.iload_n 2, 1) := by decide +kernel
theorem dX7_part_39 : decode cX7_part 39 = .ok (.iaload, 1) := by decide +kernel
theorem dX7_part_40 : decode cX7_part 40 = .ok (.goto 4, 3) := by decide +kernel
theorem dX7_part_43 : decode cX7_part 43 = .ok (.iconst (-1), 1) := by decide +kernel
theorem dX7_part_44 : decode cX7_part 44 = .ok (.ireturn, 1) := by decide +kernel
set_option maxRecDepth 20000 in
theorem ggX7_without_X7_isSeat : GoodIn wsX7_without wsX7_isSeat := goodIn_r _ [6, 7, 8, 9, 5, 10, 11, 12, 13, 49, 50, 51, 52, 53, 54, 55, 56, 57, 58, 59, 60, 61, 62, 63, 64, 65, 66, 67, 68, 69, 70, 71, 72, 73, 74, 75, 76, 77] (by decide +kernel) (by decide +kernel)
set_option maxRecDepth 20000 in
theorem gX7_without_X7_isSeat : GoodIn wsX7_without (wsV RX7 157 RX7 yX7_isSeat wsX7_isSeat) := goodIn_app (goodIn_of _ (by decide +kernel)) ggX7_without_X7_isSeat
set_option maxRecDepth 20000 in
theorem ggX7_without_X7_holds : GoodIn wsX7_without wsX7_holds := goodIn_r _ [17, 18, 49, 50, 51, 52, 53, 54, 55, 56, 57, 58, 59, 60, 61, 62, 63, 64, 65, 66, 67, 68, 69, 70, 71, 72, 73, 74, 75, 76, 77] (by decide +kernel) (by decide +kernel)
set_option maxRecDepth 20000 in
theorem gX7_without_X7_holds : GoodIn wsX7_without (wsV RX7 104 RX7 yX7_holds wsX7_holds) := goodIn_app (goodIn_of _ (by decide +kernel)) ggX7_without_X7_holds
set_option maxRecDepth 20000 in
theorem ggX7_without_X7_lays : GoodIn wsX7_without wsX7_lays := goodIn_r _ [22, 23, 7, 1, 24, 25, 26, 27, 28, 29, 30, 31, 5, 32, 33, 34, 35, 36, 37, 38, 39, 40, 41, 42, 43, 44, 45, 46, 47, 48, 49, 50, 51, 52, 53, 54, 55, 56, 57, 58, 59, 60, 61, 62, 63, 64, 65, 66, 67, 68, 69, 70, 71, 72, 73, 74, 75, 76, 77] (by decide +kernel) (by decide +kernel)
set_option maxRecDepth 20000 in
theorem gX7_without_X7_lays : GoodIn wsX7_without (wsV RX7 183 RX7 yX7_lays wsX7_lays) := goodIn_app (goodIn_of _ (by decide +kernel)) ggX7_without_X7_lays
theorem dX7_without_0 : decode cX7_without 0 = .ok (.aload_n 0, 1) := by decide +kernel
theorem dX7_without_1 : decode cX7_without 1 = .ok (.aload_n 0, 1) := by decide +kernel
theorem dX7_without_2 : decode cX7_without 2 = .ok (.iload_n 1, 1) := by decide +kernel
theorem dX7_without_3 : decode cX7_without 3 = .ok (.iload_n 2, 1) := by decide +kernel
theorem dX7_without_4 : decode cX7_without 4 = .ok (.invokevirtual 157, 3) := by decide +kernel
theorem dX7_without_7 : decode cX7_without 7 = .ok (.ifCond .eq 7, 3) := by decide +kernel
theorem dX7_without_10 : decode cX7_without 10 = .ok (.iconst 0, 1) := by decide +kernel
theorem dX7_without_11 : decode cX7_without 11 = .ok (.goto 4, 3) := by decide +kernel
theorem dX7_without_14 : decode cX7_without 14 = .ok (.iconst 1, 1) := by decide +kernel
theorem dX7_without_15 : decode cX7_without 15 = .ok (.invokevirtual 104, 3) := by decide +kernel
theorem dX7_without_18 : decode cX7_without 18 = .ok (.ifCond .ne 5, 3) := by decide +kernel
theorem dX7_without_21 : decode cX7_without 21 = .ok (.iconst 0, 1) := by decide +kernel
theorem dX7_without_22 : decode cX7_without 22 = .ok (.ireturn, 1) := by decide +kernel
theorem dX7_without_23 : decode cX7_without 23 = .ok (.aload_n 0, 1) := by decide +kernel
theorem dX7_without_24 : decode cX7_without 24 = .ok (.iload_n 1, 1) := by decide +kernel
theorem dX7_without_25 : decode cX7_without 25 = .ok (.iload_n 2, 1) := by decide +kernel
theorem dX7_without_26 : decode cX7_without 26 = .ok (.invokevirtual 183, 3) := by decide +kernel
theorem dX7_without_29 : decode cX7_without 29 = .ok (.istore_n 3, 1) := by decide +kernel
theorem dX7_without_30 : decode cX7_without 30 = .ok (.iload_n 3, 1) := by decide +kernel
theorem dX7_without_31 : decode cX7_without 31 = .ok (.ldc 175, 2) := by decide +kernel
theorem dX7_without_33 : decode cX7_without 33 = .ok (.if_icmp .ge 7, 3) := by decide +kernel
theorem dX7_without_36 : decode cX7_without 36 = .ok (.iload_n 3, 1) := by decide +kernel
theorem dX7_without_37 : decode cX7_without 37 = .ok (.goto 4, 3) := by decide +kernel
theorem dX7_without_40 : decode cX7_without 40 = .ok (.iconst (-1), 1) := by decide +kernel
theorem dX7_without_41 : decode cX7_without 41 = .ok (.ireturn, 1) := by decide +kernel
theorem dX7_doesPlay_0 : decode cX7_doesPlay 0 = .ok (.iconst 0, 1) := by decide +kernel
theorem dX7_doesPlay_1 : decode cX7_doesPlay 1 = .ok (.istore_n 3, 1) := by decide +kernel
theorem dX7_doesPlay_2 : decode cX7_doesPlay 2 = .ok (.iconst 0, 1) := by decide +kernel
theorem dX7_doesPlay_3 : decode cX7_doesPlay 3 = .ok (.istore 4, 2) := by decide +kernel
theorem dX7_doesPlay_5 : decode cX7_doesPlay 5 = .ok (.iload 4, 2) := by decide +kernel
theorem dX7_doesPlay_7 : decode cX7_doesPlay 7 = .ok (.aload_n 0, 1) := by decide +kernel
theorem dX7_doesPlay_8 : decode cX7_doesPlay 8 = .ok (.getfield 47, 3) := by decide +kernel
theorem dX7_doesPlay_11 : decode cX7_doesPlay 11 = .ok (.iload_n 1, 1) := by decide +kernel
theorem dX7_doesPlay_12 : decode cX7_doesPlay 12 = .ok (.iaload, 1) := by decide +kernel
theorem dX7_doesPlay_13 : decode cX7_doesPlay 13 = .ok (.iconst 4, 1) := by decide +kernel
theorem dX7_doesPlay_14 : decode cX7_doesPlay 14 = .ok (.idiv, 1) := by decide +kernel
theorem dX7_doesPlay_15 : decode cX7_doesPlay 15 = .ok (.if_icmp .ge 30, 3) := by decide +kernel
theorem dX7_doesPlay_18 : decode cX7_doesPlay 18 = .ok (.iload_n 3, 1) := by decide +kernel
theorem dX7_doesPlay_19 : decode cX7_doesPlay 19 = .ok (.ifCond .ne 14, 3) := by decide +kernel
theorem dX7_doesPlay_22 : decode cX7_doesPlay 22 = .ok (.aload_n 0, 1) := by decide +kernel
theorem dX7_doesPlay_23 : decode cX7_doesPlay 23 = .ok (.getfield 80, 3) := by decide +kernel
theorem dX7_doesPlay_26 : decode cX7_doesPlay 26 = .ok (.iload 4, 2) := by decide +kernel
theorem dX7_doesPlay_28 : decode cX7_doesPlay 28 = .ok (.iaload, 1) := by decide +kernel
theorem dX7_doesPlay_29 : decode cX7_doesPlay 29 = .ok (.iload_n 2, 1) := by decide +kernel
theorem dX7_doesPlay_30 : decode cX7_doesPlay 30 = .ok (.if_icmp .ne 7, 3) := by decide +kernel
theorem dX7_doesPlay_33 : decode cX7_doesPlay 33 = .ok (.iconst 1, 1) := by decide +kernel
theorem dX7_doesPlay_34 : decode cX7_doesPlay 34 = .ok (.goto 4, 3) := by decide +kernel
theorem dX7_doesPlay_37 : decode cX7_doesPlay 37 = .ok (.iconst 0, 1) := by decide +kernel
theorem dX7_doesPlay_38 : decode cX7_doesPlay 38 = .ok (.istore_n 3, 1) := by decide +kernel
theorem dX7_doesPlay_39 : decode cX7_doesPlay 39 = .ok (.iinc 4 1, 3) := by decide +kernel
theorem dX7_doesPlay_42 : decode cX7_doesPlay 42 = .ok (.goto (-37), 3) := by decide +kernel
theorem dX7_doesPlay_45 : decode cX7_doesPlay 45 = .ok (.iload_n 3, 1) := by decide +kernel
theorem dX7_doesPlay_46 : decode cX7_doesPlay 46 = .ok (.ireturn, 1) := by decide +kernel
set_option maxRecDepth 20000 in
theorem ggX7_perform_X7_isBand : GoodIn wsX7_perform wsX7_isBand := goodIn_r _ [11, 12, 13, 10, 14] (by decide +kernel) (by decide +kernel)
set_option maxRecDepth 20000 in
theorem gX7_perform_X7_isBand : GoodIn wsX7_perform (va_wsS RX7 101 yX7_isBand wsX7_isBand) := goodIn_app (goodIn_of _ (by decide +kernel)) ggX7_perform_X7_isBand
set_option maxRecDepth 20000 in
theorem ggX7_perform_X7_lays : GoodIn wsX7_perform wsX7_lays := goodIn_r _ [18, 19, 3, 2, 20, 21, 22, 5, 23, 24, 25, 26, 10, 27, 28, 29, 30, 31, 32, 33, 34, 35, 36, 37, 38, 39, 40, 41, 42, 43, 72, 73, 74, 75, 76, 77, 78, 79, 80, 81, 82, 83, 84, 85, 86, 87, 88, 89, 90, 91, 92, 93, 94, 95, 96, 97, 98, 99, 100] (by decide +kernel) (by decide +kernel)
set_option maxRecDepth 20000 in
theorem gX7_perform_X7_lays : GoodIn wsX7_perform (wsV RX7 183 RX7 yX7_lays wsX7_lays) := goodIn_app (goodIn_of _ (by decide +kernel)) ggX7_perform_X7_lays
set_option maxRecDepth 20000 in
theorem ggX7_perform_X7_isIn : GoodIn wsX7_perform wsX7_isIn := goodIn_r _ [14] (by decide +kernel) (by decide +kernel)
set_option maxRecDepth 20000 in
theorem gX7_perform_X7_isIn : GoodIn wsX7_perform (va_wsS RX7 90 yX7_isIn wsX7_isIn) := goodIn_app (goodIn_of _ (by decide +kernel)) ggX7_perform_X7_isIn
set_option maxRecDepth 20000 in
theorem ggX7_perform_X7_holds : GoodIn wsX7_perform wsX7_holds := goodIn_r _ [47, 48, 72, 73, 74, 75, 76, 77, 78, 79, 80, 81, 82, 83, 84, 85, 86, 87, 88, 89, 90, 91, 92, 93, 94, 95, 96, 97, 98, 99, 100] (by decide +kernel) (by decide +kernel)
set_option maxRecDepth 20000 in
theorem gX7_perform_X7_holds : GoodIn wsX7_perform (wsV RX7 104 RX7 yX7_holds wsX7_holds) := goodIn_app (goodIn_of _ (by decide +kernel)) ggX7_perform_X7_holds
set_option maxRecDepth 20000 in
theorem ggX7_perform_X7_isInTuneNow : GoodIn wsX7_perform wsX7_isInTuneNow := goodIn_r _ [52, 53, 54, 55, 10, 56, 57, 58, 59, 60, 61, 62, 63, 64, 65, 66, 67, 12, 13, 14, 72, 73, 74, 75, 76, 77, 78, 79, 80, 81, 82, 83, 84, 85, 86, 87, 88, 89, 90, 91, 92, 93, 94, 95, 96, 97, 98, 99, 100] (by decide +kernel) (by decide +kernel)
set_option maxRecDepth 20000 in
theorem gX7_perform_X7_isInTuneNow : GoodIn wsX7_perform (wsV RX7 130 RX7 yX7_isInTuneNow wsX7_isInTuneNow) := goodIn_app (goodIn_of _ (by decide +kernel)) ggX7_perform_X7_isInTuneNow
set_option maxRecDepth 20000 in
theorem ggX7_perform_X7_doesPlay : GoodIn wsX7_perform wsX7_doesPlay := goodIn_r _ [71, 19, 23, 72, 73, 74, 75, 76, 77, 78, 79, 80, 81, 82, 83, 84, 85, 86, 87, 88, 89, 90, 91, 92, 93, 94, 95, 96, 97, 98, 99, 100] (by decide +kernel) (by decide +kernel)
set_option maxRecDepth 20000 in
theorem gX7_perform_X7_doesPlay : GoodIn wsX7_perform (wsV RX7 186 RX7 yX7_doesPlay wsX7_doesPlay) := goodIn_app (goodIn_of _ (by decide +kernel)) ggX7_perform_X7_doesPlay
theorem dX7_perform_0 : decode cX7_perform 0 = .ok (.iload_n 1, 1) := by decide +kernel
theorem dX7_perform_1 : decode cX7_perform 1 = .ok (.invokestatic 101, 3) := by decide +kernel
theorem dX7_perform_4 : decode cX7_perform 4 = .ok (.istore_n 3, 1) := by decide +kernel
theorem dX7_perform_5 : decode cX7_perform 5 = .ok (.iload_n 3, 1) := by decide +kernel
theorem dX7_perform_6 : decode cX7_perform 6 = .ok (.ifCond .eq 12, 3) := by decide +kernel
theorem dX7_perform_9 : decode cX7_perform 9 = .ok (.aload_n 0, 1) := by decide +kernel
theorem dX7_perform_10 : decode cX7_perform 10 = .ok (.iload_n 1, 1) := by decide +kernel
theorem dX7_perform_11 : decode cX7_perform 11 = .ok (.iconst (-1), 1) := by decide +kernel
theorem dX7_perform_12 : decode cX7_perform 12 = .ok (.invokevirtual 183, 3) := by decide +kernel
theorem dX7_perform_15 : decode cX7_perform 15 = .ok (.goto 4, 3) := by decide +kernel
theorem dX7_perform_18 : decode cX7_perform 18 = .ok (.iconst 0, 1) := by decide +kernel
theorem dX7_perform_19 : decode cX7_perform 19 = .ok (.istore 4, 2) := by decide +kernel
theorem dX7_perform_21 : decode cX7_perform 21 = .ok (.aload_n 0, 1) := by decide +kernel
theorem dX7_perform_22 : decode cX7_perform 22 = .ok (.iload_n 3, 1) := by decide +kernel
theorem dX7_perform_23 : decode cX7_perform 23 = .ok (.ifCond .ne 7, 3) := by decide +kernel
theorem dX7_perform_26 : decode cX7_perform 26 = .ok (.iconst 1, 1) := by decide +kernel
theorem dX7_perform_27 : decode cX7_perform 27 = .ok (.goto 38, 3) := by decide +kernel
theorem dX7_perform_30 : decode cX7_perform 30 = .ok (.iload_n 2, 1) := by decide +kernel
theorem dX7_perform_31 : decode cX7_perform 31 = .ok (.iconst 1, 1) := by decide +kernel
theorem dX7_perform_32 : decode cX7_perform 32 = .ok (.bipush 30, 2) := by decide +kernel
theorem dX7_perform_34 : decode cX7_perform 34 = .ok (.invokestatic 90, 3) := by decide +kernel
theorem dX7_perform_37 : decode cX7_perform 37 = .ok (.ifCond .ne 7, 3) := by decide +kernel
theorem dX7_perform_40 : decode cX7_perform 40 = .ok (.iconst 2, 1) := by decide +kernel
theorem dX7_perform_41 : decode cX7_perform 41 = .ok (.goto 24, 3) := by decide +kernel
theorem dX7_perform_44 : decode cX7_perform 44 = .ok (.aload_n 0, 1) := by decide +kernel
theorem dX7_perform_45 : decode cX7_perform 45 = .ok (.getfield 62, 3) := by decide +kernel
theorem dX7_perform_48 : decode cX7_perform 48 = .ok (.iload_n 1, 1) := by decide +kernel
theorem dX7_perform_49 : decode cX7_perform 49 = .ok (.baload, 1) := by decide +kernel
theorem dX7_perform_50 : decode cX7_perform 50 = .ok (.ifCond .ne 10, 3) := by decide +kernel
theorem dX7_perform_53 : decode cX7_perform 53 = .ok (.iload 4, 2) := by decide +kernel
theorem dX7_perform_55 : decode cX7_perform 55 = .ok (.ldc 175, 2) := by decide +kernel
theorem dX7_perform_57 : decode cX7_perform 57 = .ok (.if_icmp .lt 7, 3) := by decide +kernel
theorem dX7_perform_60 : decode cX7_perform 60 = .ok (.iconst 3, 1) := by decide +kernel
theorem dX7_perform_61 : decode cX7_perform 61 = .ok (.goto 4, 3) := by decide +kernel
theorem dX7_perform_64 : decode cX7_perform 64 = .ok (.iconst 0, 1) := by decide +kernel
theorem dX7_perform_65 : decode cX7_perform 65 = .ok (.invokevirtual 104, 3) := by decide +kernel
theorem dX7_perform_68 : decode cX7_perform 68 = .ok (.ifCond .ne 5, 3) := by decide +kernel
theorem dX7_perform_71 : decode cX7_perform 71 = .ok (.iconst 0, 1) := by decide +kernel
theorem dX7_perform_72 : decode cX7_perform 72 = .ok (.ireturn, 1) := by decide +kernel
theorem dX7_perform_73 : decode cX7_perform 73 = .ok (.iconst 0, 1) := by decide +kernel
theorem dX7_perform_74 : decode cX7_perform 74 = .ok (.istore 5, 2) := by decide +kernel
theorem dX7_perform_76 : decode cX7_perform 76 = .ok (.iload 5, 2) := by decide +kernel
theorem dX7_perform_78 : decode cX7_perform 78 = .ok (.aload_n 0, 1) := by decide +kernel
theorem dX7_perform_79 : decode cX7_perform 79 = .ok (.getfield 41, 3) := by decide +kernel
theorem dX7_perform_82 : decode cX7_perform 82 = .ok (.iload_n 1, 1) := by decide +kernel
theorem dX7_perform_83 : decode cX7_perform 83 = .ok (.iaload, 1) := by decide +kernel
theorem dX7_perform_84 : decode cX7_perform 84 = .ok (.if_icmp .ge 76, 3) := by decide +kernel
theorem dX7_perform_87 : decode cX7_perform 87 = .ok (.aload_n 0, 1) := by decide +kernel
theorem dX7_perform_88 : decode cX7_perform 88 = .ok (.getfield 32, 3) := by decide +kernel
theorem dX7_perform_91 : decode cX7_perform 91 = .ok (.aload_n 0, 1) := by decide +kernel
theorem dX7_perform_92 : decode cX7_perform 92 = .ok (.getfield 44, 3) := by decide +kernel
theorem dX7_perform_95 : decode cX7_perform 95 = .ok (.bipush 8, 2) := by decide +kernel
theorem dX7_perform_97 : decode cX7_perform 97 = .ok (.iload_n 1, 1) := by decide +kernel
theorem dX7_perform_98 : decode cX7_perform 98 = .ok (.imul, 1) := by decide +kernel
theorem dX7_perform_99 : decode cX7_perform 99 = .ok (.iload 5, 2) := by decide +kernel
theorem dX7_perform_101 : decode cX7_perform 101 = .ok (.iadd, 1) := by decide +kernel
theorem dX7_perform_102 : decode cX7_perform 102 = .ok (.iaload, 1) := by decide +kernel
theorem dX7_perform_103 : decode cX7_perform 103 = .ok (.iaload, 1) := by decide +kernel
theorem dX7_perform_104 : decode cX7_perform 104 = .ok (.istore 6, 2) := by decide +kernel
theorem dX7_perform_106 : decode cX7_perform 106 = .ok (.iload 6, 2) := by decide +kernel
theorem dX7_perform_108 : decode cX7_perform 108 = .ok (.iconst (-1), 1) := by decide +kernel
theorem dX7_perform_109 : decode cX7_perform 109 = .ok (.if_icmp .eq 16, 3) := by decide +kernel
theorem dX7_perform_112 : decode cX7_perform 112 = .ok (.aload_n 0, 1) := by decide +kernel
theorem dX7_perform_113 : decode cX7_perform 113 = .ok (.iload 6, 2) := by decide +kernel
theorem dX7_perform_115 : decode cX7_perform 115 = .ok (.invokevirtual 130, 3) := by decide +kernel
theorem dX7_perform_118 : decode cX7_perform 118 = .ok (.ifCond .eq 7, 3) := by decide +kernel
theorem dX7_perform_121 : decode cX7_perform 121 = .ok (.iconst 1, 1) := by decide +kernel
theorem dX7_perform_122 : decode cX7_perform 122 = .ok (.goto 4, 3) := by decide +kernel
theorem dX7_perform_125 : decode cX7_perform 125 = .ok (.iconst 0, 1) := by decide +kernel
theorem dX7_perform_126 : decode cX7_perform 126 = .ok (.istore 7, 2) := by decide +kernel
theorem dX7_perform_128 : decode cX7_perform 128 = .ok (.iload 4, 2) := by decide +kernel
theorem dX7_perform_130 : decode cX7_perform 130 = .ok (.aload_n 0, 1) := by decide +kernel
theorem dX7_perform_131 : decode cX7_perform 131 = .ok (.iload_n 1, 1) := by decide +kernel
theorem dX7_perform_132 : decode cX7_perform 132 = .ok (.iload 5, 2) := by decide +kernel
theorem dX7_perform_134 : decode cX7_perform 134 = .ok (.invokevirtual 186, 3) := by decide +kernel
theorem dX7_perform_137 : decode cX7_perform 137 = .ok (.ifCond .eq 13, 3) := by decide +kernel
theorem dX7_perform_140 : decode cX7_perform 140 = .ok (.iload 7, 2) := by decide +kernel
theorem dX7_perform_142 : decode cX7_perform 142 = .ok (.ifCond .ne 8, 3) := by decide +kernel
theorem dX7_perform_145 : decode cX7_perform 145 = .ok (.bipush 10, 2) := by decide +kernel
theorem dX7_perform_147 : decode cX7_perform 147 = .ok (.goto 4, 3) := by decide +kernel
theorem dX7_perform_150 : decode cX7_perform 150 = .ok (.iconst 0, 1) := by decide +kernel
theorem dX7_perform_151 : decode cX7_perform 151 = .ok (.iadd, 1) := by decide +kernel
theorem dX7_perform_152 : decode cX7_perform 152 = .ok (.istore 4, 2) := by decide +kernel
theorem dX7_perform_154 : decode cX7_perform 154 = .ok (.iinc 5 1, 3) := by decide +kernel
theorem dX7_perform_157 : decode cX7_perform 157 = .ok (.goto (-81), 3) := by decide +kernel
theorem dX7_perform_160 : decode cX7_perform 160 = .ok (.aload_n 0, 1) := by decide +kernel
theorem dX7_perform_161 : decode cX7_perform 161 = .ok (.getfield 62, 3) := by decide +kernel
theorem dX7_perform_164 : decode cX7_perform 164 = .ok (.iload_n 1, 1) := by decide +kernel
theorem dX7_perform_165 : decode cX7_perform 165 = .ok (.iconst 1, 1) := by decide +kernel
theorem dX7_perform_166 : decode cX7_perform 166 = .ok (.bastore, 1) := by decide +kernel
theorem dX7_perform_167 : decode cX7_perform 167 = .ok (.aload_n 0, 1) := by decide +kernel
theorem dX7_perform_168 : decode cX7_perform 168 = .ok (.getfield 65, 3) := by decide +kernel
theorem dX7_perform_171 : decode cX7_perform 171 = .ok (.iload_n 1, 1) := by decide +kernel
theorem dX7_perform_172 : decode cX7_perform 172 = .ok (.iload 4, 2) := by decide +kernel
theorem dX7_perform_174 : decode cX7_perform 174 = .ok (.iastore, 1) := by decide +kernel
theorem dX7_perform_175 : decode cX7_perform 175 = .ok (.aload_n 0, 1) := by decide +kernel
theorem dX7_perform_176 : decode cX7_perform 176 = .ok (.getfield 68, 3) := by decide +kernel
theorem dX7_perform_179 : decode cX7_perform 179 = .ok (.iload_n 1, 1) := by decide +kernel
theorem dX7_perform_180 : decode cX7_perform 180 = .ok (.iload_n 2, 1) := by decide +kernel
theorem dX7_perform_181 : decode cX7_perform 181 = .ok (.bipush 10, 2) := by decide +kernel
theorem dX7_perform_183 : decode cX7_perform 183 = .ok (.if_icmp .le 12, 3) := by decide +kernel
theorem dX7_perform_186 : decode cX7_perform 186 = .ok (.iconst 2, 1) := by decide +kernel
theorem dX7_perform_187 : decode cX7_perform 187 = .ok (.iload_n 2, 1) := by decide +kernel
theorem dX7_perform_188 : decode cX7_perform 188 = .ok (.imul, 1) := by decide +kernel
theorem dX7_perform_189 : decode cX7_perform 189 = .ok (.bipush 20, 2) := by decide +kernel
theorem dX7_perform_191 : decode cX7_perform 191 = .ok (.isub, 1) := by decide +kernel
theorem dX7_perform_192 : decode cX7_perform 192 = .ok (.goto 4, 3) := by decide +kernel
theorem dX7_perform_195 : decode cX7_perform 195 = .ok (.iconst 0, 1) := by decide +kernel
theorem dX7_perform_196 : decode cX7_perform 196 = .ok (.iastore, 1) := by decide +kernel
theorem dX7_perform_197 : decode cX7_perform 197 = .ok (.iload 4, 2) := by decide +kernel
theorem dX7_perform_199 : decode cX7_perform 199 = .ok (.ireturn, 1) := by decide +kernel
set_option maxRecDepth 20000 in
theorem ggX7_mark_X7_isBand : GoodIn wsX7_mark wsX7_isBand := goodIn_r _ [7, 8, 9, 6, 10] (by decide +kernel) (by decide +kernel)
set_option maxRecDepth 20000 in
theorem gX7_mark_X7_isBand : GoodIn wsX7_mark (va_wsS RX7 101 yX7_isBand wsX7_isBand) := goodIn_app (goodIn_of _ (by decide +kernel)) ggX7_mark_X7_isBand
set_option maxRecDepth 20000 in
theorem ggX7_mark_X7_isIn : GoodIn wsX7_mark wsX7_isIn := goodIn_r _ [10] (by decide +kernel) (by decide +kernel)
set_option maxRecDepth 20000 in
theorem gX7_mark_X7_isIn : GoodIn wsX7_mark (va_wsS RX7 90 yX7_isIn wsX7_isIn) := goodIn_app (goodIn_of _ (by decide +kernel)) ggX7_mark_X7_isIn
set_option maxRecDepth 20000 in
theorem ggX7_mark_X7_holds : GoodIn wsX7_mark wsX7_holds := goodIn_r _ [14, 15, 16, 17, 18, 19, 20, 21, 22, 23, 24, 25, 26, 27, 28, 29, 30, 31, 32, 33, 34, 35, 36, 37, 38, 39, 40, 41, 42, 43, 44] (by decide +kernel) (by decide +kernel)
set_option maxRecDepth 20000 in
theorem gX7_mark_X7_holds : GoodIn wsX7_mark (wsV RX7 104 RX7 yX7_holds wsX7_holds) := goodIn_app (goodIn_of _ (by decide +kernel)) ggX7_mark_X7_holds
theorem dX7_mark_0 : decode cX7_mark 0 = .ok (.iload_n 1, 1) := by decide +kernel
theorem dX7_mark_1 : decode cX7_mark 1 = .ok (.invokestatic 101, 3) := by decide +kernel
theorem dX7_mark_4 : decode cX7_mark 4 = .ok (.ifCond .eq 16, 3) := by decide +kernel
theorem dX7_mark_7 : decode cX7_mark 7 = .ok (.iload_n 2, 1) := by decide +kernel
theorem dX7_mark_8 : decode cX7_mark 8 = .ok (.iconst 0, 1) := by decide +kernel
theorem dX7_mark_9 : decode cX7_mark 9 = .ok (.iconst 4, 1) := by decide +kernel
theorem dX7_mark_10 : decode cX7_mark 10 = .ok (.invokestatic 90, 3) := by decide +kernel
theorem dX7_mark_13 : decode cX7_mark 13 = .ok (.ifCond .eq 7, 3) := by decide +kernel
theorem dX7_mark_16 : decode cX7_mark 16 = .ok (.iconst 1, 1) := by decide +kernel
theorem dX7_mark_17 : decode cX7_mark 17 = .ok (.goto 4, 3) := by decide +kernel
theorem dX7_mark_20 : decode cX7_mark 20 = .ok (.iconst 0, 1) := by decide +kernel
theorem dX7_mark_21 : decode cX7_mark 21 = .ok (.istore 4, 2) := by decide +kernel
theorem dX7_mark_23 : decode cX7_mark 23 = .ok (.iload 4, 2) := by decide +kernel
theorem dX7_mark_25 : decode cX7_mark 25 = .ok (.ifCond .eq 30, 3) := by decide +kernel
theorem dX7_mark_28 : decode cX7_mark 28 = .ok (.aload_n 0, 1) := by decide +kernel
theorem dX7_mark_29 : decode cX7_mark 29 = .ok (.getfield 62, 3) := by decide +kernel
theorem dX7_mark_32 : decode cX7_mark 32 = .ok (.iload_n 1, 1) := by decide +kernel
theorem dX7_mark_33 : decode cX7_mark 33 = .ok (.baload, 1) := by decide +kernel
theorem dX7_mark_34 : decode cX7_mark 34 = .ok (.ifCond .eq 21, 3) := by decide +kernel
theorem dX7_mark_37 : decode cX7_mark 37 = .ok (.aload_n 0, 1) := by decide +kernel
theorem dX7_mark_38 : decode cX7_mark 38 = .ok (.getfield 74, 3) := by decide +kernel
theorem dX7_mark_41 : decode cX7_mark 41 = .ok (.iconst 5, 1) := by decide +kernel
theorem dX7_mark_42 : decode cX7_mark 42 = .ok (.iload_n 1, 1) := by decide +kernel
theorem dX7_mark_43 : decode cX7_mark 43 = .ok (.imul, 1) := by decide +kernel
theorem dX7_mark_44 : decode cX7_mark 44 = .ok (.iload_n 2, 1) := by decide +kernel
theorem dX7_mark_45 : decode cX7_mark 45 = .ok (.iadd, 1) := by decide +kernel
theorem dX7_mark_46 : decode cX7_mark 46 = .ok (.iaload, 1) := by decide +kernel
theorem dX7_mark_47 : decode cX7_mark 47 = .ok (.iconst (-1), 1) := by decide +kernel
theorem dX7_mark_48 : decode cX7_mark 48 = .ok (.if_icmp .ne 7, 3) := by decide +kernel
theorem dX7_mark_51 : decode cX7_mark 51 = .ok (.iconst 1, 1) := by decide +kernel
theorem dX7_mark_52 : decode cX7_mark 52 = .ok (.goto 4, 3) := by decide +kernel
theorem dX7_mark_55 : decode cX7_mark 55 = .ok (.iconst 0, 1) := by decide +kernel
theorem dX7_mark_56 : decode cX7_mark 56 = .ok (.istore 5, 2) := by decide +kernel
theorem dX7_mark_58 : decode cX7_mark 58 = .ok (.aload_n 0, 1) := by decide +kernel
theorem dX7_mark_59 : decode cX7_mark 59 = .ok (.iload 4, 2) := by decide +kernel
theorem dX7_mark_61 : decode cX7_mark 61 = .ok (.ifCond .ne 7, 3) := by decide +kernel
theorem dX7_mark_64 : decode cX7_mark 64 = .ok (.iconst 1, 1) := by decide +kernel
theorem dX7_mark_65 : decode cX7_mark 65 = .ok (.goto 27, 3) := by decide +kernel
theorem dX7_mark_68 : decode cX7_mark 68 = .ok (.iload_n 3, 1) := by decide +kernel
theorem dX7_mark_69 : decode cX7_mark 69 = .ok (.iconst 0, 1) := by decide +kernel
theorem dX7_mark_70 : decode cX7_mark 70 = .ok (.bipush 100, 2) := by decide +kernel
theorem dX7_mark_72 : decode cX7_mark 72 = .ok (.invokestatic 90, 3) := by decide +kernel
theorem dX7_mark_75 : decode cX7_mark 75 = .ok (.ifCond .ne 7, 3) := by decide +kernel
theorem dX7_mark_78 : decode cX7_mark 78 = .ok (.iconst 2, 1) := by decide +kernel
theorem dX7_mark_79 : decode cX7_mark 79 = .ok (.goto 13, 3) := by decide +kernel
theorem dX7_mark_82 : decode cX7_mark 82 = .ok (.iload 5, 2) := by decide +kernel
theorem dX7_mark_84 : decode cX7_mark 84 = .ok (.ifCond .eq 7, 3) := by decide +kernel
theorem dX7_mark_87 : decode cX7_mark 87 = .ok (.iconst 0, 1) := by decide +kernel
theorem dX7_mark_88 : decode cX7_mark 88 = .ok (.goto 4, 3) := by decide +kernel
theorem dX7_mark_91 : decode cX7_mark 91 = .ok (.iconst 3, 1) := by decide +kernel
theorem dX7_mark_92 : decode cX7_mark 92 = .ok (.invokevirtual 104, 3) := by decide +kernel
theorem dX7_mark_95 : decode cX7_mark 95 = .ok (.ifCond .ne 5, 3) := by decide +kernel
theorem dX7_mark_98 : decode cX7_mark 98 = .ok (.iconst 0, 1) := by decide +kernel
theorem dX7_mark_99 : decode cX7_mark 99 = .ok (.ireturn, 1) := by decide +kernel
theorem dX7_mark_100 : decode cX7_mark 100 = .ok (.aload_n 0, 1) := by decide +kernel
theorem dX7_mark_101 : decode cX7_mark 101 = .ok (.getfield 74, 3) := by decide +kernel
theorem dX7_mark_104 : decode cX7_mark 104 = .ok (.iconst 5, 1) := by decide +kernel
theorem dX7_mark_105 : decode cX7_mark 105 = .ok (.iload_n 1, 1) := by decide +kernel
theorem dX7_mark_106 : decode cX7_mark 106 = .ok (.imul, 1) := by decide +kernel
theorem dX7_mark_107 : decode cX7_mark 107 = .ok (.iload_n 2, 1) := by decide +kernel
theorem dX7_mark_108 : decode cX7_mark 108 = .ok (.iadd, 1) := by decide +kernel
theorem dX7_mark_109 : decode cX7_mark 109 = .ok (.iload_n 3, 1) := by decide +kernel
theorem dX7_mark_110 : decode cX7_mark 110 = .ok (.iastore, 1) := by decide +kernel
theorem dX7_mark_111 : decode cX7_mark 111 = .ok (.aload_n 0, 1) := by decide +kernel
theorem dX7_mark_112 : decode cX7_mark 112 = .ok (.getfield 71, 3) := by decide +kernel
theorem dX7_mark_115 : decode cX7_mark 115 = .ok (.iload_n 1, 1) := by decide +kernel
theorem dX7_mark_116 : decode cX7_mark 116 = .ok (.dup2, 1) := by decide +kernel
theorem dX7_mark_117 : decode cX7_mark 117 = .ok (.iaload, 1) := by decide +kernel
theorem dX7_mark_118 : decode cX7_mark 118 = .ok (.iconst 1, 1) := by decide +kernel
theorem dX7_mark_119 : decode cX7_mark 119 = .ok (.iadd, 1) := by decide +kernel
theorem dX7_mark_120 : decode cX7_mark 120 = .ok (.iastore, 1) := by decide +kernel
theorem dX7_mark_121 : decode cX7_mark 121 = .ok (.aload_n 0, 1) := by decide +kernel
theorem dX7_mark_122 : decode cX7_mark 122 = .ok (.getfield 71, 3) := by decide +kernel
theorem dX7_mark_125 : decode cX7_mark 125 = .ok (.iload_n 1, 1) := by decide +kernel
theorem dX7_mark_126 : decode cX7_mark 126 = .ok (.iaload, 1) := by decide +kernel
theorem dX7_mark_127 : decode cX7_mark 127 = .ok (.ireturn, 1) := by decide +kernel
theorem dX7_scoreOf_0 : decode cX7_scoreOf 0 = .ok (.iconst 0, 1) := by decide +kernel
theorem dX7_scoreOf_1 : decode cX7_scoreOf 1 = .ok (.istore_n 2, 1) := by decide +kernel
theorem dX7_scoreOf_2 : decode cX7_scoreOf 2 = .ok (.bipush 100, 2) := by decide +kernel
theorem dX7_scoreOf_4 : decode cX7_scoreOf 4 = .ok (.istore_n 3, 1) := by decide +kernel
theorem dX7_scoreOf_5 : decode cX7_scoreOf 5 = .ok (.iconst 0, 1) := by decide +kernel
theorem dX7_scoreOf_6 : decode cX7_scoreOf 6 = .ok (.istore 4, 2) := by decide +kernel
theorem dX7_scoreOf_8 : decode cX7_scoreOf 8 = .ok (.iconst 5, 1) := by decide +kernel
theorem dX7_scoreOf_9 : decode cX7_scoreOf 9 = .ok (.iload_n 1, 1) := by decide +kernel
theorem dX7_scoreOf_10 : decode cX7_scoreOf 10 = .ok (.imul, 1) := by decide +kernel
theorem dX7_scoreOf_11 : decode cX7_scoreOf 11 = .ok (.istore 5, 2) := by decide +kernel
theorem dX7_scoreOf_13 : decode cX7_scoreOf 13 = .ok (.iload 5, 2) := by decide +kernel
theorem dX7_scoreOf_15 : decode cX7_scoreOf 15 = .ok (.iconst 5, 1) := by decide +kernel
theorem dX7_scoreOf_16 : decode cX7_scoreOf 16 = .ok (.iload_n 1, 1) := by decide +kernel
theorem dX7_scoreOf_17 : decode cX7_scoreOf 17 = .ok (.imul, 1) := by decide +kernel
theorem dX7_scoreOf_18 : decode cX7_scoreOf 18 = .ok (.iconst 5, 1) := by decide +kernel
theorem dX7_scoreOf_19 : decode cX7_scoreOf 19 = .ok (.iadd, 1) := by decide +kernel
theorem dX7_scoreOf_20 : decode cX7_scoreOf 20 = .ok (.if_icmp .ge 68, 3) := by decide +kernel
theorem dX7_scoreOf_23 : decode cX7_scoreOf 23 = .ok (.iload_n 2, 1) := by decide +kernel
theorem dX7_scoreOf_24 : decode cX7_scoreOf 24 = .ok (.aload_n 0, 1) := by decide +kernel
theorem dX7_scoreOf_25 : decode cX7_scoreOf 25 = .ok (.getfield 74, 3) := by decide +kernel
theorem dX7_scoreOf_28 : decode cX7_scoreOf 28 = .ok (.iload 5, 2) := by decide +kernel
theorem dX7_scoreOf_30 : decode cX7_scoreOf 30 = .ok (.iaload, 1) := by decide +kernel
theorem dX7_scoreOf_31 : decode cX7_scoreOf 31 = .ok (.iadd, 1) := by decide +kernel
theorem dX7_scoreOf_32 : decode cX7_scoreOf 32 = .ok (.istore_n 2, 1) := by decide +kernel
theorem dX7_scoreOf_33 : decode cX7_scoreOf 33 = .ok (.aload_n 0, 1) := by decide +kernel
theorem dX7_scoreOf_34 : decode cX7_scoreOf 34 = .ok (.getfield 74, 3) := by decide +kernel
theorem dX7_scoreOf_37 : decode cX7_scoreOf 37 = .ok (.iload 5, 2) := by decide +kernel
theorem dX7_scoreOf_39 : decode cX7_scoreOf 39 = .ok (.iaload, 1) := by decide +kernel
theorem dX7_scoreOf_40 : decode cX7_scoreOf 40 = .ok (.iload_n 3, 1) := by decide +kernel
theorem dX7_scoreOf_41 : decode cX7_scoreOf 41 = .ok (.if_icmp .ge 13, 3) := by decide +kernel
theorem dX7_scoreOf_44 : decode cX7_scoreOf 44 = .ok (.aload_n 0, 1) := by decide +kernel
theorem dX7_scoreOf_45 : decode cX7_scoreOf 45 = .ok (.getfield 74, 3) := by decide +kernel
theorem dX7_scoreOf_48 : decode cX7_scoreOf 48 = .ok (.iload 5, 2) := by decide +kernel
