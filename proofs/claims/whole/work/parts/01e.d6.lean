set_option maxRecDepth 20000 in
theorem ggX6_init_X6_firstDraft : GoodIn wsX6_init wsX6_firstDraft := goodIn_r _ [23, 9, 24, 25, 26, 27, 32, 33, 34, 35, 36, 37, 38, 39, 40, 41, 42, 43, 44, 45, 46, 47, 48, 49, 50, 51, 52, 53, 54, 55, 56, 57, 58, 59, 60, 61, 62] (by decide +kernel) (by decide +kernel)
set_option maxRecDepth 20000 in
theorem gX6_init_X6_firstDraft : GoodIn wsX6_init (wsV RX6 50 RX6 yX6_firstDraft wsX6_firstDraft) := goodIn_app (goodIn_of _ (by decide +kernel)) ggX6_init_X6_firstDraft
set_option maxRecDepth 20000 in
theorem ggX6_init_X6_keepDraft : GoodIn wsX6_init wsX6_keepDraft := goodIn_r _ [31, 5, 9, 26, 10, 25, 8, 32, 33, 34, 35, 36, 37, 38, 39, 40, 41, 42, 43, 44, 45, 46, 47, 48, 49, 50, 51, 52, 53, 54, 55, 56, 57, 58, 59, 60, 61, 62] (by decide +kernel) (by decide +kernel)
set_option maxRecDepth 20000 in
theorem gX6_init_X6_keepDraft : GoodIn wsX6_init (wsV RX6 53 RX6 yX6_keepDraft wsX6_keepDraft) := goodIn_app (goodIn_of _ (by decide +kernel)) ggX6_init_X6_keepDraft
theorem dX6_init_0 : decode cX6_init 0 = .ok (.aload_n 0, 1) := by decide +kernel
theorem dX6_init_1 : decode cX6_init 1 = .ok (.invokespecial 1, 3) := by decide +kernel
theorem dX6_init_4 : decode cX6_init 4 = .ok (.aload_n 0, 1) := by decide +kernel
theorem dX6_init_5 : decode cX6_init 5 = .ok (.sipush 147, 3) := by decide +kernel
theorem dX6_init_8 : decode cX6_init 8 = .ok (.newarray .int, 2) := by decide +kernel
theorem dX6_init_10 : decode cX6_init 10 = .ok (.putfield 7, 3) := by decide +kernel
theorem dX6_init_13 : decode cX6_init 13 = .ok (.aload_n 0, 1) := by decide +kernel
theorem dX6_init_14 : decode cX6_init 14 = .ok (.bipush 49, 2) := by decide +kernel
theorem dX6_init_16 : decode cX6_init 16 = .ok (.newarray .int, 2) := by decide +kernel
theorem dX6_init_18 : decode cX6_init 18 = .ok (.putfield 13, 3) := by decide +kernel
theorem dX6_init_21 : decode cX6_init 21 = .ok (.aload_n 0, 1) := by decide +kernel
theorem dX6_init_22 : decode cX6_init 22 = .ok (.iconst 2, 1) := by decide +kernel
theorem dX6_init_23 : decode cX6_init 23 = .ok (.newarray .boolean, 2) := by decide +kernel
theorem dX6_init_25 : decode cX6_init 25 = .ok (.putfield 16, 3) := by decide +kernel
theorem dX6_init_28 : decode cX6_init 28 = .ok (.aload_n 0, 1) := by decide +kernel
theorem dX6_init_29 : decode cX6_init 29 = .ok (.bipush 49, 2) := by decide +kernel
theorem dX6_init_31 : decode cX6_init 31 = .ok (.newarray .int, 2) := by decide +kernel
theorem dX6_init_33 : decode cX6_init 33 = .ok (.putfield 20, 3) := by decide +kernel
theorem dX6_init_36 : decode cX6_init 36 = .ok (.aload_n 0, 1) := by decide +kernel
theorem dX6_init_37 : decode cX6_init 37 = .ok (.bipush 6, 2) := by decide +kernel
theorem dX6_init_39 : decode cX6_init 39 = .ok (.newarray .int, 2) := by decide +kernel
theorem dX6_init_41 : decode cX6_init 41 = .ok (.putfield 23, 3) := by decide +kernel
theorem dX6_init_44 : decode cX6_init 44 = .ok (.aload_n 0, 1) := by decide +kernel
theorem dX6_init_45 : decode cX6_init 45 = .ok (.sipush 160, 3) := by decide +kernel
theorem dX6_init_48 : decode cX6_init 48 = .ok (.newarray .int, 2) := by decide +kernel
theorem dX6_init_50 : decode cX6_init 50 = .ok (.putfield 26, 3) := by decide +kernel
theorem dX6_init_53 : decode cX6_init 53 = .ok (.aload_n 0, 1) := by decide +kernel
theorem dX6_init_54 : decode cX6_init 54 = .ok (.bipush 6, 2) := by decide +kernel
theorem dX6_init_56 : decode cX6_init 56 = .ok (.newarray .int, 2) := by decide +kernel
theorem dX6_init_58 : decode cX6_init 58 = .ok (.putfield 29, 3) := by decide +kernel
theorem dX6_init_61 : decode cX6_init 61 = .ok (.aload_n 0, 1) := by decide +kernel
theorem dX6_init_62 : decode cX6_init 62 = .ok (.bipush 21, 2) := by decide +kernel
theorem dX6_init_64 : decode cX6_init 64 = .ok (.newarray .int, 2) := by decide +kernel
theorem dX6_init_66 : decode cX6_init 66 = .ok (.putfield 32, 3) := by decide +kernel
theorem dX6_init_69 : decode cX6_init 69 = .ok (.aload_n 0, 1) := by decide +kernel
theorem dX6_init_70 : decode cX6_init 70 = .ok (.bipush 126, 2) := by decide +kernel
theorem dX6_init_72 : decode cX6_init 72 = .ok (.newarray .int, 2) := by decide +kernel
theorem dX6_init_74 : decode cX6_init 74 = .ok (.putfield 35, 3) := by decide +kernel
theorem dX6_init_77 : decode cX6_init 77 = .ok (.aload_n 0, 1) := by decide +kernel
theorem dX6_init_78 : decode cX6_init 78 = .ok (.iconst 4, 1) := by decide +kernel
theorem dX6_init_79 : decode cX6_init 79 = .ok (.newarray .int, 2) := by decide +kernel
theorem dX6_init_81 : decode cX6_init 81 = .ok (.putfield 38, 3) := by decide +kernel
theorem dX6_init_84 : decode cX6_init 84 = .ok (.aload_n 0, 1) := by decide +kernel
theorem dX6_init_85 : decode cX6_init 85 = .ok (.iconst 4, 1) := by decide +kernel
theorem dX6_init_86 : decode cX6_init 86 = .ok (.newarray .int, 2) := by decide +kernel
theorem dX6_init_88 : decode cX6_init 88 = .ok (.putfield 41, 3) := by decide +kernel
theorem dX6_init_91 : decode cX6_init 91 = .ok (.aload_n 0, 1) := by decide +kernel
theorem dX6_init_92 : decode cX6_init 92 = .ok (.sipush 160, 3) := by decide +kernel
theorem dX6_init_95 : decode cX6_init 95 = .ok (.newarray .int, 2) := by decide +kernel
theorem dX6_init_97 : decode cX6_init 97 = .ok (.putfield 44, 3) := by decide +kernel
theorem dX6_init_100 : decode cX6_init 100 = .ok (.aload_n 0, 1) := by decide +kernel
theorem dX6_init_101 : decode cX6_init 101 = .ok (.bipush 49, 2) := by decide +kernel
theorem dX6_init_103 : decode cX6_init 103 = .ok (.newarray .int, 2) := by decide +kernel
theorem dX6_init_105 : decode cX6_init 105 = .ok (.putfield 47, 3) := by decide +kernel
theorem dX6_init_108 : decode cX6_init 108 = .ok (.iconst 0, 1) := by decide +kernel
theorem dX6_init_109 : decode cX6_init 109 = .ok (.istore_n 1, 1) := by decide +kernel
theorem dX6_init_110 : decode cX6_init 110 = .ok (.iload_n 1, 1) := by decide +kernel
theorem dX6_init_111 : decode cX6_init 111 = .ok (.iconst 4, 1) := by decide +kernel
theorem dX6_init_112 : decode cX6_init 112 = .ok (.if_icmp .ge 17, 3) := by decide +kernel
theorem dX6_init_115 : decode cX6_init 115 = .ok (.aload_n 0, 1) := by decide +kernel
theorem dX6_init_116 : decode cX6_init 116 = .ok (.getfield 38, 3) := by decide +kernel
theorem dX6_init_119 : decode cX6_init 119 = .ok (.iload_n 1, 1) := by decide +kernel
theorem dX6_init_120 : decode cX6_init 120 = .ok (.bipush (-4), 2) := by decide +kernel
theorem dX6_init_122 : decode cX6_init 122 = .ok (.iastore, 1) := by decide +kernel
theorem dX6_init_123 : decode cX6_init 123 = .ok (.iinc 1 1, 3) := by decide +kernel
theorem dX6_init_126 : decode cX6_init 126 = .ok (.goto (-16), 3) := by decide +kernel
theorem dX6_init_129 : decode cX6_init 129 = .ok (.aload_n 0, 1) := by decide +kernel
theorem dX6_init_130 : decode cX6_init 130 = .ok (.invokevirtual 50, 3) := by decide +kernel
theorem dX6_init_133 : decode cX6_init 133 = .ok (.aload_n 0, 1) := by decide +kernel
theorem dX6_init_134 : decode cX6_init 134 = .ok (.invokevirtual 53, 3) := by decide +kernel
theorem dX6_init_137 : decode cX6_init 137 = .ok (.return_, 1) := by decide +kernel
theorem dX6_in_0 : decode cX6_in 0 = .ok (.lload_n 0, 1) := by decide +kernel
theorem dX6_in_1 : decode cX6_in 1 = .ok (.lload_n 2, 1) := by decide +kernel
theorem dX6_in_2 : decode cX6_in 2 = .ok (.lcmp, 1) := by decide +kernel
theorem dX6_in_3 : decode cX6_in 3 = .ok (.ifCond .lt 14, 3) := by decide +kernel
theorem dX6_in_6 : decode cX6_in 6 = .ok (.lload_n 0, 1) := by decide +kernel
theorem dX6_in_7 : decode cX6_in 7 = .ok (.lload 4, 2) := by decide +kernel
theorem dX6_in_9 : decode cX6_in 9 = .ok (.lcmp, 1) := by decide +kernel
theorem dX6_in_10 : decode cX6_in 10 = .ok (.ifCond .gt 7, 3) := by decide +kernel
theorem dX6_in_13 : decode cX6_in 13 = .ok (.iconst 1, 1) := by decide +kernel
theorem dX6_in_14 : decode cX6_in 14 = .ok (.goto 4, 3) := by decide +kernel
theorem dX6_in_17 : decode cX6_in 17 = .ok (.iconst 0, 1) := by decide +kernel
theorem dX6_in_18 : decode cX6_in 18 = .ok (.ireturn, 1) := by decide +kernel
theorem dX6_flag_0 : decode cX6_flag 0 = .ok (.iload_n 0, 1) := by decide +kernel
theorem dX6_flag_1 : decode cX6_flag 1 = .ok (.ifCond .eq 7, 3) := by decide +kernel
theorem dX6_flag_4 : decode cX6_flag 4 = .ok (.iconst 1, 1) := by decide +kernel
theorem dX6_flag_5 : decode cX6_flag 5 = .ok (.goto 4, 3) := by decide +kernel
theorem dX6_flag_8 : decode cX6_flag 8 = .ok (.iconst 0, 1) := by decide +kernel
theorem dX6_flag_9 : decode cX6_flag 9 = .ok (.ireturn, 1) := by decide +kernel
theorem dX6_firstDraft_0 : decode cX6_firstDraft 0 = .ok (.iconst 0, 1) := by decide +kernel
theorem dX6_firstDraft_1 : decode cX6_firstDraft 1 = .ok (.istore_n 1, 1) := by decide +kernel
theorem dX6_firstDraft_2 : decode cX6_firstDraft 2 = .ok (.iload_n 1, 1) := by decide +kernel
theorem dX6_firstDraft_3 : decode cX6_firstDraft 3 = .ok (.bipush 49, 2) := by decide +kernel
theorem dX6_firstDraft_5 : decode cX6_firstDraft 5 = .ok (.if_icmp .ge 16, 3) := by decide +kernel
theorem dX6_firstDraft_8 : decode cX6_firstDraft 8 = .ok (.aload_n 0, 1) := by decide +kernel
theorem dX6_firstDraft_9 : decode cX6_firstDraft 9 = .ok (.getfield 20, 3) := by decide +kernel
theorem dX6_firstDraft_12 : decode cX6_firstDraft 12 = .ok (.iload_n 1, 1) := by decide +kernel
theorem dX6_firstDraft_13 : decode cX6_firstDraft 13 = .ok (.iconst 0, 1) := by decide +kernel
theorem dX6_firstDraft_14 : decode cX6_firstDraft 14 = .ok (.iastore, 1) := by decide +kernel
theorem dX6_firstDraft_15 : decode cX6_firstDraft 15 = .ok (.iinc 1 1, 3) := by decide +kernel
theorem dX6_firstDraft_18 : decode cX6_firstDraft 18 = .ok (.goto (-16), 3) := by decide +kernel
theorem dX6_firstDraft_21 : decode cX6_firstDraft 21 = .ok (.aload_n 0, 1) := by decide +kernel
theorem dX6_firstDraft_22 : decode cX6_firstDraft 22 = .ok (.iconst 0, 1) := by decide +kernel
theorem dX6_firstDraft_23 : decode cX6_firstDraft 23 = .ok (.putfield 56, 3) := by decide +kernel
theorem dX6_firstDraft_26 : decode cX6_firstDraft 26 = .ok (.aload_n 0, 1) := by decide +kernel
theorem dX6_firstDraft_27 : decode cX6_firstDraft 27 = .ok (.iconst 0, 1) := by decide +kernel
theorem dX6_firstDraft_28 : decode cX6_firstDraft 28 = .ok (.putfield 60, 3) := by decide +kernel
theorem dX6_firstDraft_31 : decode cX6_firstDraft 31 = .ok (.aload_n 0, 1) := by decide +kernel
theorem dX6_firstDraft_32 : decode cX6_firstDraft 32 = .ok (.iconst 0, 1) := by decide +kernel
theorem dX6_firstDraft_33 : decode cX6_firstDraft 33 = .ok (.putfield 63, 3) := by decide +kernel
theorem dX6_firstDraft_36 : decode cX6_firstDraft 36 = .ok (.aload_n 0, 1) := by decide +kernel
theorem dX6_firstDraft_37 : decode cX6_firstDraft 37 = .ok (.bipush (-4), 2) := by decide +kernel
theorem dX6_firstDraft_39 : decode cX6_firstDraft 39 = .ok (.putfield 66, 3) := by decide +kernel
theorem dX6_firstDraft_42 : decode cX6_firstDraft 42 = .ok (.return_, 1) := by decide +kernel
theorem dX6_keepDraft_0 : decode cX6_keepDraft 0 = .ok (.iconst 0, 1) := by decide +kernel
theorem dX6_keepDraft_1 : decode cX6_keepDraft 1 = .ok (.istore_n 1, 1) := by decide +kernel
theorem dX6_keepDraft_2 : decode cX6_keepDraft 2 = .ok (.iload_n 1, 1) := by decide +kernel
theorem dX6_keepDraft_3 : decode cX6_keepDraft 3 = .ok (.bipush 49, 2) := by decide +kernel
theorem dX6_keepDraft_5 : decode cX6_keepDraft 5 = .ok (.if_icmp .ge 21, 3) := by decide +kernel
theorem dX6_keepDraft_8 : decode cX6_keepDraft 8 = .ok (.aload_n 0, 1) := by decide +kernel
theorem dX6_keepDraft_9 : decode cX6_keepDraft 9 = .ok (.getfield 7, 3) := by decide +kernel
theorem dX6_keepDraft_12 : decode cX6_keepDraft 12 = .ok (.iload_n 1, 1) := by decide +kernel
theorem dX6_keepDraft_13 : decode cX6_keepDraft 13 = .ok (.aload_n 0, 1) := by decide +kernel
theorem dX6_keepDraft_14 : decode cX6_keepDraft 14 = .ok (.getfield 20, 3) := by decide +kernel
theorem dX6_keepDraft_17 : decode cX6_keepDraft 17 = .ok (.iload_n 1, 1) := by decide +kernel
theorem dX6_keepDraft_18 : decode cX6_keepDraft 18 = .ok (.iaload, 1) := by decide +kernel
theorem dX6_keepDraft_19 : decode cX6_keepDraft 19 = .ok (.iastore, 1) := by decide +kernel
theorem dX6_keepDraft_20 : decode cX6_keepDraft 20 = .ok (.iinc 1 1, 3) := by decide +kernel
theorem dX6_keepDraft_23 : decode cX6_keepDraft 23 = .ok (.goto (-21), 3) := by decide +kernel
theorem dX6_keepDraft_26 : decode cX6_keepDraft 26 = .ok (.iconst 0, 1) := by decide +kernel
theorem dX6_keepDraft_27 : decode cX6_keepDraft 27 = .ok (.istore_n 1, 1) := by decide +kernel
theorem dX6_keepDraft_28 : decode cX6_keepDraft 28 = .ok (.iload_n 1, 1) := by decide +kernel
theorem dX6_keepDraft_29 : decode cX6_keepDraft 29 = .ok (.aload_n 0, 1) := by decide +kernel
theorem dX6_keepDraft_30 : decode cX6_keepDraft 30 = .ok (.getfield 63, 3) := by decide +kernel
theorem dX6_keepDraft_33 : decode cX6_keepDraft 33 = .ok (.if_icmp .ge 24, 3) := by decide +kernel
theorem dX6_keepDraft_36 : decode cX6_keepDraft 36 = .ok (.aload_n 0, 1) := by decide +kernel
theorem dX6_keepDraft_37 : decode cX6_keepDraft 37 = .ok (.getfield 7, 3) := by decide +kernel
theorem dX6_keepDraft_40 : decode cX6_keepDraft 40 = .ok (.bipush 25, 2) := by decide +kernel
theorem dX6_keepDraft_42 : decode cX6_keepDraft 42 = .ok (.iload_n 1, 1) := by decide +kernel
theorem dX6_keepDraft_43 : decode cX6_keepDraft 43 = .ok (.iadd, 1) := by decide +kernel
theorem dX6_keepDraft_44 : decode cX6_keepDraft 44 = .ok (.aload_n 0, 1) := by decide +kernel
theorem dX6_keepDraft_45 : decode cX6_keepDraft 45 = .ok (.getfield 23, 3) := by decide +kernel
theorem dX6_keepDraft_48 : decode cX6_keepDraft 48 = .ok (.iload_n 1, 1) := by decide +kernel
theorem dX6_keepDraft_49 : decode cX6_keepDraft 49 = .ok (.iaload, 1) := by decide +kernel
theorem dX6_keepDraft_50 : decode cX6_keepDraft 50 = .ok (.iastore, 1) := by decide +kernel
theorem dX6_keepDraft_51 : decode cX6_keepDraft 51 = .ok (.iinc 1 1, 3) := by decide +kernel
theorem dX6_keepDraft_54 : decode cX6_keepDraft 54 = .ok (.goto (-26), 3) := by decide +kernel
theorem dX6_keepDraft_57 : decode cX6_keepDraft 57 = .ok (.aload_n 0, 1) := by decide +kernel
theorem dX6_keepDraft_58 : decode cX6_keepDraft 58 = .ok (.getfield 63, 3) := by decide +kernel
theorem dX6_keepDraft_61 : decode cX6_keepDraft 61 = .ok (.istore_n 1, 1) := by decide +kernel
theorem dX6_keepDraft_62 : decode cX6_keepDraft 62 = .ok (.iconst 0, 1) := by decide +kernel
theorem dX6_keepDraft_63 : decode cX6_keepDraft 63 = .ok (.istore_n 2, 1) := by decide +kernel
theorem dX6_keepDraft_64 : decode cX6_keepDraft 64 = .ok (.iload_n 2, 1) := by decide +kernel
theorem dX6_keepDraft_65 : decode cX6_keepDraft 65 = .ok (.aload_n 0, 1) := by decide +kernel
theorem dX6_keepDraft_66 : decode cX6_keepDraft 66 = .ok (.getfield 7, 3) := by decide +kernel
theorem dX6_keepDraft_69 : decode cX6_keepDraft 69 = .ok (.bipush 24, 2) := by decide +kernel
theorem dX6_keepDraft_71 : decode cX6_keepDraft 71 = .ok (.iaload, 1) := by decide +kernel
theorem dX6_keepDraft_72 : decode cX6_keepDraft 72 = .ok (.if_icmp .ge 33, 3) := by decide +kernel
theorem dX6_keepDraft_75 : decode cX6_keepDraft 75 = .ok (.aload_n 0, 1) := by decide +kernel
theorem dX6_keepDraft_76 : decode cX6_keepDraft 76 = .ok (.getfield 60, 3) := by decide +kernel
theorem dX6_keepDraft_79 : decode cX6_keepDraft 79 = .ok (.iload_n 2, 1) := by decide +kernel
theorem dX6_keepDraft_80 : decode cX6_keepDraft 80 = .ok (.ishr, 1) := by decide +kernel
theorem dX6_keepDraft_81 : decode cX6_keepDraft 81 = .ok (.iconst 1, 1) := by decide +kernel
theorem dX6_keepDraft_82 : decode cX6_keepDraft 82 = .ok (.iand, 1) := by decide +kernel
theorem dX6_keepDraft_83 : decode cX6_keepDraft 83 = .ok (.ifCond .ne 16, 3) := by decide +kernel
theorem dX6_keepDraft_86 : decode cX6_keepDraft 86 = .ok (.aload_n 0, 1) := by decide +kernel
theorem dX6_keepDraft_87 : decode cX6_keepDraft 87 = .ok (.getfield 7, 3) := by decide +kernel
theorem dX6_keepDraft_90 : decode cX6_keepDraft 90 = .ok (.bipush 25, 2) := by decide +kernel
theorem dX6_keepDraft_92 : decode cX6_keepDraft 92 = .ok (.iload_n 1, 1) := by decide +kernel
theorem dX6_keepDraft_93 : decode cX6_keepDraft 93 = .ok (.iadd, 1) := by decide +kernel
theorem dX6_keepDraft_94 : decode cX6_keepDraft 94 = .ok (.iload_n 2, 1) := by decide +kernel
theorem dX6_keepDraft_95 : decode cX6_keepDraft 95 = .ok (.iastore, 1) := by decide +kernel
theorem dX6_keepDraft_96 : decode cX6_keepDraft 96 = .ok (.iinc 1 1, 3) := by decide +kernel
theorem dX6_keepDraft_99 : decode cX6_keepDraft 99 = .ok (.iinc 2 1, 3) := by decide +kernel
theorem dX6_keepDraft_102 : decode cX6_keepDraft 102 = .ok (.goto (-38), 3) := by decide +kernel
theorem dX6_keepDraft_105 : decode cX6_keepDraft 105 = .ok (.aload_n 0, 1) := by decide +kernel
theorem dX6_keepDraft_106 : decode cX6_keepDraft 106 = .ok (.getfield 16, 3) := by decide +kernel
theorem dX6_keepDraft_109 : decode cX6_keepDraft 109 = .ok (.iconst 0, 1) := by decide +kernel
theorem dX6_keepDraft_110 : decode cX6_keepDraft 110 = .ok (.iconst 0, 1) := by decide +kernel
theorem dX6_keepDraft_111 : decode cX6_keepDraft 111 = .ok (.bastore, 1) := by decide +kernel
theorem dX6_keepDraft_112 : decode cX6_keepDraft 112 = .ok (.aload_n 0, 1) := by decide +kernel
theorem dX6_keepDraft_113 : decode cX6_keepDraft 113 = .ok (.getfield 16, 3) := by decide +kernel
theorem dX6_keepDraft_116 : decode cX6_keepDraft 116 = .ok (.iconst 1, 1) := by decide +kernel
theorem dX6_keepDraft_117 : decode cX6_keepDraft 117 = .ok (.iconst 0, 1) := by decide +kernel
theorem dX6_keepDraft_118 : decode cX6_keepDraft 118 = .ok (.bastore, 1) := by decide +kernel
theorem dX6_keepDraft_119 : decode cX6_keepDraft 119 = .ok (.return_, 1) := by decide +kernel
set_option maxRecDepth 20000 in
theorem ggX6_feed_X6_in : GoodIn wsX6_feed wsX6_in := goodIn_r _ [7] (by decide +kernel) (by decide +kernel)
set_option maxRecDepth 20000 in
theorem gX6_feed_X6_in : GoodIn wsX6_feed (va_wsS RX6 71 yX6_in wsX6_in) := goodIn_app (goodIn_of _ (by decide +kernel)) ggX6_feed_X6_in
theorem dX6_feed_0 : decode cX6_feed 0 = .ok (.iload_n 1, 1) := by decide +kernel
theorem dX6_feed_1 : decode cX6_feed 1 = .ok (.i2l, 1) := by decide +kernel
theorem dX6_feed_2 : decode cX6_feed 2 = .ok (.lconst 0, 1) := by decide +kernel
theorem dX6_feed_3 : decode cX6_feed 3 = .ok (.ldc2_w 69, 3) := by decide +kernel
theorem dX6_feed_6 : decode cX6_feed 6 = .ok (.invokestatic 71, 3) := by decide +kernel
theorem dX6_feed_9 : decode cX6_feed 9 = .ok (.ifCond .ne 5, 3) := by decide +kernel
theorem dX6_feed_12 : decode cX6_feed 12 = .ok (.iconst (-1), 1) := by decide +kernel
theorem dX6_feed_13 : decode cX6_feed 13 = .ok (.ireturn, 1) := by decide +kernel
theorem dX6_feed_14 : decode cX6_feed 14 = .ok (.aload_n 0, 1) := by decide +kernel
theorem dX6_feed_15 : decode cX6_feed 15 = .ok (.getfield 75, 3) := by decide +kernel
theorem dX6_feed_18 : decode cX6_feed 18 = .ok (.sipush 160, 3) := by decide +kernel
theorem dX6_feed_21 : decode cX6_feed 21 = .ok (.if_icmp .ne 6, 3) := by decide +kernel
theorem dX6_feed_24 : decode cX6_feed 24 = .ok (.bipush (-3), 2) := by decide +kernel
theorem dX6_feed_26 : decode cX6_feed 26 = .ok (.ireturn, 1) := by decide +kernel
theorem dX6_feed_27 : decode cX6_feed 27 = .ok (.aload_n 0, 1) := by decide +kernel
theorem dX6_feed_28 : decode cX6_feed 28 = .ok (.getfield 26, 3) := by decide +kernel
theorem dX6_feed_31 : decode cX6_feed 31 = .ok (.aload_n 0, 1) := by decide +kernel
theorem dX6_feed_32 : decode cX6_feed 32 = .ok (.getfield 75, 3) := by decide +kernel
theorem dX6_feed_35 : decode cX6_feed 35 = .ok (.iload_n 1, 1) := by decide +kernel
theorem dX6_feed_36 : decode cX6_feed 36 = .ok (.iastore, 1) := by decide +kernel
theorem dX6_feed_37 : decode cX6_feed 37 = .ok (.aload_n 0, 1) := by decide +kernel
theorem dX6_feed_38 : decode cX6_feed 38 = .ok (.dup, 1) := by decide +kernel
theorem dX6_feed_39 : decode cX6_feed 39 = .ok (.getfield 75, 3) := by decide +kernel
theorem dX6_feed_42 : decode cX6_feed 42 = .ok (.iconst 1, 1) := by decide +kernel
theorem dX6_feed_43 : decode cX6_feed 43 = .ok (.iadd, 1) := by decide +kernel
theorem dX6_feed_44 : decode cX6_feed 44 = .ok (.putfield 75, 3) := by decide +kernel
theorem dX6_feed_47 : decode cX6_feed 47 = .ok (.aload_n 0, 1) := by decide +kernel
theorem dX6_feed_48 : decode cX6_feed 48 = .ok (.getfield 75, 3) := by decide +kernel
theorem dX6_feed_51 : decode cX6_feed 51 = .ok (.ireturn, 1) := by decide +kernel
set_option maxRecDepth 20000 in
theorem ggX6_end_X6_in : GoodIn wsX6_end wsX6_in := goodIn_r _ [5] (by decide +kernel) (by decide +kernel)
set_option maxRecDepth 20000 in
theorem gX6_end_X6_in : GoodIn wsX6_end (va_wsS RX6 71 yX6_in wsX6_in) := goodIn_app (goodIn_of _ (by decide +kernel)) ggX6_end_X6_in
theorem dX6_end_0 : decode cX6_end 0 = .ok (.iload_n 1, 1) := by decide +kernel
theorem dX6_end_1 : decode cX6_end 1 = .ok (.i2l, 1) := by decide +kernel
theorem dX6_end_2 : decode cX6_end 2 = .ok (.lconst 0, 1) := by decide +kernel
theorem dX6_end_3 : decode cX6_end 3 = .ok (.aload_n 0, 1) := by decide +kernel
theorem dX6_end_4 : decode cX6_end 4 = .ok (.getfield 75, 3) := by decide +kernel
theorem dX6_end_7 : decode cX6_end 7 = .ok (.i2l, 1) := by decide +kernel
theorem dX6_end_8 : decode cX6_end 8 = .ok (.invokestatic 71, 3) := by decide +kernel
theorem dX6_end_11 : decode cX6_end 11 = .ok (.ifCond .ne 5, 3) := by decide +kernel
theorem dX6_end_14 : decode cX6_end 14 = .ok (.iconst (-1), 1) := by decide +kernel
theorem dX6_end_15 : decode cX6_end 15 = .ok (.ireturn, 1) := by decide +kernel
theorem dX6_end_16 : decode cX6_end 16 = .ok (.aload_n 0, 1) := by decide +kernel
theorem dX6_end_17 : decode cX6_end 17 = .ok (.getfield 75, 3) := by decide +kernel
theorem dX6_end_20 : decode cX6_end 20 = .ok (.istore_n 2, 1) := by decide +kernel
theorem dX6_end_21 : decode cX6_end 21 = .ok (.aload_n 0, 1) := by decide +kernel
theorem dX6_end_22 : decode cX6_end 22 = .ok (.iload_n 1, 1) := by decide +kernel
theorem dX6_end_23 : decode cX6_end 23 = .ok (.putfield 75, 3) := by decide +kernel
theorem dX6_end_26 : decode cX6_end 26 = .ok (.iload_n 2, 1) := by decide +kernel
theorem dX6_end_27 : decode cX6_end 27 = .ok (.ireturn, 1) := by decide +kernel
theorem dX6_needs_0 : decode cX6_needs 0 = .ok (.iload_n 1, 1) := by decide +kernel
theorem dX6_needs_1 : decode cX6_needs 1 = .ok (.ifCond .ne 23, 3) := by decide +kernel
theorem dX6_needs_4 : decode cX6_needs 4 = .ok (.aload_n 0, 1) := by decide +kernel
theorem dX6_needs_5 : decode cX6_needs 5 = .ok (.getfield 78, 3) := by decide +kernel
theorem dX6_needs_8 : decode cX6_needs 8 = .ok (.ifCond .ne 16, 3) := by decide +kernel
theorem dX6_needs_11 : decode cX6_needs 11 = .ok (.aload_n 0, 1) := by decide +kernel
theorem dX6_needs_12 : decode cX6_needs 12 = .ok (.iload_n 2, 1) := by decide +kernel
theorem dX6_needs_13 : decode cX6_needs 13 = .ok (.putfield 78, 3) := by decide +kernel
theorem dX6_needs_16 : decode cX6_needs 16 = .ok (.aload_n 0, 1) := by decide +kernel
theorem dX6_needs_17 : decode cX6_needs 17 = .ok (.aload_n 0, 1) := by decide +kernel
theorem dX6_needs_18 : decode cX6_needs 18 = .ok (.getfield 81, 3) := by decide +kernel
theorem dX6_needs_21 : decode cX6_needs 21 = .ok (.putfield 84, 3) := by decide +kernel
theorem dX6_needs_24 : decode cX6_needs 24 = .ok (.return_, 1) := by decide +kernel
theorem dX6_byteAt_0 : decode cX6_byteAt 0 = .ok (.iload_n 1, 1) := by decide +kernel
theorem dX6_byteAt_1 : decode cX6_byteAt 1 = .ok (.aload_n 0, 1) := by decide +kernel
theorem dX6_byteAt_2 : decode cX6_byteAt 2 = .ok (.getfield 75, 3) := by decide +kernel
theorem dX6_byteAt_5 : decode cX6_byteAt 5 = .ok (.if_icmp .ge 12, 3) := by decide +kernel
theorem dX6_byteAt_8 : decode cX6_byteAt 8 = .ok (.aload_n 0, 1) := by decide +kernel
theorem dX6_byteAt_9 : decode cX6_byteAt 9 = .ok (.getfield 26, 3) := by decide +kernel
theorem dX6_byteAt_12 : decode cX6_byteAt 12 = .ok (.iload_n 1, 1) := by decide +kernel
theorem dX6_byteAt_13 : decode cX6_byteAt 13 = .ok (.iaload, 1) := by decide +kernel
theorem dX6_byteAt_14 : decode cX6_byteAt 14 = .ok (.goto 4, 3) := by decide +kernel
theorem dX6_byteAt_17 : decode cX6_byteAt 17 = .ok (.iconst (-1), 1) := by decide +kernel
theorem dX6_byteAt_18 : decode cX6_byteAt 18 = .ok (.ireturn, 1) := by decide +kernel
set_option maxRecDepth 20000 in
theorem ggX6_is_X6_byteAt : GoodIn wsX6_is wsX6_byteAt := goodIn_r _ [7, 8, 9, 10, 11, 12, 13, 14, 15, 16, 17, 18, 19, 20, 21, 22, 23, 24, 25, 26, 27, 28, 29, 30, 31, 32, 33, 34, 35, 36, 37, 38, 39, 40] (by decide +kernel) (by decide +kernel)
set_option maxRecDepth 20000 in
theorem gX6_is_X6_byteAt : GoodIn wsX6_is (wsV RX6 90 RX6 yX6_byteAt wsX6_byteAt) := goodIn_app (goodIn_of _ (by decide +kernel)) ggX6_is_X6_byteAt
theorem dX6_is_0 : decode cX6_is 0 = .ok (.aload_n 0, 1) := by decide +kernel
theorem dX6_is_1 : decode cX6_is 1 = .ok (.getfield 87, 3) := by decide +kernel
theorem dX6_is_4 : decode cX6_is 4 = .ok (.aload_n 0, 1) := by decide +kernel
theorem dX6_is_5 : decode cX6_is 5 = .ok (.getfield 81, 3) := by decide +kernel
theorem dX6_is_8 : decode cX6_is 8 = .ok (.isub, 1) := by decide +kernel
theorem dX6_is_9 : decode cX6_is 9 = .ok (.iload_n 1, 1) := by decide +kernel
theorem dX6_is_10 : decode cX6_is 10 = .ok (.if_icmp .ne 63, 3) := by decide +kernel
theorem dX6_is_13 : decode cX6_is 13 = .ok (.aload_n 0, 1) := by decide +kernel
theorem dX6_is_14 : decode cX6_is 14 = .ok (.aload_n 0, 1) := by decide +kernel
theorem dX6_is_15 : decode cX6_is 15 = .ok (.getfield 81, 3) := by decide +kernel
theorem dX6_is_18 : decode cX6_is 18 = .ok (.invokevirtual 90, 3) := by decide +kernel
theorem dX6_is_21 : decode cX6_is 21 = .ok (.iload_n 2, 1) := by decide +kernel
theorem dX6_is_22 : decode cX6_is 22 = .ok (.if_icmp .ne 51, 3) := by decide +kernel
theorem dX6_is_25 : decode cX6_is 25 = .ok (.aload_n 0, 1) := by decide +kernel
theorem dX6_is_26 : decode cX6_is 26 = .ok (.aload_n 0, 1) := by decide +kernel
theorem dX6_is_27 : decode cX6_is 27 = .ok (.getfield 81, 3) := by decide +kernel
theorem dX6_is_30 : decode cX6_is 30 = .ok (.iconst 1, 1) := by decide +kernel
theorem dX6_is_31 : decode cX6_is 31 = .ok (.iadd, 1) := by decide +kernel
theorem dX6_is_32 : decode cX6_is 32 = .ok (.invokevirtual 90, 3) := by decide +kernel
theorem dX6_is_35 : decode cX6_is 35 = .ok (.iload_n 3, 1) := by decide +kernel
theorem dX6_is_36 : decode cX6_is 36 = .ok (.if_icmp .ne 37, 3) := by decide +kernel
theorem dX6_is_39 : decode cX6_is 39 = .ok (.aload_n 0, 1) := by decide +kernel
theorem dX6_is_40 : decode cX6_is 40 = .ok (.aload_n 0, 1) := by decide +kernel
theorem dX6_is_41 : decode cX6_is 41 = .ok (.getfield 81, 3) := by decide +kernel
theorem dX6_is_44 : decode cX6_is 44 = .ok (.iconst 2, 1) := by decide +kernel
theorem dX6_is_45 : decode cX6_is 45 = .ok (.iadd, 1) := by decide +kernel
theorem dX6_is_46 : decode cX6_is 46 = .ok (.invokevirtual 90, 3) := by decide +kernel
theorem dX6_is_49 : decode cX6_is 49 = .ok (.iload 4, 2) := by decide +kernel
theorem dX6_is_51 : decode cX6_is 51 = .ok (.if_icmp .ne 22, 3) := by decide +kernel
theorem dX6_is_54 : decode cX6_is 54 = .ok (.aload_n 0, 1) := by decide +kernel
theorem dX6_is_55 : decode cX6_is 55 = .ok (.aload_n 0, 1) := by decide +kernel
theorem dX6_is_56 : decode cX6_is 56 = .ok (.getfield 81, 3) := by decide +kernel
theorem dX6_is_59 : decode cX6_is 59 = .ok (.iconst 3, 1) := by decide +kernel
theorem dX6_is_60 : decode cX6_is 60 = .ok (.iadd, 1) := by decide +kernel
theorem dX6_is_61 : decode cX6_is 61 = .ok (.invokevirtual 90, 3) := by decide +kernel
theorem dX6_is_64 : decode cX6_is 64 = .ok (.iload 5, 2) := by decide +kernel
theorem dX6_is_66 : decode cX6_is 66 = .ok (.if_icmp .ne 7, 3) := by decide +kernel
theorem dX6_is_69 : decode cX6_is 69 = .ok (.iconst 1, 1) := by decide +kernel
theorem dX6_is_70 : decode cX6_is 70 = .ok (.goto 4, 3) := by decide +kernel
theorem dX6_is_73 : decode cX6_is 73 = .ok (.iconst 0, 1) := by decide +kernel
theorem dX6_is_74 : decode cX6_is 74 = .ok (.ireturn, 1) := by decide +kernel
set_option maxRecDepth 20000 in
theorem ggX6_ends_X6_byteAt : GoodIn wsX6_ends wsX6_byteAt := goodIn_r _ [6, 7, 8, 9, 10, 11, 12, 13, 14, 15, 16, 17, 18, 19, 20, 21, 22, 23, 24, 25, 26, 27, 28, 29, 30, 31, 32, 33, 34, 35, 36, 37, 38, 39] (by decide +kernel) (by decide +kernel)
set_option maxRecDepth 20000 in
theorem gX6_ends_X6_byteAt : GoodIn wsX6_ends (wsV RX6 90 RX6 yX6_byteAt wsX6_byteAt) := goodIn_app (goodIn_of _ (by decide +kernel)) ggX6_ends_X6_byteAt
theorem dX6_ends_0 : decode cX6_ends 0 = .ok (.aload_n 0, 1) := by decide +kernel
theorem dX6_ends_1 : decode cX6_ends 1 = .ok (.aload_n 0, 1) := by decide +kernel
theorem dX6_ends_2 : decode cX6_ends 2 = .ok (.getfield 81, 3) := by decide +kernel
theorem dX6_ends_5 : decode cX6_ends 5 = .ok (.iconst 4, 1) := by decide +kernel
theorem dX6_ends_6 : decode cX6_ends 6 = .ok (.iadd, 1) := by decide +kernel
theorem dX6_ends_7 : decode cX6_ends 7 = .ok (.invokevirtual 90, 3) := by decide +kernel
theorem dX6_ends_10 : decode cX6_ends 10 = .ok (.iload_n 1, 1) := by decide +kernel
theorem dX6_ends_11 : decode cX6_ends 11 = .ok (.if_icmp .ne 44, 3) := by decide +kernel
theorem dX6_ends_14 : decode cX6_ends 14 = .ok (.iload_n 2, 1) := by decide +kernel
theorem dX6_ends_15 : decode cX6_ends 15 = .ok (.ifCond .eq 17, 3) := by decide +kernel
theorem dX6_ends_18 : decode cX6_ends 18 = .ok (.aload_n 0, 1) := by decide +kernel
theorem dX6_ends_19 : decode cX6_ends 19 = .ok (.aload_n 0, 1) := by decide +kernel
theorem dX6_ends_20 : decode cX6_ends 20 = .ok (.getfield 81, 3) := by decide +kernel
theorem dX6_ends_23 : decode cX6_ends 23 = .ok (.iconst 5, 1) := by decide +kernel
theorem dX6_ends_24 : decode cX6_ends 24 = .ok (.iadd, 1) := by decide +kernel
theorem dX6_ends_25 : decode cX6_ends 25 = .ok (.invokevirtual 90, 3) := by decide +kernel
theorem dX6_ends_28 : decode cX6_ends 28 = .ok (.iload_n 2, 1) := by decide +kernel
theorem dX6_ends_29 : decode cX6_ends 29 = .ok (.if_icmp .ne 26, 3) := by decide +kernel
theorem dX6_ends_32 : decode cX6_ends 32 = .ok (.iload_n 3, 1) := by decide +kernel
theorem dX6_ends_33 : decode cX6_ends 33 = .ok (.ifCond .eq 18, 3) := by decide +kernel
theorem dX6_ends_36 : decode cX6_ends 36 = .ok (.aload_n 0, 1) := by decide +kernel
theorem dX6_ends_37 : decode cX6_ends 37 = .ok (.aload_n 0, 1) := by decide +kernel
theorem dX6_ends_38 : decode cX6_ends 38 = .ok (.getfield 81, 3) := by decide +kernel
theorem dX6_ends_41 : decode cX6_ends 41 = .ok (.bipush 6, 2) := by decide +kernel
theorem dX6_ends_43 : decode cX6_ends 43 = .ok (.iadd, 1) := by decide +kernel
theorem dX6_ends_44 : decode cX6_ends 44 = .ok (.invokevirtual 90, 3) := by decide +kernel
theorem dX6_ends_47 : decode cX6_ends 47 = .ok (.iload_n 3, 1) := by decide +kernel
theorem dX6_ends_48 : decode cX6_ends 48 = .ok (.if_icmp .ne 7, 3) := by decide +kernel
theorem dX6_ends_51 : decode cX6_ends 51 = .ok (.iconst 1, 1) := by decide +kernel
theorem dX6_ends_52 : decode cX6_ends 52 = .ok (.goto 4, 3) := by decide +kernel
theorem dX6_ends_55 : decode cX6_ends 55 = .ok (.iconst 0, 1) := by decide +kernel
theorem dX6_ends_56 : decode cX6_ends 56 = .ok (.ireturn, 1) := by decide +kernel
set_option maxRecDepth 20000 in
theorem ggX6_kindNow_X6_is : GoodIn wsX6_kindNow wsX6_is := goodIn_r _ [5, 6, 7, 8, 9, 10, 4, 11, 12, 13, 18, 19, 20, 21, 22, 23, 24, 25, 26, 27, 28, 29, 30, 31, 32, 33, 34, 35, 36, 37, 38, 39, 40, 41, 42, 43, 44, 45, 46, 47, 48] (by decide +kernel) (by decide +kernel)
set_option maxRecDepth 20000 in
theorem gX6_kindNow_X6_is : GoodIn wsX6_kindNow (wsV RX6 94 RX6 yX6_is wsX6_is) := goodIn_app (goodIn_of _ (by decide +kernel)) ggX6_kindNow_X6_is
set_option maxRecDepth 20000 in
theorem ggX6_kindNow_X6_ends : GoodIn wsX6_kindNow wsX6_ends := goodIn_r _ [17, 7, 8, 9, 10, 4, 11, 12, 13, 18, 19, 20, 21, 22, 23, 24, 25, 26, 27, 28, 29, 30, 31, 32, 33, 34, 35, 36, 37, 38, 39, 40, 41, 42, 43, 44, 45, 46, 47, 48] (by decide +kernel) (by decide +kernel)
set_option maxRecDepth 20000 in
theorem gX6_kindNow_X6_ends : GoodIn wsX6_kindNow (wsV RX6 98 RX6 yX6_ends wsX6_ends) := goodIn_app (goodIn_of _ (by decide +kernel)) ggX6_kindNow_X6_ends
theorem dX6_kindNow_0 : decode cX6_kindNow 0 = .ok (.aload_n 0, 1) := by decide +kernel
theorem dX6_kindNow_1 : decode cX6_kindNow 1 = .ok (.iconst 5, 1) := by decide +kernel
theorem dX6_kindNow_2 : decode cX6_kindNow 2 = .ok (.bipush 112, 2) := by decide +kernel
theorem dX6_kindNow_4 : decode cX6_kindNow 4 = .ok (.bipush 108, 2) := by decide +kernel
theorem dX6_kindNow_6 : decode cX6_kindNow 6 = .ok (.bipush 97, 2) := by decide +kernel
theorem dX6_kindNow_8 : decode cX6_kindNow 8 = .ok (.bipush 105, 2) := by decide +kernel
theorem dX6_kindNow_10 : decode cX6_kindNow 10 = .ok (.invokevirtual 94, 3) := by decide +kernel
theorem dX6_kindNow_13 : decode cX6_kindNow 13 = .ok (.ifCond .eq 16, 3) := by decide +kernel
theorem dX6_kindNow_16 : decode cX6_kindNow 16 = .ok (.aload_n 0, 1) := by decide +kernel
theorem dX6_kindNow_17 : decode cX6_kindNow 17 = .ok (.bipush 110, 2) := by decide +kernel
theorem dX6_kindNow_19 : decode cX6_kindNow 19 = .ok (.iconst 0, 1) := by decide +kernel
theorem dX6_kindNow_20 : decode cX6_kindNow 20 = .ok (.iconst 0, 1) := by decide +kernel
theorem dX6_kindNow_21 : decode cX6_kindNow 21 = .ok (.invokevirtual 98, 3) := by decide +kernel
theorem dX6_kindNow_24 : decode cX6_kindNow 24 = .ok (.ifCond .eq 5, 3) := by decide +kernel
theorem dX6_kindNow_27 : decode cX6_kindNow 27 = .ok (.iconst 0, 1) := by decide +kernel
theorem dX6_kindNow_28 : decode cX6_kindNow 28 = .ok (.ireturn, 1) := by decide +kernel
theorem dX6_kindNow_29 : decode cX6_kindNow 29 = .ok (.aload_n 0, 1) := by decide +kernel
theorem dX6_kindNow_30 : decode cX6_kindNow 30 = .ok (.iconst 4, 1) := by decide +kernel
theorem dX6_kindNow_31 : decode cX6_kindNow 31 = .ok (.bipush 116, 2) := by decide +kernel
theorem dX6_kindNow_33 : decode cX6_kindNow 33 = .ok (.bipush 97, 2) := by decide +kernel
theorem dX6_kindNow_35 : decode cX6_kindNow 35 = .ok (.bipush 108, 2) := by decide +kernel
theorem dX6_kindNow_37 : decode cX6_kindNow 37 = .ok (.bipush 108, 2) := by decide +kernel
theorem dX6_kindNow_39 : decode cX6_kindNow 39 = .ok (.invokevirtual 94, 3) := by decide +kernel
theorem dX6_kindNow_42 : decode cX6_kindNow 42 = .ok (.ifCond .eq 5, 3) := by decide +kernel
theorem dX6_kindNow_45 : decode cX6_kindNow 45 = .ok (.iconst 1, 1) := by decide +kernel
theorem dX6_kindNow_46 : decode cX6_kindNow 46 = .ok (.ireturn, 1) := by decide +kernel
theorem dX6_kindNow_47 : decode cX6_kindNow 47 = .ok (.aload_n 0, 1) := by decide +kernel
theorem dX6_kindNow_48 : decode cX6_kindNow 48 = .ok (.bipush 7, 2) := by decide +kernel
theorem dX6_kindNow_50 : decode cX6_kindNow 50 = .ok (.bipush 115, 2) := by decide +kernel
theorem dX6_kindNow_52 : decode cX6_kindNow 52 = .ok (.bipush 116, 2) := by decide +kernel
theorem dX6_kindNow_54 : decode cX6_kindNow 54 = .ok (.bipush 111, 2) := by decide +kernel
theorem dX6_kindNow_56 : decode cX6_kindNow 56 = .ok (.bipush 111, 2) := by decide +kernel
theorem dX6_kindNow_58 : decode cX6_kindNow 58 = .ok (.invokevirtual 94, 3) := by decide +kernel
theorem dX6_kindNow_61 : decode cX6_kindNow 61 = .ok (.ifCond .eq 20, 3) := by decide +kernel
theorem dX6_kindNow_64 : decode cX6_kindNow 64 = .ok (.aload_n 0, 1) := by decide +kernel
theorem dX6_kindNow_65 : decode cX6_kindNow 65 = .ok (.bipush 112, 2) := by decide +kernel
theorem dX6_kindNow_67 : decode cX6_kindNow 67 = .ok (.bipush 101, 2) := by decide +kernel
theorem dX6_kindNow_69 : decode cX6_kindNow 69 = .ok (.bipush 100, 2) := by decide +kernel
theorem dX6_kindNow_71 : decode cX6_kindNow 71 = .ok (.invokevirtual 98, 3) := by decide +kernel
theorem dX6_kindNow_74 : decode cX6_kindNow 74 = .ok (.ifCond .eq 7, 3) := by decide +kernel
theorem dX6_kindNow_77 : decode cX6_kindNow 77 = .ok (.iconst 2, 1) := by decide +kernel
theorem dX6_kindNow_78 : decode cX6_kindNow 78 = .ok (.goto 36, 3) := by decide +kernel
theorem dX6_kindNow_81 : decode cX6_kindNow 81 = .ok (.aload_n 0, 1) := by decide +kernel
theorem dX6_kindNow_82 : decode cX6_kindNow 82 = .ok (.iconst 5, 1) := by decide +kernel
theorem dX6_kindNow_83 : decode cX6_kindNow 83 = .ok (.bipush 115, 2) := by decide +kernel
theorem dX6_kindNow_85 : decode cX6_kindNow 85 = .ok (.bipush 116, 2) := by decide +kernel
theorem dX6_kindNow_87 : decode cX6_kindNow 87 = .ok (.bipush 111, 2) := by decide +kernel
theorem dX6_kindNow_89 : decode cX6_kindNow 89 = .ok (.bipush 111, 2) := by decide +kernel
theorem dX6_kindNow_91 : decode cX6_kindNow 91 = .ok (.invokevirtual 94, 3) := by decide +kernel
theorem dX6_kindNow_94 : decode cX6_kindNow 94 = .ok (.ifCond .eq 18, 3) := by decide +kernel
theorem dX6_kindNow_97 : decode cX6_kindNow 97 = .ok (.aload_n 0, 1) := by decide +kernel
theorem dX6_kindNow_98 : decode cX6_kindNow 98 = .ok (.bipush 108, 2) := by decide +kernel
theorem dX6_kindNow_100 : decode cX6_kindNow 100 = .ok (.iconst 0, 1) := by decide +kernel
theorem dX6_kindNow_101 : decode cX6_kindNow 101 = .ok (.iconst 0, 1) := by decide +kernel
theorem dX6_kindNow_102 : decode cX6_kindNow 102 = .ok (.invokevirtual 98, 3) := by decide +kernel
theorem dX6_kindNow_105 : decode cX6_kindNow 105 = .ok (.ifCond .eq 7, 3) := by decide +kernel
theorem dX6_kindNow_108 : decode cX6_kindNow 108 = .ok (.iconst 3, 1) := by decide +kernel
theorem dX6_kindNow_109 : decode cX6_kindNow 109 = .ok (.goto 5, 3) := by decide +kernel
theorem dX6_kindNow_112 : decode cX6_kindNow 112 = .ok (.bipush (-4), 2) := by decide +kernel
theorem dX6_kindNow_114 : decode cX6_kindNow 114 = .ok (.ireturn, 1) := by decide +kernel
set_option maxRecDepth 20000 in
theorem ggX6_lineNow_X6_is : GoodIn wsX6_lineNow wsX6_is := goodIn_r _ [5, 6, 7, 8, 9, 10, 4, 11, 12, 13, 22, 23, 24, 25, 26, 27, 28, 29, 30, 31, 32, 33, 34, 35, 36, 37, 38, 39, 40, 41, 42, 43, 44, 45, 46, 47, 48, 49, 50, 51, 52] (by decide +kernel) (by decide +kernel)
set_option maxRecDepth 20000 in
theorem gX6_lineNow_X6_is : GoodIn wsX6_lineNow (wsV RX6 94 RX6 yX6_is wsX6_is) := goodIn_app (goodIn_of _ (by decide +kernel)) ggX6_lineNow_X6_is
set_option maxRecDepth 20000 in
theorem ggX6_lineNow_X6_ends : GoodIn wsX6_lineNow wsX6_ends := goodIn_r _ [17, 7, 8, 9, 10, 4, 11, 12, 13, 22, 23, 24, 25, 26, 27, 28, 29, 30, 31, 32, 33, 34, 35, 36, 37, 38, 39, 40, 41, 42, 43, 44, 45, 46, 47, 48, 49, 50, 51, 52] (by decide +kernel) (by decide +kernel)
set_option maxRecDepth 20000 in
theorem gX6_lineNow_X6_ends : GoodIn wsX6_lineNow (wsV RX6 98 RX6 yX6_ends wsX6_ends) := goodIn_app (goodIn_of _ (by decide +kernel)) ggX6_lineNow_X6_ends
set_option maxRecDepth 20000 in
theorem ggX6_lineNow_X6_kindNow : GoodIn wsX6_lineNow wsX6_kindNow := goodIn_r _ [21, 1, 2, 3, 4, 5, 6, 7, 8, 9, 10, 11, 12, 13, 14, 15, 16, 17, 22, 23, 24, 25, 26, 27, 28, 29, 30, 31, 32, 33, 34, 35, 36, 37, 38, 39, 40, 41, 42, 43, 44, 45, 46, 47, 48, 49, 50, 51, 52] (by decide +kernel) (by decide +kernel)
set_option maxRecDepth 20000 in
theorem gX6_lineNow_X6_kindNow : GoodIn wsX6_lineNow (wsV RX6 102 RX6 yX6_kindNow wsX6_kindNow) := goodIn_app (goodIn_of _ (by decide +kernel)) ggX6_lineNow_X6_kindNow
theorem dX6_lineNow_0 : decode cX6_lineNow 0 = .ok (.aload_n 0, 1) := by decide +kernel
theorem dX6_lineNow_1 : decode cX6_lineNow 1 = .ok (.iconst 4, 1) := by decide +kernel
theorem dX6_lineNow_2 : decode cX6_lineNow 2 = .ok (.bipush 108, 2) := by decide +kernel
theorem dX6_lineNow_4 : decode cX6_lineNow 4 = .ok (.bipush 105, 2) := by decide +kernel
theorem dX6_lineNow_6 : decode cX6_lineNow 6 = .ok (.bipush 110, 2) := by decide +kernel
theorem dX6_lineNow_8 : decode cX6_lineNow 8 = .ok (.bipush 101, 2) := by decide +kernel
theorem dX6_lineNow_10 : decode cX6_lineNow 10 = .ok (.invokevirtual 94, 3) := by decide +kernel
theorem dX6_lineNow_13 : decode cX6_lineNow 13 = .ok (.ifCond .eq 5, 3) := by decide +kernel
theorem dX6_lineNow_16 : decode cX6_lineNow 16 = .ok (.iconst 4, 1) := by decide +kernel
theorem dX6_lineNow_17 : decode cX6_lineNow 17 = .ok (.ireturn, 1) := by decide +kernel
theorem dX6_lineNow_18 : decode cX6_lineNow 18 = .ok (.aload_n 0, 1) := by decide +kernel
theorem dX6_lineNow_19 : decode cX6_lineNow 19 = .ok (.bipush 7, 2) := by decide +kernel
theorem dX6_lineNow_21 : decode cX6_lineNow 21 = .ok (.bipush 108, 2) := by decide +kernel
theorem dX6_lineNow_23 : decode cX6_lineNow 23 = .ok (.bipush 117, 2) := by decide +kernel
theorem dX6_lineNow_25 : decode cX6_lineNow 25 = .ok (.bipush 109, 2) := by decide +kernel
theorem dX6_lineNow_27 : decode cX6_lineNow 27 = .ok (.bipush 98, 2) := by decide +kernel
theorem dX6_lineNow_29 : decode cX6_lineNow 29 = .ok (.invokevirtual 94, 3) := by decide +kernel
theorem dX6_lineNow_32 : decode cX6_lineNow 32 = .ok (.ifCond .eq 20, 3) := by decide +kernel
theorem dX6_lineNow_35 : decode cX6_lineNow 35 = .ok (.aload_n 0, 1) := by decide +kernel
theorem dX6_lineNow_36 : decode cX6_lineNow 36 = .ok (.bipush 97, 2) := by decide +kernel
theorem dX6_lineNow_38 : decode cX6_lineNow 38 = .ok (.bipush 103, 2) := by decide +kernel
theorem dX6_lineNow_40 : decode cX6_lineNow 40 = .ok (.bipush 111, 2) := by decide +kernel
theorem dX6_lineNow_42 : decode cX6_lineNow 42 = .ok (.invokevirtual 98, 3) := by decide +kernel
theorem dX6_lineNow_45 : decode cX6_lineNow 45 = .ok (.ifCond .eq 7, 3) := by decide +kernel
theorem dX6_lineNow_48 : decode cX6_lineNow 48 = .ok (.iconst 5, 1) := by decide +kernel
theorem dX6_lineNow_49 : decode cX6_lineNow 49 = .ok (.goto 39, 3) := by decide +kernel
theorem dX6_lineNow_52 : decode cX6_lineNow 52 = .ok (.aload_n 0, 1) := by decide +kernel
theorem dX6_lineNow_53 : decode cX6_lineNow 53 = .ok (.iconst 5, 1) := by decide +kernel
theorem dX6_lineNow_54 : decode cX6_lineNow 54 = .ok (.bipush 119, 2) := by decide +kernel
theorem dX6_lineNow_56 : decode cX6_lineNow 56 = .ok (.bipush 111, 2) := by decide +kernel
theorem dX6_lineNow_58 : decode cX6_lineNow 58 = .ok (.bipush 114, 2) := by decide +kernel
theorem dX6_lineNow_60 : decode cX6_lineNow 60 = .ok (.bipush 107, 2) := by decide +kernel
theorem dX6_lineNow_62 : decode cX6_lineNow 62 = .ok (.invokevirtual 94, 3) := by decide +kernel
theorem dX6_lineNow_65 : decode cX6_lineNow 65 = .ok (.ifCond .eq 19, 3) := by decide +kernel
theorem dX6_lineNow_68 : decode cX6_lineNow 68 = .ok (.aload_n 0, 1) := by decide +kernel
theorem dX6_lineNow_69 : decode cX6_lineNow 69 = .ok (.bipush 115, 2) := by decide +kernel
theorem dX6_lineNow_71 : decode cX6_lineNow 71 = .ok (.iconst 0, 1) := by decide +kernel
theorem dX6_lineNow_72 : decode cX6_lineNow 72 = .ok (.iconst 0, 1) := by decide +kernel
theorem dX6_lineNow_73 : decode cX6_lineNow 73 = .ok (.invokevirtual 98, 3) := by decide +kernel
theorem dX6_lineNow_76 : decode cX6_lineNow 76 = .ok (.ifCond .eq 8, 3) := by decide +kernel
theorem dX6_lineNow_79 : decode cX6_lineNow 79 = .ok (.bipush 6, 2) := by decide +kernel
theorem dX6_lineNow_81 : decode cX6_lineNow 81 = .ok (.goto 7, 3) := by decide +kernel
theorem dX6_lineNow_84 : decode cX6_lineNow 84 = .ok (.aload_n 0, 1) := by decide +kernel
theorem dX6_lineNow_85 : decode cX6_lineNow 85 = .ok (.invokevirtual 102, 3) := by decide +kernel
theorem dX6_lineNow_88 : decode cX6_lineNow 88 = .ok (.ireturn, 1) := by decide +kernel
set_option maxRecDepth 20000 in
theorem ggX6_takes_X6_byteAt : GoodIn wsX6_takes wsX6_byteAt := goodIn_r _ [14, 15, 16, 25, 26, 27, 28, 29, 30, 31, 32, 33, 34, 35, 36, 37, 38, 39, 40, 41, 42, 43, 44, 45, 46, 47, 48, 49, 50, 51, 52, 53, 54, 55] (by decide +kernel) (by decide +kernel)
set_option maxRecDepth 20000 in
theorem gX6_takes_X6_byteAt : GoodIn wsX6_takes (wsV RX6 90 RX6 yX6_byteAt wsX6_byteAt) := goodIn_app (goodIn_of _ (by decide +kernel)) ggX6_takes_X6_byteAt
set_option maxRecDepth 20000 in
theorem ggX6_takes_X6_in : GoodIn wsX6_takes wsX6_in := goodIn_r _ [19] (by decide +kernel) (by decide +kernel)
set_option maxRecDepth 20000 in
theorem gX6_takes_X6_in : GoodIn wsX6_takes (va_wsS RX6 71 yX6_in wsX6_in) := goodIn_app (goodIn_of _ (by decide +kernel)) ggX6_takes_X6_in
set_option maxRecDepth 20000 in
theorem ggX6_takes_X6_needs : GoodIn wsX6_takes wsX6_needs := goodIn_r _ [23, 1, 3, 24, 25, 26, 27, 28, 29, 30, 31, 32, 33, 34, 35, 36, 37, 38, 39, 40, 41, 42, 43, 44, 45, 46, 47, 48, 49, 50, 51, 52, 53, 54, 55] (by decide +kernel) (by decide +kernel)
set_option maxRecDepth 20000 in
theorem gX6_takes_X6_needs : GoodIn wsX6_takes (wsV RX6 120 RX6 yX6_needs wsX6_needs) := goodIn_app (goodIn_of _ (by decide +kernel)) ggX6_takes_X6_needs
theorem dX6_takes_0 : decode cX6_takes 0 = .ok (.aload_n 0, 1) := by decide +kernel
theorem dX6_takes_1 : decode cX6_takes 1 = .ok (.getfield 78, 3) := by decide +kernel
theorem dX6_takes_4 : decode cX6_takes 4 = .ok (.ifCond .le 4, 3) := by decide +kernel
theorem dX6_takes_7 : decode cX6_takes 7 = .ok (.return_, 1) := by decide +kernel
theorem dX6_takes_8 : decode cX6_takes 8 = .ok (.aload_n 0, 1) := by decide +kernel
theorem dX6_takes_9 : decode cX6_takes 9 = .ok (.aload_n 0, 1) := by decide +kernel
theorem dX6_takes_10 : decode cX6_takes 10 = .ok (.getfield 87, 3) := by decide +kernel
theorem dX6_takes_13 : decode cX6_takes 13 = .ok (.invokevirtual 90, 3) := by decide +kernel
theorem dX6_takes_16 : decode cX6_takes 16 = .ok (.bipush 32, 2) := by decide +kernel
theorem dX6_takes_18 : decode cX6_takes 18 = .ok (.if_icmp .ne 16, 3) := by decide +kernel
theorem dX6_takes_21 : decode cX6_takes 21 = .ok (.aload_n 0, 1) := by decide +kernel
theorem dX6_takes_22 : decode cX6_takes 22 = .ok (.dup, 1) := by decide +kernel
theorem dX6_takes_23 : decode cX6_takes 23 = .ok (.getfield 87, 3) := by decide +kernel
theorem dX6_takes_26 : decode cX6_takes 26 = .ok (.iconst 1, 1) := by decide +kernel
theorem dX6_takes_27 : decode cX6_takes 27 = .ok (.iadd, 1) := by decide +kernel
theorem dX6_takes_28 : decode cX6_takes 28 = .ok (.putfield 87, 3) := by decide +kernel
theorem dX6_takes_31 : decode cX6_takes 31 = .ok (.goto (-23), 3) := by decide +kernel
theorem dX6_takes_34 : decode cX6_takes 34 = .ok (.aload_n 0, 1) := by decide +kernel
theorem dX6_takes_35 : decode cX6_takes 35 = .ok (.aload_n 0, 1) := by decide +kernel
theorem dX6_takes_36 : decode cX6_takes 36 = .ok (.getfield 87, 3) := by decide +kernel
theorem dX6_takes_39 : decode cX6_takes 39 = .ok (.putfield 81, 3) := by decide +kernel
theorem dX6_takes_42 : decode cX6_takes 42 = .ok (.aload_n 0, 1) := by decide +kernel
theorem dX6_takes_43 : decode cX6_takes 43 = .ok (.aload_n 0, 1) := by decide +kernel
theorem dX6_takes_44 : decode cX6_takes 44 = .ok (.getfield 87, 3) := by decide +kernel
theorem dX6_takes_47 : decode cX6_takes 47 = .ok (.invokevirtual 90, 3) := by decide +kernel
theorem dX6_takes_50 : decode cX6_takes 50 = .ok (.istore_n 1, 1) := by decide +kernel
theorem dX6_takes_51 : decode cX6_takes 51 = .ok (.iload_n 1, 1) := by decide +kernel
theorem dX6_takes_52 : decode cX6_takes 52 = .ok (.ifCond .ge 11, 3) := by decide +kernel
theorem dX6_takes_55 : decode cX6_takes 55 = .ok (.aload_n 0, 1) := by decide +kernel
theorem dX6_takes_56 : decode cX6_takes 56 = .ok (.iconst 0, 1) := by decide +kernel
theorem dX6_takes_57 : decode cX6_takes 57 = .ok (.putfield 106, 3) := by decide +kernel
theorem dX6_takes_60 : decode cX6_takes 60 = .ok (.goto 214, 3) := by decide +kernel
theorem dX6_takes_63 : decode cX6_takes 63 = .ok (.iload_n 1, 1) := by decide +kernel
theorem dX6_takes_64 : decode cX6_takes 64 = .ok (.i2l, 1) := by decide +kernel
theorem dX6_takes_65 : decode cX6_takes 65 = .ok (.ldc2_w 109, 3) := by decide +kernel
theorem dX6_takes_68 : decode cX6_takes 68 = .ok (.ldc2_w 111, 3) := by decide +kernel
theorem dX6_takes_71 : decode cX6_takes 71 = .ok (.invokestatic 71, 3) := by decide +kernel
theorem dX6_takes_74 : decode cX6_takes 74 = .ok (.ifCond .eq 42, 3) := by decide +kernel
theorem dX6_takes_77 : decode cX6_takes 77 = .ok (.aload_n 0, 1) := by decide +kernel
theorem dX6_takes_78 : decode cX6_takes 78 = .ok (.iconst 1, 1) := by decide +kernel
theorem dX6_takes_79 : decode cX6_takes 79 = .ok (.putfield 106, 3) := by decide +kernel
theorem dX6_takes_82 : decode cX6_takes 82 = .ok (.aload_n 0, 1) := by decide +kernel
theorem dX6_takes_83 : decode cX6_takes 83 = .ok (.aload_n 0, 1) := by decide +kernel
theorem dX6_takes_84 : decode cX6_takes 84 = .ok (.getfield 87, 3) := by decide +kernel
theorem dX6_takes_87 : decode cX6_takes 87 = .ok (.invokevirtual 90, 3) := by decide +kernel
theorem dX6_takes_90 : decode cX6_takes 90 = .ok (.i2l, 1) := by decide +kernel
theorem dX6_takes_91 : decode cX6_takes 91 = .ok (.ldc2_w 109, 3) := by decide +kernel
theorem dX6_takes_94 : decode cX6_takes 94 = .ok (.ldc2_w 111, 3) := by decide +kernel
theorem dX6_takes_97 : decode cX6_takes 97 = .ok (.invokestatic 71, 3) := by decide +kernel
theorem dX6_takes_100 : decode cX6_takes 100 = .ok (.ifCond .eq 174, 3) := by decide +kernel
theorem dX6_takes_103 : decode cX6_takes 103 = .ok (.aload_n 0, 1) := by decide +kernel
theorem dX6_takes_104 : decode cX6_takes 104 = .ok (.dup, 1) := by decide +kernel
theorem dX6_takes_105 : decode cX6_takes 105 = .ok (.getfield 87, 3) := by decide +kernel
theorem dX6_takes_108 : decode cX6_takes 108 = .ok (.iconst 1, 1) := by decide +kernel
theorem dX6_takes_109 : decode cX6_takes 109 = .ok (.iadd, 1) := by decide +kernel
theorem dX6_takes_110 : decode cX6_takes 110 = .ok (.putfield 87, 3) := by decide +kernel
theorem dX6_takes_113 : decode cX6_takes 113 = .ok (.goto (-31), 3) := by decide +kernel
theorem dX6_takes_116 : decode cX6_takes 116 = .ok (.iload_n 1, 1) := by decide +kernel
theorem dX6_takes_117 : decode cX6_takes 117 = .ok (.i2l, 1) := by decide +kernel
theorem dX6_takes_118 : decode cX6_takes 118 = .ok (.ldc2_w 113, 3) := by decide +kernel
theorem dX6_takes_121 : decode cX6_takes 121 = .ok (.ldc2_w 115, 3) := by decide +kernel
theorem dX6_takes_124 : decode cX6_takes 124 = .ok (.invokestatic 71, 3) := by decide +kernel
theorem dX6_takes_127 : decode cX6_takes 127 = .ok (.ifCond .eq 116, 3) := by decide +kernel
theorem dX6_takes_130 : decode cX6_takes 130 = .ok (.aload_n 0, 1) := by decide +kernel
theorem dX6_takes_131 : decode cX6_takes 131 = .ok (.iconst 2, 1) := by decide +kernel
theorem dX6_takes_132 : decode cX6_takes 132 = .ok (.putfield 106, 3) := by decide +kernel
theorem dX6_takes_135 : decode cX6_takes 135 = .ok (.aload_n 0, 1) := by decide +kernel
theorem dX6_takes_136 : decode cX6_takes 136 = .ok (.iconst 0, 1) := by decide +kernel
theorem dX6_takes_137 : decode cX6_takes 137 = .ok (.putfield 117, 3) := by decide +kernel
theorem dX6_takes_140 : decode cX6_takes 140 = .ok (.aload_n 0, 1) := by decide +kernel
theorem dX6_takes_141 : decode cX6_takes 141 = .ok (.aload_n 0, 1) := by decide +kernel
theorem dX6_takes_142 : decode cX6_takes 142 = .ok (.getfield 87, 3) := by decide +kernel
theorem dX6_takes_145 : decode cX6_takes 145 = .ok (.invokevirtual 90, 3) := by decide +kernel
theorem dX6_takes_148 : decode cX6_takes 148 = .ok (.i2l, 1) := by decide +kernel
theorem dX6_takes_149 : decode cX6_takes 149 = .ok (.ldc2_w 113, 3) := by decide +kernel
theorem dX6_takes_152 : decode cX6_takes 152 = .ok (.ldc2_w 115, 3) := by decide +kernel
theorem dX6_takes_155 : decode cX6_takes 155 = .ok (.invokestatic 71, 3) := by decide +kernel
theorem dX6_takes_158 : decode cX6_takes 158 = .ok (.ifCond .eq 59, 3) := by decide +kernel
theorem dX6_takes_161 : decode cX6_takes 161 = .ok (.aload_n 0, 1) := by decide +kernel
theorem dX6_takes_162 : decode cX6_takes 162 = .ok (.aload_n 0, 1) := by decide +kernel
theorem dX6_takes_163 : decode cX6_takes 163 = .ok (.getfield 87, 3) := by decide +kernel
theorem dX6_takes_166 : decode cX6_takes 166 = .ok (.aload_n 0, 1) := by decide +kernel
theorem dX6_takes_167 : decode cX6_takes 167 = .ok (.getfield 81, 3) := by decide +kernel
theorem dX6_takes_170 : decode cX6_takes 170 = .ok (.isub, 1) := by decide +kernel
theorem dX6_takes_171 : decode cX6_takes 171 = .ok (.iconst 2, 1) := by decide +kernel
theorem dX6_takes_172 : decode cX6_takes 172 = .ok (.if_icmp .ge 25, 3) := by decide +kernel
theorem dX6_takes_175 : decode cX6_takes 175 = .ok (.bipush 10, 2) := by decide +kernel
theorem dX6_takes_177 : decode cX6_takes 177 = .ok (.aload_n 0, 1) := by decide +kernel
theorem dX6_takes_178 : decode cX6_takes 178 = .ok (.getfield 117, 3) := by decide +kernel
theorem dX6_takes_181 : decode cX6_takes 181 = .ok (.imul, 1) := by decide +kernel
theorem dX6_takes_182 : decode cX6_takes 182 = .ok (.aload_n 0, 1) := by decide +kernel
theorem dX6_takes_183 : decode cX6_takes 183 = .ok (.aload_n 0, 1) := by decide +kernel
theorem dX6_takes_184 : decode cX6_takes 184 = .ok (.getfield 87, 3) := by decide +kernel
theorem dX6_takes_187 : decode cX6_takes 187 = .ok (.invokevirtual 90, 3) := by decide +kernel
theorem dX6_takes_190 : decode cX6_takes 190 = .ok (.iadd, 1) := by decide +kernel
theorem dX6_takes_191 : decode cX6_takes 191 = .ok (.bipush 48, 2) := by decide +kernel
theorem dX6_takes_193 : decode cX6_takes 193 = .ok (.isub, 1) := by decide +kernel
theorem dX6_takes_194 : decode cX6_takes 194 = .ok (.goto 7, 3) := by decide +kernel
theorem dX6_takes_197 : decode cX6_takes 197 = .ok (.aload_n 0, 1) := by decide +kernel
theorem dX6_takes_198 : decode cX6_takes 198 = .ok (.getfield 117, 3) := by decide +kernel
theorem dX6_takes_201 : decode cX6_takes 201 = .ok (.putfield 117, 3) := by decide +kernel
theorem dX6_takes_204 : decode cX6_takes 204 = .ok (.aload_n 0, 1) := by decide +kernel
theorem dX6_takes_205 : decode cX6_takes 205 = .ok (.dup, 1) := by decide +kernel
theorem dX6_takes_206 : decode cX6_takes 206 = .ok (.getfield 87, 3) := by decide +kernel
theorem dX6_takes_209 : decode cX6_takes 209 = .ok (.iconst 1, 1) := by decide +kernel
theorem dX6_takes_210 : decode cX6_takes 210 = .ok (.iadd, 1) := by decide +kernel
theorem dX6_takes_211 : decode cX6_takes 211 = .ok (.putfield 87, 3) := by decide +kernel
theorem dX6_takes_214 : decode cX6_takes 214 = .ok (.goto (-74), 3) := by decide +kernel
theorem dX6_takes_217 : decode cX6_takes 217 = .ok (.aload_n 0, 1) := by decide +kernel
theorem dX6_takes_218 : decode cX6_takes 218 = .ok (.aload_n 0, 1) := by decide +kernel
theorem dX6_takes_219 : decode cX6_takes 219 = .ok (.getfield 87, 3) := by decide +kernel
theorem dX6_takes_222 : decode cX6_takes 222 = .ok (.aload_n 0, 1) := by decide +kernel
theorem dX6_takes_223 : decode cX6_takes 223 = .ok (.getfield 81, 3) := by decide +kernel
theorem dX6_takes_226 : decode cX6_takes 226 = .ok (.isub, 1) := by decide +kernel
theorem dX6_takes_227 : decode cX6_takes 227 = .ok (.iconst 2, 1) := by decide +kernel
theorem dX6_takes_228 : decode cX6_takes 228 = .ok (.if_icmp .gt 7, 3) := by decide +kernel
theorem dX6_takes_231 : decode cX6_takes 231 = .ok (.iconst 1, 1) := by decide +kernel
theorem dX6_takes_232 : decode cX6_takes 232 = .ok (.goto 4, 3) := by decide +kernel
theorem dX6_takes_235 : decode cX6_takes 235 = .ok (.iconst 0, 1) := by decide +kernel
theorem dX6_takes_236 : decode cX6_takes 236 = .ok (.iconst 1, 1) := by decide +kernel
theorem dX6_takes_237 : decode cX6_takes 237 = .ok (.invokevirtual 120, 3) := by decide +kernel
theorem dX6_takes_240 : decode cX6_takes 240 = .ok (.goto 34, 3) := by decide +kernel
theorem dX6_takes_243 : decode cX6_takes 243 = .ok (.aload_n 0, 1) := by decide +kernel
theorem dX6_takes_244 : decode cX6_takes 244 = .ok (.iconst 3, 1) := by decide +kernel
theorem dX6_takes_245 : decode cX6_takes 245 = .ok (.putfield 106, 3) := by decide +kernel
theorem dX6_takes_248 : decode cX6_takes 248 = .ok (.aload_n 0, 1) := by decide +kernel
theorem dX6_takes_249 : decode cX6_takes 249 = .ok (.iload_n 1, 1) := by decide +kernel
theorem dX6_takes_250 : decode cX6_takes 250 = .ok (.bipush 59, 2) := by decide +kernel
theorem dX6_takes_252 : decode cX6_takes 252 = .ok (.if_icmp .ne 7, 3) := by decide +kernel
theorem dX6_takes_255 : decode cX6_takes 255 = .ok (.iconst 1, 1) := by decide +kernel
theorem dX6_takes_256 : decode cX6_takes 256 = .ok (.goto 4, 3) := by decide +kernel
theorem dX6_takes_259 : decode cX6_takes 259 = .ok (.iconst 0, 1) := by decide +kernel
theorem dX6_takes_260 : decode cX6_takes 260 = .ok (.iconst 1, 1) := by decide +kernel
theorem dX6_takes_261 : decode cX6_takes 261 = .ok (.invokevirtual 120, 3) := by decide +kernel
theorem dX6_takes_264 : decode cX6_takes 264 = .ok (.aload_n 0, 1) := by decide +kernel
theorem dX6_takes_265 : decode cX6_takes 265 = .ok (.dup, 1) := by decide +kernel
theorem dX6_takes_266 : decode cX6_takes 266 = .ok (.getfield 87, 3) := by decide +kernel
theorem dX6_takes_269 : decode cX6_takes 269 = .ok (.iconst 1, 1) := by decide +kernel
theorem dX6_takes_270 : decode cX6_takes 270 = .ok (.iadd, 1) := by decide +kernel
theorem dX6_takes_271 : decode cX6_takes 271 = .ok (.putfield 87, 3) := by decide +kernel
theorem dX6_takes_274 : decode cX6_takes 274 = .ok (.return_, 1) := by decide +kernel
set_option maxRecDepth 20000 in
theorem ggX6_looked_X6_needs : GoodIn wsX6_looked wsX6_needs := goodIn_r _ [8, 1, 9, 10, 14, 15, 16, 17, 18, 19, 20, 21, 22, 23, 24, 25, 26, 27, 28, 29, 30, 31, 32, 33, 34, 35, 36, 37, 38, 39, 40, 41, 42, 43, 44] (by decide +kernel) (by decide +kernel)
set_option maxRecDepth 20000 in
theorem gX6_looked_X6_needs : GoodIn wsX6_looked (wsV RX6 120 RX6 yX6_needs wsX6_needs) := goodIn_app (goodIn_of _ (by decide +kernel)) ggX6_looked_X6_needs
set_option maxRecDepth 20000 in
theorem ggX6_looked_X6_in : GoodIn wsX6_looked wsX6_in := goodIn_r _ [13] (by decide +kernel) (by decide +kernel)
set_option maxRecDepth 20000 in
theorem gX6_looked_X6_in : GoodIn wsX6_looked (va_wsS RX6 71 yX6_in wsX6_in) := goodIn_app (goodIn_of _ (by decide +kernel)) ggX6_looked_X6_in
theorem dX6_looked_0 : decode cX6_looked 0 = .ok (.aload_n 0, 1) := by decide +kernel
theorem dX6_looked_1 : decode cX6_looked 1 = .ok (.getfield 78, 3) := by decide +kernel
theorem dX6_looked_4 : decode cX6_looked 4 = .ok (.ifCond .ne 21, 3) := by decide +kernel
theorem dX6_looked_7 : decode cX6_looked 7 = .ok (.aload_n 0, 1) := by decide +kernel
theorem dX6_looked_8 : decode cX6_looked 8 = .ok (.aload_n 0, 1) := by decide +kernel
theorem dX6_looked_9 : decode cX6_looked 9 = .ok (.getfield 106, 3) := by decide +kernel
theorem dX6_looked_12 : decode cX6_looked 12 = .ok (.iconst 2, 1) := by decide +kernel
theorem dX6_looked_13 : decode cX6_looked 13 = .ok (.if_icmp .ne 7, 3) := by decide +kernel
theorem dX6_looked_16 : decode cX6_looked 16 = .ok (.iconst 1, 1) := by decide +kernel
theorem dX6_looked_17 : decode cX6_looked 17 = .ok (.goto 4, 3) := by decide +kernel
theorem dX6_looked_20 : decode cX6_looked 20 = .ok (.iconst 0, 1) := by decide +kernel
theorem dX6_looked_21 : decode cX6_looked 21 = .ok (.iconst 2, 1) := by decide +kernel
theorem dX6_looked_22 : decode cX6_looked 22 = .ok (.invokevirtual 120, 3) := by decide +kernel
theorem dX6_looked_25 : decode cX6_looked 25 = .ok (.aload_n 0, 1) := by decide +kernel
theorem dX6_looked_26 : decode cX6_looked 26 = .ok (.getfield 78, 3) := by decide +kernel
theorem dX6_looked_29 : decode cX6_looked 29 = .ok (.ifCond .ne 20, 3) := by decide +kernel
theorem dX6_looked_32 : decode cX6_looked 32 = .ok (.aload_n 0, 1) := by decide +kernel
theorem dX6_looked_33 : decode cX6_looked 33 = .ok (.aload_n 0, 1) := by decide +kernel
theorem dX6_looked_34 : decode cX6_looked 34 = .ok (.getfield 117, 3) := by decide +kernel
theorem dX6_looked_37 : decode cX6_looked 37 = .ok (.i2l, 1) := by decide +kernel
theorem dX6_looked_38 : decode cX6_looked 38 = .ok (.iload_n 1, 1) := by decide +kernel
theorem dX6_looked_39 : decode cX6_looked 39 = .ok (.i2l, 1) := by decide +kernel
theorem dX6_looked_40 : decode cX6_looked 40 = .ok (.iload_n 2, 1) := by decide +kernel
theorem dX6_looked_41 : decode cX6_looked 41 = .ok (.i2l, 1) := by decide +kernel
theorem dX6_looked_42 : decode cX6_looked 42 = .ok (.invokestatic 71, 3) := by decide +kernel
theorem dX6_looked_45 : decode cX6_looked 45 = .ok (.iconst 3, 1) := by decide +kernel
theorem dX6_looked_46 : decode cX6_looked 46 = .ok (.invokevirtual 120, 3) := by decide +kernel
theorem dX6_looked_49 : decode cX6_looked 49 = .ok (.aload_n 0, 1) := by decide +kernel
theorem dX6_looked_50 : decode cX6_looked 50 = .ok (.getfield 78, 3) := by decide +kernel
theorem dX6_looked_53 : decode cX6_looked 53 = .ok (.ifCond .ne 10, 3) := by decide +kernel
theorem dX6_looked_56 : decode cX6_looked 56 = .ok (.aload_n 0, 1) := by decide +kernel
theorem dX6_looked_57 : decode cX6_looked 57 = .ok (.getfield 117, 3) := by decide +kernel
theorem dX6_looked_60 : decode cX6_looked 60 = .ok (.goto 4, 3) := by decide +kernel
theorem dX6_looked_63 : decode cX6_looked 63 = .ok (.iconst 0, 1) := by decide +kernel
theorem dX6_looked_64 : decode cX6_looked 64 = .ok (.ireturn, 1) := by decide +kernel
set_option maxRecDepth 20000 in
theorem ggX6_readNumber_X6_looked : GoodIn wsX6_readNumber wsX6_looked := goodIn_r _ [5, 6, 7, 8, 9, 10, 11, 4, 12, 13, 14, 15, 16, 17, 33, 34, 35, 36, 37, 38, 39, 40, 41, 42, 43, 44, 45, 46, 47, 48, 49, 50, 51, 52, 53, 54, 55, 56, 57, 58, 59, 60, 61, 62, 63] (by decide +kernel) (by decide +kernel)
set_option maxRecDepth 20000 in
theorem gX6_readNumber_X6_looked : GoodIn wsX6_readNumber (wsV RX6 124 RX6 yX6_looked wsX6_looked) := goodIn_app (goodIn_of _ (by decide +kernel)) ggX6_readNumber_X6_looked
set_option maxRecDepth 20000 in
theorem ggX6_readNumber_X6_takes : GoodIn wsX6_readNumber wsX6_takes := goodIn_r _ [21, 6, 22, 13, 7, 23, 24, 25, 26, 8, 27, 28, 29, 4, 30, 31, 32, 15, 16, 17, 9, 10, 11, 12, 14, 33, 34, 35, 36, 37, 38, 39, 40, 41, 42, 43, 44, 45, 46, 47, 48, 49, 50, 51, 52, 53, 54, 55, 56, 57, 58, 59, 60, 61, 62, 63] (by decide +kernel) (by decide +kernel)
set_option maxRecDepth 20000 in
theorem gX6_readNumber_X6_takes : GoodIn wsX6_readNumber (wsV RX6 128 RX6 yX6_takes wsX6_takes) := goodIn_app (goodIn_of _ (by decide +kernel)) ggX6_readNumber_X6_takes
theorem dX6_readNumber_0 : decode cX6_readNumber 0 = .ok (.aload_n 0, 1) := by decide +kernel
theorem dX6_readNumber_1 : decode cX6_readNumber 1 = .ok (.iload_n 1, 1) := by decide +kernel
theorem dX6_readNumber_2 : decode cX6_readNumber 2 = .ok (.iload_n 2, 1) := by decide +kernel
theorem dX6_readNumber_3 : decode cX6_readNumber 3 = .ok (.invokevirtual 124, 3) := by decide +kernel
theorem dX6_readNumber_6 : decode cX6_readNumber 6 = .ok (.istore_n 3, 1) := by decide +kernel
theorem dX6_readNumber_7 : decode cX6_readNumber 7 = .ok (.aload_n 0, 1) := by decide +kernel
theorem dX6_readNumber_8 : decode cX6_readNumber 8 = .ok (.invokevirtual 128, 3) := by decide +kernel
theorem dX6_readNumber_11 : decode cX6_readNumber 11 = .ok (.iload_n 3, 1) := by decide +kernel
theorem dX6_readNumber_12 : decode cX6_readNumber 12 = .ok (.ireturn, 1) := by decide +kernel
set_option maxRecDepth 20000 in
theorem ggX6_readTheLine_X6_looked : GoodIn wsX6_readTheLine wsX6_looked := goodIn_r _ [11, 1, 2, 12, 13, 14, 15, 10, 16, 17, 18, 19, 20, 21, 37, 38, 39, 40, 41, 42, 43, 44, 45, 46, 47, 48, 49, 50, 51, 52, 53, 54, 55, 56, 57, 58, 59, 60, 61, 62, 63, 64, 65, 66, 67] (by decide +kernel) (by decide +kernel)
set_option maxRecDepth 20000 in
theorem gX6_readTheLine_X6_looked : GoodIn wsX6_readTheLine (wsV RX6 124 RX6 yX6_looked wsX6_looked) := goodIn_app (goodIn_of _ (by decide +kernel)) ggX6_readTheLine_X6_looked
set_option maxRecDepth 20000 in
theorem ggX6_readTheLine_X6_needs : GoodIn wsX6_readTheLine wsX6_needs := goodIn_r _ [16, 1, 17, 18, 37, 38, 39, 40, 41, 42, 43, 44, 45, 46, 47, 48, 49, 50, 51, 52, 53, 54, 55, 56, 57, 58, 59, 60, 61, 62, 63, 64, 65, 66, 67] (by decide +kernel) (by decide +kernel)
set_option maxRecDepth 20000 in
theorem gX6_readTheLine_X6_needs : GoodIn wsX6_readTheLine (wsV RX6 120 RX6 yX6_needs wsX6_needs) := goodIn_app (goodIn_of _ (by decide +kernel)) ggX6_readTheLine_X6_needs
set_option maxRecDepth 20000 in
theorem ggX6_readTheLine_X6_takes : GoodIn wsX6_readTheLine wsX6_takes := goodIn_r _ [25, 1, 26, 17, 2, 27, 28, 29, 30, 12, 31, 32, 33, 10, 34, 35, 36, 19, 20, 21, 13, 14, 15, 16, 18, 37, 38, 39, 40, 41, 42, 43, 44, 45, 46, 47, 48, 49, 50, 51, 52, 53, 54, 55, 56, 57, 58, 59, 60, 61, 62, 63, 64, 65, 66, 67] (by decide +kernel) (by decide +kernel)
set_option maxRecDepth 20000 in
theorem gX6_readTheLine_X6_takes : GoodIn wsX6_readTheLine (wsV RX6 128 RX6 yX6_takes wsX6_takes) := goodIn_app (goodIn_of _ (by decide +kernel)) ggX6_readTheLine_X6_takes
theorem dX6_readTheLine_0 : decode cX6_readTheLine 0 = .ok (.aload_n 0, 1) := by decide +kernel
theorem dX6_readTheLine_1 : decode cX6_readTheLine 1 = .ok (.getfield 78, 3) := by decide +kernel
theorem dX6_readTheLine_4 : decode cX6_readTheLine 4 = .ok (.ifCond .ne 105, 3) := by decide +kernel
theorem dX6_readTheLine_7 : decode cX6_readTheLine 7 = .ok (.aload_n 0, 1) := by decide +kernel
theorem dX6_readTheLine_8 : decode cX6_readTheLine 8 = .ok (.getfield 106, 3) := by decide +kernel
theorem dX6_readTheLine_11 : decode cX6_readTheLine 11 = .ok (.iconst 2, 1) := by decide +kernel
theorem dX6_readTheLine_12 : decode cX6_readTheLine 12 = .ok (.if_icmp .ne 97, 3) := by decide +kernel
theorem dX6_readTheLine_15 : decode cX6_readTheLine 15 = .ok (.aload_n 0, 1) := by decide +kernel
theorem dX6_readTheLine_16 : decode cX6_readTheLine 16 = .ok (.iconst 0, 1) := by decide +kernel
theorem dX6_readTheLine_17 : decode cX6_readTheLine 17 = .ok (.iconst 5, 1) := by decide +kernel
theorem dX6_readTheLine_18 : decode cX6_readTheLine 18 = .ok (.invokevirtual 124, 3) := by decide +kernel
theorem dX6_readTheLine_21 : decode cX6_readTheLine 21 = .ok (.istore_n 1, 1) := by decide +kernel
theorem dX6_readTheLine_22 : decode cX6_readTheLine 22 = .ok (.aload_n 0, 1) := by decide +kernel
theorem dX6_readTheLine_23 : decode cX6_readTheLine 23 = .ok (.aload_n 0, 1) := by decide +kernel
theorem dX6_readTheLine_24 : decode cX6_readTheLine 24 = .ok (.getfield 60, 3) := by decide +kernel
theorem dX6_readTheLine_27 : decode cX6_readTheLine 27 = .ok (.iload_n 1, 1) := by decide +kernel
theorem dX6_readTheLine_28 : decode cX6_readTheLine 28 = .ok (.ishr, 1) := by decide +kernel
theorem dX6_readTheLine_29 : decode cX6_readTheLine 29 = .ok (.iconst 1, 1) := by decide +kernel
theorem dX6_readTheLine_30 : decode cX6_readTheLine 30 = .ok (.iand, 1) := by decide +kernel
theorem dX6_readTheLine_31 : decode cX6_readTheLine 31 = .ok (.ifCond .ne 7, 3) := by decide +kernel
theorem dX6_readTheLine_34 : decode cX6_readTheLine 34 = .ok (.iconst 1, 1) := by decide +kernel
theorem dX6_readTheLine_35 : decode cX6_readTheLine 35 = .ok (.goto 4, 3) := by decide +kernel
theorem dX6_readTheLine_38 : decode cX6_readTheLine 38 = .ok (.iconst 0, 1) := by decide +kernel
theorem dX6_readTheLine_39 : decode cX6_readTheLine 39 = .ok (.iconst 4, 1) := by decide +kernel
theorem dX6_readTheLine_40 : decode cX6_readTheLine 40 = .ok (.invokevirtual 120, 3) := by decide +kernel
theorem dX6_readTheLine_43 : decode cX6_readTheLine 43 = .ok (.aload_n 0, 1) := by decide +kernel
theorem dX6_readTheLine_44 : decode cX6_readTheLine 44 = .ok (.getfield 78, 3) := by decide +kernel
theorem dX6_readTheLine_47 : decode cX6_readTheLine 47 = .ok (.ifCond .ne 55, 3) := by decide +kernel
theorem dX6_readTheLine_50 : decode cX6_readTheLine 50 = .ok (.aload_n 0, 1) := by decide +kernel
theorem dX6_readTheLine_51 : decode cX6_readTheLine 51 = .ok (.dup, 1) := by decide +kernel
theorem dX6_readTheLine_52 : decode cX6_readTheLine 52 = .ok (.getfield 60, 3) := by decide +kernel
theorem dX6_readTheLine_55 : decode cX6_readTheLine 55 = .ok (.iconst 1, 1) := by decide +kernel
theorem dX6_readTheLine_56 : decode cX6_readTheLine 56 = .ok (.iload_n 1, 1) := by decide +kernel
theorem dX6_readTheLine_57 : decode cX6_readTheLine 57 = .ok (.ishl, 1) := by decide +kernel
theorem dX6_readTheLine_58 : decode cX6_readTheLine 58 = .ok (.ior, 1) := by decide +kernel
theorem dX6_readTheLine_59 : decode cX6_readTheLine 59 = .ok (.putfield 60, 3) := by decide +kernel
theorem dX6_readTheLine_62 : decode cX6_readTheLine 62 = .ok (.aload_n 0, 1) := by decide +kernel
theorem dX6_readTheLine_63 : decode cX6_readTheLine 63 = .ok (.getfield 23, 3) := by decide +kernel
theorem dX6_readTheLine_66 : decode cX6_readTheLine 66 = .ok (.aload_n 0, 1) := by decide +kernel
theorem dX6_readTheLine_67 : decode cX6_readTheLine 67 = .ok (.getfield 63, 3) := by decide +kernel
theorem dX6_readTheLine_70 : decode cX6_readTheLine 70 = .ok (.iload_n 1, 1) := by decide +kernel
theorem dX6_readTheLine_71 : decode cX6_readTheLine 71 = .ok (.iastore, 1) := by decide +kernel
theorem dX6_readTheLine_72 : decode cX6_readTheLine 72 = .ok (.aload_n 0, 1) := by decide +kernel
theorem dX6_readTheLine_73 : decode cX6_readTheLine 73 = .ok (.dup, 1) := by decide +kernel
theorem dX6_readTheLine_74 : decode cX6_readTheLine 74 = .ok (.getfield 63, 3) := by decide +kernel
theorem dX6_readTheLine_77 : decode cX6_readTheLine 77 = .ok (.iconst 1, 1) := by decide +kernel
theorem dX6_readTheLine_78 : decode cX6_readTheLine 78 = .ok (.iadd, 1) := by decide +kernel
theorem dX6_readTheLine_79 : decode cX6_readTheLine 79 = .ok (.putfield 63, 3) := by decide +kernel
theorem dX6_readTheLine_82 : decode cX6_readTheLine 82 = .ok (.aload_n 0, 1) := by decide +kernel
theorem dX6_readTheLine_83 : decode cX6_readTheLine 83 = .ok (.iload_n 1, 1) := by decide +kernel
theorem dX6_readTheLine_84 : decode cX6_readTheLine 84 = .ok (.aload_n 0, 1) := by decide +kernel
theorem dX6_readTheLine_85 : decode cX6_readTheLine 85 = .ok (.getfield 66, 3) := by decide +kernel
theorem dX6_readTheLine_88 : decode cX6_readTheLine 88 = .ok (.if_icmp .le 7, 3) := by decide +kernel
theorem dX6_readTheLine_91 : decode cX6_readTheLine 91 = .ok (.iload_n 1, 1) := by decide +kernel
theorem dX6_readTheLine_92 : decode cX6_readTheLine 92 = .ok (.goto 7, 3) := by decide +kernel
theorem dX6_readTheLine_95 : decode cX6_readTheLine 95 = .ok (.aload_n 0, 1) := by decide +kernel
theorem dX6_readTheLine_96 : decode cX6_readTheLine 96 = .ok (.getfield 66, 3) := by decide +kernel
theorem dX6_readTheLine_99 : decode cX6_readTheLine 99 = .ok (.putfield 66, 3) := by decide +kernel
theorem dX6_readTheLine_102 : decode cX6_readTheLine 102 = .ok (.aload_n 0, 1) := by decide +kernel
theorem dX6_readTheLine_103 : decode cX6_readTheLine 103 = .ok (.invokevirtual 128, 3) := by decide +kernel
theorem dX6_readTheLine_106 : decode cX6_readTheLine 106 = .ok (.goto (-106), 3) := by decide +kernel
theorem dX6_readTheLine_109 : decode cX6_readTheLine 109 = .ok (.return_, 1) := by decide +kernel
set_option maxRecDepth 20000 in
theorem ggX6_readLineOf_X6_readTheLine : GoodIn wsX6_readLineOf wsX6_readTheLine := goodIn_r _ [6, 7, 8, 9, 10, 11, 12, 13, 14, 15, 5, 16, 17, 18, 19, 20, 21, 22, 23, 24, 25, 26, 27, 28, 29, 30, 31, 32, 33, 34, 35, 36, 37, 38, 39, 40, 41, 46, 47, 48, 49, 50, 51, 52, 53, 54, 55, 56, 57, 58, 59, 60, 61, 62, 63, 64, 65, 66, 67, 68, 69, 70, 71, 72, 73, 74, 75, 76] (by decide +kernel) (by decide +kernel)
set_option maxRecDepth 20000 in
theorem gX6_readLineOf_X6_readTheLine : GoodIn wsX6_readLineOf (wsV RX6 131 RX6 yX6_readTheLine wsX6_readTheLine) := goodIn_app (goodIn_of _ (by decide +kernel)) ggX6_readLineOf_X6_readTheLine
set_option maxRecDepth 20000 in
theorem ggX6_readLineOf_X6_readNumber : GoodIn wsX6_readLineOf wsX6_readNumber := goodIn_r _ [45, 13, 14, 15, 5, 16, 7, 8, 17, 18, 19, 20, 21, 22, 23, 24, 25, 26, 27, 28, 29, 30, 31, 32, 33, 34, 35, 36, 37, 38, 39, 40, 41, 46, 47, 48, 49, 50, 51, 52, 53, 54, 55, 56, 57, 58, 59, 60, 61, 62, 63, 64, 65, 66, 67, 68, 69, 70, 71, 72, 73, 74, 75, 76] (by decide +kernel) (by decide +kernel)
set_option maxRecDepth 20000 in
theorem gX6_readLineOf_X6_readNumber : GoodIn wsX6_readLineOf (wsV RX6 134 RX6 yX6_readNumber wsX6_readNumber) := goodIn_app (goodIn_of _ (by decide +kernel)) ggX6_readLineOf_X6_readNumber
theorem dX6_readLineOf_0 : decode cX6_readLineOf 0 = .ok (.iload_n 1, 1) := by decide +kernel
theorem dX6_readLineOf_1 : decode cX6_readLineOf 1 = .ok (.tableswitch 68 4 6 #[27, 34, 51], 27) := by decide +kernel
theorem dX6_readLineOf_28 : decode cX6_readLineOf 28 = .ok (.aload_n 0, 1) := by decide +kernel
theorem dX6_readLineOf_29 : decode cX6_readLineOf 29 = .ok (.invokevirtual 131, 3) := by decide +kernel
theorem dX6_readLineOf_32 : decode cX6_readLineOf 32 = .ok (.goto 134, 3) := by decide +kernel
theorem dX6_readLineOf_35 : decode cX6_readLineOf 35 = .ok (.aload_n 0, 1) := by decide +kernel
theorem dX6_readLineOf_36 : decode cX6_readLineOf 36 = .ok (.getfield 20, 3) := by decide +kernel
theorem dX6_readLineOf_39 : decode cX6_readLineOf 39 = .ok (.bipush 31, 2) := by decide +kernel
theorem dX6_readLineOf_41 : decode cX6_readLineOf 41 = .ok (.aload_n 0, 1) := by decide +kernel
theorem dX6_readLineOf_42 : decode cX6_readLineOf 42 = .ok (.iconst 0, 1) := by decide +kernel
theorem dX6_readLineOf_43 : decode cX6_readLineOf 43 = .ok (.bipush 9, 2) := by decide +kernel
theorem dX6_readLineOf_45 : decode cX6_readLineOf 45 = .ok (.invokevirtual 134, 3) := by decide +kernel
theorem dX6_readLineOf_48 : decode cX6_readLineOf 48 = .ok (.iastore, 1) := by decide +kernel
theorem dX6_readLineOf_49 : decode cX6_readLineOf 49 = .ok (.goto 117, 3) := by decide +kernel
theorem dX6_readLineOf_52 : decode cX6_readLineOf 52 = .ok (.aload_n 0, 1) := by decide +kernel
theorem dX6_readLineOf_53 : decode cX6_readLineOf 53 = .ok (.getfield 20, 3) := by decide +kernel
theorem dX6_readLineOf_56 : decode cX6_readLineOf 56 = .ok (.bipush 32, 2) := by decide +kernel
theorem dX6_readLineOf_58 : decode cX6_readLineOf 58 = .ok (.aload_n 0, 1) := by decide +kernel
theorem dX6_readLineOf_59 : decode cX6_readLineOf 59 = .ok (.iconst 0, 1) := by decide +kernel
theorem dX6_readLineOf_60 : decode cX6_readLineOf 60 = .ok (.bipush 99, 2) := by decide +kernel
theorem dX6_readLineOf_62 : decode cX6_readLineOf 62 = .ok (.invokevirtual 134, 3) := by decide +kernel
theorem dX6_readLineOf_65 : decode cX6_readLineOf 65 = .ok (.iastore, 1) := by decide +kernel
theorem dX6_readLineOf_66 : decode cX6_readLineOf 66 = .ok (.goto 100, 3) := by decide +kernel
theorem dX6_readLineOf_69 : decode cX6_readLineOf 69 = .ok (.aload_n 0, 1) := by decide +kernel
theorem dX6_readLineOf_70 : decode cX6_readLineOf 70 = .ok (.getfield 20, 3) := by decide +kernel
theorem dX6_readLineOf_73 : decode cX6_readLineOf 73 = .ok (.iconst 4, 1) := by decide +kernel
theorem dX6_readLineOf_74 : decode cX6_readLineOf 74 = .ok (.aload_n 0, 1) := by decide +kernel
theorem dX6_readLineOf_75 : decode cX6_readLineOf 75 = .ok (.getfield 20, 3) := by decide +kernel
theorem dX6_readLineOf_78 : decode cX6_readLineOf 78 = .ok (.bipush 24, 2) := by decide +kernel
theorem dX6_readLineOf_80 : decode cX6_readLineOf 80 = .ok (.iaload, 1) := by decide +kernel
theorem dX6_readLineOf_81 : decode cX6_readLineOf 81 = .ok (.imul, 1) := by decide +kernel
theorem dX6_readLineOf_82 : decode cX6_readLineOf 82 = .ok (.iconst 0, 1) := by decide +kernel
theorem dX6_readLineOf_83 : decode cX6_readLineOf 83 = .ok (.iadd, 1) := by decide +kernel
theorem dX6_readLineOf_84 : decode cX6_readLineOf 84 = .ok (.iload_n 1, 1) := by decide +kernel
theorem dX6_readLineOf_85 : decode cX6_readLineOf 85 = .ok (.iastore, 1) := by decide +kernel
theorem dX6_readLineOf_86 : decode cX6_readLineOf 86 = .ok (.aload_n 0, 1) := by decide +kernel
theorem dX6_readLineOf_87 : decode cX6_readLineOf 87 = .ok (.getfield 20, 3) := by decide +kernel
theorem dX6_readLineOf_90 : decode cX6_readLineOf 90 = .ok (.iconst 4, 1) := by decide +kernel
theorem dX6_readLineOf_91 : decode cX6_readLineOf 91 = .ok (.aload_n 0, 1) := by decide +kernel
theorem dX6_readLineOf_92 : decode cX6_readLineOf 92 = .ok (.getfield 20, 3) := by decide +kernel
theorem dX6_readLineOf_95 : decode cX6_readLineOf 95 = .ok (.bipush 24, 2) := by decide +kernel
theorem dX6_readLineOf_97 : decode cX6_readLineOf 97 = .ok (.iaload, 1) := by decide +kernel
theorem dX6_readLineOf_98 : decode cX6_readLineOf 98 = .ok (.imul, 1) := by decide +kernel
theorem dX6_readLineOf_99 : decode cX6_readLineOf 99 = .ok (.iconst 1, 1) := by decide +kernel
theorem dX6_readLineOf_100 : decode cX6_readLineOf 100 = .ok (.iadd, 1) := by decide +kernel
theorem dX6_readLineOf_101 : decode cX6_readLineOf 101 = .ok (.aload_n 0, 1) := by decide +kernel
theorem dX6_readLineOf_102 : decode cX6_readLineOf 102 = .ok (.iconst 0, 1) := by decide +kernel
theorem dX6_readLineOf_103 : decode cX6_readLineOf 103 = .ok (.bipush 20, 2) := by decide +kernel
theorem dX6_readLineOf_105 : decode cX6_readLineOf 105 = .ok (.invokevirtual 134, 3) := by decide +kernel
theorem dX6_readLineOf_108 : decode cX6_readLineOf 108 = .ok (.iastore, 1) := by decide +kernel
theorem dX6_readLineOf_109 : decode cX6_readLineOf 109 = .ok (.aload_n 0, 1) := by decide +kernel
theorem dX6_readLineOf_110 : decode cX6_readLineOf 110 = .ok (.getfield 20, 3) := by decide +kernel
theorem dX6_readLineOf_113 : decode cX6_readLineOf 113 = .ok (.iconst 4, 1) := by decide +kernel
theorem dX6_readLineOf_114 : decode cX6_readLineOf 114 = .ok (.aload_n 0, 1) := by decide +kernel
theorem dX6_readLineOf_115 : decode cX6_readLineOf 115 = .ok (.getfield 20, 3) := by decide +kernel
theorem dX6_readLineOf_118 : decode cX6_readLineOf 118 = .ok (.bipush 24, 2) := by decide +kernel
theorem dX6_readLineOf_120 : decode cX6_readLineOf 120 = .ok (.iaload, 1) := by decide +kernel
theorem dX6_readLineOf_121 : decode cX6_readLineOf 121 = .ok (.imul, 1) := by decide +kernel
theorem dX6_readLineOf_122 : decode cX6_readLineOf 122 = .ok (.iconst 2, 1) := by decide +kernel
theorem dX6_readLineOf_123 : decode cX6_readLineOf 123 = .ok (.iadd, 1) := by decide +kernel
theorem dX6_readLineOf_124 : decode cX6_readLineOf 124 = .ok (.aload_n 0, 1) := by decide +kernel
theorem dX6_readLineOf_125 : decode cX6_readLineOf 125 = .ok (.iconst 1, 1) := by decide +kernel
theorem dX6_readLineOf_126 : decode cX6_readLineOf 126 = .ok (.bipush 20, 2) := by decide +kernel
theorem dX6_readLineOf_128 : decode cX6_readLineOf 128 = .ok (.invokevirtual 134, 3) := by decide +kernel
theorem dX6_readLineOf_131 : decode cX6_readLineOf 131 = .ok (.iastore, 1) := by decide +kernel
theorem dX6_readLineOf_132 : decode cX6_readLineOf 132 = .ok (.aload_n 0, 1) := by decide +kernel
theorem dX6_readLineOf_133 : decode cX6_readLineOf 133 = .ok (.getfield 20, 3) := by decide +kernel
theorem dX6_readLineOf_136 : decode cX6_readLineOf 136 = .ok (.iconst 4, 1) := by decide +kernel
theorem dX6_readLineOf_137 : decode cX6_readLineOf 137 = .ok (.aload_n 0, 1) := by decide +kernel
theorem dX6_readLineOf_138 : decode cX6_readLineOf 138 = .ok (.getfield 20, 3) := by decide +kernel
theorem dX6_readLineOf_141 : decode cX6_readLineOf 141 = .ok (.bipush 24, 2) := by decide +kernel
theorem dX6_readLineOf_143 : decode cX6_readLineOf 143 = .ok (.iaload, 1) := by decide +kernel
theorem dX6_readLineOf_144 : decode cX6_readLineOf 144 = .ok (.imul, 1) := by decide +kernel
theorem dX6_readLineOf_145 : decode cX6_readLineOf 145 = .ok (.iconst 3, 1) := by decide +kernel
theorem dX6_readLineOf_146 : decode cX6_readLineOf 146 = .ok (.iadd, 1) := by decide +kernel
theorem dX6_readLineOf_147 : decode cX6_readLineOf 147 = .ok (.aload_n 0, 1) := by decide +kernel
theorem dX6_readLineOf_148 : decode cX6_readLineOf 148 = .ok (.iconst 1, 1) := by decide +kernel
theorem dX6_readLineOf_149 : decode cX6_readLineOf 149 = .ok (.bipush 30, 2) := by decide +kernel
theorem dX6_readLineOf_151 : decode cX6_readLineOf 151 = .ok (.invokevirtual 134, 3) := by decide +kernel
theorem dX6_readLineOf_154 : decode cX6_readLineOf 154 = .ok (.iastore, 1) := by decide +kernel
theorem dX6_readLineOf_155 : decode cX6_readLineOf 155 = .ok (.aload_n 0, 1) := by decide +kernel
theorem dX6_readLineOf_156 : decode cX6_readLineOf 156 = .ok (.getfield 20, 3) := by decide +kernel
theorem dX6_readLineOf_159 : decode cX6_readLineOf 159 = .ok (.bipush 24, 2) := by decide +kernel
theorem dX6_readLineOf_161 : decode cX6_readLineOf 161 = .ok (.dup2, 1) := by decide +kernel
theorem dX6_readLineOf_162 : decode cX6_readLineOf 162 = .ok (.iaload, 1) := by decide +kernel
theorem dX6_readLineOf_163 : decode cX6_readLineOf 163 = .ok (.iconst 1, 1) := by decide +kernel
theorem dX6_readLineOf_164 : decode cX6_readLineOf 164 = .ok (.iadd, 1) := by decide +kernel
theorem dX6_readLineOf_165 : decode cX6_readLineOf 165 = .ok (.iastore, 1) := by decide +kernel
theorem dX6_readLineOf_166 : decode cX6_readLineOf 166 = .ok (.return_, 1) := by decide +kernel
set_option maxRecDepth 20000 in
theorem ggX6_readLine_X6_lineNow : GoodIn wsX6_readLine wsX6_lineNow := goodIn_r _ [9, 10, 11, 12, 8, 13, 14, 15, 16, 17, 18, 19, 20, 21, 22, 23, 24, 25, 26, 27, 28, 29, 67, 68, 69, 70, 71, 72, 73, 74, 75, 76, 77, 78, 79, 80, 81, 82, 83, 84, 85, 86, 87, 88, 89, 90, 91, 92, 93, 94, 95, 96, 97] (by decide +kernel) (by decide +kernel)
set_option maxRecDepth 20000 in
theorem gX6_readLine_X6_lineNow : GoodIn wsX6_readLine (wsV RX6 137 RX6 yX6_lineNow wsX6_lineNow) := goodIn_app (goodIn_of _ (by decide +kernel)) ggX6_readLine_X6_lineNow
set_option maxRecDepth 20000 in
theorem ggX6_readLine_X6_needs : GoodIn wsX6_readLine wsX6_needs := goodIn_r _ [33, 3, 15, 34, 67, 68, 69, 70, 71, 72, 73, 74, 75, 76, 77, 78, 79, 80, 81, 82, 83, 84, 85, 86, 87, 88, 89, 90, 91, 92, 93, 94, 95, 96, 97] (by decide +kernel) (by decide +kernel)
set_option maxRecDepth 20000 in
theorem gX6_readLine_X6_needs : GoodIn wsX6_readLine (wsV RX6 120 RX6 yX6_needs wsX6_needs) := goodIn_app (goodIn_of _ (by decide +kernel)) ggX6_readLine_X6_needs
set_option maxRecDepth 20000 in
theorem ggX6_readLine_X6_takes : GoodIn wsX6_readLine wsX6_takes := goodIn_r _ [38, 3, 14, 15, 1, 39, 40, 41, 42, 43, 16, 17, 18, 8, 19, 20, 21, 44, 45, 46, 30, 31, 32, 33, 34, 67, 68, 69, 70, 71, 72, 73, 74, 75, 76, 77, 78, 79, 80, 81, 82, 83, 84, 85, 86, 87, 88, 89, 90, 91, 92, 93, 94, 95, 96, 97] (by decide +kernel) (by decide +kernel)
set_option maxRecDepth 20000 in
theorem gX6_readLine_X6_takes : GoodIn wsX6_readLine (wsV RX6 128 RX6 yX6_takes wsX6_takes) := goodIn_app (goodIn_of _ (by decide +kernel)) ggX6_readLine_X6_takes
set_option maxRecDepth 20000 in
theorem ggX6_readLine_X6_readLineOf : GoodIn wsX6_readLine wsX6_readLineOf := goodIn_r _ [50, 2, 51, 52, 53, 8, 54, 3, 1, 55, 56, 57, 58, 59, 60, 61, 62, 43, 30, 31, 32, 33, 15, 34, 44, 45, 46, 35, 36, 37, 38, 14, 39, 40, 41, 42, 16, 17, 18, 19, 20, 21, 63, 64, 65, 66, 67, 68, 69, 70, 71, 72, 73, 74, 75, 76, 77, 78, 79, 80, 81, 82, 83, 84, 85, 86, 87, 88, 89, 90, 91, 92, 93, 94, 95, 96, 97] (by decide +kernel) (by decide +kernel)
set_option maxRecDepth 20000 in
theorem gX6_readLine_X6_readLineOf : GoodIn wsX6_readLine (wsV RX6 140 RX6 yX6_readLineOf wsX6_readLineOf) := goodIn_app (goodIn_of _ (by decide +kernel)) ggX6_readLine_X6_readLineOf
theorem dX6_readLine_0 : decode cX6_readLine 0 = .ok (.aload_n 0, 1) := by decide +kernel
theorem dX6_readLine_1 : decode cX6_readLine 1 = .ok (.getfield 106, 3) := by decide +kernel
theorem dX6_readLine_4 : decode cX6_readLine 4 = .ok (.iconst 1, 1) := by decide +kernel
theorem dX6_readLine_5 : decode cX6_readLine 5 = .ok (.if_icmp .ne 10, 3) := by decide +kernel
theorem dX6_readLine_8 : decode cX6_readLine 8 = .ok (.aload_n 0, 1) := by decide +kernel
theorem dX6_readLine_9 : decode cX6_readLine 9 = .ok (.invokevirtual 137, 3) := by decide +kernel
theorem dX6_readLine_12 : decode cX6_readLine 12 = .ok (.goto 5, 3) := by decide +kernel
theorem dX6_readLine_15 : decode cX6_readLine 15 = .ok (.bipush (-4), 2) := by decide +kernel
theorem dX6_readLine_17 : decode cX6_readLine 17 = .ok (.istore_n 1, 1) := by decide +kernel
theorem dX6_readLine_18 : decode cX6_readLine 18 = .ok (.aload_n 0, 1) := by decide +kernel
theorem dX6_readLine_19 : decode cX6_readLine 19 = .ok (.iload_n 1, 1) := by decide +kernel
theorem dX6_readLine_20 : decode cX6_readLine 20 = .ok (.bipush (-4), 2) := by decide +kernel
theorem dX6_readLine_22 : decode cX6_readLine 22 = .ok (.if_icmp .eq 7, 3) := by decide +kernel
theorem dX6_readLine_25 : decode cX6_readLine 25 = .ok (.iconst 1, 1) := by decide +kernel
theorem dX6_readLine_26 : decode cX6_readLine 26 = .ok (.goto 4, 3) := by decide +kernel
theorem dX6_readLine_29 : decode cX6_readLine 29 = .ok (.iconst 0, 1) := by decide +kernel
theorem dX6_readLine_30 : decode cX6_readLine 30 = .ok (.iconst 2, 1) := by decide +kernel
theorem dX6_readLine_31 : decode cX6_readLine 31 = .ok (.invokevirtual 120, 3) := by decide +kernel
theorem dX6_readLine_34 : decode cX6_readLine 34 = .ok (.aload_n 0, 1) := by decide +kernel
theorem dX6_readLine_35 : decode cX6_readLine 35 = .ok (.iload_n 1, 1) := by decide +kernel
theorem dX6_readLine_36 : decode cX6_readLine 36 = .ok (.iconst 4, 1) := by decide +kernel
theorem dX6_readLine_37 : decode cX6_readLine 37 = .ok (.if_icmp .ge 15, 3) := by decide +kernel
theorem dX6_readLine_40 : decode cX6_readLine 40 = .ok (.aload_n 0, 1) := by decide +kernel
theorem dX6_readLine_41 : decode cX6_readLine 41 = .ok (.getfield 20, 3) := by decide +kernel
theorem dX6_readLine_44 : decode cX6_readLine 44 = .ok (.bipush 24, 2) := by decide +kernel
theorem dX6_readLine_46 : decode cX6_readLine 46 = .ok (.iaload, 1) := by decide +kernel
theorem dX6_readLine_47 : decode cX6_readLine 47 = .ok (.bipush 6, 2) := by decide +kernel
theorem dX6_readLine_49 : decode cX6_readLine 49 = .ok (.if_icmp .ge 7, 3) := by decide +kernel
theorem dX6_readLine_52 : decode cX6_readLine 52 = .ok (.iconst 1, 1) := by decide +kernel
theorem dX6_readLine_53 : decode cX6_readLine 53 = .ok (.goto 4, 3) := by decide +kernel
theorem dX6_readLine_56 : decode cX6_readLine 56 = .ok (.iconst 0, 1) := by decide +kernel
theorem dX6_readLine_57 : decode cX6_readLine 57 = .ok (.iconst 5, 1) := by decide +kernel
theorem dX6_readLine_58 : decode cX6_readLine 58 = .ok (.invokevirtual 120, 3) := by decide +kernel
theorem dX6_readLine_61 : decode cX6_readLine 61 = .ok (.aload_n 0, 1) := by decide +kernel
theorem dX6_readLine_62 : decode cX6_readLine 62 = .ok (.getfield 78, 3) := by decide +kernel
theorem dX6_readLine_65 : decode cX6_readLine 65 = .ok (.ifCond .ne 41, 3) := by decide +kernel
theorem dX6_readLine_68 : decode cX6_readLine 68 = .ok (.iload_n 1, 1) := by decide +kernel
theorem dX6_readLine_69 : decode cX6_readLine 69 = .ok (.iconst 4, 1) := by decide +kernel
theorem dX6_readLine_70 : decode cX6_readLine 70 = .ok (.if_icmp .lt 36, 3) := by decide +kernel
theorem dX6_readLine_73 : decode cX6_readLine 73 = .ok (.aload_n 0, 1) := by decide +kernel
theorem dX6_readLine_74 : decode cX6_readLine 74 = .ok (.aload_n 0, 1) := by decide +kernel
theorem dX6_readLine_75 : decode cX6_readLine 75 = .ok (.getfield 56, 3) := by decide +kernel
theorem dX6_readLine_78 : decode cX6_readLine 78 = .ok (.iload_n 1, 1) := by decide +kernel
theorem dX6_readLine_79 : decode cX6_readLine 79 = .ok (.ishr, 1) := by decide +kernel
theorem dX6_readLine_80 : decode cX6_readLine 80 = .ok (.iconst 1, 1) := by decide +kernel
theorem dX6_readLine_81 : decode cX6_readLine 81 = .ok (.iand, 1) := by decide +kernel
theorem dX6_readLine_82 : decode cX6_readLine 82 = .ok (.ifCond .ne 7, 3) := by decide +kernel
theorem dX6_readLine_85 : decode cX6_readLine 85 = .ok (.iconst 1, 1) := by decide +kernel
theorem dX6_readLine_86 : decode cX6_readLine 86 = .ok (.goto 4, 3) := by decide +kernel
theorem dX6_readLine_89 : decode cX6_readLine 89 = .ok (.iconst 0, 1) := by decide +kernel
theorem dX6_readLine_90 : decode cX6_readLine 90 = .ok (.iconst 4, 1) := by decide +kernel
theorem dX6_readLine_91 : decode cX6_readLine 91 = .ok (.invokevirtual 120, 3) := by decide +kernel
theorem dX6_readLine_94 : decode cX6_readLine 94 = .ok (.aload_n 0, 1) := by decide +kernel
theorem dX6_readLine_95 : decode cX6_readLine 95 = .ok (.dup, 1) := by decide +kernel
theorem dX6_readLine_96 : decode cX6_readLine 96 = .ok (.getfield 56, 3) := by decide +kernel
theorem dX6_readLine_99 : decode cX6_readLine 99 = .ok (.iconst 1, 1) := by decide +kernel
theorem dX6_readLine_100 : decode cX6_readLine 100 = .ok (.iload_n 1, 1) := by decide +kernel
theorem dX6_readLine_101 : decode cX6_readLine 101 = .ok (.ishl, 1) := by decide +kernel
theorem dX6_readLine_102 : decode cX6_readLine 102 = .ok (.ior, 1) := by decide +kernel
theorem dX6_readLine_103 : decode cX6_readLine 103 = .ok (.putfield 56, 3) := by decide +kernel
theorem dX6_readLine_106 : decode cX6_readLine 106 = .ok (.aload_n 0, 1) := by decide +kernel
theorem dX6_readLine_107 : decode cX6_readLine 107 = .ok (.invokevirtual 128, 3) := by decide +kernel
theorem dX6_readLine_110 : decode cX6_readLine 110 = .ok (.aload_n 0, 1) := by decide +kernel
theorem dX6_readLine_111 : decode cX6_readLine 111 = .ok (.getfield 78, 3) := by decide +kernel
theorem dX6_readLine_114 : decode cX6_readLine 114 = .ok (.ifCond .le 4, 3) := by decide +kernel
theorem dX6_readLine_117 : decode cX6_readLine 117 = .ok (.return_, 1) := by decide +kernel
theorem dX6_readLine_118 : decode cX6_readLine 118 = .ok (.aload_n 0, 1) := by decide +kernel
theorem dX6_readLine_119 : decode cX6_readLine 119 = .ok (.iload_n 1, 1) := by decide +kernel
theorem dX6_readLine_120 : decode cX6_readLine 120 = .ok (.invokevirtual 140, 3) := by decide +kernel
theorem dX6_readLine_123 : decode cX6_readLine 123 = .ok (.aload_n 0, 1) := by decide +kernel
theorem dX6_readLine_124 : decode cX6_readLine 124 = .ok (.getfield 78, 3) := by decide +kernel
theorem dX6_readLine_127 : decode cX6_readLine 127 = .ok (.ifCond .ne 21, 3) := by decide +kernel
theorem dX6_readLine_130 : decode cX6_readLine 130 = .ok (.aload_n 0, 1) := by decide +kernel
theorem dX6_readLine_131 : decode cX6_readLine 131 = .ok (.aload_n 0, 1) := by decide +kernel
theorem dX6_readLine_132 : decode cX6_readLine 132 = .ok (.getfield 106, 3) := by decide +kernel
theorem dX6_readLine_135 : decode cX6_readLine 135 = .ok (.iconst 3, 1) := by decide +kernel
theorem dX6_readLine_136 : decode cX6_readLine 136 = .ok (.if_icmp .ne 7, 3) := by decide +kernel
theorem dX6_readLine_139 : decode cX6_readLine 139 = .ok (.iconst 1, 1) := by decide +kernel
theorem dX6_readLine_140 : decode cX6_readLine 140 = .ok (.goto 4, 3) := by decide +kernel
theorem dX6_readLine_143 : decode cX6_readLine 143 = .ok (.iconst 0, 1) := by decide +kernel
theorem dX6_readLine_144 : decode cX6_readLine 144 = .ok (.iconst 2, 1) := by decide +kernel
theorem dX6_readLine_145 : decode cX6_readLine 145 = .ok (.invokevirtual 120, 3) := by decide +kernel
theorem dX6_readLine_148 : decode cX6_readLine 148 = .ok (.aload_n 0, 1) := by decide +kernel
theorem dX6_readLine_149 : decode cX6_readLine 149 = .ok (.invokevirtual 128, 3) := by decide +kernel
theorem dX6_readLine_152 : decode cX6_readLine 152 = .ok (.return_, 1) := by decide +kernel
set_option maxRecDepth 20000 in
theorem ggX6_text_X6_firstDraft : GoodIn wsX6_text wsX6_firstDraft := goodIn_r _ [12, 5, 13, 14, 15, 4, 81, 82, 83, 84, 85, 86, 87, 88, 89, 90, 91, 92, 93, 94, 95, 96, 97, 98, 99, 100, 101, 102, 103, 104, 105, 106, 107, 108, 109, 110, 111] (by decide +kernel) (by decide +kernel)
set_option maxRecDepth 20000 in
theorem gX6_text_X6_firstDraft : GoodIn wsX6_text (wsV RX6 50 RX6 yX6_firstDraft wsX6_firstDraft) := goodIn_app (goodIn_of _ (by decide +kernel)) ggX6_text_X6_firstDraft
set_option maxRecDepth 20000 in
theorem ggX6_text_X6_takes : GoodIn wsX6_text wsX6_takes := goodIn_r _ [19, 1, 2, 20, 3, 21, 22, 23, 24, 25, 26, 27, 28, 11, 29, 6, 30, 31, 32, 33, 34, 35, 36, 37, 7, 81, 82, 83, 84, 85, 86, 87, 88, 89, 90, 91, 92, 93, 94, 95, 96, 97, 98, 99, 100, 101, 102, 103, 104, 105, 106, 107, 108, 109, 110, 111] (by decide +kernel) (by decide +kernel)
set_option maxRecDepth 20000 in
theorem gX6_text_X6_takes : GoodIn wsX6_text (wsV RX6 128 RX6 yX6_takes wsX6_takes) := goodIn_app (goodIn_of _ (by decide +kernel)) ggX6_text_X6_takes
set_option maxRecDepth 20000 in
theorem ggX6_text_X6_readLine : GoodIn wsX6_text wsX6_readLine := goodIn_r _ [41, 3, 5, 1, 13, 42, 43, 44, 11, 45, 46, 47, 48, 49, 2, 20, 26, 27, 28, 29, 6, 30, 50, 51, 52, 53, 54, 55, 56, 57, 34, 35, 36, 37, 7, 16, 17, 18, 19, 21, 22, 23, 24, 25, 31, 32, 33, 58, 59, 60, 61, 62, 63, 64, 65, 14, 66, 15, 4, 67, 68, 69, 70, 71, 72, 73, 74, 81, 82, 83, 84, 85, 86, 87, 88, 89, 90, 91, 92, 93, 94, 95, 96, 97, 98, 99, 100, 101, 102, 103, 104, 105, 106, 107, 108, 109, 110, 111] (by decide +kernel) (by decide +kernel)
set_option maxRecDepth 20000 in
theorem gX6_text_X6_readLine : GoodIn wsX6_text (wsV RX6 144 RX6 yX6_readLine wsX6_readLine) := goodIn_app (goodIn_of _ (by decide +kernel)) ggX6_text_X6_readLine
set_option maxRecDepth 20000 in
theorem ggX6_text_X6_needs : GoodIn wsX6_text wsX6_needs := goodIn_r _ [37, 1, 20, 7, 81, 82, 83, 84, 85, 86, 87, 88, 89, 90, 91, 92, 93, 94, 95, 96, 97, 98, 99, 100, 101, 102, 103, 104, 105, 106, 107, 108, 109, 110, 111] (by decide +kernel) (by decide +kernel)
set_option maxRecDepth 20000 in
theorem gX6_text_X6_needs : GoodIn wsX6_text (wsV RX6 120 RX6 yX6_needs wsX6_needs) := goodIn_app (goodIn_of _ (by decide +kernel)) ggX6_text_X6_needs
set_option maxRecDepth 20000 in
theorem ggX6_text_X6_keepDraft : GoodIn wsX6_text wsX6_keepDraft := goodIn_r _ [78, 79, 5, 15, 66, 14, 80, 81, 82, 83, 84, 85, 86, 87, 88, 89, 90, 91, 92, 93, 94, 95, 96, 97, 98, 99, 100, 101, 102, 103, 104, 105, 106, 107, 108, 109, 110, 111] (by decide +kernel) (by decide +kernel)
set_option maxRecDepth 20000 in
theorem gX6_text_X6_keepDraft : GoodIn wsX6_text (wsV RX6 53 RX6 yX6_keepDraft wsX6_keepDraft) := goodIn_app (goodIn_of _ (by decide +kernel)) ggX6_text_X6_keepDraft
theorem dX6_text_0 : decode cX6_text 0 = .ok (.iconst 0, 1) := by decide +kernel
theorem dX6_text_1 : decode cX6_text 1 = .ok (.istore_n 1, 1) := by decide +kernel
theorem dX6_text_2 : decode cX6_text 2 = .ok (.aload_n 0, 1) := by decide +kernel
theorem dX6_text_3 : decode cX6_text 3 = .ok (.iconst 0, 1) := by decide +kernel
theorem dX6_text_4 : decode cX6_text 4 = .ok (.putfield 78, 3) := by decide +kernel
theorem dX6_text_7 : decode cX6_text 7 = .ok (.aload_n 0, 1) := by decide +kernel
theorem dX6_text_8 : decode cX6_text 8 = .ok (.iconst 0, 1) := by decide +kernel
theorem dX6_text_9 : decode cX6_text 9 = .ok (.putfield 87, 3) := by decide +kernel
theorem dX6_text_12 : decode cX6_text 12 = .ok (.aload_n 0, 1) := by decide +kernel
theorem dX6_text_13 : decode cX6_text 13 = .ok (.invokevirtual 50, 3) := by decide +kernel
theorem dX6_text_16 : decode cX6_text 16 = .ok (.aload_n 0, 1) := by decide +kernel
theorem dX6_text_17 : decode cX6_text 17 = .ok (.invokevirtual 128, 3) := by decide +kernel
theorem dX6_text_20 : decode cX6_text 20 = .ok (.aload_n 0, 1) := by decide +kernel
theorem dX6_text_21 : decode cX6_text 21 = .ok (.getfield 78, 3) := by decide +kernel
theorem dX6_text_24 : decode cX6_text 24 = .ok (.ifCond .ne 20, 3) := by decide +kernel
theorem dX6_text_27 : decode cX6_text 27 = .ok (.aload_n 0, 1) := by decide +kernel
theorem dX6_text_28 : decode cX6_text 28 = .ok (.getfield 106, 3) := by decide +kernel
theorem dX6_text_31 : decode cX6_text 31 = .ok (.ifCond .eq 13, 3) := by decide +kernel
theorem dX6_text_34 : decode cX6_text 34 = .ok (.aload_n 0, 1) := by decide +kernel
theorem dX6_text_35 : decode cX6_text 35 = .ok (.invokevirtual 144, 3) := by decide +kernel
theorem dX6_text_38 : decode cX6_text 38 = .ok (.iinc 1 1, 3) := by decide +kernel
theorem dX6_text_41 : decode cX6_text 41 = .ok (.goto (-21), 3) := by decide +kernel
theorem dX6_text_44 : decode cX6_text 44 = .ok (.aload_n 0, 1) := by decide +kernel
theorem dX6_text_45 : decode cX6_text 45 = .ok (.getfield 78, 3) := by decide +kernel
theorem dX6_text_48 : decode cX6_text 48 = .ok (.ifCond .ne 28, 3) := by decide +kernel
theorem dX6_text_51 : decode cX6_text 51 = .ok (.aload_n 0, 1) := by decide +kernel
theorem dX6_text_52 : decode cX6_text 52 = .ok (.aload_n 0, 1) := by decide +kernel
theorem dX6_text_53 : decode cX6_text 53 = .ok (.getfield 66, 3) := by decide +kernel
theorem dX6_text_56 : decode cX6_text 56 = .ok (.aload_n 0, 1) := by decide +kernel
theorem dX6_text_57 : decode cX6_text 57 = .ok (.getfield 20, 3) := by decide +kernel
theorem dX6_text_60 : decode cX6_text 60 = .ok (.bipush 24, 2) := by decide +kernel
theorem dX6_text_62 : decode cX6_text 62 = .ok (.iaload, 1) := by decide +kernel
theorem dX6_text_63 : decode cX6_text 63 = .ok (.if_icmp .ge 7, 3) := by decide +kernel
theorem dX6_text_66 : decode cX6_text 66 = .ok (.iconst 1, 1) := by decide +kernel
theorem dX6_text_67 : decode cX6_text 67 = .ok (.goto 4, 3) := by decide +kernel
theorem dX6_text_70 : decode cX6_text 70 = .ok (.iconst 0, 1) := by decide +kernel
theorem dX6_text_71 : decode cX6_text 71 = .ok (.bipush 6, 2) := by decide +kernel
theorem dX6_text_73 : decode cX6_text 73 = .ok (.invokevirtual 120, 3) := by decide +kernel
theorem dX6_text_76 : decode cX6_text 76 = .ok (.aload_n 0, 1) := by decide +kernel
theorem dX6_text_77 : decode cX6_text 77 = .ok (.iconst 0, 1) := by decide +kernel
theorem dX6_text_78 : decode cX6_text 78 = .ok (.putfield 75, 3) := by decide +kernel
theorem dX6_text_81 : decode cX6_text 81 = .ok (.aload_n 0, 1) := by decide +kernel
theorem dX6_text_82 : decode cX6_text 82 = .ok (.getfield 78, 3) := by decide +kernel
theorem dX6_text_85 : decode cX6_text 85 = .ok (.ifCond .le 11, 3) := by decide +kernel
theorem dX6_text_88 : decode cX6_text 88 = .ok (.bipush (-10), 2) := by decide +kernel
theorem dX6_text_90 : decode cX6_text 90 = .ok (.aload_n 0, 1) := by decide +kernel
theorem dX6_text_91 : decode cX6_text 91 = .ok (.getfield 84, 3) := by decide +kernel
theorem dX6_text_94 : decode cX6_text 94 = .ok (.isub, 1) := by decide +kernel
theorem dX6_text_95 : decode cX6_text 95 = .ok (.ireturn, 1) := by decide +kernel
theorem dX6_text_96 : decode cX6_text 96 = .ok (.aload_n 0, 1) := by decide +kernel
theorem dX6_text_97 : decode cX6_text 97 = .ok (.invokevirtual 53, 3) := by decide +kernel
theorem dX6_text_100 : decode cX6_text 100 = .ok (.iload_n 1, 1) := by decide +kernel
theorem dX6_text_101 : decode cX6_text 101 = .ok (.ireturn, 1) := by decide +kernel
theorem dX6_fault_0 : decode cX6_fault 0 = .ok (.aload_n 0, 1) := by decide +kernel
theorem dX6_fault_1 : decode cX6_fault 1 = .ok (.getfield 78, 3) := by decide +kernel
theorem dX6_fault_4 : decode cX6_fault 4 = .ok (.ireturn, 1) := by decide +kernel
set_option maxRecDepth 20000 in
theorem ggX6_isHeir_X6_in : GoodIn wsX6_isHeir wsX6_in := goodIn_r _ [5] (by decide +kernel) (by decide +kernel)
set_option maxRecDepth 20000 in
theorem gX6_isHeir_X6_in : GoodIn wsX6_isHeir (va_wsS RX6 71 yX6_in wsX6_in) := goodIn_app (goodIn_of _ (by decide +kernel)) ggX6_isHeir_X6_in
theorem dX6_isHeir_0 : decode cX6_isHeir 0 = .ok (.iload_n 1, 1) := by decide +kernel
theorem dX6_isHeir_1 : decode cX6_isHeir 1 = .ok (.i2l, 1) := by decide +kernel
theorem dX6_isHeir_2 : decode cX6_isHeir 2 = .ok (.lconst 0, 1) := by decide +kernel
theorem dX6_isHeir_3 : decode cX6_isHeir 3 = .ok (.aload_n 0, 1) := by decide +kernel
theorem dX6_isHeir_4 : decode cX6_isHeir 4 = .ok (.getfield 7, 3) := by decide +kernel
theorem dX6_isHeir_7 : decode cX6_isHeir 7 = .ok (.bipush 24, 2) := by decide +kernel
theorem dX6_isHeir_9 : decode cX6_isHeir 9 = .ok (.iaload, 1) := by decide +kernel
theorem dX6_isHeir_10 : decode cX6_isHeir 10 = .ok (.iconst 1, 1) := by decide +kernel
theorem dX6_isHeir_11 : decode cX6_isHeir 11 = .ok (.isub, 1) := by decide +kernel
theorem dX6_isHeir_12 : decode cX6_isHeir 12 = .ok (.i2l, 1) := by decide +kernel
theorem dX6_isHeir_13 : decode cX6_isHeir 13 = .ok (.invokestatic 71, 3) := by decide +kernel
theorem dX6_isHeir_16 : decode cX6_isHeir 16 = .ok (.ireturn, 1) := by decide +kernel
theorem dX6_areTwo_0 : decode cX6_areTwo 0 = .ok (.aload_n 0, 1) := by decide +kernel
theorem dX6_areTwo_1 : decode cX6_areTwo 1 = .ok (.getfield 7, 3) := by decide +kernel
theorem dX6_areTwo_4 : decode cX6_areTwo 4 = .ok (.bipush 24, 2) := by decide +kernel
theorem dX6_areTwo_6 : decode cX6_areTwo 6 = .ok (.iaload, 1) := by decide +kernel
theorem dX6_areTwo_7 : decode cX6_areTwo 7 = .ok (.iconst 1, 1) := by decide +kernel
theorem dX6_areTwo_8 : decode cX6_areTwo 8 = .ok (.if_icmp .le 7, 3) := by decide +kernel
theorem dX6_areTwo_11 : decode cX6_areTwo 11 = .ok (.iconst 1, 1) := by decide +kernel
theorem dX6_areTwo_12 : decode cX6_areTwo 12 = .ok (.goto 4, 3) := by decide +kernel
theorem dX6_areTwo_15 : decode cX6_areTwo 15 = .ok (.iconst 0, 1) := by decide +kernel
theorem dX6_areTwo_16 : decode cX6_areTwo 16 = .ok (.ireturn, 1) := by decide +kernel
set_option maxRecDepth 20000 in
theorem ggX6_isPart_X6_in : GoodIn wsX6_isPart wsX6_in := goodIn_r _ [4] (by decide +kernel) (by decide +kernel)
set_option maxRecDepth 20000 in
theorem gX6_isPart_X6_in : GoodIn wsX6_isPart (va_wsS RX6 71 yX6_in wsX6_in) := goodIn_app (goodIn_of _ (by decide +kernel)) ggX6_isPart_X6_in
theorem dX6_isPart_0 : decode cX6_isPart 0 = .ok (.iload_n 0, 1) := by decide +kernel
theorem dX6_isPart_1 : decode cX6_isPart 1 = .ok (.i2l, 1) := by decide +kernel
theorem dX6_isPart_2 : decode cX6_isPart 2 = .ok (.lconst 0, 1) := by decide +kernel
theorem dX6_isPart_3 : decode cX6_isPart 3 = .ok (.lconst 1, 1) := by decide +kernel
theorem dX6_isPart_4 : decode cX6_isPart 4 = .ok (.invokestatic 71, 3) := by decide +kernel
theorem dX6_isPart_7 : decode cX6_isPart 7 = .ok (.ireturn, 1) := by decide +kernel
theorem dX6_starts_0 : decode cX6_starts 0 = .ok (.iconst 0, 1) := by decide +kernel
theorem dX6_starts_1 : decode cX6_starts 1 = .ok (.istore_n 1, 1) := by decide +kernel
theorem dX6_starts_2 : decode cX6_starts 2 = .ok (.iload_n 1, 1) := by decide +kernel
theorem dX6_starts_3 : decode cX6_starts 3 = .ok (.bipush 49, 2) := by decide +kernel
theorem dX6_starts_5 : decode cX6_starts 5 = .ok (.if_icmp .ge 21, 3) := by decide +kernel
theorem dX6_starts_8 : decode cX6_starts 8 = .ok (.aload_n 0, 1) := by decide +kernel
theorem dX6_starts_9 : decode cX6_starts 9 = .ok (.getfield 13, 3) := by decide +kernel
theorem dX6_starts_12 : decode cX6_starts 12 = .ok (.iload_n 1, 1) := by decide +kernel
theorem dX6_starts_13 : decode cX6_starts 13 = .ok (.aload_n 0, 1) := by decide +kernel
theorem dX6_starts_14 : decode cX6_starts 14 = .ok (.getfield 7, 3) := by decide +kernel
theorem dX6_starts_17 : decode cX6_starts 17 = .ok (.iload_n 1, 1) := by decide +kernel
theorem dX6_starts_18 : decode cX6_starts 18 = .ok (.iaload, 1) := by decide +kernel
theorem dX6_starts_19 : decode cX6_starts 19 = .ok (.iastore, 1) := by decide +kernel
theorem dX6_starts_20 : decode cX6_starts 20 = .ok (.iinc 1 1, 3) := by decide +kernel
theorem dX6_starts_23 : decode cX6_starts 23 = .ok (.goto (-21), 3) := by decide +kernel
theorem dX6_starts_26 : decode cX6_starts 26 = .ok (.return_, 1) := by decide +kernel
theorem dX6_settles_0 : decode cX6_settles 0 = .ok (.iconst 0, 1) := by decide +kernel
theorem dX6_settles_1 : decode cX6_settles 1 = .ok (.istore_n 1, 1) := by decide +kernel
theorem dX6_settles_2 : decode cX6_settles 2 = .ok (.iload_n 1, 1) := by decide +kernel
theorem dX6_settles_3 : decode cX6_settles 3 = .ok (.bipush 49, 2) := by decide +kernel
theorem dX6_settles_5 : decode cX6_settles 5 = .ok (.if_icmp .ge 21, 3) := by decide +kernel
theorem dX6_settles_8 : decode cX6_settles 8 = .ok (.aload_n 0, 1) := by decide +kernel
theorem dX6_settles_9 : decode cX6_settles 9 = .ok (.getfield 7, 3) := by decide +kernel
theorem dX6_settles_12 : decode cX6_settles 12 = .ok (.iload_n 1, 1) := by decide +kernel
theorem dX6_settles_13 : decode cX6_settles 13 = .ok (.aload_n 0, 1) := by decide +kernel
theorem dX6_settles_14 : decode cX6_settles 14 = .ok (.getfield 13, 3) := by decide +kernel
theorem dX6_settles_17 : decode cX6_settles 17 = .ok (.iload_n 1, 1) := by decide +kernel
theorem dX6_settles_18 : decode cX6_settles 18 = .ok (.iaload, 1) := by decide +kernel
theorem dX6_settles_19 : decode cX6_settles 19 = .ok (.iastore, 1) := by decide +kernel
theorem dX6_settles_20 : decode cX6_settles 20 = .ok (.iinc 1 1, 3) := by decide +kernel
theorem dX6_settles_23 : decode cX6_settles 23 = .ok (.goto (-21), 3) := by decide +kernel
theorem dX6_settles_26 : decode cX6_settles 26 = .ok (.return_, 1) := by decide +kernel
theorem dX6_of_0 : decode cX6_of 0 = .ok (.aload_n 0, 1) := by decide +kernel
theorem dX6_of_1 : decode cX6_of 1 = .ok (.getfield 13, 3) := by decide +kernel
theorem dX6_of_4 : decode cX6_of 4 = .ok (.iconst 4, 1) := by decide +kernel
theorem dX6_of_5 : decode cX6_of 5 = .ok (.iload_n 1, 1) := by decide +kernel
theorem dX6_of_6 : decode cX6_of 6 = .ok (.imul, 1) := by decide +kernel
theorem dX6_of_7 : decode cX6_of 7 = .ok (.iload_n 2, 1) := by decide +kernel
theorem dX6_of_8 : decode cX6_of 8 = .ok (.iadd, 1) := by decide +kernel
theorem dX6_of_9 : decode cX6_of 9 = .ok (.iaload, 1) := by decide +kernel
theorem dX6_of_10 : decode cX6_of 10 = .ok (.ireturn, 1) := by decide +kernel
theorem dX6_becomesOf_0 : decode cX6_becomesOf 0 = .ok (.aload_n 0, 1) := by decide +kernel
theorem dX6_becomesOf_1 : decode cX6_becomesOf 1 = .ok (.getfield 13, 3) := by decide +kernel
theorem dX6_becomesOf_4 : decode cX6_becomesOf 4 = .ok (.iconst 4, 1) := by decide +kernel
theorem dX6_becomesOf_5 : decode cX6_becomesOf 5 = .ok (.iload_n 1, 1) := by decide +kernel
theorem dX6_becomesOf_6 : decode cX6_becomesOf 6 = .ok (.imul, 1) := by decide +kernel
theorem dX6_becomesOf_7 : decode cX6_becomesOf 7 = .ok (.iload_n 2, 1) := by decide +kernel
theorem dX6_becomesOf_8 : decode cX6_becomesOf 8 = .ok (.iadd, 1) := by decide +kernel
theorem dX6_becomesOf_9 : decode cX6_becomesOf 9 = .ok (.iload_n 3, 1) := by decide +kernel
theorem dX6_becomesOf_10 : decode cX6_becomesOf 10 = .ok (.iastore, 1) := by decide +kernel
theorem dX6_becomesOf_11 : decode cX6_becomesOf 11 = .ok (.return_, 1) := by decide +kernel
set_option maxRecDepth 20000 in
theorem ggX6_height_X6_of : GoodIn wsX6_height wsX6_of := goodIn_r _ [5, 6, 7, 8, 9, 10, 11, 12, 13, 14, 15, 16, 17, 18, 19, 20, 21, 22, 23, 24, 25, 26, 27, 28, 29, 30, 31, 32, 33, 34, 35, 36, 37] (by decide +kernel) (by decide +kernel)
set_option maxRecDepth 20000 in
theorem gX6_height_X6_of : GoodIn wsX6_height (wsV RX6 147 RX6 yX6_of wsX6_of) := goodIn_app (goodIn_of _ (by decide +kernel)) ggX6_height_X6_of
theorem dX6_height_0 : decode cX6_height 0 = .ok (.aload_n 0, 1) := by decide +kernel
theorem dX6_height_1 : decode cX6_height 1 = .ok (.iload_n 1, 1) := by decide +kernel
theorem dX6_height_2 : decode cX6_height 2 = .ok (.iconst 2, 1) := by decide +kernel
theorem dX6_height_3 : decode cX6_height 3 = .ok (.invokevirtual 147, 3) := by decide +kernel
theorem dX6_height_6 : decode cX6_height 6 = .ok (.istore_n 2, 1) := by decide +kernel
theorem dX6_height_7 : decode cX6_height 7 = .ok (.iload_n 2, 1) := by decide +kernel
theorem dX6_height_8 : decode cX6_height 8 = .ok (.iload_n 2, 1) := by decide +kernel
theorem dX6_height_9 : decode cX6_height 9 = .ok (.iconst 1, 1) := by decide +kernel
theorem dX6_height_10 : decode cX6_height 10 = .ok (.iadd, 1) := by decide +kernel
theorem dX6_height_11 : decode cX6_height 11 = .ok (.iconst 2, 1) := by decide +kernel
theorem dX6_height_12 : decode cX6_height 12 = .ok (.idiv, 1) := by decide +kernel
theorem dX6_height_13 : decode cX6_height 13 = .ok (.iadd, 1) := by decide +kernel
theorem dX6_height_14 : decode cX6_height 14 = .ok (.istore_n 3, 1) := by decide +kernel
theorem dX6_height_15 : decode cX6_height 15 = .ok (.aload_n 0, 1) := by decide +kernel
theorem dX6_height_16 : decode cX6_height 16 = .ok (.iload_n 1, 1) := by decide +kernel
theorem dX6_height_17 : decode cX6_height 17 = .ok (.iconst 0, 1) := by decide +kernel
theorem dX6_height_18 : decode cX6_height 18 = .ok (.invokevirtual 147, 3) := by decide +kernel
theorem dX6_height_21 : decode cX6_height 21 = .ok (.tableswitch 49 1 3 #[27, 29, 33], 27) := by decide +kernel
theorem dX6_height_48 : decode cX6_height 48 = .ok (.iload_n 3, 1) := by decide +kernel
theorem dX6_height_49 : decode cX6_height 49 = .ok (.ireturn, 1) := by decide +kernel
theorem dX6_height_50 : decode cX6_height 50 = .ok (.iload_n 3, 1) := by decide +kernel
theorem dX6_height_51 : decode cX6_height 51 = .ok (.iconst 2, 1) := by decide +kernel
theorem dX6_height_52 : decode cX6_height 52 = .ok (.idiv, 1) := by decide +kernel
theorem dX6_height_53 : decode cX6_height 53 = .ok (.ireturn, 1) := by decide +kernel
theorem dX6_height_54 : decode cX6_height 54 = .ok (.iload_n 3, 1) := by decide +kernel
theorem dX6_height_55 : decode cX6_height 55 = .ok (.iconst 2, 1) := by decide +kernel
theorem dX6_height_56 : decode cX6_height 56 = .ok (.idiv, 1) := by decide +kernel
theorem dX6_height_57 : decode cX6_height 57 = .ok (.ifCond .le 11, 3) := by decide +kernel
theorem dX6_height_60 : decode cX6_height 60 = .ok (.iload_n 3, 1) := by decide +kernel
theorem dX6_height_61 : decode cX6_height 61 = .ok (.iconst 2, 1) := by decide +kernel
theorem dX6_height_62 : decode cX6_height 62 = .ok (.idiv, 1) := by decide +kernel
theorem dX6_height_63 : decode cX6_height 63 = .ok (.iconst 1, 1) := by decide +kernel
theorem dX6_height_64 : decode cX6_height 64 = .ok (.isub, 1) := by decide +kernel
theorem dX6_height_65 : decode cX6_height 65 = .ok (.goto 4, 3) := by decide +kernel
theorem dX6_height_68 : decode cX6_height 68 = .ok (.iconst 0, 1) := by decide +kernel
theorem dX6_height_69 : decode cX6_height 69 = .ok (.ireturn, 1) := by decide +kernel
theorem dX6_height_70 : decode cX6_height 70 = .ok (.iload_n 2, 1) := by decide +kernel
theorem dX6_height_71 : decode cX6_height 71 = .ok (.ireturn, 1) := by decide +kernel
theorem dX6_goesBehind_0 : decode cX6_goesBehind 0 = .ok (.aload_n 0, 1) := by decide +kernel
theorem dX6_goesBehind_1 : decode cX6_goesBehind 1 = .ok (.getfield 13, 3) := by decide +kernel
theorem dX6_goesBehind_4 : decode cX6_goesBehind 4 = .ok (.bipush 25, 2) := by decide +kernel
theorem dX6_goesBehind_6 : decode cX6_goesBehind 6 = .ok (.iload_n 1, 1) := by decide +kernel
theorem dX6_goesBehind_7 : decode cX6_goesBehind 7 = .ok (.iadd, 1) := by decide +kernel
theorem dX6_goesBehind_8 : decode cX6_goesBehind 8 = .ok (.iaload, 1) := by decide +kernel
theorem dX6_goesBehind_9 : decode cX6_goesBehind 9 = .ok (.istore_n 2, 1) := by decide +kernel
theorem dX6_goesBehind_10 : decode cX6_goesBehind 10 = .ok (.iload_n 1, 1) := by decide +kernel
theorem dX6_goesBehind_11 : decode cX6_goesBehind 11 = .ok (.istore_n 3, 1) := by decide +kernel
theorem dX6_goesBehind_12 : decode cX6_goesBehind 12 = .ok (.iload_n 3, 1) := by decide +kernel
theorem dX6_goesBehind_13 : decode cX6_goesBehind 13 = .ok (.aload_n 0, 1) := by decide +kernel
theorem dX6_goesBehind_14 : decode cX6_goesBehind 14 = .ok (.getfield 13, 3) := by decide +kernel
theorem dX6_goesBehind_17 : decode cX6_goesBehind 17 = .ok (.bipush 24, 2) := by decide +kernel
theorem dX6_goesBehind_19 : decode cX6_goesBehind 19 = .ok (.iaload, 1) := by decide +kernel
theorem dX6_goesBehind_20 : decode cX6_goesBehind 20 = .ok (.iconst 1, 1) := by decide +kernel
theorem dX6_goesBehind_21 : decode cX6_goesBehind 21 = .ok (.isub, 1) := by decide +kernel
theorem dX6_goesBehind_22 : decode cX6_goesBehind 22 = .ok (.if_icmp .ge 29, 3) := by decide +kernel
theorem dX6_goesBehind_25 : decode cX6_goesBehind 25 = .ok (.aload_n 0, 1) := by decide +kernel
theorem dX6_goesBehind_26 : decode cX6_goesBehind 26 = .ok (.getfield 13, 3) := by decide +kernel
theorem dX6_goesBehind_29 : decode cX6_goesBehind 29 = .ok (.bipush 25, 2) := by decide +kernel
theorem dX6_goesBehind_31 : decode cX6_goesBehind 31 = .ok (.iload_n 3, 1) := by decide +kernel
theorem dX6_goesBehind_32 : decode cX6_goesBehind 32 = .ok (.iadd, 1) := by decide +kernel
theorem dX6_goesBehind_33 : decode cX6_goesBehind 33 = .ok (.aload_n 0, 1) := by decide +kernel
theorem dX6_goesBehind_34 : decode cX6_goesBehind 34 = .ok (.getfield 13, 3) := by decide +kernel
theorem dX6_goesBehind_37 : decode cX6_goesBehind 37 = .ok (.bipush 25, 2) := by decide +kernel
theorem dX6_goesBehind_39 : decode cX6_goesBehind 39 = .ok (.iload_n 3, 1) := by decide +kernel
theorem dX6_goesBehind_40 : decode cX6_goesBehind 40 = .ok (.iadd, 1) := by decide +kernel
theorem dX6_goesBehind_41 : decode cX6_goesBehind 41 = .ok (.iconst 1, 1) := by decide +kernel
theorem dX6_goesBehind_42 : decode cX6_goesBehind 42 = .ok (.iadd, 1) := by decide +kernel
theorem dX6_goesBehind_43 : decode cX6_goesBehind 43 = .ok (.iaload, 1) := by decide +kernel
theorem dX6_goesBehind_44 : decode cX6_goesBehind 44 = .ok (.iastore, 1) := by decide +kernel
theorem dX6_goesBehind_45 : decode cX6_goesBehind 45 = .ok (.iinc 3 1, 3) := by decide +kernel
theorem dX6_goesBehind_48 : decode cX6_goesBehind 48 = .ok (.goto (-36), 3) := by decide +kernel
theorem dX6_goesBehind_51 : decode cX6_goesBehind 51 = .ok (.aload_n 0, 1) := by decide +kernel
theorem dX6_goesBehind_52 : decode cX6_goesBehind 52 = .ok (.getfield 13, 3) := by decide +kernel
theorem dX6_goesBehind_55 : decode cX6_goesBehind 55 = .ok (.bipush 25, 2) := by decide +kernel
theorem dX6_goesBehind_57 : decode cX6_goesBehind 57 = .ok (.aload_n 0, 1) := by decide +kernel
theorem dX6_goesBehind_58 : decode cX6_goesBehind 58 = .ok (.getfield 13, 3) := by decide +kernel
theorem dX6_goesBehind_61 : decode cX6_goesBehind 61 = .ok (.bipush 24, 2) := by decide +kernel
theorem dX6_goesBehind_63 : decode cX6_goesBehind 63 = .ok (.iaload, 1) := by decide +kernel
theorem dX6_goesBehind_64 : decode cX6_goesBehind 64 = .ok (.iadd, 1) := by decide +kernel
theorem dX6_goesBehind_65 : decode cX6_goesBehind 65 = .ok (.iconst 1, 1) := by decide +kernel
theorem dX6_goesBehind_66 : decode cX6_goesBehind 66 = .ok (.isub, 1) := by decide +kernel
theorem dX6_goesBehind_67 : decode cX6_goesBehind 67 = .ok (.iload_n 2, 1) := by decide +kernel
theorem dX6_goesBehind_68 : decode cX6_goesBehind 68 = .ok (.iastore, 1) := by decide +kernel
theorem dX6_goesBehind_69 : decode cX6_goesBehind 69 = .ok (.return_, 1) := by decide +kernel
set_option maxRecDepth 20000 in
theorem ggX6_reignGoes_X6_of : GoodIn wsX6_reignGoes wsX6_of := goodIn_r _ [9, 1, 25, 26, 27, 28, 29, 30, 31, 32, 33, 34, 35, 36, 37, 38, 39, 40, 41, 42, 43, 44, 45, 46, 47, 48, 49, 50, 51, 52, 53, 54, 55] (by decide +kernel) (by decide +kernel)
set_option maxRecDepth 20000 in
theorem gX6_reignGoes_X6_of : GoodIn wsX6_reignGoes (wsV RX6 147 RX6 yX6_of wsX6_of) := goodIn_app (goodIn_of _ (by decide +kernel)) ggX6_reignGoes_X6_of
set_option maxRecDepth 20000 in
theorem ggX6_reignGoes_X6_height : GoodIn wsX6_reignGoes wsX6_height := goodIn_r _ [13, 5, 6, 7, 8, 9, 1, 25, 26, 27, 28, 29, 30, 31, 32, 33, 34, 35, 36, 37, 38, 39, 40, 41, 42, 43, 44, 45, 46, 47, 48, 49, 50, 51, 52, 53, 54, 55] (by decide +kernel) (by decide +kernel)
set_option maxRecDepth 20000 in
theorem gX6_reignGoes_X6_height : GoodIn wsX6_reignGoes (wsV RX6 153 RX6 yX6_height wsX6_height) := goodIn_app (goodIn_of _ (by decide +kernel)) ggX6_reignGoes_X6_height
set_option maxRecDepth 20000 in
theorem ggX6_reignGoes_X6_flag : GoodIn wsX6_reignGoes wsX6_flag := goodIn_r _ [16] (by decide +kernel) (by decide +kernel)
set_option maxRecDepth 20000 in
theorem gX6_reignGoes_X6_flag : GoodIn wsX6_reignGoes (va_wsS RX6 163 yX6_flag wsX6_flag) := goodIn_app (goodIn_of _ (by decide +kernel)) ggX6_reignGoes_X6_flag
set_option maxRecDepth 20000 in
theorem ggX6_reignGoes_X6_goesBehind : GoodIn wsX6_reignGoes wsX6_goesBehind := goodIn_r _ [20, 1, 25, 26, 27, 28, 29, 30, 31, 32, 33, 34, 35, 36, 37, 38, 39, 40, 41, 42, 43, 44, 45, 46, 47, 48, 49, 50, 51, 52, 53, 54, 55] (by decide +kernel) (by decide +kernel)
set_option maxRecDepth 20000 in
theorem gX6_reignGoes_X6_goesBehind : GoodIn wsX6_reignGoes (wsV RX6 167 RX6 yX6_goesBehind wsX6_goesBehind) := goodIn_app (goodIn_of _ (by decide +kernel)) ggX6_reignGoes_X6_goesBehind
set_option maxRecDepth 20000 in
theorem ggX6_reignGoes_X6_becomesOf : GoodIn wsX6_reignGoes wsX6_becomesOf := goodIn_r _ [24, 1, 25, 26, 27, 28, 29, 30, 31, 32, 33, 34, 35, 36, 37, 38, 39, 40, 41, 42, 43, 44, 45, 46, 47, 48, 49, 50, 51, 52, 53, 54, 55] (by decide +kernel) (by decide +kernel)
set_option maxRecDepth 20000 in
theorem gX6_reignGoes_X6_becomesOf : GoodIn wsX6_reignGoes (wsV RX6 170 RX6 yX6_becomesOf wsX6_becomesOf) := goodIn_app (goodIn_of _ (by decide +kernel)) ggX6_reignGoes_X6_becomesOf
theorem dX6_reignGoes_0 : decode cX6_reignGoes 0 = .ok (.aload_n 0, 1) := by decide +kernel
theorem dX6_reignGoes_1 : decode cX6_reignGoes 1 = .ok (.aload_n 0, 1) := by decide +kernel
theorem dX6_reignGoes_2 : decode cX6_reignGoes 2 = .ok (.getfield 13, 3) := by decide +kernel
theorem dX6_reignGoes_5 : decode cX6_reignGoes 5 = .ok (.bipush 26, 2) := by decide +kernel
theorem dX6_reignGoes_7 : decode cX6_reignGoes 7 = .ok (.iaload, 1) := by decide +kernel
theorem dX6_reignGoes_8 : decode cX6_reignGoes 8 = .ok (.putfield 150, 3) := by decide +kernel
theorem dX6_reignGoes_11 : decode cX6_reignGoes 11 = .ok (.aload_n 0, 1) := by decide +kernel
theorem dX6_reignGoes_12 : decode cX6_reignGoes 12 = .ok (.iload_n 1, 1) := by decide +kernel
theorem dX6_reignGoes_13 : decode cX6_reignGoes 13 = .ok (.ifCond .ne 34, 3) := by decide +kernel
theorem dX6_reignGoes_16 : decode cX6_reignGoes 16 = .ok (.aload_n 0, 1) := by decide +kernel
theorem dX6_reignGoes_17 : decode cX6_reignGoes 17 = .ok (.aload_n 0, 1) := by decide +kernel
theorem dX6_reignGoes_18 : decode cX6_reignGoes 18 = .ok (.getfield 150, 3) := by decide +kernel
theorem dX6_reignGoes_21 : decode cX6_reignGoes 21 = .ok (.iconst 1, 1) := by decide +kernel
theorem dX6_reignGoes_22 : decode cX6_reignGoes 22 = .ok (.invokevirtual 147, 3) := by decide +kernel
theorem dX6_reignGoes_25 : decode cX6_reignGoes 25 = .ok (.aload_n 0, 1) := by decide +kernel
theorem dX6_reignGoes_26 : decode cX6_reignGoes 26 = .ok (.getfield 13, 3) := by decide +kernel
theorem dX6_reignGoes_29 : decode cX6_reignGoes 29 = .ok (.bipush 31, 2) := by decide +kernel
theorem dX6_reignGoes_31 : decode cX6_reignGoes 31 = .ok (.iaload, 1) := by decide +kernel
theorem dX6_reignGoes_32 : decode cX6_reignGoes 32 = .ok (.isub, 1) := by decide +kernel
theorem dX6_reignGoes_33 : decode cX6_reignGoes 33 = .ok (.aload_n 0, 1) := by decide +kernel
theorem dX6_reignGoes_34 : decode cX6_reignGoes 34 = .ok (.aload_n 0, 1) := by decide +kernel
theorem dX6_reignGoes_35 : decode cX6_reignGoes 35 = .ok (.getfield 13, 3) := by decide +kernel
theorem dX6_reignGoes_38 : decode cX6_reignGoes 38 = .ok (.bipush 25, 2) := by decide +kernel
theorem dX6_reignGoes_40 : decode cX6_reignGoes 40 = .ok (.iaload, 1) := by decide +kernel
theorem dX6_reignGoes_41 : decode cX6_reignGoes 41 = .ok (.invokevirtual 153, 3) := by decide +kernel
theorem dX6_reignGoes_44 : decode cX6_reignGoes 44 = .ok (.if_icmp .ge 7, 3) := by decide +kernel
theorem dX6_reignGoes_47 : decode cX6_reignGoes 47 = .ok (.iconst 1, 1) := by decide +kernel
theorem dX6_reignGoes_48 : decode cX6_reignGoes 48 = .ok (.goto 4, 3) := by decide +kernel
theorem dX6_reignGoes_51 : decode cX6_reignGoes 51 = .ok (.iconst 0, 1) := by decide +kernel
theorem dX6_reignGoes_52 : decode cX6_reignGoes 52 = .ok (.putfield 156, 3) := by decide +kernel
theorem dX6_reignGoes_55 : decode cX6_reignGoes 55 = .ok (.aload_n 0, 1) := by decide +kernel
theorem dX6_reignGoes_56 : decode cX6_reignGoes 56 = .ok (.aload_n 0, 1) := by decide +kernel
theorem dX6_reignGoes_57 : decode cX6_reignGoes 57 = .ok (.getfield 156, 3) := by decide +kernel
theorem dX6_reignGoes_60 : decode cX6_reignGoes 60 = .ok (.ifCond .eq 19, 3) := by decide +kernel
theorem dX6_reignGoes_63 : decode cX6_reignGoes 63 = .ok (.aload_n 0, 1) := by decide +kernel
theorem dX6_reignGoes_64 : decode cX6_reignGoes 64 = .ok (.aload_n 0, 1) := by decide +kernel
theorem dX6_reignGoes_65 : decode cX6_reignGoes 65 = .ok (.getfield 150, 3) := by decide +kernel
theorem dX6_reignGoes_68 : decode cX6_reignGoes 68 = .ok (.iconst 3, 1) := by decide +kernel
theorem dX6_reignGoes_69 : decode cX6_reignGoes 69 = .ok (.invokevirtual 147, 3) := by decide +kernel
theorem dX6_reignGoes_72 : decode cX6_reignGoes 72 = .ok (.iconst 1, 1) := by decide +kernel
theorem dX6_reignGoes_73 : decode cX6_reignGoes 73 = .ok (.iadd, 1) := by decide +kernel
theorem dX6_reignGoes_74 : decode cX6_reignGoes 74 = .ok (.iconst 2, 1) := by decide +kernel
theorem dX6_reignGoes_75 : decode cX6_reignGoes 75 = .ok (.idiv, 1) := by decide +kernel
theorem dX6_reignGoes_76 : decode cX6_reignGoes 76 = .ok (.goto 12, 3) := by decide +kernel
theorem dX6_reignGoes_79 : decode cX6_reignGoes 79 = .ok (.aload_n 0, 1) := by decide +kernel
theorem dX6_reignGoes_80 : decode cX6_reignGoes 80 = .ok (.aload_n 0, 1) := by decide +kernel
theorem dX6_reignGoes_81 : decode cX6_reignGoes 81 = .ok (.getfield 150, 3) := by decide +kernel
theorem dX6_reignGoes_84 : decode cX6_reignGoes 84 = .ok (.iconst 3, 1) := by decide +kernel
theorem dX6_reignGoes_85 : decode cX6_reignGoes 85 = .ok (.invokevirtual 147, 3) := by decide +kernel
theorem dX6_reignGoes_88 : decode cX6_reignGoes 88 = .ok (.putfield 160, 3) := by decide +kernel
theorem dX6_reignGoes_91 : decode cX6_reignGoes 91 = .ok (.aload_n 0, 1) := by decide +kernel
theorem dX6_reignGoes_92 : decode cX6_reignGoes 92 = .ok (.getfield 13, 3) := by decide +kernel
theorem dX6_reignGoes_95 : decode cX6_reignGoes 95 = .ok (.bipush 33, 2) := by decide +kernel
theorem dX6_reignGoes_97 : decode cX6_reignGoes 97 = .ok (.dup2, 1) := by decide +kernel
theorem dX6_reignGoes_98 : decode cX6_reignGoes 98 = .ok (.iaload, 1) := by decide +kernel
theorem dX6_reignGoes_99 : decode cX6_reignGoes 99 = .ok (.iconst 1, 1) := by decide +kernel
theorem dX6_reignGoes_100 : decode cX6_reignGoes 100 = .ok (.iadd, 1) := by decide +kernel
theorem dX6_reignGoes_101 : decode cX6_reignGoes 101 = .ok (.iastore, 1) := by decide +kernel
theorem dX6_reignGoes_102 : decode cX6_reignGoes 102 = .ok (.aload_n 0, 1) := by decide +kernel
theorem dX6_reignGoes_103 : decode cX6_reignGoes 103 = .ok (.getfield 13, 3) := by decide +kernel
theorem dX6_reignGoes_106 : decode cX6_reignGoes 106 = .ok (.bipush 34, 2) := by decide +kernel
theorem dX6_reignGoes_108 : decode cX6_reignGoes 108 = .ok (.dup2, 1) := by decide +kernel
theorem dX6_reignGoes_109 : decode cX6_reignGoes 109 = .ok (.iaload, 1) := by decide +kernel
theorem dX6_reignGoes_110 : decode cX6_reignGoes 110 = .ok (.aload_n 0, 1) := by decide +kernel
theorem dX6_reignGoes_111 : decode cX6_reignGoes 111 = .ok (.getfield 160, 3) := by decide +kernel
theorem dX6_reignGoes_114 : decode cX6_reignGoes 114 = .ok (.iadd, 1) := by decide +kernel
theorem dX6_reignGoes_115 : decode cX6_reignGoes 115 = .ok (.iastore, 1) := by decide +kernel
theorem dX6_reignGoes_116 : decode cX6_reignGoes 116 = .ok (.aload_n 0, 1) := by decide +kernel
theorem dX6_reignGoes_117 : decode cX6_reignGoes 117 = .ok (.getfield 13, 3) := by decide +kernel
theorem dX6_reignGoes_120 : decode cX6_reignGoes 120 = .ok (.bipush 35, 2) := by decide +kernel
theorem dX6_reignGoes_122 : decode cX6_reignGoes 122 = .ok (.dup2, 1) := by decide +kernel
theorem dX6_reignGoes_123 : decode cX6_reignGoes 123 = .ok (.iaload, 1) := by decide +kernel
theorem dX6_reignGoes_124 : decode cX6_reignGoes 124 = .ok (.aload_n 0, 1) := by decide +kernel
theorem dX6_reignGoes_125 : decode cX6_reignGoes 125 = .ok (.getfield 156, 3) := by decide +kernel
theorem dX6_reignGoes_128 : decode cX6_reignGoes 128 = .ok (.invokestatic 163, 3) := by decide +kernel
theorem dX6_reignGoes_131 : decode cX6_reignGoes 131 = .ok (.iadd, 1) := by decide +kernel
theorem dX6_reignGoes_132 : decode cX6_reignGoes 132 = .ok (.iastore, 1) := by decide +kernel
theorem dX6_reignGoes_133 : decode cX6_reignGoes 133 = .ok (.aload_n 0, 1) := by decide +kernel
theorem dX6_reignGoes_134 : decode cX6_reignGoes 134 = .ok (.getfield 13, 3) := by decide +kernel
theorem dX6_reignGoes_137 : decode cX6_reignGoes 137 = .ok (.bipush 33, 2) := by decide +kernel
theorem dX6_reignGoes_139 : decode cX6_reignGoes 139 = .ok (.iaload, 1) := by decide +kernel
theorem dX6_reignGoes_140 : decode cX6_reignGoes 140 = .ok (.iconst 2, 1) := by decide +kernel
theorem dX6_reignGoes_141 : decode cX6_reignGoes 141 = .ok (.irem, 1) := by decide +kernel
theorem dX6_reignGoes_142 : decode cX6_reignGoes 142 = .ok (.iconst 1, 1) := by decide +kernel
theorem dX6_reignGoes_143 : decode cX6_reignGoes 143 = .ok (.if_icmp .ne 18, 3) := by decide +kernel
theorem dX6_reignGoes_146 : decode cX6_reignGoes 146 = .ok (.aload_n 0, 1) := by decide +kernel
theorem dX6_reignGoes_147 : decode cX6_reignGoes 147 = .ok (.getfield 13, 3) := by decide +kernel
theorem dX6_reignGoes_150 : decode cX6_reignGoes 150 = .ok (.bipush 32, 2) := by decide +kernel
theorem dX6_reignGoes_152 : decode cX6_reignGoes 152 = .ok (.iaload, 1) := by decide +kernel
theorem dX6_reignGoes_153 : decode cX6_reignGoes 153 = .ok (.aload_n 0, 1) := by decide +kernel
theorem dX6_reignGoes_154 : decode cX6_reignGoes 154 = .ok (.getfield 160, 3) := by decide +kernel
theorem dX6_reignGoes_157 : decode cX6_reignGoes 157 = .ok (.iadd, 1) := by decide +kernel
theorem dX6_reignGoes_158 : decode cX6_reignGoes 158 = .ok (.goto 15, 3) := by decide +kernel
theorem dX6_reignGoes_161 : decode cX6_reignGoes 161 = .ok (.aload_n 0, 1) := by decide +kernel
theorem dX6_reignGoes_162 : decode cX6_reignGoes 162 = .ok (.getfield 13, 3) := by decide +kernel
theorem dX6_reignGoes_165 : decode cX6_reignGoes 165 = .ok (.bipush 32, 2) := by decide +kernel
theorem dX6_reignGoes_167 : decode cX6_reignGoes 167 = .ok (.iaload, 1) := by decide +kernel
theorem dX6_reignGoes_168 : decode cX6_reignGoes 168 = .ok (.aload_n 0, 1) := by decide +kernel
theorem dX6_reignGoes_169 : decode cX6_reignGoes 169 = .ok (.getfield 160, 3) := by decide +kernel
theorem dX6_reignGoes_172 : decode cX6_reignGoes 172 = .ok (.isub, 1) := by decide +kernel
theorem dX6_reignGoes_173 : decode cX6_reignGoes 173 = .ok (.istore_n 2, 1) := by decide +kernel
theorem dX6_reignGoes_174 : decode cX6_reignGoes 174 = .ok (.aload_n 0, 1) := by decide +kernel
theorem dX6_reignGoes_175 : decode cX6_reignGoes 175 = .ok (.getfield 13, 3) := by decide +kernel
theorem dX6_reignGoes_178 : decode cX6_reignGoes 178 = .ok (.bipush 32, 2) := by decide +kernel
theorem dX6_reignGoes_180 : decode cX6_reignGoes 180 = .ok (.iload_n 2, 1) := by decide +kernel
theorem dX6_reignGoes_181 : decode cX6_reignGoes 181 = .ok (.ifCond .ge 7, 3) := by decide +kernel
theorem dX6_reignGoes_184 : decode cX6_reignGoes 184 = .ok (.iconst 0, 1) := by decide +kernel
theorem dX6_reignGoes_185 : decode cX6_reignGoes 185 = .ok (.goto 17, 3) := by decide +kernel
theorem dX6_reignGoes_188 : decode cX6_reignGoes 188 = .ok (.iload_n 2, 1) := by decide +kernel
theorem dX6_reignGoes_189 : decode cX6_reignGoes 189 = .ok (.sipush 999, 3) := by decide +kernel
theorem dX6_reignGoes_192 : decode cX6_reignGoes 192 = .ok (.if_icmp .le 9, 3) := by decide +kernel
theorem dX6_reignGoes_195 : decode cX6_reignGoes 195 = .ok (.sipush 999, 3) := by decide +kernel
theorem dX6_reignGoes_198 : decode cX6_reignGoes 198 = .ok (.goto 4, 3) := by decide +kernel
theorem dX6_reignGoes_201 : decode cX6_reignGoes 201 = .ok (.iload_n 2, 1) := by decide +kernel
theorem dX6_reignGoes_202 : decode cX6_reignGoes 202 = .ok (.iastore, 1) := by decide +kernel
theorem dX6_reignGoes_203 : decode cX6_reignGoes 203 = .ok (.aload_n 0, 1) := by decide +kernel
theorem dX6_reignGoes_204 : decode cX6_reignGoes 204 = .ok (.getfield 156, 3) := by decide +kernel
theorem dX6_reignGoes_207 : decode cX6_reignGoes 207 = .ok (.ifCond .eq 47, 3) := by decide +kernel
theorem dX6_reignGoes_210 : decode cX6_reignGoes 210 = .ok (.aload_n 0, 1) := by decide +kernel
theorem dX6_reignGoes_211 : decode cX6_reignGoes 211 = .ok (.iconst 1, 1) := by decide +kernel
theorem dX6_reignGoes_212 : decode cX6_reignGoes 212 = .ok (.invokevirtual 167, 3) := by decide +kernel
theorem dX6_reignGoes_215 : decode cX6_reignGoes 215 = .ok (.aload_n 0, 1) := by decide +kernel
theorem dX6_reignGoes_216 : decode cX6_reignGoes 216 = .ok (.aload_n 0, 1) := by decide +kernel
theorem dX6_reignGoes_217 : decode cX6_reignGoes 217 = .ok (.getfield 150, 3) := by decide +kernel
theorem dX6_reignGoes_220 : decode cX6_reignGoes 220 = .ok (.iconst 1, 1) := by decide +kernel
theorem dX6_reignGoes_221 : decode cX6_reignGoes 221 = .ok (.aload_n 0, 1) := by decide +kernel
theorem dX6_reignGoes_222 : decode cX6_reignGoes 222 = .ok (.aload_n 0, 1) := by decide +kernel
theorem dX6_reignGoes_223 : decode cX6_reignGoes 223 = .ok (.getfield 150, 3) := by decide +kernel
theorem dX6_reignGoes_226 : decode cX6_reignGoes 226 = .ok (.iconst 1, 1) := by decide +kernel
theorem dX6_reignGoes_227 : decode cX6_reignGoes 227 = .ok (.invokevirtual 147, 3) := by decide +kernel
theorem dX6_reignGoes_230 : decode cX6_reignGoes 230 = .ok (.ifCond .le 17, 3) := by decide +kernel
theorem dX6_reignGoes_233 : decode cX6_reignGoes 233 = .ok (.aload_n 0, 1) := by decide +kernel
theorem dX6_reignGoes_234 : decode cX6_reignGoes 234 = .ok (.aload_n 0, 1) := by decide +kernel
theorem dX6_reignGoes_235 : decode cX6_reignGoes 235 = .ok (.getfield 150, 3) := by decide +kernel
theorem dX6_reignGoes_238 : decode cX6_reignGoes 238 = .ok (.iconst 1, 1) := by decide +kernel
theorem dX6_reignGoes_239 : decode cX6_reignGoes 239 = .ok (.invokevirtual 147, 3) := by decide +kernel
theorem dX6_reignGoes_242 : decode cX6_reignGoes 242 = .ok (.iconst 1, 1) := by decide +kernel
theorem dX6_reignGoes_243 : decode cX6_reignGoes 243 = .ok (.isub, 1) := by decide +kernel
theorem dX6_reignGoes_244 : decode cX6_reignGoes 244 = .ok (.goto 4, 3) := by decide +kernel
theorem dX6_reignGoes_247 : decode cX6_reignGoes 247 = .ok (.iconst 0, 1) := by decide +kernel
theorem dX6_reignGoes_248 : decode cX6_reignGoes 248 = .ok (.invokevirtual 170, 3) := by decide +kernel
theorem dX6_reignGoes_251 : decode cX6_reignGoes 251 = .ok (.goto 13, 3) := by decide +kernel
theorem dX6_reignGoes_254 : decode cX6_reignGoes 254 = .ok (.aload_n 0, 1) := by decide +kernel
theorem dX6_reignGoes_255 : decode cX6_reignGoes 255 = .ok (.iconst 0, 1) := by decide +kernel
theorem dX6_reignGoes_256 : decode cX6_reignGoes 256 = .ok (.invokevirtual 167, 3) := by decide +kernel
theorem dX6_reignGoes_259 : decode cX6_reignGoes 259 = .ok (.aload_n 0, 1) := by decide +kernel
theorem dX6_reignGoes_260 : decode cX6_reignGoes 260 = .ok (.iconst 0, 1) := by decide +kernel
theorem dX6_reignGoes_261 : decode cX6_reignGoes 261 = .ok (.invokevirtual 167, 3) := by decide +kernel
theorem dX6_reignGoes_264 : decode cX6_reignGoes 264 = .ok (.return_, 1) := by decide +kernel
set_option maxRecDepth 20000 in
theorem ggX6_reignsGo_X6_reignGoes : GoodIn wsX6_reignsGo wsX6_reignGoes := goodIn_r _ [5, 6, 7, 8, 9, 10, 11, 12, 4, 13, 14, 15, 16, 17, 18, 19, 20, 21, 22, 23, 24, 25, 26, 27, 28, 29, 30, 31, 32, 33, 34, 35, 36, 37, 38, 39, 40, 41, 42, 43, 44, 45, 46, 47, 48, 49, 50, 51, 52, 53, 54, 55, 56, 57, 58, 59] (by decide +kernel) (by decide +kernel)
set_option maxRecDepth 20000 in
theorem gX6_reignsGo_X6_reignGoes : GoodIn wsX6_reignsGo (wsV RX6 174 RX6 yX6_reignGoes wsX6_reignGoes) := goodIn_app (goodIn_of _ (by decide +kernel)) ggX6_reignsGo_X6_reignGoes
theorem dX6_reignsGo_0 : decode cX6_reignsGo 0 = .ok (.iconst 0, 1) := by decide +kernel
theorem dX6_reignsGo_1 : decode cX6_reignsGo 1 = .ok (.istore_n 2, 1) := by decide +kernel
theorem dX6_reignsGo_2 : decode cX6_reignsGo 2 = .ok (.iload_n 2, 1) := by decide +kernel
theorem dX6_reignsGo_3 : decode cX6_reignsGo 3 = .ok (.iload_n 1, 1) := by decide +kernel
theorem dX6_reignsGo_4 : decode cX6_reignsGo 4 = .ok (.if_icmp .ge 14, 3) := by decide +kernel
theorem dX6_reignsGo_7 : decode cX6_reignsGo 7 = .ok (.aload_n 0, 1) := by decide +kernel
theorem dX6_reignsGo_8 : decode cX6_reignsGo 8 = .ok (.iconst 0, 1) := by decide +kernel
theorem dX6_reignsGo_9 : decode cX6_reignsGo 9 = .ok (.invokevirtual 174, 3) := by decide +kernel
theorem dX6_reignsGo_12 : decode cX6_reignsGo 12 = .ok (.iinc 2 1, 3) := by decide +kernel
theorem dX6_reignsGo_15 : decode cX6_reignsGo 15 = .ok (.goto (-13), 3) := by decide +kernel
theorem dX6_reignsGo_18 : decode cX6_reignsGo 18 = .ok (.return_, 1) := by decide +kernel
set_option maxRecDepth 20000 in
theorem ggX6_allOf_X6_of : GoodIn wsX6_allOf wsX6_of := goodIn_r _ [6, 1, 7, 8, 9, 10, 11, 12, 13, 14, 15, 16, 17, 18, 19, 20, 21, 22, 23, 24, 25, 26, 27, 28, 29, 30, 31, 32, 33, 34, 35, 36, 37] (by decide +kernel) (by decide +kernel)
set_option maxRecDepth 20000 in
theorem gX6_allOf_X6_of : GoodIn wsX6_allOf (wsV RX6 147 RX6 yX6_of wsX6_of) := goodIn_app (goodIn_of _ (by decide +kernel)) ggX6_allOf_X6_of
theorem dX6_allOf_0 : decode cX6_allOf 0 = .ok (.iconst 0, 1) := by decide +kernel
theorem dX6_allOf_1 : decode cX6_allOf 1 = .ok (.istore_n 2, 1) := by decide +kernel
theorem dX6_allOf_2 : decode cX6_allOf 2 = .ok (.iconst 0, 1) := by decide +kernel
theorem dX6_allOf_3 : decode cX6_allOf 3 = .ok (.istore_n 3, 1) := by decide +kernel
theorem dX6_allOf_4 : decode cX6_allOf 4 = .ok (.iload_n 3, 1) := by decide +kernel
theorem dX6_allOf_5 : decode cX6_allOf 5 = .ok (.aload_n 0, 1) := by decide +kernel
theorem dX6_allOf_6 : decode cX6_allOf 6 = .ok (.getfield 13, 3) := by decide +kernel
theorem dX6_allOf_9 : decode cX6_allOf 9 = .ok (.bipush 24, 2) := by decide +kernel
theorem dX6_allOf_11 : decode cX6_allOf 11 = .ok (.iaload, 1) := by decide +kernel
theorem dX6_allOf_12 : decode cX6_allOf 12 = .ok (.if_icmp .ge 18, 3) := by decide +kernel
theorem dX6_allOf_15 : decode cX6_allOf 15 = .ok (.iload_n 2, 1) := by decide +kernel
theorem dX6_allOf_16 : decode cX6_allOf 16 = .ok (.aload_n 0, 1) := by decide +kernel
theorem dX6_allOf_17 : decode cX6_allOf 17 = .ok (.iload_n 3, 1) := by decide +kernel
theorem dX6_allOf_18 : decode cX6_allOf 18 = .ok (.iload_n 1, 1) := by decide +kernel
theorem dX6_allOf_19 : decode cX6_allOf 19 = .ok (.invokevirtual 147, 3) := by decide +kernel
theorem dX6_allOf_22 : decode cX6_allOf 22 = .ok (.iadd, 1) := by decide +kernel
theorem dX6_allOf_23 : decode cX6_allOf 23 = .ok (.istore_n 2, 1) := by decide +kernel
theorem dX6_allOf_24 : decode cX6_allOf 24 = .ok (.iinc 3 1, 3) := by decide +kernel
theorem dX6_allOf_27 : decode cX6_allOf 27 = .ok (.goto (-23), 3) := by decide +kernel
theorem dX6_allOf_30 : decode cX6_allOf 30 = .ok (.iload_n 2, 1) := by decide +kernel
theorem dX6_allOf_31 : decode cX6_allOf 31 = .ok (.ireturn, 1) := by decide +kernel
theorem dX6_placeOf_0 : decode cX6_placeOf 0 = .ok (.bipush (-4), 2) := by decide +kernel
theorem dX6_placeOf_2 : decode cX6_placeOf 2 = .ok (.istore_n 2, 1) := by decide +kernel
theorem dX6_placeOf_3 : decode cX6_placeOf 3 = .ok (.iconst 0, 1) := by decide +kernel
theorem dX6_placeOf_4 : decode cX6_placeOf 4 = .ok (.istore_n 3, 1) := by decide +kernel
theorem dX6_placeOf_5 : decode cX6_placeOf 5 = .ok (.iload_n 3, 1) := by decide +kernel
theorem dX6_placeOf_6 : decode cX6_placeOf 6 = .ok (.aload_n 0, 1) := by decide +kernel
theorem dX6_placeOf_7 : decode cX6_placeOf 7 = .ok (.getfield 13, 3) := by decide +kernel
theorem dX6_placeOf_10 : decode cX6_placeOf 10 = .ok (.bipush 24, 2) := by decide +kernel
theorem dX6_placeOf_12 : decode cX6_placeOf 12 = .ok (.iaload, 1) := by decide +kernel
theorem dX6_placeOf_13 : decode cX6_placeOf 13 = .ok (.if_icmp .ge 28, 3) := by decide +kernel
theorem dX6_placeOf_16 : decode cX6_placeOf 16 = .ok (.aload_n 0, 1) := by decide +kernel
theorem dX6_placeOf_17 : decode cX6_placeOf 17 = .ok (.getfield 13, 3) := by decide +kernel
theorem dX6_placeOf_20 : decode cX6_placeOf 20 = .ok (.bipush 25, 2) := by decide +kernel
theorem dX6_placeOf_22 : decode cX6_placeOf 22 = .ok (.iload_n 3, 1) := by decide +kernel
theorem dX6_placeOf_23 : decode cX6_placeOf 23 = .ok (.iadd, 1) := by decide +kernel
theorem dX6_placeOf_24 : decode cX6_placeOf 24 = .ok (.iaload, 1) := by decide +kernel
theorem dX6_placeOf_25 : decode cX6_placeOf 25 = .ok (.iload_n 1, 1) := by decide +kernel
theorem dX6_placeOf_26 : decode cX6_placeOf 26 = .ok (.if_icmp .ne 7, 3) := by decide +kernel
theorem dX6_placeOf_29 : decode cX6_placeOf 29 = .ok (.iload_n 3, 1) := by decide +kernel
theorem dX6_placeOf_30 : decode cX6_placeOf 30 = .ok (.goto 4, 3) := by decide +kernel
theorem dX6_placeOf_33 : decode cX6_placeOf 33 = .ok (.iload_n 2, 1) := by decide +kernel
theorem dX6_placeOf_34 : decode cX6_placeOf 34 = .ok (.istore_n 2, 1) := by decide +kernel
theorem dX6_placeOf_35 : decode cX6_placeOf 35 = .ok (.iinc 3 1, 3) := by decide +kernel
theorem dX6_placeOf_38 : decode cX6_placeOf 38 = .ok (.goto (-33), 3) := by decide +kernel
theorem dX6_placeOf_41 : decode cX6_placeOf 41 = .ok (.iload_n 2, 1) := by decide +kernel
theorem dX6_placeOf_42 : decode cX6_placeOf 42 = .ok (.ireturn, 1) := by decide +kernel
theorem dX6_rule_0 : decode cX6_rule 0 = .ok (.iload_n 1, 1) := by decide +kernel
theorem dX6_rule_1 : decode cX6_rule 1 = .ok (.tableswitch 87 0 5 #[39, 47, 55, 63, 71, 79], 39) := by decide +kernel
theorem dX6_rule_40 : decode cX6_rule 40 = .ok (.aload_n 0, 1) := by decide +kernel
theorem dX6_rule_41 : decode cX6_rule 41 = .ok (.getfield 7, 3) := by decide +kernel
theorem dX6_rule_44 : decode cX6_rule 44 = .ok (.bipush 24, 2) := by decide +kernel
theorem dX6_rule_46 : decode cX6_rule 46 = .ok (.iaload, 1) := by decide +kernel
theorem dX6_rule_47 : decode cX6_rule 47 = .ok (.ireturn, 1) := by decide +kernel
theorem dX6_rule_48 : decode cX6_rule 48 = .ok (.aload_n 0, 1) := by decide +kernel
theorem dX6_rule_49 : decode cX6_rule 49 = .ok (.getfield 7, 3) := by decide +kernel
theorem dX6_rule_52 : decode cX6_rule 52 = .ok (.bipush 33, 2) := by decide +kernel
theorem dX6_rule_54 : decode cX6_rule 54 = .ok (.iaload, 1) := by decide +kernel
theorem dX6_rule_55 : decode cX6_rule 55 = .ok (.ireturn, 1) := by decide +kernel
theorem dX6_rule_56 : decode cX6_rule 56 = .ok (.aload_n 0, 1) := by decide +kernel
theorem dX6_rule_57 : decode cX6_rule 57 = .ok (.getfield 7, 3) := by decide +kernel
theorem dX6_rule_60 : decode cX6_rule 60 = .ok (.bipush 32, 2) := by decide +kernel
theorem dX6_rule_62 : decode cX6_rule 62 = .ok (.iaload, 1) := by decide +kernel
theorem dX6_rule_63 : decode cX6_rule 63 = .ok (.ireturn, 1) := by decide +kernel
theorem dX6_rule_64 : decode cX6_rule 64 = .ok (.aload_n 0, 1) := by decide +kernel
theorem dX6_rule_65 : decode cX6_rule 65 = .ok (.getfield 7, 3) := by decide +kernel
theorem dX6_rule_68 : decode cX6_rule 68 = .ok (.bipush 31, 2) := by decide +kernel
theorem dX6_rule_70 : decode cX6_rule 70 = .ok (.iaload, 1) := by decide +kernel
theorem dX6_rule_71 : decode cX6_rule 71 = .ok (.ireturn, 1) := by decide +kernel
theorem dX6_rule_72 : decode cX6_rule 72 = .ok (.aload_n 0, 1) := by decide +kernel
theorem dX6_rule_73 : decode cX6_rule 73 = .ok (.getfield 7, 3) := by decide +kernel
theorem dX6_rule_76 : decode cX6_rule 76 = .ok (.bipush 34, 2) := by decide +kernel
theorem dX6_rule_78 : decode cX6_rule 78 = .ok (.iaload, 1) := by decide +kernel
theorem dX6_rule_79 : decode cX6_rule 79 = .ok (.ireturn, 1) := by decide +kernel
theorem dX6_rule_80 : decode cX6_rule 80 = .ok (.aload_n 0, 1) := by decide +kernel
theorem dX6_rule_81 : decode cX6_rule 81 = .ok (.getfield 7, 3) := by decide +kernel
theorem dX6_rule_84 : decode cX6_rule 84 = .ok (.bipush 35, 2) := by decide +kernel
theorem dX6_rule_86 : decode cX6_rule 86 = .ok (.iaload, 1) := by decide +kernel
theorem dX6_rule_87 : decode cX6_rule 87 = .ok (.ireturn, 1) := by decide +kernel
theorem dX6_rule_88 : decode cX6_rule 88 = .ok (.iconst (-1), 1) := by decide +kernel
theorem dX6_rule_89 : decode cX6_rule 89 = .ok (.ireturn, 1) := by decide +kernel
set_option maxRecDepth 20000 in
theorem ggX6_heir_X6_isHeir : GoodIn wsX6_heir wsX6_isHeir := goodIn_r _ [6, 7, 8, 9, 5, 10, 28, 29, 30, 31, 32, 33, 34, 35, 36, 37, 38, 39, 40, 41, 42, 43, 44, 45, 46, 47, 48, 49, 50, 51, 52, 53, 54, 55, 56, 57, 58] (by decide +kernel) (by decide +kernel)
set_option maxRecDepth 20000 in
theorem gX6_heir_X6_isHeir : GoodIn wsX6_heir (wsV RX6 178 RX6 yX6_isHeir wsX6_isHeir) := goodIn_app (goodIn_of _ (by decide +kernel)) ggX6_heir_X6_isHeir
set_option maxRecDepth 20000 in
theorem ggX6_heir_X6_in : GoodIn wsX6_heir wsX6_in := goodIn_r _ [10] (by decide +kernel) (by decide +kernel)
set_option maxRecDepth 20000 in
theorem gX6_heir_X6_in : GoodIn wsX6_heir (va_wsS RX6 71 yX6_in wsX6_in) := goodIn_app (goodIn_of _ (by decide +kernel)) ggX6_heir_X6_in
set_option maxRecDepth 20000 in
theorem ggX6_heir_X6_starts : GoodIn wsX6_heir wsX6_starts := goodIn_r _ [14, 15, 7, 28, 29, 30, 31, 32, 33, 34, 35, 36, 37, 38, 39, 40, 41, 42, 43, 44, 45, 46, 47, 48, 49, 50, 51, 52, 53, 54, 55, 56, 57, 58] (by decide +kernel) (by decide +kernel)
set_option maxRecDepth 20000 in
theorem gX6_heir_X6_starts : GoodIn wsX6_heir (wsV RX6 184 RX6 yX6_starts wsX6_starts) := goodIn_app (goodIn_of _ (by decide +kernel)) ggX6_heir_X6_starts
set_option maxRecDepth 20000 in
theorem ggX6_heir_X6_of : GoodIn wsX6_heir wsX6_of := goodIn_r _ [19, 15, 28, 29, 30, 31, 32, 33, 34, 35, 36, 37, 38, 39, 40, 41, 42, 43, 44, 45, 46, 47, 48, 49, 50, 51, 52, 53, 54, 55, 56, 57, 58] (by decide +kernel) (by decide +kernel)
set_option maxRecDepth 20000 in
theorem gX6_heir_X6_of : GoodIn wsX6_heir (wsV RX6 147 RX6 yX6_of wsX6_of) := goodIn_app (goodIn_of _ (by decide +kernel)) ggX6_heir_X6_of
set_option maxRecDepth 20000 in
theorem ggX6_heir_X6_height : GoodIn wsX6_heir wsX6_height := goodIn_r _ [23, 16, 17, 18, 5, 19, 15, 28, 29, 30, 31, 32, 33, 34, 35, 36, 37, 38, 39, 40, 41, 42, 43, 44, 45, 46, 47, 48, 49, 50, 51, 52, 53, 54, 55, 56, 57, 58] (by decide +kernel) (by decide +kernel)
set_option maxRecDepth 20000 in
theorem gX6_heir_X6_height : GoodIn wsX6_heir (wsV RX6 153 RX6 yX6_height wsX6_height) := goodIn_app (goodIn_of _ (by decide +kernel)) ggX6_heir_X6_height
set_option maxRecDepth 20000 in
theorem ggX6_heir_X6_placeOf : GoodIn wsX6_heir wsX6_placeOf := goodIn_r _ [27, 15, 28, 29, 30, 31, 32, 33, 34, 35, 36, 37, 38, 39, 40, 41, 42, 43, 44, 45, 46, 47, 48, 49, 50, 51, 52, 53, 54, 55, 56, 57, 58] (by decide +kernel) (by decide +kernel)
set_option maxRecDepth 20000 in
theorem gX6_heir_X6_placeOf : GoodIn wsX6_heir (wsV RX6 187 RX6 yX6_placeOf wsX6_placeOf) := goodIn_app (goodIn_of _ (by decide +kernel)) ggX6_heir_X6_placeOf
theorem dX6_heir_0 : decode cX6_heir 0 = .ok (.aload_n 0, 1) := by decide +kernel
theorem dX6_heir_1 : decode cX6_heir 1 = .ok (.iload_n 1, 1) := by decide +kernel
theorem dX6_heir_2 : decode cX6_heir 2 = .ok (.invokevirtual 178, 3) := by decide +kernel
theorem dX6_heir_5 : decode cX6_heir 5 = .ok (.ifCond .eq 15, 3) := by decide +kernel
theorem dX6_heir_8 : decode cX6_heir 8 = .ok (.iload_n 2, 1) := by decide +kernel
theorem dX6_heir_9 : decode cX6_heir 9 = .ok (.i2l, 1) := by decide +kernel
theorem dX6_heir_10 : decode cX6_heir 10 = .ok (.lconst 0, 1) := by decide +kernel
theorem dX6_heir_11 : decode cX6_heir 11 = .ok (.ldc2_w 182, 3) := by decide +kernel
theorem dX6_heir_14 : decode cX6_heir 14 = .ok (.invokestatic 71, 3) := by decide +kernel
theorem dX6_heir_17 : decode cX6_heir 17 = .ok (.ifCond .ne 5, 3) := by decide +kernel
theorem dX6_heir_20 : decode cX6_heir 20 = .ok (.iconst (-1), 1) := by decide +kernel
theorem dX6_heir_21 : decode cX6_heir 21 = .ok (.ireturn, 1) := by decide +kernel
theorem dX6_heir_22 : decode cX6_heir 22 = .ok (.aload_n 0, 1) := by decide +kernel
theorem dX6_heir_23 : decode cX6_heir 23 = .ok (.invokevirtual 184, 3) := by decide +kernel
theorem dX6_heir_26 : decode cX6_heir 26 = .ok (.iload_n 2, 1) := by decide +kernel
theorem dX6_heir_27 : decode cX6_heir 27 = .ok (.iconst 4, 1) := by decide +kernel
theorem dX6_heir_28 : decode cX6_heir 28 = .ok (.if_icmp .ge 12, 3) := by decide +kernel
theorem dX6_heir_31 : decode cX6_heir 31 = .ok (.aload_n 0, 1) := by decide +kernel
theorem dX6_heir_32 : decode cX6_heir 32 = .ok (.iload_n 1, 1) := by decide +kernel
theorem dX6_heir_33 : decode cX6_heir 33 = .ok (.iload_n 2, 1) := by decide +kernel
theorem dX6_heir_34 : decode cX6_heir 34 = .ok (.invokevirtual 147, 3) := by decide +kernel
theorem dX6_heir_37 : decode cX6_heir 37 = .ok (.goto 21, 3) := by decide +kernel
theorem dX6_heir_40 : decode cX6_heir 40 = .ok (.iload_n 2, 1) := by decide +kernel
theorem dX6_heir_41 : decode cX6_heir 41 = .ok (.iconst 4, 1) := by decide +kernel
theorem dX6_heir_42 : decode cX6_heir 42 = .ok (.if_icmp .ne 11, 3) := by decide +kernel
theorem dX6_heir_45 : decode cX6_heir 45 = .ok (.aload_n 0, 1) := by decide +kernel
theorem dX6_heir_46 : decode cX6_heir 46 = .ok (.iload_n 1, 1) := by decide +kernel
theorem dX6_heir_47 : decode cX6_heir 47 = .ok (.invokevirtual 153, 3) := by decide +kernel
theorem dX6_heir_50 : decode cX6_heir 50 = .ok (.goto 8, 3) := by decide +kernel
theorem dX6_heir_53 : decode cX6_heir 53 = .ok (.aload_n 0, 1) := by decide +kernel
theorem dX6_heir_54 : decode cX6_heir 54 = .ok (.iload_n 1, 1) := by decide +kernel
theorem dX6_heir_55 : decode cX6_heir 55 = .ok (.invokevirtual 187, 3) := by decide +kernel
theorem dX6_heir_58 : decode cX6_heir 58 = .ok (.ireturn, 1) := by decide +kernel
set_option maxRecDepth 20000 in
theorem ggX6_line_X6_isHeir : GoodIn wsX6_line wsX6_isHeir := goodIn_r _ [6, 1, 7, 8, 5, 9, 10, 11, 12, 13, 14, 15, 16, 17, 18, 19, 20, 21, 22, 23, 24, 25, 26, 27, 28, 29, 30, 31, 32, 33, 34, 35, 36, 37, 38, 39, 40] (by decide +kernel) (by decide +kernel)
set_option maxRecDepth 20000 in
theorem gX6_line_X6_isHeir : GoodIn wsX6_line (wsV RX6 178 RX6 yX6_isHeir wsX6_isHeir) := goodIn_app (goodIn_of _ (by decide +kernel)) ggX6_line_X6_isHeir
theorem dX6_line_0 : decode cX6_line 0 = .ok (.aload_n 0, 1) := by decide +kernel
theorem dX6_line_1 : decode cX6_line 1 = .ok (.iload_n 1, 1) := by decide +kernel
theorem dX6_line_2 : decode cX6_line 2 = .ok (.invokevirtual 178, 3) := by decide +kernel
theorem dX6_line_5 : decode cX6_line 5 = .ok (.ifCond .eq 15, 3) := by decide +kernel
theorem dX6_line_8 : decode cX6_line 8 = .ok (.aload_n 0, 1) := by decide +kernel
theorem dX6_line_9 : decode cX6_line 9 = .ok (.getfield 7, 3) := by decide +kernel
theorem dX6_line_12 : decode cX6_line 12 = .ok (.bipush 25, 2) := by decide +kernel
theorem dX6_line_14 : decode cX6_line 14 = .ok (.iload_n 1, 1) := by decide +kernel
theorem dX6_line_15 : decode cX6_line 15 = .ok (.iadd, 1) := by decide +kernel
theorem dX6_line_16 : decode cX6_line 16 = .ok (.iaload, 1) := by decide +kernel
theorem dX6_line_17 : decode cX6_line 17 = .ok (.goto 4, 3) := by decide +kernel
theorem dX6_line_20 : decode cX6_line 20 = .ok (.iconst (-1), 1) := by decide +kernel
theorem dX6_line_21 : decode cX6_line 21 = .ok (.ireturn, 1) := by decide +kernel
theorem dX6_becomes_0 : decode cX6_becomes 0 = .ok (.aload_n 0, 1) := by decide +kernel
theorem dX6_becomes_1 : decode cX6_becomes 1 = .ok (.getfield 7, 3) := by decide +kernel
theorem dX6_becomes_4 : decode cX6_becomes 4 = .ok (.iload_n 1, 1) := by decide +kernel
theorem dX6_becomes_5 : decode cX6_becomes 5 = .ok (.iaload, 1) := by decide +kernel
theorem dX6_becomes_6 : decode cX6_becomes 6 = .ok (.istore_n 3, 1) := by decide +kernel
theorem dX6_becomes_7 : decode cX6_becomes 7 = .ok (.aload_n 0, 1) := by decide +kernel
theorem dX6_becomes_8 : decode cX6_becomes 8 = .ok (.getfield 7, 3) := by decide +kernel
theorem dX6_becomes_11 : decode cX6_becomes 11 = .ok (.iload_n 1, 1) := by decide +kernel
theorem dX6_becomes_12 : decode cX6_becomes 12 = .ok (.iload_n 2, 1) := by decide +kernel
theorem dX6_becomes_13 : decode cX6_becomes 13 = .ok (.iastore, 1) := by decide +kernel
theorem dX6_becomes_14 : decode cX6_becomes 14 = .ok (.iload_n 3, 1) := by decide +kernel
theorem dX6_becomes_15 : decode cX6_becomes 15 = .ok (.ireturn, 1) := by decide +kernel
set_option maxRecDepth 20000 in
theorem ggX6_canBe_X6_in : GoodIn wsX6_canBe wsX6_in := goodIn_r _ [7] (by decide +kernel) (by decide +kernel)
set_option maxRecDepth 20000 in
theorem gX6_canBe_X6_in : GoodIn wsX6_canBe (va_wsS RX6 71 yX6_in wsX6_in) := goodIn_app (goodIn_of _ (by decide +kernel)) ggX6_canBe_X6_in
theorem dX6_canBe_0 : decode cX6_canBe 0 = .ok (.iload_n 0, 1) := by decide +kernel
theorem dX6_canBe_1 : decode cX6_canBe 1 = .ok (.tableswitch 71 0 3 #[31, 41, 51, 61], 31) := by decide +kernel
theorem dX6_canBe_32 : decode cX6_canBe 32 = .ok (.iload_n 1, 1) := by decide +kernel
theorem dX6_canBe_33 : decode cX6_canBe 33 = .ok (.i2l, 1) := by decide +kernel
theorem dX6_canBe_34 : decode cX6_canBe 34 = .ok (.lconst 0, 1) := by decide +kernel
theorem dX6_canBe_35 : decode cX6_canBe 35 = .ok (.ldc2_w 190, 3) := by decide +kernel
theorem dX6_canBe_38 : decode cX6_canBe 38 = .ok (.invokestatic 71, 3) := by decide +kernel
theorem dX6_canBe_41 : decode cX6_canBe 41 = .ok (.ireturn, 1) := by decide +kernel
theorem dX6_canBe_42 : decode cX6_canBe 42 = .ok (.iload_n 1, 1) := by decide +kernel
theorem dX6_canBe_43 : decode cX6_canBe 43 = .ok (.i2l, 1) := by decide +kernel
theorem dX6_canBe_44 : decode cX6_canBe 44 = .ok (.lconst 0, 1) := by decide +kernel
theorem dX6_canBe_45 : decode cX6_canBe 45 = .ok (.ldc2_w 192, 3) := by decide +kernel
theorem dX6_canBe_48 : decode cX6_canBe 48 = .ok (.invokestatic 71, 3) := by decide +kernel
theorem dX6_canBe_51 : decode cX6_canBe 51 = .ok (.ireturn, 1) := by decide +kernel
theorem dX6_canBe_52 : decode cX6_canBe 52 = .ok (.iload_n 1, 1) := by decide +kernel
theorem dX6_canBe_53 : decode cX6_canBe 53 = .ok (.i2l, 1) := by decide +kernel
theorem dX6_canBe_54 : decode cX6_canBe 54 = .ok (.lconst 1, 1) := by decide +kernel
theorem dX6_canBe_55 : decode cX6_canBe 55 = .ok (.ldc2_w 192, 3) := by decide +kernel
theorem dX6_canBe_58 : decode cX6_canBe 58 = .ok (.invokestatic 71, 3) := by decide +kernel
theorem dX6_canBe_61 : decode cX6_canBe 61 = .ok (.ireturn, 1) := by decide +kernel
theorem dX6_canBe_62 : decode cX6_canBe 62 = .ok (.iload_n 1, 1) := by decide +kernel
theorem dX6_canBe_63 : decode cX6_canBe 63 = .ok (.i2l, 1) := by decide +kernel
theorem dX6_canBe_64 : decode cX6_canBe 64 = .ok (.lconst 1, 1) := by decide +kernel
theorem dX6_canBe_65 : decode cX6_canBe 65 = .ok (.ldc2_w 194, 3) := by decide +kernel
theorem dX6_canBe_68 : decode cX6_canBe 68 = .ok (.invokestatic 71, 3) := by decide +kernel
theorem dX6_canBe_71 : decode cX6_canBe 71 = .ok (.ireturn, 1) := by decide +kernel
theorem dX6_canBe_72 : decode cX6_canBe 72 = .ok (.iconst 0, 1) := by decide +kernel
theorem dX6_canBe_73 : decode cX6_canBe 73 = .ok (.ireturn, 1) := by decide +kernel
set_option maxRecDepth 20000 in
theorem ggX6_alter_X6_isHeir : GoodIn wsX6_alter wsX6_isHeir := goodIn_r _ [5, 6, 7, 8, 4, 9, 20, 21, 22, 23, 24, 25, 26, 27, 28, 29, 30, 31, 32, 33, 34, 35, 36, 37, 38, 39, 40, 41, 42, 43, 44, 45, 46, 47, 48, 49, 50] (by decide +kernel) (by decide +kernel)
set_option maxRecDepth 20000 in
theorem gX6_alter_X6_isHeir : GoodIn wsX6_alter (wsV RX6 178 RX6 yX6_isHeir wsX6_isHeir) := goodIn_app (goodIn_of _ (by decide +kernel)) ggX6_alter_X6_isHeir
set_option maxRecDepth 20000 in
theorem ggX6_alter_X6_canBe : GoodIn wsX6_alter wsX6_canBe := goodIn_r _ [12, 13, 14, 15, 7, 8, 4, 9] (by decide +kernel) (by decide +kernel)
set_option maxRecDepth 20000 in
theorem gX6_alter_X6_canBe : GoodIn wsX6_alter (va_wsS RX6 196 yX6_canBe wsX6_canBe) := goodIn_app (goodIn_of _ (by decide +kernel)) ggX6_alter_X6_canBe
set_option maxRecDepth 20000 in
theorem ggX6_alter_X6_becomes : GoodIn wsX6_alter wsX6_becomes := goodIn_r _ [19, 6, 20, 21, 22, 23, 24, 25, 26, 27, 28, 29, 30, 31, 32, 33, 34, 35, 36, 37, 38, 39, 40, 41, 42, 43, 44, 45, 46, 47, 48, 49, 50] (by decide +kernel) (by decide +kernel)
set_option maxRecDepth 20000 in
theorem gX6_alter_X6_becomes : GoodIn wsX6_alter (wsV RX6 200 RX6 yX6_becomes wsX6_becomes) := goodIn_app (goodIn_of _ (by decide +kernel)) ggX6_alter_X6_becomes
theorem dX6_alter_0 : decode cX6_alter 0 = .ok (.aload_n 0, 1) := by decide +kernel
theorem dX6_alter_1 : decode cX6_alter 1 = .ok (.iload_n 1, 1) := by decide +kernel
theorem dX6_alter_2 : decode cX6_alter 2 = .ok (.invokevirtual 178, 3) := by decide +kernel
theorem dX6_alter_5 : decode cX6_alter 5 = .ok (.ifCond .eq 24, 3) := by decide +kernel
theorem dX6_alter_8 : decode cX6_alter 8 = .ok (.iload_n 2, 1) := by decide +kernel
theorem dX6_alter_9 : decode cX6_alter 9 = .ok (.iload_n 3, 1) := by decide +kernel
theorem dX6_alter_10 : decode cX6_alter 10 = .ok (.invokestatic 196, 3) := by decide +kernel
theorem dX6_alter_13 : decode cX6_alter 13 = .ok (.ifCond .eq 16, 3) := by decide +kernel
theorem dX6_alter_16 : decode cX6_alter 16 = .ok (.aload_n 0, 1) := by decide +kernel
theorem dX6_alter_17 : decode cX6_alter 17 = .ok (.iconst 4, 1) := by decide +kernel
theorem dX6_alter_18 : decode cX6_alter 18 = .ok (.iload_n 1, 1) := by decide +kernel
theorem dX6_alter_19 : decode cX6_alter 19 = .ok (.imul, 1) := by decide +kernel
theorem dX6_alter_20 : decode cX6_alter 20 = .ok (.iload_n 2, 1) := by decide +kernel
theorem dX6_alter_21 : decode cX6_alter 21 = .ok (.iadd, 1) := by decide +kernel
theorem dX6_alter_22 : decode cX6_alter 22 = .ok (.iload_n 3, 1) := by decide +kernel
theorem dX6_alter_23 : decode cX6_alter 23 = .ok (.invokevirtual 200, 3) := by decide +kernel
theorem dX6_alter_26 : decode cX6_alter 26 = .ok (.goto 4, 3) := by decide +kernel
theorem dX6_alter_29 : decode cX6_alter 29 = .ok (.iconst (-1), 1) := by decide +kernel
theorem dX6_alter_30 : decode cX6_alter 30 = .ok (.ireturn, 1) := by decide +kernel
set_option maxRecDepth 20000 in
theorem ggX6_lumbago_X6_in : GoodIn wsX6_lumbago wsX6_in := goodIn_r _ [5] (by decide +kernel) (by decide +kernel)
set_option maxRecDepth 20000 in
theorem gX6_lumbago_X6_in : GoodIn wsX6_lumbago (va_wsS RX6 71 yX6_in wsX6_in) := goodIn_app (goodIn_of _ (by decide +kernel)) ggX6_lumbago_X6_in
set_option maxRecDepth 20000 in
theorem ggX6_lumbago_X6_becomes : GoodIn wsX6_lumbago wsX6_becomes := goodIn_r _ [9, 10, 11, 12, 13, 14, 15, 16, 17, 18, 19, 20, 21, 22, 23, 24, 25, 26, 27, 28, 29, 30, 31, 32, 33, 34, 35, 36, 37, 38, 39, 40, 41] (by decide +kernel) (by decide +kernel)
set_option maxRecDepth 20000 in
theorem gX6_lumbago_X6_becomes : GoodIn wsX6_lumbago (wsV RX6 200 RX6 yX6_becomes wsX6_becomes) := goodIn_app (goodIn_of _ (by decide +kernel)) ggX6_lumbago_X6_becomes
theorem dX6_lumbago_0 : decode cX6_lumbago 0 = .ok (.iload_n 1, 1) := by decide +kernel
theorem dX6_lumbago_1 : decode cX6_lumbago 1 = .ok (.i2l, 1) := by decide +kernel
theorem dX6_lumbago_2 : decode cX6_lumbago 2 = .ok (.lconst 0, 1) := by decide +kernel
theorem dX6_lumbago_3 : decode cX6_lumbago 3 = .ok (.ldc2_w 203, 3) := by decide +kernel
theorem dX6_lumbago_6 : decode cX6_lumbago 6 = .ok (.invokestatic 71, 3) := by decide +kernel
theorem dX6_lumbago_9 : decode cX6_lumbago 9 = .ok (.ifCond .eq 13, 3) := by decide +kernel
theorem dX6_lumbago_12 : decode cX6_lumbago 12 = .ok (.aload_n 0, 1) := by decide +kernel
theorem dX6_lumbago_13 : decode cX6_lumbago 13 = .ok (.bipush 31, 2) := by decide +kernel
theorem dX6_lumbago_15 : decode cX6_lumbago 15 = .ok (.iload_n 1, 1) := by decide +kernel
theorem dX6_lumbago_16 : decode cX6_lumbago 16 = .ok (.invokevirtual 200, 3) := by decide +kernel
theorem dX6_lumbago_19 : decode cX6_lumbago 19 = .ok (.goto 4, 3) := by decide +kernel
theorem dX6_lumbago_22 : decode cX6_lumbago 22 = .ok (.iconst (-1), 1) := by decide +kernel
theorem dX6_lumbago_23 : decode cX6_lumbago 23 = .ok (.ireturn, 1) := by decide +kernel
set_option maxRecDepth 20000 in
theorem ggX6_works_X6_in : GoodIn wsX6_works wsX6_in := goodIn_r _ [5] (by decide +kernel) (by decide +kernel)
set_option maxRecDepth 20000 in
theorem gX6_works_X6_in : GoodIn wsX6_works (va_wsS RX6 71 yX6_in wsX6_in) := goodIn_app (goodIn_of _ (by decide +kernel)) ggX6_works_X6_in
set_option maxRecDepth 20000 in
theorem ggX6_works_X6_becomes : GoodIn wsX6_works wsX6_becomes := goodIn_r _ [9, 10, 11, 12, 13, 14, 15, 16, 17, 18, 19, 20, 21, 22, 23, 24, 25, 26, 27, 28, 29, 30, 31, 32, 33, 34, 35, 36, 37, 38, 39, 40, 41] (by decide +kernel) (by decide +kernel)
set_option maxRecDepth 20000 in
theorem gX6_works_X6_becomes : GoodIn wsX6_works (wsV RX6 200 RX6 yX6_becomes wsX6_becomes) := goodIn_app (goodIn_of _ (by decide +kernel)) ggX6_works_X6_becomes
theorem dX6_works_0 : decode cX6_works 0 = .ok (.iload_n 1, 1) := by decide +kernel
theorem dX6_works_1 : decode cX6_works 1 = .ok (.i2l, 1) := by decide +kernel
theorem dX6_works_2 : decode cX6_works 2 = .ok (.lconst 0, 1) := by decide +kernel
theorem dX6_works_3 : decode cX6_works 3 = .ok (.ldc2_w 205, 3) := by decide +kernel
theorem dX6_works_6 : decode cX6_works 6 = .ok (.invokestatic 71, 3) := by decide +kernel
theorem dX6_works_9 : decode cX6_works 9 = .ok (.ifCond .eq 13, 3) := by decide +kernel
theorem dX6_works_12 : decode cX6_works 12 = .ok (.aload_n 0, 1) := by decide +kernel
theorem dX6_works_13 : decode cX6_works 13 = .ok (.bipush 32, 2) := by decide +kernel
theorem dX6_works_15 : decode cX6_works 15 = .ok (.iload_n 1, 1) := by decide +kernel
theorem dX6_works_16 : decode cX6_works 16 = .ok (.invokevirtual 200, 3) := by decide +kernel
theorem dX6_works_19 : decode cX6_works 19 = .ok (.goto 4, 3) := by decide +kernel
theorem dX6_works_22 : decode cX6_works 22 = .ok (.iconst (-1), 1) := by decide +kernel
theorem dX6_works_23 : decode cX6_works 23 = .ok (.ireturn, 1) := by decide +kernel
set_option maxRecDepth 20000 in
theorem ggX6_change_X6_isHeir : GoodIn wsX6_change wsX6_isHeir := goodIn_r _ [6, 1, 7, 8, 5, 9, 10, 11, 12, 13, 14, 15, 16, 17, 18, 19, 20, 21, 22, 23, 24, 25, 26, 27, 28, 29, 30, 31, 32, 33, 34, 35, 36, 37, 38, 39, 40] (by decide +kernel) (by decide +kernel)
set_option maxRecDepth 20000 in
theorem gX6_change_X6_isHeir : GoodIn wsX6_change (wsV RX6 178 RX6 yX6_isHeir wsX6_isHeir) := goodIn_app (goodIn_of _ (by decide +kernel)) ggX6_change_X6_isHeir
theorem dX6_change_0 : decode cX6_change 0 = .ok (.aload_n 0, 1) := by decide +kernel
theorem dX6_change_1 : decode cX6_change 1 = .ok (.iload_n 1, 1) := by decide +kernel
theorem dX6_change_2 : decode cX6_change 2 = .ok (.invokevirtual 178, 3) := by decide +kernel
theorem dX6_change_5 : decode cX6_change 5 = .ok (.ifCond .eq 16, 3) := by decide +kernel
theorem dX6_change_8 : decode cX6_change 8 = .ok (.aload_n 0, 1) := by decide +kernel
theorem dX6_change_9 : decode cX6_change 9 = .ok (.iload_n 2, 1) := by decide +kernel
theorem dX6_change_10 : decode cX6_change 10 = .ok (.invokevirtual 178, 3) := by decide +kernel
theorem dX6_change_13 : decode cX6_change 13 = .ok (.ifCond .eq 8, 3) := by decide +kernel
theorem dX6_change_16 : decode cX6_change 16 = .ok (.iload_n 1, 1) := by decide +kernel
theorem dX6_change_17 : decode cX6_change 17 = .ok (.iload_n 2, 1) := by decide +kernel
theorem dX6_change_18 : decode cX6_change 18 = .ok (.if_icmp .ne 5, 3) := by decide +kernel
theorem dX6_change_21 : decode cX6_change 21 = .ok (.iconst (-1), 1) := by decide +kernel
theorem dX6_change_22 : decode cX6_change 22 = .ok (.ireturn, 1) := by decide +kernel
theorem dX6_change_23 : decode cX6_change 23 = .ok (.aload_n 0, 1) := by decide +kernel
theorem dX6_change_24 : decode cX6_change 24 = .ok (.getfield 7, 3) := by decide +kernel
theorem dX6_change_27 : decode cX6_change 27 = .ok (.bipush 25, 2) := by decide +kernel
theorem dX6_change_29 : decode cX6_change 29 = .ok (.iload_n 1, 1) := by decide +kernel
theorem dX6_change_30 : decode cX6_change 30 = .ok (.iadd, 1) := by decide +kernel
theorem dX6_change_31 : decode cX6_change 31 = .ok (.iaload, 1) := by decide +kernel
theorem dX6_change_32 : decode cX6_change 32 = .ok (.istore_n 3, 1) := by decide +kernel
theorem dX6_change_33 : decode cX6_change 33 = .ok (.aload_n 0, 1) := by decide +kernel
theorem dX6_change_34 : decode cX6_change 34 = .ok (.getfield 7, 3) := by decide +kernel
theorem dX6_change_37 : decode cX6_change 37 = .ok (.bipush 25, 2) := by decide +kernel
theorem dX6_change_39 : decode cX6_change 39 = .ok (.iload_n 1, 1) := by decide +kernel
theorem dX6_change_40 : decode cX6_change 40 = .ok (.iadd, 1) := by decide +kernel
theorem dX6_change_41 : decode cX6_change 41 = .ok (.aload_n 0, 1) := by decide +kernel
theorem dX6_change_42 : decode cX6_change 42 = .ok (.getfield 7, 3) := by decide +kernel
theorem dX6_change_45 : decode cX6_change 45 = .ok (.bipush 25, 2) := by decide +kernel
theorem dX6_change_47 : decode cX6_change 47 = .ok (.iload_n 2, 1) := by decide +kernel
theorem dX6_change_48 : decode cX6_change 48 = .ok (.iadd, 1) := by decide +kernel
theorem dX6_change_49 : decode cX6_change 49 = .ok (.iaload, 1) := by decide +kernel
theorem dX6_change_50 : decode cX6_change 50 = .ok (.iastore, 1) := by decide +kernel
theorem dX6_change_51 : decode cX6_change 51 = .ok (.aload_n 0, 1) := by decide +kernel
theorem dX6_change_52 : decode cX6_change 52 = .ok (.getfield 7, 3) := by decide +kernel
theorem dX6_change_55 : decode cX6_change 55 = .ok (.bipush 25, 2) := by decide +kernel
theorem dX6_change_57 : decode cX6_change 57 = .ok (.iload_n 2, 1) := by decide +kernel
theorem dX6_change_58 : decode cX6_change 58 = .ok (.iadd, 1) := by decide +kernel
theorem dX6_change_59 : decode cX6_change 59 = .ok (.iload_n 3, 1) := by decide +kernel
theorem dX6_change_60 : decode cX6_change 60 = .ok (.iastore, 1) := by decide +kernel
theorem dX6_change_61 : decode cX6_change 61 = .ok (.iload_n 3, 1) := by decide +kernel
theorem dX6_change_62 : decode cX6_change 62 = .ok (.ireturn, 1) := by decide +kernel
set_option maxRecDepth 20000 in
theorem ggX6_bear_X6_canBe : GoodIn wsX6_bear wsX6_canBe := goodIn_r _ [5, 6, 7, 8, 9, 10, 4, 11] (by decide +kernel) (by decide +kernel)
set_option maxRecDepth 20000 in
theorem gX6_bear_X6_canBe : GoodIn wsX6_bear (va_wsS RX6 196 yX6_canBe wsX6_canBe) := goodIn_app (goodIn_of _ (by decide +kernel)) ggX6_bear_X6_canBe
theorem dX6_bear_0 : decode cX6_bear 0 = .ok (.iconst 1, 1) := by decide +kernel
theorem dX6_bear_1 : decode cX6_bear 1 = .ok (.iload_n 1, 1) := by decide +kernel
theorem dX6_bear_2 : decode cX6_bear 2 = .ok (.invokestatic 196, 3) := by decide +kernel
theorem dX6_bear_5 : decode cX6_bear 5 = .ok (.ifCond .eq 19, 3) := by decide +kernel
theorem dX6_bear_8 : decode cX6_bear 8 = .ok (.iconst 2, 1) := by decide +kernel
theorem dX6_bear_9 : decode cX6_bear 9 = .ok (.iload_n 2, 1) := by decide +kernel
theorem dX6_bear_10 : decode cX6_bear 10 = .ok (.invokestatic 196, 3) := by decide +kernel
theorem dX6_bear_13 : decode cX6_bear 13 = .ok (.ifCond .eq 11, 3) := by decide +kernel
theorem dX6_bear_16 : decode cX6_bear 16 = .ok (.iconst 3, 1) := by decide +kernel
theorem dX6_bear_17 : decode cX6_bear 17 = .ok (.iload_n 3, 1) := by decide +kernel
theorem dX6_bear_18 : decode cX6_bear 18 = .ok (.invokestatic 196, 3) := by decide +kernel
theorem dX6_bear_21 : decode cX6_bear 21 = .ok (.ifCond .ne 5, 3) := by decide +kernel
theorem dX6_bear_24 : decode cX6_bear 24 = .ok (.iconst (-1), 1) := by decide +kernel
theorem dX6_bear_25 : decode cX6_bear 25 = .ok (.ireturn, 1) := by decide +kernel
theorem dX6_bear_26 : decode cX6_bear 26 = .ok (.aload_n 0, 1) := by decide +kernel
theorem dX6_bear_27 : decode cX6_bear 27 = .ok (.getfield 7, 3) := by decide +kernel
theorem dX6_bear_30 : decode cX6_bear 30 = .ok (.bipush 24, 2) := by decide +kernel
theorem dX6_bear_32 : decode cX6_bear 32 = .ok (.iaload, 1) := by decide +kernel
theorem dX6_bear_33 : decode cX6_bear 33 = .ok (.bipush 6, 2) := by decide +kernel
theorem dX6_bear_35 : decode cX6_bear 35 = .ok (.if_icmp .ne 6, 3) := by decide +kernel
theorem dX6_bear_38 : decode cX6_bear 38 = .ok (.bipush (-3), 2) := by decide +kernel
theorem dX6_bear_40 : decode cX6_bear 40 = .ok (.ireturn, 1) := by decide +kernel
theorem dX6_bear_41 : decode cX6_bear 41 = .ok (.iconst 4, 1) := by decide +kernel
theorem dX6_bear_42 : decode cX6_bear 42 = .ok (.aload_n 0, 1) := by decide +kernel
theorem dX6_bear_43 : decode cX6_bear 43 = .ok (.getfield 7, 3) := by decide +kernel
theorem dX6_bear_46 : decode cX6_bear 46 = .ok (.bipush 24, 2) := by decide +kernel
theorem dX6_bear_48 : decode cX6_bear 48 = .ok (.iaload, 1) := by decide +kernel
theorem dX6_bear_49 : decode cX6_bear 49 = .ok (.imul, 1) := by decide +kernel
theorem dX6_bear_50 : decode cX6_bear 50 = .ok (.istore 4, 2) := by decide +kernel
theorem dX6_bear_52 : decode cX6_bear 52 = .ok (.aload_n 0, 1) := by decide +kernel
theorem dX6_bear_53 : decode cX6_bear 53 = .ok (.getfield 7, 3) := by decide +kernel
theorem dX6_bear_56 : decode cX6_bear 56 = .ok (.iload 4, 2) := by decide +kernel
theorem dX6_bear_58 : decode cX6_bear 58 = .ok (.iconst 0, 1) := by decide +kernel
theorem dX6_bear_59 : decode cX6_bear 59 = .ok (.iadd, 1) := by decide +kernel
theorem dX6_bear_60 : decode cX6_bear 60 = .ok (.iconst 0, 1) := by decide +kernel
theorem dX6_bear_61 : decode cX6_bear 61 = .ok (.iastore, 1) := by decide +kernel
theorem dX6_bear_62 : decode cX6_bear 62 = .ok (.aload_n 0, 1) := by decide +kernel
theorem dX6_bear_63 : decode cX6_bear 63 = .ok (.getfield 7, 3) := by decide +kernel
theorem dX6_bear_66 : decode cX6_bear 66 = .ok (.iload 4, 2) := by decide +kernel
theorem dX6_bear_68 : decode cX6_bear 68 = .ok (.iconst 1, 1) := by decide +kernel
theorem dX6_bear_69 : decode cX6_bear 69 = .ok (.iadd, 1) := by decide +kernel
theorem dX6_bear_70 : decode cX6_bear 70 = .ok (.iload_n 1, 1) := by decide +kernel
theorem dX6_bear_71 : decode cX6_bear 71 = .ok (.iastore, 1) := by decide +kernel
theorem dX6_bear_72 : decode cX6_bear 72 = .ok (.aload_n 0, 1) := by decide +kernel
theorem dX6_bear_73 : decode cX6_bear 73 = .ok (.getfield 7, 3) := by decide +kernel
theorem dX6_bear_76 : decode cX6_bear 76 = .ok (.iload 4, 2) := by decide +kernel
theorem dX6_bear_78 : decode cX6_bear 78 = .ok (.iconst 2, 1) := by decide +kernel
theorem dX6_bear_79 : decode cX6_bear 79 = .ok (.iadd, 1) := by decide +kernel
theorem dX6_bear_80 : decode cX6_bear 80 = .ok (.iload_n 2, 1) := by decide +kernel
theorem dX6_bear_81 : decode cX6_bear 81 = .ok (.iastore, 1) := by decide +kernel
theorem dX6_bear_82 : decode cX6_bear 82 = .ok (.aload_n 0, 1) := by decide +kernel
theorem dX6_bear_83 : decode cX6_bear 83 = .ok (.getfield 7, 3) := by decide +kernel
theorem dX6_bear_86 : decode cX6_bear 86 = .ok (.iload 4, 2) := by decide +kernel
theorem dX6_bear_88 : decode cX6_bear 88 = .ok (.iconst 3, 1) := by decide +kernel
theorem dX6_bear_89 : decode cX6_bear 89 = .ok (.iadd, 1) := by decide +kernel
theorem dX6_bear_90 : decode cX6_bear 90 = .ok (.iload_n 3, 1) := by decide +kernel
theorem dX6_bear_91 : decode cX6_bear 91 = .ok (.iastore, 1) := by decide +kernel
theorem dX6_bear_92 : decode cX6_bear 92 = .ok (.aload_n 0, 1) := by decide +kernel
theorem dX6_bear_93 : decode cX6_bear 93 = .ok (.getfield 7, 3) := by decide +kernel
theorem dX6_bear_96 : decode cX6_bear 96 = .ok (.bipush 25, 2) := by decide +kernel
theorem dX6_bear_98 : decode cX6_bear 98 = .ok (.aload_n 0, 1) := by decide +kernel
theorem dX6_bear_99 : decode cX6_bear 99 = .ok (.getfield 7, 3) := by decide +kernel
theorem dX6_bear_102 : decode cX6_bear 102 = .ok (.bipush 24, 2) := by decide +kernel
theorem dX6_bear_104 : decode cX6_bear 104 = .ok (.iaload, 1) := by decide +kernel
theorem dX6_bear_105 : decode cX6_bear 105 = .ok (.iadd, 1) := by decide +kernel
theorem dX6_bear_106 : decode cX6_bear 106 = .ok (.aload_n 0, 1) := by decide +kernel
theorem dX6_bear_107 : decode cX6_bear 107 = .ok (.getfield 7, 3) := by decide +kernel
theorem dX6_bear_110 : decode cX6_bear 110 = .ok (.bipush 24, 2) := by decide +kernel
theorem dX6_bear_112 : decode cX6_bear 112 = .ok (.iaload, 1) := by decide +kernel
theorem dX6_bear_113 : decode cX6_bear 113 = .ok (.iastore, 1) := by decide +kernel
theorem dX6_bear_114 : decode cX6_bear 114 = .ok (.aload_n 0, 1) := by decide +kernel
theorem dX6_bear_115 : decode cX6_bear 115 = .ok (.getfield 7, 3) := by decide +kernel
theorem dX6_bear_118 : decode cX6_bear 118 = .ok (.bipush 24, 2) := by decide +kernel
theorem dX6_bear_120 : decode cX6_bear 120 = .ok (.dup2, 1) := by decide +kernel
theorem dX6_bear_121 : decode cX6_bear 121 = .ok (.iaload, 1) := by decide +kernel
theorem dX6_bear_122 : decode cX6_bear 122 = .ok (.iconst 1, 1) := by decide +kernel
theorem dX6_bear_123 : decode cX6_bear 123 = .ok (.iadd, 1) := by decide +kernel
theorem dX6_bear_124 : decode cX6_bear 124 = .ok (.iastore, 1) := by decide +kernel
theorem dX6_bear_125 : decode cX6_bear 125 = .ok (.aload_n 0, 1) := by decide +kernel
theorem dX6_bear_126 : decode cX6_bear 126 = .ok (.getfield 7, 3) := by decide +kernel
theorem dX6_bear_129 : decode cX6_bear 129 = .ok (.bipush 24, 2) := by decide +kernel
theorem dX6_bear_131 : decode cX6_bear 131 = .ok (.iaload, 1) := by decide +kernel
theorem dX6_bear_132 : decode cX6_bear 132 = .ok (.ireturn, 1) := by decide +kernel
set_option maxRecDepth 20000 in
theorem ggX6_reigns_X6_in : GoodIn wsX6_reigns wsX6_in := goodIn_r _ [6] (by decide +kernel) (by decide +kernel)
set_option maxRecDepth 20000 in
theorem gX6_reigns_X6_in : GoodIn wsX6_reigns (va_wsS RX6 71 yX6_in wsX6_in) := goodIn_app (goodIn_of _ (by decide +kernel)) ggX6_reigns_X6_in
set_option maxRecDepth 20000 in
theorem ggX6_reigns_X6_areTwo : GoodIn wsX6_reigns wsX6_areTwo := goodIn_r _ [10, 2, 50, 51, 52, 53, 54, 55, 56, 57, 58, 59, 60, 61, 62, 63, 64, 65, 66, 67, 68, 69, 70, 71, 72, 73, 74, 75, 76, 77, 78, 79, 80] (by decide +kernel) (by decide +kernel)
set_option maxRecDepth 20000 in
theorem gX6_reigns_X6_areTwo : GoodIn wsX6_reigns (wsV RX6 207 RX6 yX6_areTwo wsX6_areTwo) := goodIn_app (goodIn_of _ (by decide +kernel)) ggX6_reigns_X6_areTwo
set_option maxRecDepth 20000 in
theorem ggX6_reigns_X6_starts : GoodIn wsX6_reigns wsX6_starts := goodIn_r _ [14, 15, 2, 50, 51, 52, 53, 54, 55, 56, 57, 58, 59, 60, 61, 62, 63, 64, 65, 66, 67, 68, 69, 70, 71, 72, 73, 74, 75, 76, 77, 78, 79, 80] (by decide +kernel) (by decide +kernel)
set_option maxRecDepth 20000 in
theorem gX6_reigns_X6_starts : GoodIn wsX6_reigns (wsV RX6 184 RX6 yX6_starts wsX6_starts) := goodIn_app (goodIn_of _ (by decide +kernel)) ggX6_reigns_X6_starts
set_option maxRecDepth 20000 in
theorem ggX6_reigns_X6_reignsGo : GoodIn wsX6_reigns wsX6_reignsGo := goodIn_r _ [19, 20, 21, 22, 5, 23, 15, 24, 25, 26, 27, 28, 29, 30, 31, 32, 33, 34, 35, 36, 37, 38, 39, 40, 41, 42, 43, 44, 45, 50, 51, 52, 53, 54, 55, 56, 57, 58, 59, 60, 61, 62, 63, 64, 65, 66, 67, 68, 69, 70, 71, 72, 73, 74, 75, 76, 77, 78, 79, 80] (by decide +kernel) (by decide +kernel)
set_option maxRecDepth 20000 in
theorem gX6_reigns_X6_reignsGo : GoodIn wsX6_reigns (wsV RX6 211 RX6 yX6_reignsGo wsX6_reignsGo) := goodIn_app (goodIn_of _ (by decide +kernel)) ggX6_reigns_X6_reignsGo
set_option maxRecDepth 20000 in
theorem ggX6_reigns_X6_settles : GoodIn wsX6_reigns wsX6_settles := goodIn_r _ [49, 2, 15, 50, 51, 52, 53, 54, 55, 56, 57, 58, 59, 60, 61, 62, 63, 64, 65, 66, 67, 68, 69, 70, 71, 72, 73, 74, 75, 76, 77, 78, 79, 80] (by decide +kernel) (by decide +kernel)
set_option maxRecDepth 20000 in
theorem gX6_reigns_X6_settles : GoodIn wsX6_reigns (wsV RX6 214 RX6 yX6_settles wsX6_settles) := goodIn_app (goodIn_of _ (by decide +kernel)) ggX6_reigns_X6_settles
theorem dX6_reigns_0 : decode cX6_reigns 0 = .ok (.iload_n 1, 1) := by decide +kernel
theorem dX6_reigns_1 : decode cX6_reigns 1 = .ok (.i2l, 1) := by decide +kernel
theorem dX6_reigns_2 : decode cX6_reigns 2 = .ok (.lconst 0, 1) := by decide +kernel
theorem dX6_reigns_3 : decode cX6_reigns 3 = .ok (.ldc2_w 194, 3) := by decide +kernel
theorem dX6_reigns_6 : decode cX6_reigns 6 = .ok (.invokestatic 71, 3) := by decide +kernel
theorem dX6_reigns_9 : decode cX6_reigns 9 = .ok (.ifCond .ne 5, 3) := by decide +kernel
theorem dX6_reigns_12 : decode cX6_reigns 12 = .ok (.iconst (-1), 1) := by decide +kernel
theorem dX6_reigns_13 : decode cX6_reigns 13 = .ok (.ireturn, 1) := by decide +kernel
theorem dX6_reigns_14 : decode cX6_reigns 14 = .ok (.aload_n 0, 1) := by decide +kernel
theorem dX6_reigns_15 : decode cX6_reigns 15 = .ok (.invokevirtual 207, 3) := by decide +kernel
theorem dX6_reigns_18 : decode cX6_reigns 18 = .ok (.ifCond .ne 6, 3) := by decide +kernel
theorem dX6_reigns_21 : decode cX6_reigns 21 = .ok (.bipush (-2), 2) := by decide +kernel
theorem dX6_reigns_23 : decode cX6_reigns 23 = .ok (.ireturn, 1) := by decide +kernel
theorem dX6_reigns_24 : decode cX6_reigns 24 = .ok (.aload_n 0, 1) := by decide +kernel
theorem dX6_reigns_25 : decode cX6_reigns 25 = .ok (.getfield 7, 3) := by decide +kernel
theorem dX6_reigns_28 : decode cX6_reigns 28 = .ok (.bipush 33, 2) := by decide +kernel
theorem dX6_reigns_30 : decode cX6_reigns 30 = .ok (.iaload, 1) := by decide +kernel
theorem dX6_reigns_31 : decode cX6_reigns 31 = .ok (.iload_n 1, 1) := by decide +kernel
theorem dX6_reigns_32 : decode cX6_reigns 32 = .ok (.iadd, 1) := by decide +kernel
theorem dX6_reigns_33 : decode cX6_reigns 33 = .ok (.sipush 999, 3) := by decide +kernel
theorem dX6_reigns_36 : decode cX6_reigns 36 = .ok (.if_icmp .le 6, 3) := by decide +kernel
theorem dX6_reigns_39 : decode cX6_reigns 39 = .ok (.bipush (-3), 2) := by decide +kernel
theorem dX6_reigns_41 : decode cX6_reigns 41 = .ok (.ireturn, 1) := by decide +kernel
theorem dX6_reigns_42 : decode cX6_reigns 42 = .ok (.aload_n 0, 1) := by decide +kernel
theorem dX6_reigns_43 : decode cX6_reigns 43 = .ok (.invokevirtual 184, 3) := by decide +kernel
theorem dX6_reigns_46 : decode cX6_reigns 46 = .ok (.aload_n 0, 1) := by decide +kernel
theorem dX6_reigns_47 : decode cX6_reigns 47 = .ok (.iload_n 1, 1) := by decide +kernel
theorem dX6_reigns_48 : decode cX6_reigns 48 = .ok (.invokevirtual 211, 3) := by decide +kernel
theorem dX6_reigns_51 : decode cX6_reigns 51 = .ok (.aload_n 0, 1) := by decide +kernel
theorem dX6_reigns_52 : decode cX6_reigns 52 = .ok (.invokevirtual 214, 3) := by decide +kernel
theorem dX6_reigns_55 : decode cX6_reigns 55 = .ok (.aload_n 0, 1) := by decide +kernel
theorem dX6_reigns_56 : decode cX6_reigns 56 = .ok (.getfield 7, 3) := by decide +kernel
theorem dX6_reigns_59 : decode cX6_reigns 59 = .ok (.bipush 32, 2) := by decide +kernel
theorem dX6_reigns_61 : decode cX6_reigns 61 = .ok (.iaload, 1) := by decide +kernel
theorem dX6_reigns_62 : decode cX6_reigns 62 = .ok (.ireturn, 1) := by decide +kernel
set_option maxRecDepth 20000 in
theorem ggX6_isFar_X6_in : GoodIn wsX6_isFar wsX6_in := goodIn_r _ [5] (by decide +kernel) (by decide +kernel)
set_option maxRecDepth 20000 in
theorem gX6_isFar_X6_in : GoodIn wsX6_isFar (va_wsS RX6 71 yX6_in wsX6_in) := goodIn_app (goodIn_of _ (by decide +kernel)) ggX6_isFar_X6_in
theorem dX6_isFar_0 : decode cX6_isFar 0 = .ok (.iload_n 0, 1) := by decide +kernel
theorem dX6_isFar_1 : decode cX6_isFar 1 = .ok (.i2l, 1) := by decide +kernel
theorem dX6_isFar_2 : decode cX6_isFar 2 = .ok (.lconst 0, 1) := by decide +kernel
theorem dX6_isFar_3 : decode cX6_isFar 3 = .ok (.ldc2_w 217, 3) := by decide +kernel
theorem dX6_isFar_6 : decode cX6_isFar 6 = .ok (.invokestatic 71, 3) := by decide +kernel
theorem dX6_isFar_9 : decode cX6_isFar 9 = .ok (.ireturn, 1) := by decide +kernel
set_option maxRecDepth 20000 in
theorem ggX6_runs_X6_isFar : GoodIn wsX6_runs wsX6_isFar := goodIn_r _ [9, 10, 11, 12, 8, 13] (by decide +kernel) (by decide +kernel)
set_option maxRecDepth 20000 in
theorem gX6_runs_X6_isFar : GoodIn wsX6_runs (va_wsS RX6 219 yX6_isFar wsX6_isFar) := goodIn_app (goodIn_of _ (by decide +kernel)) ggX6_runs_X6_isFar
set_option maxRecDepth 20000 in
theorem ggX6_runs_X6_in : GoodIn wsX6_runs wsX6_in := goodIn_r _ [13] (by decide +kernel) (by decide +kernel)
set_option maxRecDepth 20000 in
theorem gX6_runs_X6_in : GoodIn wsX6_runs (va_wsS RX6 71 yX6_in wsX6_in) := goodIn_app (goodIn_of _ (by decide +kernel)) ggX6_runs_X6_in
set_option maxRecDepth 20000 in
theorem ggX6_runs_X6_areTwo : GoodIn wsX6_runs wsX6_areTwo := goodIn_r _ [17, 5, 46, 47, 48, 49, 50, 51, 52, 53, 54, 55, 56, 57, 58, 59, 60, 61, 62, 63, 64, 65, 66, 67, 68, 69, 70, 71, 72, 73, 74, 75, 76] (by decide +kernel) (by decide +kernel)
set_option maxRecDepth 20000 in
theorem gX6_runs_X6_areTwo : GoodIn wsX6_runs (wsV RX6 207 RX6 yX6_areTwo wsX6_areTwo) := goodIn_app (goodIn_of _ (by decide +kernel)) ggX6_runs_X6_areTwo
set_option maxRecDepth 20000 in
theorem ggX6_runs_X6_starts : GoodIn wsX6_runs wsX6_starts := goodIn_r _ [21, 4, 5, 46, 47, 48, 49, 50, 51, 52, 53, 54, 55, 56, 57, 58, 59, 60, 61, 62, 63, 64, 65, 66, 67, 68, 69, 70, 71, 72, 73, 74, 75, 76] (by decide +kernel) (by decide +kernel)
set_option maxRecDepth 20000 in
theorem gX6_runs_X6_starts : GoodIn wsX6_runs (wsV RX6 184 RX6 yX6_starts wsX6_starts) := goodIn_app (goodIn_of _ (by decide +kernel)) ggX6_runs_X6_starts
set_option maxRecDepth 20000 in
theorem ggX6_runs_X6_reignGoes : GoodIn wsX6_runs wsX6_reignGoes := goodIn_r _ [25, 4, 2, 3, 26, 27, 28, 29, 8, 30, 31, 32, 33, 34, 35, 36, 37, 38, 39, 40, 41, 42, 43, 44, 45, 46, 47, 48, 49, 50, 51, 52, 53, 54, 55, 56, 57, 58, 59, 60, 61, 62, 63, 64, 65, 66, 67, 68, 69, 70, 71, 72, 73, 74, 75, 76] (by decide +kernel) (by decide +kernel)
set_option maxRecDepth 20000 in
theorem gX6_runs_X6_reignGoes : GoodIn wsX6_runs (wsV RX6 174 RX6 yX6_reignGoes wsX6_reignGoes) := goodIn_app (goodIn_of _ (by decide +kernel)) ggX6_runs_X6_reignGoes
theorem dX6_runs_0 : decode cX6_runs 0 = .ok (.iload_n 1, 1) := by decide +kernel
theorem dX6_runs_1 : decode cX6_runs 1 = .ok (.invokestatic 219, 3) := by decide +kernel
theorem dX6_runs_4 : decode cX6_runs 4 = .ok (.ifCond .eq 15, 3) := by decide +kernel
theorem dX6_runs_7 : decode cX6_runs 7 = .ok (.iload_n 2, 1) := by decide +kernel
theorem dX6_runs_8 : decode cX6_runs 8 = .ok (.i2l, 1) := by decide +kernel
theorem dX6_runs_9 : decode cX6_runs 9 = .ok (.lconst 0, 1) := by decide +kernel
theorem dX6_runs_10 : decode cX6_runs 10 = .ok (.ldc2_w 222, 3) := by decide +kernel
theorem dX6_runs_13 : decode cX6_runs 13 = .ok (.invokestatic 71, 3) := by decide +kernel
theorem dX6_runs_16 : decode cX6_runs 16 = .ok (.ifCond .ne 5, 3) := by decide +kernel
theorem dX6_runs_19 : decode cX6_runs 19 = .ok (.iconst (-1), 1) := by decide +kernel
theorem dX6_runs_20 : decode cX6_runs 20 = .ok (.ireturn, 1) := by decide +kernel
theorem dX6_runs_21 : decode cX6_runs 21 = .ok (.aload_n 0, 1) := by decide +kernel
theorem dX6_runs_22 : decode cX6_runs 22 = .ok (.invokevirtual 207, 3) := by decide +kernel
theorem dX6_runs_25 : decode cX6_runs 25 = .ok (.ifCond .ne 6, 3) := by decide +kernel
theorem dX6_runs_28 : decode cX6_runs 28 = .ok (.bipush (-2), 2) := by decide +kernel
theorem dX6_runs_30 : decode cX6_runs 30 = .ok (.ireturn, 1) := by decide +kernel
theorem dX6_runs_31 : decode cX6_runs 31 = .ok (.bipush (-4), 2) := by decide +kernel
theorem dX6_runs_33 : decode cX6_runs 33 = .ok (.istore_n 3, 1) := by decide +kernel
theorem dX6_runs_34 : decode cX6_runs 34 = .ok (.aload_n 0, 1) := by decide +kernel
theorem dX6_runs_35 : decode cX6_runs 35 = .ok (.invokevirtual 184, 3) := by decide +kernel
theorem dX6_runs_38 : decode cX6_runs 38 = .ok (.aload_n 0, 1) := by decide +kernel
theorem dX6_runs_39 : decode cX6_runs 39 = .ok (.bipush (-4), 2) := by decide +kernel
theorem dX6_runs_41 : decode cX6_runs 41 = .ok (.putfield 150, 3) := by decide +kernel
theorem dX6_runs_44 : decode cX6_runs 44 = .ok (.iconst 1, 1) := by decide +kernel
theorem dX6_runs_45 : decode cX6_runs 45 = .ok (.istore 4, 2) := by decide +kernel
theorem dX6_runs_47 : decode cX6_runs 47 = .ok (.iload 4, 2) := by decide +kernel
theorem dX6_runs_49 : decode cX6_runs 49 = .ok (.iload_n 1, 1) := by decide +kernel
theorem dX6_runs_50 : decode cX6_runs 50 = .ok (.if_icmp .gt 34, 3) := by decide +kernel
theorem dX6_runs_53 : decode cX6_runs 53 = .ok (.aload_n 0, 1) := by decide +kernel
theorem dX6_runs_54 : decode cX6_runs 54 = .ok (.iconst 0, 1) := by decide +kernel
theorem dX6_runs_55 : decode cX6_runs 55 = .ok (.invokevirtual 174, 3) := by decide +kernel
theorem dX6_runs_58 : decode cX6_runs 58 = .ok (.aload_n 0, 1) := by decide +kernel
theorem dX6_runs_59 : decode cX6_runs 59 = .ok (.getfield 156, 3) := by decide +kernel
theorem dX6_runs_62 : decode cX6_runs 62 = .ok (.ifCond .eq 14, 3) := by decide +kernel
theorem dX6_runs_65 : decode cX6_runs 65 = .ok (.iload_n 3, 1) := by decide +kernel
theorem dX6_runs_66 : decode cX6_runs 66 = .ok (.bipush (-4), 2) := by decide +kernel
theorem dX6_runs_68 : decode cX6_runs 68 = .ok (.if_icmp .ne 8, 3) := by decide +kernel
theorem dX6_runs_71 : decode cX6_runs 71 = .ok (.iload 4, 2) := by decide +kernel
theorem dX6_runs_73 : decode cX6_runs 73 = .ok (.goto 4, 3) := by decide +kernel
theorem dX6_runs_76 : decode cX6_runs 76 = .ok (.iload_n 3, 1) := by decide +kernel
theorem dX6_runs_77 : decode cX6_runs 77 = .ok (.istore_n 3, 1) := by decide +kernel
theorem dX6_runs_78 : decode cX6_runs 78 = .ok (.iinc 4 1, 3) := by decide +kernel
theorem dX6_runs_81 : decode cX6_runs 81 = .ok (.goto (-34), 3) := by decide +kernel
theorem dX6_runs_84 : decode cX6_runs 84 = .ok (.iload_n 2, 1) := by decide +kernel
theorem dX6_runs_85 : decode cX6_runs 85 = .ok (.tableswitch 73 0 3 #[31, 39, 55, 71], 31) := by decide +kernel
theorem dX6_runs_116 : decode cX6_runs 116 = .ok (.aload_n 0, 1) := by decide +kernel
theorem dX6_runs_117 : decode cX6_runs 117 = .ok (.getfield 13, 3) := by decide +kernel
theorem dX6_runs_120 : decode cX6_runs 120 = .ok (.bipush 32, 2) := by decide +kernel
theorem dX6_runs_122 : decode cX6_runs 122 = .ok (.iaload, 1) := by decide +kernel
theorem dX6_runs_123 : decode cX6_runs 123 = .ok (.ireturn, 1) := by decide +kernel
theorem dX6_runs_124 : decode cX6_runs 124 = .ok (.aload_n 0, 1) := by decide +kernel
theorem dX6_runs_125 : decode cX6_runs 125 = .ok (.getfield 13, 3) := by decide +kernel
theorem dX6_runs_128 : decode cX6_runs 128 = .ok (.bipush 34, 2) := by decide +kernel
theorem dX6_runs_130 : decode cX6_runs 130 = .ok (.iaload, 1) := by decide +kernel
theorem dX6_runs_131 : decode cX6_runs 131 = .ok (.aload_n 0, 1) := by decide +kernel
theorem dX6_runs_132 : decode cX6_runs 132 = .ok (.getfield 7, 3) := by decide +kernel
theorem dX6_runs_135 : decode cX6_runs 135 = .ok (.bipush 34, 2) := by decide +kernel
theorem dX6_runs_137 : decode cX6_runs 137 = .ok (.iaload, 1) := by decide +kernel
theorem dX6_runs_138 : decode cX6_runs 138 = .ok (.isub, 1) := by decide +kernel
theorem dX6_runs_139 : decode cX6_runs 139 = .ok (.ireturn, 1) := by decide +kernel
theorem dX6_runs_140 : decode cX6_runs 140 = .ok (.aload_n 0, 1) := by decide +kernel
theorem dX6_runs_141 : decode cX6_runs 141 = .ok (.getfield 13, 3) := by decide +kernel
theorem dX6_runs_144 : decode cX6_runs 144 = .ok (.bipush 35, 2) := by decide +kernel
theorem dX6_runs_146 : decode cX6_runs 146 = .ok (.iaload, 1) := by decide +kernel
theorem dX6_runs_147 : decode cX6_runs 147 = .ok (.aload_n 0, 1) := by decide +kernel
theorem dX6_runs_148 : decode cX6_runs 148 = .ok (.getfield 7, 3) := by decide +kernel
theorem dX6_runs_151 : decode cX6_runs 151 = .ok (.bipush 35, 2) := by decide +kernel
theorem dX6_runs_153 : decode cX6_runs 153 = .ok (.iaload, 1) := by decide +kernel
theorem dX6_runs_154 : decode cX6_runs 154 = .ok (.isub, 1) := by decide +kernel
theorem dX6_runs_155 : decode cX6_runs 155 = .ok (.ireturn, 1) := by decide +kernel
theorem dX6_runs_156 : decode cX6_runs 156 = .ok (.iload_n 3, 1) := by decide +kernel
theorem dX6_runs_157 : decode cX6_runs 157 = .ok (.ireturn, 1) := by decide +kernel
theorem dX6_runs_158 : decode cX6_runs 158 = .ok (.aload_n 0, 1) := by decide +kernel
theorem dX6_runs_159 : decode cX6_runs 159 = .ok (.getfield 150, 3) := by decide +kernel
theorem dX6_runs_162 : decode cX6_runs 162 = .ok (.ireturn, 1) := by decide +kernel
set_option maxRecDepth 20000 in
theorem ggX6_ahead_X6_isHeir : GoodIn wsX6_ahead wsX6_isHeir := goodIn_r _ [8, 9, 10, 11, 7, 12, 54, 55, 56, 57, 58, 59, 60, 61, 62, 63, 64, 65, 66, 67, 68, 69, 70, 71, 72, 73, 74, 75, 76, 77, 78, 79, 80, 81, 82, 83, 84] (by decide +kernel) (by decide +kernel)
set_option maxRecDepth 20000 in
theorem gX6_ahead_X6_isHeir : GoodIn wsX6_ahead (wsV RX6 178 RX6 yX6_isHeir wsX6_isHeir) := goodIn_app (goodIn_of _ (by decide +kernel)) ggX6_ahead_X6_isHeir
set_option maxRecDepth 20000 in
theorem ggX6_ahead_X6_isFar : GoodIn wsX6_ahead wsX6_isFar := goodIn_r _ [15, 16, 10, 11, 7, 12] (by decide +kernel) (by decide +kernel)
set_option maxRecDepth 20000 in
theorem gX6_ahead_X6_isFar : GoodIn wsX6_ahead (va_wsS RX6 219 yX6_isFar wsX6_isFar) := goodIn_app (goodIn_of _ (by decide +kernel)) ggX6_ahead_X6_isFar
set_option maxRecDepth 20000 in
theorem ggX6_ahead_X6_in : GoodIn wsX6_ahead wsX6_in := goodIn_r _ [12] (by decide +kernel) (by decide +kernel)
set_option maxRecDepth 20000 in
theorem gX6_ahead_X6_in : GoodIn wsX6_ahead (va_wsS RX6 71 yX6_in wsX6_in) := goodIn_app (goodIn_of _ (by decide +kernel)) ggX6_ahead_X6_in
set_option maxRecDepth 20000 in
theorem ggX6_ahead_X6_areTwo : GoodIn wsX6_ahead wsX6_areTwo := goodIn_r _ [20, 9, 54, 55, 56, 57, 58, 59, 60, 61, 62, 63, 64, 65, 66, 67, 68, 69, 70, 71, 72, 73, 74, 75, 76, 77, 78, 79, 80, 81, 82, 83, 84] (by decide +kernel) (by decide +kernel)
set_option maxRecDepth 20000 in
theorem gX6_ahead_X6_areTwo : GoodIn wsX6_ahead (wsV RX6 207 RX6 yX6_areTwo wsX6_areTwo) := goodIn_app (goodIn_of _ (by decide +kernel)) ggX6_ahead_X6_areTwo
set_option maxRecDepth 20000 in
theorem ggX6_ahead_X6_starts : GoodIn wsX6_ahead wsX6_starts := goodIn_r _ [24, 25, 9, 54, 55, 56, 57, 58, 59, 60, 61, 62, 63, 64, 65, 66, 67, 68, 69, 70, 71, 72, 73, 74, 75, 76, 77, 78, 79, 80, 81, 82, 83, 84] (by decide +kernel) (by decide +kernel)
set_option maxRecDepth 20000 in
theorem gX6_ahead_X6_starts : GoodIn wsX6_ahead (wsV RX6 184 RX6 yX6_starts wsX6_starts) := goodIn_app (goodIn_of _ (by decide +kernel)) ggX6_ahead_X6_starts
set_option maxRecDepth 20000 in
theorem ggX6_ahead_X6_reignGoes : GoodIn wsX6_ahead wsX6_reignGoes := goodIn_r _ [29, 25, 2, 30, 3, 31, 32, 33, 7, 34, 35, 36, 37, 38, 39, 40, 41, 42, 43, 44, 45, 46, 47, 48, 49, 54, 55, 56, 57, 58, 59, 60, 61, 62, 63, 64, 65, 66, 67, 68, 69, 70, 71, 72, 73, 74, 75, 76, 77, 78, 79, 80, 81, 82, 83, 84] (by decide +kernel) (by decide +kernel)
set_option maxRecDepth 20000 in
theorem gX6_ahead_X6_reignGoes : GoodIn wsX6_ahead (wsV RX6 174 RX6 yX6_reignGoes wsX6_reignGoes) := goodIn_app (goodIn_of _ (by decide +kernel)) ggX6_ahead_X6_reignGoes
set_option maxRecDepth 20000 in
theorem ggX6_ahead_X6_of : GoodIn wsX6_ahead wsX6_of := goodIn_r _ [34, 25, 54, 55, 56, 57, 58, 59, 60, 61, 62, 63, 64, 65, 66, 67, 68, 69, 70, 71, 72, 73, 74, 75, 76, 77, 78, 79, 80, 81, 82, 83, 84] (by decide +kernel) (by decide +kernel)
set_option maxRecDepth 20000 in
theorem gX6_ahead_X6_of : GoodIn wsX6_ahead (wsV RX6 147 RX6 yX6_of wsX6_of) := goodIn_app (goodIn_of _ (by decide +kernel)) ggX6_ahead_X6_of
set_option maxRecDepth 20000 in
theorem ggX6_ahead_X6_placeOf : GoodIn wsX6_ahead wsX6_placeOf := goodIn_r _ [53, 25, 54, 55, 56, 57, 58, 59, 60, 61, 62, 63, 64, 65, 66, 67, 68, 69, 70, 71, 72, 73, 74, 75, 76, 77, 78, 79, 80, 81, 82, 83, 84] (by decide +kernel) (by decide +kernel)
set_option maxRecDepth 20000 in
theorem gX6_ahead_X6_placeOf : GoodIn wsX6_ahead (wsV RX6 187 RX6 yX6_placeOf wsX6_placeOf) := goodIn_app (goodIn_of _ (by decide +kernel)) ggX6_ahead_X6_placeOf
theorem dX6_ahead_0 : decode cX6_ahead 0 = .ok (.aload_n 0, 1) := by decide +kernel
theorem dX6_ahead_1 : decode cX6_ahead 1 = .ok (.iload_n 1, 1) := by decide +kernel
theorem dX6_ahead_2 : decode cX6_ahead 2 = .ok (.invokevirtual 178, 3) := by decide +kernel
theorem dX6_ahead_5 : decode cX6_ahead 5 = .ok (.ifCond .eq 22, 3) := by decide +kernel
theorem dX6_ahead_8 : decode cX6_ahead 8 = .ok (.iload_n 2, 1) := by decide +kernel
theorem dX6_ahead_9 : decode cX6_ahead 9 = .ok (.invokestatic 219, 3) := by decide +kernel
theorem dX6_ahead_12 : decode cX6_ahead 12 = .ok (.ifCond .eq 15, 3) := by decide +kernel
theorem dX6_ahead_15 : decode cX6_ahead 15 = .ok (.iload_n 3, 1) := by decide +kernel
theorem dX6_ahead_16 : decode cX6_ahead 16 = .ok (.i2l, 1) := by decide +kernel
theorem dX6_ahead_17 : decode cX6_ahead 17 = .ok (.lconst 0, 1) := by decide +kernel
theorem dX6_ahead_18 : decode cX6_ahead 18 = .ok (.ldc2_w 224, 3) := by decide +kernel
theorem dX6_ahead_21 : decode cX6_ahead 21 = .ok (.invokestatic 71, 3) := by decide +kernel
theorem dX6_ahead_24 : decode cX6_ahead 24 = .ok (.ifCond .ne 5, 3) := by decide +kernel
theorem dX6_ahead_27 : decode cX6_ahead 27 = .ok (.iconst (-1), 1) := by decide +kernel
theorem dX6_ahead_28 : decode cX6_ahead 28 = .ok (.ireturn, 1) := by decide +kernel
theorem dX6_ahead_29 : decode cX6_ahead 29 = .ok (.aload_n 0, 1) := by decide +kernel
theorem dX6_ahead_30 : decode cX6_ahead 30 = .ok (.invokevirtual 207, 3) := by decide +kernel
theorem dX6_ahead_33 : decode cX6_ahead 33 = .ok (.ifCond .ne 6, 3) := by decide +kernel
theorem dX6_ahead_36 : decode cX6_ahead 36 = .ok (.bipush (-2), 2) := by decide +kernel
theorem dX6_ahead_38 : decode cX6_ahead 38 = .ok (.ireturn, 1) := by decide +kernel
theorem dX6_ahead_39 : decode cX6_ahead 39 = .ok (.iconst 0, 1) := by decide +kernel
theorem dX6_ahead_40 : decode cX6_ahead 40 = .ok (.istore 4, 2) := by decide +kernel
theorem dX6_ahead_42 : decode cX6_ahead 42 = .ok (.aload_n 0, 1) := by decide +kernel
theorem dX6_ahead_43 : decode cX6_ahead 43 = .ok (.invokevirtual 184, 3) := by decide +kernel
theorem dX6_ahead_46 : decode cX6_ahead 46 = .ok (.iconst 0, 1) := by decide +kernel
theorem dX6_ahead_47 : decode cX6_ahead 47 = .ok (.istore 5, 2) := by decide +kernel
theorem dX6_ahead_49 : decode cX6_ahead 49 = .ok (.iload 5, 2) := by decide +kernel
theorem dX6_ahead_51 : decode cX6_ahead 51 = .ok (.iload_n 2, 1) := by decide +kernel
theorem dX6_ahead_52 : decode cX6_ahead 52 = .ok (.if_icmp .ge 35, 3) := by decide +kernel
theorem dX6_ahead_55 : decode cX6_ahead 55 = .ok (.aload_n 0, 1) := by decide +kernel
theorem dX6_ahead_56 : decode cX6_ahead 56 = .ok (.iconst 0, 1) := by decide +kernel
theorem dX6_ahead_57 : decode cX6_ahead 57 = .ok (.invokevirtual 174, 3) := by decide +kernel
theorem dX6_ahead_60 : decode cX6_ahead 60 = .ok (.iload 4, 2) := by decide +kernel
theorem dX6_ahead_62 : decode cX6_ahead 62 = .ok (.aload_n 0, 1) := by decide +kernel
theorem dX6_ahead_63 : decode cX6_ahead 63 = .ok (.getfield 150, 3) := by decide +kernel
theorem dX6_ahead_66 : decode cX6_ahead 66 = .ok (.iload_n 1, 1) := by decide +kernel
theorem dX6_ahead_67 : decode cX6_ahead 67 = .ok (.if_icmp .ne 10, 3) := by decide +kernel
theorem dX6_ahead_70 : decode cX6_ahead 70 = .ok (.aload_n 0, 1) := by decide +kernel
theorem dX6_ahead_71 : decode cX6_ahead 71 = .ok (.getfield 160, 3) := by decide +kernel
theorem dX6_ahead_74 : decode cX6_ahead 74 = .ok (.goto 4, 3) := by decide +kernel
theorem dX6_ahead_77 : decode cX6_ahead 77 = .ok (.iconst 0, 1) := by decide +kernel
theorem dX6_ahead_78 : decode cX6_ahead 78 = .ok (.iadd, 1) := by decide +kernel
theorem dX6_ahead_79 : decode cX6_ahead 79 = .ok (.istore 4, 2) := by decide +kernel
theorem dX6_ahead_81 : decode cX6_ahead 81 = .ok (.iinc 5 1, 3) := by decide +kernel
theorem dX6_ahead_84 : decode cX6_ahead 84 = .ok (.goto (-35), 3) := by decide +kernel
theorem dX6_ahead_87 : decode cX6_ahead 87 = .ok (.iload_n 3, 1) := by decide +kernel
theorem dX6_ahead_88 : decode cX6_ahead 88 = .ok (.ifCond .ne 12, 3) := by decide +kernel
theorem dX6_ahead_91 : decode cX6_ahead 91 = .ok (.aload_n 0, 1) := by decide +kernel
theorem dX6_ahead_92 : decode cX6_ahead 92 = .ok (.iload_n 1, 1) := by decide +kernel
theorem dX6_ahead_93 : decode cX6_ahead 93 = .ok (.iconst 1, 1) := by decide +kernel
theorem dX6_ahead_94 : decode cX6_ahead 94 = .ok (.invokevirtual 147, 3) := by decide +kernel
theorem dX6_ahead_97 : decode cX6_ahead 97 = .ok (.goto 18, 3) := by decide +kernel
theorem dX6_ahead_100 : decode cX6_ahead 100 = .ok (.iload_n 3, 1) := by decide +kernel
theorem dX6_ahead_101 : decode cX6_ahead 101 = .ok (.iconst 1, 1) := by decide +kernel
theorem dX6_ahead_102 : decode cX6_ahead 102 = .ok (.if_icmp .ne 11, 3) := by decide +kernel
theorem dX6_ahead_105 : decode cX6_ahead 105 = .ok (.aload_n 0, 1) := by decide +kernel
theorem dX6_ahead_106 : decode cX6_ahead 106 = .ok (.iload_n 1, 1) := by decide +kernel
theorem dX6_ahead_107 : decode cX6_ahead 107 = .ok (.invokevirtual 187, 3) := by decide +kernel
theorem dX6_ahead_110 : decode cX6_ahead 110 = .ok (.goto 5, 3) := by decide +kernel
theorem dX6_ahead_113 : decode cX6_ahead 113 = .ok (.iload 4, 2) := by decide +kernel
theorem dX6_ahead_115 : decode cX6_ahead 115 = .ok (.ireturn, 1) := by decide +kernel
set_option maxRecDepth 20000 in
theorem ggX6_reignOf_X6_reignGoes : GoodIn wsX6_reignOf wsX6_reignGoes := goodIn_r _ [6, 7, 1, 8, 9, 10, 11, 12, 5, 13, 14, 15, 16, 17, 18, 19, 20, 21, 22, 23, 24, 25, 26, 27, 28, 29, 30, 31, 32, 33, 34, 35, 36, 37, 38, 39, 40, 41, 42, 43, 44, 45, 46, 47, 48, 49, 50, 51, 52, 53, 54, 55, 56, 57, 58, 59] (by decide +kernel) (by decide +kernel)
set_option maxRecDepth 20000 in
theorem gX6_reignOf_X6_reignGoes : GoodIn wsX6_reignOf (wsV RX6 174 RX6 yX6_reignGoes wsX6_reignGoes) := goodIn_app (goodIn_of _ (by decide +kernel)) ggX6_reignOf_X6_reignGoes
theorem dX6_reignOf_0 : decode cX6_reignOf 0 = .ok (.iconst 1, 1) := by decide +kernel
theorem dX6_reignOf_1 : decode cX6_reignOf 1 = .ok (.istore_n 2, 1) := by decide +kernel
theorem dX6_reignOf_2 : decode cX6_reignOf 2 = .ok (.iload_n 2, 1) := by decide +kernel
theorem dX6_reignOf_3 : decode cX6_reignOf 3 = .ok (.bipush 60, 2) := by decide +kernel
theorem dX6_reignOf_5 : decode cX6_reignOf 5 = .ok (.if_icmp .gt 24, 3) := by decide +kernel
theorem dX6_reignOf_8 : decode cX6_reignOf 8 = .ok (.aload_n 0, 1) := by decide +kernel
theorem dX6_reignOf_9 : decode cX6_reignOf 9 = .ok (.iconst 0, 1) := by decide +kernel
theorem dX6_reignOf_10 : decode cX6_reignOf 10 = .ok (.invokevirtual 174, 3) := by decide +kernel
theorem dX6_reignOf_13 : decode cX6_reignOf 13 = .ok (.aload_n 0, 1) := by decide +kernel
theorem dX6_reignOf_14 : decode cX6_reignOf 14 = .ok (.getfield 150, 3) := by decide +kernel
theorem dX6_reignOf_17 : decode cX6_reignOf 17 = .ok (.iload_n 1, 1) := by decide +kernel
theorem dX6_reignOf_18 : decode cX6_reignOf 18 = .ok (.if_icmp .ne 5, 3) := by decide +kernel
theorem dX6_reignOf_21 : decode cX6_reignOf 21 = .ok (.iload_n 2, 1) := by decide +kernel
theorem dX6_reignOf_22 : decode cX6_reignOf 22 = .ok (.ireturn, 1) := by decide +kernel
theorem dX6_reignOf_23 : decode cX6_reignOf 23 = .ok (.iinc 2 1, 3) := by decide +kernel
theorem dX6_reignOf_26 : decode cX6_reignOf 26 = .ok (.goto (-24), 3) := by decide +kernel
theorem dX6_reignOf_29 : decode cX6_reignOf 29 = .ok (.bipush (-4), 2) := by decide +kernel
theorem dX6_reignOf_31 : decode cX6_reignOf 31 = .ok (.ireturn, 1) := by decide +kernel
set_option maxRecDepth 20000 in
theorem ggX6_soonest_X6_isHeir : GoodIn wsX6_soonest wsX6_isHeir := goodIn_r _ [5, 6, 7, 8, 4, 9, 49, 50, 51, 52, 53, 54, 55, 56, 57, 58, 59, 60, 61, 62, 63, 64, 65, 66, 67, 68, 69, 70, 71, 72, 73, 74, 75, 76, 77, 78, 79] (by decide +kernel) (by decide +kernel)
set_option maxRecDepth 20000 in
theorem gX6_soonest_X6_isHeir : GoodIn wsX6_soonest (wsV RX6 178 RX6 yX6_isHeir wsX6_isHeir) := goodIn_app (goodIn_of _ (by decide +kernel)) ggX6_soonest_X6_isHeir
set_option maxRecDepth 20000 in
theorem ggX6_soonest_X6_areTwo : GoodIn wsX6_soonest wsX6_areTwo := goodIn_r _ [13, 6, 49, 50, 51, 52, 53, 54, 55, 56, 57, 58, 59, 60, 61, 62, 63, 64, 65, 66, 67, 68, 69, 70, 71, 72, 73, 74, 75, 76, 77, 78, 79] (by decide +kernel) (by decide +kernel)
set_option maxRecDepth 20000 in
theorem gX6_soonest_X6_areTwo : GoodIn wsX6_soonest (wsV RX6 207 RX6 yX6_areTwo wsX6_areTwo) := goodIn_app (goodIn_of _ (by decide +kernel)) ggX6_soonest_X6_areTwo
set_option maxRecDepth 20000 in
theorem ggX6_soonest_X6_starts : GoodIn wsX6_soonest wsX6_starts := goodIn_r _ [17, 18, 6, 49, 50, 51, 52, 53, 54, 55, 56, 57, 58, 59, 60, 61, 62, 63, 64, 65, 66, 67, 68, 69, 70, 71, 72, 73, 74, 75, 76, 77, 78, 79] (by decide +kernel) (by decide +kernel)
set_option maxRecDepth 20000 in
theorem gX6_soonest_X6_starts : GoodIn wsX6_soonest (wsV RX6 184 RX6 yX6_starts wsX6_starts) := goodIn_app (goodIn_of _ (by decide +kernel)) ggX6_soonest_X6_starts
set_option maxRecDepth 20000 in
theorem ggX6_soonest_X6_reignOf : GoodIn wsX6_soonest wsX6_reignOf := goodIn_r _ [22, 23, 24, 25, 26, 4, 27, 18, 28, 29, 30, 31, 32, 33, 34, 35, 36, 37, 38, 39, 40, 41, 42, 43, 44, 45, 46, 47, 48, 49, 50, 51, 52, 53, 54, 55, 56, 57, 58, 59, 60, 61, 62, 63, 64, 65, 66, 67, 68, 69, 70, 71, 72, 73, 74, 75, 76, 77, 78, 79] (by decide +kernel) (by decide +kernel)
set_option maxRecDepth 20000 in
theorem gX6_soonest_X6_reignOf : GoodIn wsX6_soonest (wsV RX6 226 RX6 yX6_reignOf wsX6_reignOf) := goodIn_app (goodIn_of _ (by decide +kernel)) ggX6_soonest_X6_reignOf
theorem dX6_soonest_0 : decode cX6_soonest 0 = .ok (.aload_n 0, 1) := by decide +kernel
theorem dX6_soonest_1 : decode cX6_soonest 1 = .ok (.iload_n 1, 1) := by decide +kernel
theorem dX6_soonest_2 : decode cX6_soonest 2 = .ok (.invokevirtual 178, 3) := by decide +kernel
theorem dX6_soonest_5 : decode cX6_soonest 5 = .ok (.ifCond .ne 5, 3) := by decide +kernel
theorem dX6_soonest_8 : decode cX6_soonest 8 = .ok (.iconst (-1), 1) := by decide +kernel
theorem dX6_soonest_9 : decode cX6_soonest 9 = .ok (.ireturn, 1) := by decide +kernel
theorem dX6_soonest_10 : decode cX6_soonest 10 = .ok (.aload_n 0, 1) := by decide +kernel
theorem dX6_soonest_11 : decode cX6_soonest 11 = .ok (.invokevirtual 207, 3) := by decide +kernel
theorem dX6_soonest_14 : decode cX6_soonest 14 = .ok (.ifCond .ne 6, 3) := by decide +kernel
theorem dX6_soonest_17 : decode cX6_soonest 17 = .ok (.bipush (-2), 2) := by decide +kernel
theorem dX6_soonest_19 : decode cX6_soonest 19 = .ok (.ireturn, 1) := by decide +kernel
theorem dX6_soonest_20 : decode cX6_soonest 20 = .ok (.aload_n 0, 1) := by decide +kernel
theorem dX6_soonest_21 : decode cX6_soonest 21 = .ok (.invokevirtual 184, 3) := by decide +kernel
theorem dX6_soonest_24 : decode cX6_soonest 24 = .ok (.aload_n 0, 1) := by decide +kernel
theorem dX6_soonest_25 : decode cX6_soonest 25 = .ok (.iload_n 1, 1) := by decide +kernel
theorem dX6_soonest_26 : decode cX6_soonest 26 = .ok (.invokevirtual 226, 3) := by decide +kernel
theorem dX6_soonest_29 : decode cX6_soonest 29 = .ok (.ireturn, 1) := by decide +kernel
theorem dX6_isLineAgain_0 : decode cX6_isLineAgain 0 = .ok (.iconst 1, 1) := by decide +kernel
theorem dX6_isLineAgain_1 : decode cX6_isLineAgain 1 = .ok (.istore_n 1, 1) := by decide +kernel
theorem dX6_isLineAgain_2 : decode cX6_isLineAgain 2 = .ok (.iconst 0, 1) := by decide +kernel
theorem dX6_isLineAgain_3 : decode cX6_isLineAgain 3 = .ok (.istore_n 2, 1) := by decide +kernel
theorem dX6_isLineAgain_4 : decode cX6_isLineAgain 4 = .ok (.iload_n 2, 1) := by decide +kernel
theorem dX6_isLineAgain_5 : decode cX6_isLineAgain 5 = .ok (.aload_n 0, 1) := by decide +kernel
theorem dX6_isLineAgain_6 : decode cX6_isLineAgain 6 = .ok (.getfield 13, 3) := by decide +kernel
theorem dX6_isLineAgain_9 : decode cX6_isLineAgain 9 = .ok (.bipush 24, 2) := by decide +kernel
theorem dX6_isLineAgain_11 : decode cX6_isLineAgain 11 = .ok (.iaload, 1) := by decide +kernel
theorem dX6_isLineAgain_12 : decode cX6_isLineAgain 12 = .ok (.if_icmp .ge 40, 3) := by decide +kernel
theorem dX6_isLineAgain_15 : decode cX6_isLineAgain 15 = .ok (.iload_n 1, 1) := by decide +kernel
theorem dX6_isLineAgain_16 : decode cX6_isLineAgain 16 = .ok (.ifCond .eq 28, 3) := by decide +kernel
theorem dX6_isLineAgain_19 : decode cX6_isLineAgain 19 = .ok (.aload_n 0, 1) := by decide +kernel
theorem dX6_isLineAgain_20 : decode cX6_isLineAgain 20 = .ok (.getfield 13, 3) := by decide +kernel
theorem dX6_isLineAgain_23 : decode cX6_isLineAgain 23 = .ok (.bipush 25, 2) := by decide +kernel
theorem dX6_isLineAgain_25 : decode cX6_isLineAgain 25 = .ok (.iload_n 2, 1) := by decide +kernel
theorem dX6_isLineAgain_26 : decode cX6_isLineAgain 26 = .ok (.iadd, 1) := by decide +kernel
theorem dX6_isLineAgain_27 : decode cX6_isLineAgain 27 = .ok (.iaload, 1) := by decide +kernel
theorem dX6_isLineAgain_28 : decode cX6_isLineAgain 28 = .ok (.aload_n 0, 1) := by decide +kernel
theorem dX6_isLineAgain_29 : decode cX6_isLineAgain 29 = .ok (.getfield 7, 3) := by decide +kernel
theorem dX6_isLineAgain_32 : decode cX6_isLineAgain 32 = .ok (.bipush 25, 2) := by decide +kernel
theorem dX6_isLineAgain_34 : decode cX6_isLineAgain 34 = .ok (.iload_n 2, 1) := by decide +kernel
theorem dX6_isLineAgain_35 : decode cX6_isLineAgain 35 = .ok (.iadd, 1) := by decide +kernel
theorem dX6_isLineAgain_36 : decode cX6_isLineAgain 36 = .ok (.iaload, 1) := by decide +kernel
theorem dX6_isLineAgain_37 : decode cX6_isLineAgain 37 = .ok (.if_icmp .ne 7, 3) := by decide +kernel
theorem dX6_isLineAgain_40 : decode cX6_isLineAgain 40 = .ok (.iconst 1, 1) := by decide +kernel
theorem dX6_isLineAgain_41 : decode cX6_isLineAgain 41 = .ok (.goto 4, 3) := by decide +kernel
theorem dX6_isLineAgain_44 : decode cX6_isLineAgain 44 = .ok (.iconst 0, 1) := by decide +kernel
theorem dX6_isLineAgain_45 : decode cX6_isLineAgain 45 = .ok (.istore_n 1, 1) := by decide +kernel
theorem dX6_isLineAgain_46 : decode cX6_isLineAgain 46 = .ok (.iinc 2 1, 3) := by decide +kernel
theorem dX6_isLineAgain_49 : decode cX6_isLineAgain 49 = .ok (.goto (-45), 3) := by decide +kernel
theorem dX6_isLineAgain_52 : decode cX6_isLineAgain 52 = .ok (.iload_n 1, 1) := by decide +kernel
theorem dX6_isLineAgain_53 : decode cX6_isLineAgain 53 = .ok (.ireturn, 1) := by decide +kernel
set_option maxRecDepth 20000 in
theorem ggX6_again_X6_areTwo : GoodIn wsX6_again wsX6_areTwo := goodIn_r _ [5, 6, 42, 43, 44, 45, 46, 47, 48, 49, 50, 51, 52, 53, 54, 55, 56, 57, 58, 59, 60, 61, 62, 63, 64, 65, 66, 67, 68, 69, 70, 71, 72] (by decide +kernel) (by decide +kernel)
set_option maxRecDepth 20000 in
theorem gX6_again_X6_areTwo : GoodIn wsX6_again (wsV RX6 207 RX6 yX6_areTwo wsX6_areTwo) := goodIn_app (goodIn_of _ (by decide +kernel)) ggX6_again_X6_areTwo
set_option maxRecDepth 20000 in
theorem ggX6_again_X6_starts : GoodIn wsX6_again wsX6_starts := goodIn_r _ [10, 11, 6, 42, 43, 44, 45, 46, 47, 48, 49, 50, 51, 52, 53, 54, 55, 56, 57, 58, 59, 60, 61, 62, 63, 64, 65, 66, 67, 68, 69, 70, 71, 72] (by decide +kernel) (by decide +kernel)
set_option maxRecDepth 20000 in
theorem gX6_again_X6_starts : GoodIn wsX6_again (wsV RX6 184 RX6 yX6_starts wsX6_starts) := goodIn_app (goodIn_of _ (by decide +kernel)) ggX6_again_X6_starts
set_option maxRecDepth 20000 in
theorem ggX6_again_X6_reignGoes : GoodIn wsX6_again wsX6_reignGoes := goodIn_r _ [15, 11, 16, 17, 18, 19, 20, 21, 4, 22, 23, 24, 25, 26, 27, 28, 29, 30, 31, 32, 33, 34, 35, 36, 37, 42, 43, 44, 45, 46, 47, 48, 49, 50, 51, 52, 53, 54, 55, 56, 57, 58, 59, 60, 61, 62, 63, 64, 65, 66, 67, 68, 69, 70, 71, 72] (by decide +kernel) (by decide +kernel)
set_option maxRecDepth 20000 in
theorem gX6_again_X6_reignGoes : GoodIn wsX6_again (wsV RX6 174 RX6 yX6_reignGoes wsX6_reignGoes) := goodIn_app (goodIn_of _ (by decide +kernel)) ggX6_again_X6_reignGoes
set_option maxRecDepth 20000 in
theorem ggX6_again_X6_isLineAgain : GoodIn wsX6_again wsX6_isLineAgain := goodIn_r _ [41, 11, 6, 42, 43, 44, 45, 46, 47, 48, 49, 50, 51, 52, 53, 54, 55, 56, 57, 58, 59, 60, 61, 62, 63, 64, 65, 66, 67, 68, 69, 70, 71, 72] (by decide +kernel) (by decide +kernel)
set_option maxRecDepth 20000 in
theorem gX6_again_X6_isLineAgain : GoodIn wsX6_again (wsV RX6 229 RX6 yX6_isLineAgain wsX6_isLineAgain) := goodIn_app (goodIn_of _ (by decide +kernel)) ggX6_again_X6_isLineAgain
theorem dX6_again_0 : decode cX6_again 0 = .ok (.aload_n 0, 1) := by decide +kernel
theorem dX6_again_1 : decode cX6_again 1 = .ok (.invokevirtual 207, 3) := by decide +kernel
theorem dX6_again_4 : decode cX6_again 4 = .ok (.ifCond .ne 6, 3) := by decide +kernel
theorem dX6_again_7 : decode cX6_again 7 = .ok (.bipush (-2), 2) := by decide +kernel
theorem dX6_again_9 : decode cX6_again 9 = .ok (.ireturn, 1) := by decide +kernel
theorem dX6_again_10 : decode cX6_again 10 = .ok (.aload_n 0, 1) := by decide +kernel
theorem dX6_again_11 : decode cX6_again 11 = .ok (.invokevirtual 184, 3) := by decide +kernel
theorem dX6_again_14 : decode cX6_again 14 = .ok (.iconst 1, 1) := by decide +kernel
theorem dX6_again_15 : decode cX6_again 15 = .ok (.istore_n 1, 1) := by decide +kernel
theorem dX6_again_16 : decode cX6_again 16 = .ok (.iload_n 1, 1) := by decide +kernel
theorem dX6_again_17 : decode cX6_again 17 = .ok (.bipush 60, 2) := by decide +kernel
theorem dX6_again_19 : decode cX6_again 19 = .ok (.if_icmp .gt 23, 3) := by decide +kernel
theorem dX6_again_22 : decode cX6_again 22 = .ok (.aload_n 0, 1) := by decide +kernel
theorem dX6_again_23 : decode cX6_again 23 = .ok (.iconst 0, 1) := by decide +kernel
theorem dX6_again_24 : decode cX6_again 24 = .ok (.invokevirtual 174, 3) := by decide +kernel
theorem dX6_again_27 : decode cX6_again 27 = .ok (.aload_n 0, 1) := by decide +kernel
theorem dX6_again_28 : decode cX6_again 28 = .ok (.invokevirtual 229, 3) := by decide +kernel
theorem dX6_again_31 : decode cX6_again 31 = .ok (.ifCond .eq 5, 3) := by decide +kernel
theorem dX6_again_34 : decode cX6_again 34 = .ok (.iload_n 1, 1) := by decide +kernel
theorem dX6_again_35 : decode cX6_again 35 = .ok (.ireturn, 1) := by decide +kernel
theorem dX6_again_36 : decode cX6_again 36 = .ok (.iinc 1 1, 3) := by decide +kernel
theorem dX6_again_39 : decode cX6_again 39 = .ok (.goto (-23), 3) := by decide +kernel
theorem dX6_again_42 : decode cX6_again 42 = .ok (.bipush (-4), 2) := by decide +kernel
theorem dX6_again_44 : decode cX6_again 44 = .ok (.ireturn, 1) := by decide +kernel
set_option maxRecDepth 20000 in
theorem ggX6_ruins_X6_areTwo : GoodIn wsX6_ruins wsX6_areTwo := goodIn_r _ [6, 7, 38, 39, 40, 41, 42, 43, 44, 45, 46, 47, 48, 49, 50, 51, 52, 53, 54, 55, 56, 57, 58, 59, 60, 61, 62, 63, 64, 65, 66, 67, 68] (by decide +kernel) (by decide +kernel)
set_option maxRecDepth 20000 in
theorem gX6_ruins_X6_areTwo : GoodIn wsX6_ruins (wsV RX6 207 RX6 yX6_areTwo wsX6_areTwo) := goodIn_app (goodIn_of _ (by decide +kernel)) ggX6_ruins_X6_areTwo
set_option maxRecDepth 20000 in
theorem ggX6_ruins_X6_starts : GoodIn wsX6_ruins wsX6_starts := goodIn_r _ [11, 1, 7, 38, 39, 40, 41, 42, 43, 44, 45, 46, 47, 48, 49, 50, 51, 52, 53, 54, 55, 56, 57, 58, 59, 60, 61, 62, 63, 64, 65, 66, 67, 68] (by decide +kernel) (by decide +kernel)
set_option maxRecDepth 20000 in
theorem gX6_ruins_X6_starts : GoodIn wsX6_ruins (wsV RX6 184 RX6 yX6_starts wsX6_starts) := goodIn_app (goodIn_of _ (by decide +kernel)) ggX6_ruins_X6_starts
set_option maxRecDepth 20000 in
theorem ggX6_ruins_X6_reignGoes : GoodIn wsX6_ruins wsX6_reignGoes := goodIn_r _ [15, 1, 16, 17, 18, 19, 20, 21, 5, 22, 23, 24, 25, 26, 27, 28, 29, 30, 31, 32, 33, 34, 35, 36, 37, 38, 39, 40, 41, 42, 43, 44, 45, 46, 47, 48, 49, 50, 51, 52, 53, 54, 55, 56, 57, 58, 59, 60, 61, 62, 63, 64, 65, 66, 67, 68] (by decide +kernel) (by decide +kernel)
set_option maxRecDepth 20000 in
theorem gX6_ruins_X6_reignGoes : GoodIn wsX6_ruins (wsV RX6 174 RX6 yX6_reignGoes wsX6_reignGoes) := goodIn_app (goodIn_of _ (by decide +kernel)) ggX6_ruins_X6_reignGoes
theorem dX6_ruins_0 : decode cX6_ruins 0 = .ok (.aload_n 0, 1) := by decide +kernel
theorem dX6_ruins_1 : decode cX6_ruins 1 = .ok (.invokevirtual 207, 3) := by decide +kernel
theorem dX6_ruins_4 : decode cX6_ruins 4 = .ok (.ifCond .ne 6, 3) := by decide +kernel
theorem dX6_ruins_7 : decode cX6_ruins 7 = .ok (.bipush (-2), 2) := by decide +kernel
theorem dX6_ruins_9 : decode cX6_ruins 9 = .ok (.ireturn, 1) := by decide +kernel
theorem dX6_ruins_10 : decode cX6_ruins 10 = .ok (.aload_n 0, 1) := by decide +kernel
theorem dX6_ruins_11 : decode cX6_ruins 11 = .ok (.invokevirtual 184, 3) := by decide +kernel
theorem dX6_ruins_14 : decode cX6_ruins 14 = .ok (.iconst 0, 1) := by decide +kernel
theorem dX6_ruins_15 : decode cX6_ruins 15 = .ok (.istore_n 1, 1) := by decide +kernel
theorem dX6_ruins_16 : decode cX6_ruins 16 = .ok (.iload_n 1, 1) := by decide +kernel
theorem dX6_ruins_17 : decode cX6_ruins 17 = .ok (.bipush 60, 2) := by decide +kernel
theorem dX6_ruins_19 : decode cX6_ruins 19 = .ok (.if_icmp .gt 26, 3) := by decide +kernel
theorem dX6_ruins_22 : decode cX6_ruins 22 = .ok (.aload_n 0, 1) := by decide +kernel
theorem dX6_ruins_23 : decode cX6_ruins 23 = .ok (.getfield 13, 3) := by decide +kernel
theorem dX6_ruins_26 : decode cX6_ruins 26 = .ok (.bipush 32, 2) := by decide +kernel
theorem dX6_ruins_28 : decode cX6_ruins 28 = .ok (.iaload, 1) := by decide +kernel
theorem dX6_ruins_29 : decode cX6_ruins 29 = .ok (.ifCond .ne 5, 3) := by decide +kernel
theorem dX6_ruins_32 : decode cX6_ruins 32 = .ok (.iload_n 1, 1) := by decide +kernel
theorem dX6_ruins_33 : decode cX6_ruins 33 = .ok (.ireturn, 1) := by decide +kernel
theorem dX6_ruins_34 : decode cX6_ruins 34 = .ok (.aload_n 0, 1) := by decide +kernel
theorem dX6_ruins_35 : decode cX6_ruins 35 = .ok (.iconst 0, 1) := by decide +kernel
theorem dX6_ruins_36 : decode cX6_ruins 36 = .ok (.invokevirtual 174, 3) := by decide +kernel
theorem dX6_ruins_39 : decode cX6_ruins 39 = .ok (.iinc 1 1, 3) := by decide +kernel
theorem dX6_ruins_42 : decode cX6_ruins 42 = .ok (.goto (-26), 3) := by decide +kernel
theorem dX6_ruins_45 : decode cX6_ruins 45 = .ok (.bipush (-4), 2) := by decide +kernel
theorem dX6_ruins_47 : decode cX6_ruins 47 = .ok (.ireturn, 1) := by decide +kernel
set_option maxRecDepth 20000 in
theorem ggX6_need_X6_isHeir : GoodIn wsX6_need wsX6_isHeir := goodIn_r _ [6, 7, 8, 9, 5, 10, 49, 50, 51, 52, 53, 54, 55, 56, 57, 58, 59, 60, 61, 62, 63, 64, 65, 66, 67, 68, 69, 70, 71, 72, 73, 74, 75, 76, 77, 78, 79] (by decide +kernel) (by decide +kernel)
set_option maxRecDepth 20000 in
theorem gX6_need_X6_isHeir : GoodIn wsX6_need (wsV RX6 178 RX6 yX6_isHeir wsX6_isHeir) := goodIn_app (goodIn_of _ (by decide +kernel)) ggX6_need_X6_isHeir
set_option maxRecDepth 20000 in
theorem ggX6_need_X6_areTwo : GoodIn wsX6_need wsX6_areTwo := goodIn_r _ [14, 7, 49, 50, 51, 52, 53, 54, 55, 56, 57, 58, 59, 60, 61, 62, 63, 64, 65, 66, 67, 68, 69, 70, 71, 72, 73, 74, 75, 76, 77, 78, 79] (by decide +kernel) (by decide +kernel)
set_option maxRecDepth 20000 in
theorem gX6_need_X6_areTwo : GoodIn wsX6_need (wsV RX6 207 RX6 yX6_areTwo wsX6_areTwo) := goodIn_app (goodIn_of _ (by decide +kernel)) ggX6_need_X6_areTwo
set_option maxRecDepth 20000 in
theorem ggX6_need_X6_starts : GoodIn wsX6_need wsX6_starts := goodIn_r _ [18, 19, 7, 49, 50, 51, 52, 53, 54, 55, 56, 57, 58, 59, 60, 61, 62, 63, 64, 65, 66, 67, 68, 69, 70, 71, 72, 73, 74, 75, 76, 77, 78, 79] (by decide +kernel) (by decide +kernel)
set_option maxRecDepth 20000 in
theorem gX6_need_X6_starts : GoodIn wsX6_need (wsV RX6 184 RX6 yX6_starts wsX6_starts) := goodIn_app (goodIn_of _ (by decide +kernel)) ggX6_need_X6_starts
set_option maxRecDepth 20000 in
theorem ggX6_need_X6_becomesOf : GoodIn wsX6_need wsX6_becomesOf := goodIn_r _ [23, 19, 49, 50, 51, 52, 53, 54, 55, 56, 57, 58, 59, 60, 61, 62, 63, 64, 65, 66, 67, 68, 69, 70, 71, 72, 73, 74, 75, 76, 77, 78, 79] (by decide +kernel) (by decide +kernel)
set_option maxRecDepth 20000 in
theorem gX6_need_X6_becomesOf : GoodIn wsX6_need (wsV RX6 170 RX6 yX6_becomesOf wsX6_becomesOf) := goodIn_app (goodIn_of _ (by decide +kernel)) ggX6_need_X6_becomesOf
set_option maxRecDepth 20000 in
theorem ggX6_need_X6_reignOf : GoodIn wsX6_need wsX6_reignOf := goodIn_r _ [27, 28, 29, 30, 31, 5, 32, 19, 1, 33, 34, 35, 36, 37, 38, 39, 40, 41, 42, 43, 44, 45, 46, 47, 48, 20, 21, 22, 23, 49, 50, 51, 52, 53, 54, 55, 56, 57, 58, 59, 60, 61, 62, 63, 64, 65, 66, 67, 68, 69, 70, 71, 72, 73, 74, 75, 76, 77, 78, 79] (by decide +kernel) (by decide +kernel)
set_option maxRecDepth 20000 in
theorem gX6_need_X6_reignOf : GoodIn wsX6_need (wsV RX6 226 RX6 yX6_reignOf wsX6_reignOf) := goodIn_app (goodIn_of _ (by decide +kernel)) ggX6_need_X6_reignOf
theorem dX6_need_0 : decode cX6_need 0 = .ok (.aload_n 0, 1) := by decide +kernel
theorem dX6_need_1 : decode cX6_need 1 = .ok (.iload_n 1, 1) := by decide +kernel
theorem dX6_need_2 : decode cX6_need 2 = .ok (.invokevirtual 178, 3) := by decide +kernel
theorem dX6_need_5 : decode cX6_need 5 = .ok (.ifCond .ne 5, 3) := by decide +kernel
theorem dX6_need_8 : decode cX6_need 8 = .ok (.iconst (-1), 1) := by decide +kernel
theorem dX6_need_9 : decode cX6_need 9 = .ok (.ireturn, 1) := by decide +kernel
theorem dX6_need_10 : decode cX6_need 10 = .ok (.aload_n 0, 1) := by decide +kernel
theorem dX6_need_11 : decode cX6_need 11 = .ok (.invokevirtual 207, 3) := by decide +kernel
theorem dX6_need_14 : decode cX6_need 14 = .ok (.ifCond .ne 6, 3) := by decide +kernel
theorem dX6_need_17 : decode cX6_need 17 = .ok (.bipush (-2), 2) := by decide +kernel
theorem dX6_need_19 : decode cX6_need 19 = .ok (.ireturn, 1) := by decide +kernel
theorem dX6_need_20 : decode cX6_need 20 = .ok (.iconst 0, 1) := by decide +kernel
theorem dX6_need_21 : decode cX6_need 21 = .ok (.istore_n 2, 1) := by decide +kernel
theorem dX6_need_22 : decode cX6_need 22 = .ok (.iload_n 2, 1) := by decide +kernel
theorem dX6_need_23 : decode cX6_need 23 = .ok (.bipush 20, 2) := by decide +kernel
theorem dX6_need_25 : decode cX6_need 25 = .ok (.if_icmp .gt 39, 3) := by decide +kernel
theorem dX6_need_28 : decode cX6_need 28 = .ok (.aload_n 0, 1) := by decide +kernel
theorem dX6_need_29 : decode cX6_need 29 = .ok (.invokevirtual 184, 3) := by decide +kernel
theorem dX6_need_32 : decode cX6_need 32 = .ok (.aload_n 0, 1) := by decide +kernel
theorem dX6_need_33 : decode cX6_need 33 = .ok (.iload_n 1, 1) := by decide +kernel
theorem dX6_need_34 : decode cX6_need 34 = .ok (.iconst 1, 1) := by decide +kernel
theorem dX6_need_35 : decode cX6_need 35 = .ok (.iload_n 2, 1) := by decide +kernel
theorem dX6_need_36 : decode cX6_need 36 = .ok (.invokevirtual 170, 3) := by decide +kernel
theorem dX6_need_39 : decode cX6_need 39 = .ok (.aload_n 0, 1) := by decide +kernel
theorem dX6_need_40 : decode cX6_need 40 = .ok (.iload_n 1, 1) := by decide +kernel
theorem dX6_need_41 : decode cX6_need 41 = .ok (.invokevirtual 226, 3) := by decide +kernel
theorem dX6_need_44 : decode cX6_need 44 = .ok (.bipush (-4), 2) := by decide +kernel
theorem dX6_need_46 : decode cX6_need 46 = .ok (.if_icmp .eq 12, 3) := by decide +kernel
theorem dX6_need_49 : decode cX6_need 49 = .ok (.aload_n 0, 1) := by decide +kernel
theorem dX6_need_50 : decode cX6_need 50 = .ok (.getfield 156, 3) := by decide +kernel
theorem dX6_need_53 : decode cX6_need 53 = .ok (.ifCond .ne 5, 3) := by decide +kernel
theorem dX6_need_56 : decode cX6_need 56 = .ok (.iload_n 2, 1) := by decide +kernel
theorem dX6_need_57 : decode cX6_need 57 = .ok (.ireturn, 1) := by decide +kernel
theorem dX6_need_58 : decode cX6_need 58 = .ok (.iinc 2 1, 3) := by decide +kernel
theorem dX6_need_61 : decode cX6_need 61 = .ok (.goto (-39), 3) := by decide +kernel
theorem dX6_need_64 : decode cX6_need 64 = .ok (.bipush (-4), 2) := by decide +kernel
theorem dX6_need_66 : decode cX6_need 66 = .ok (.ireturn, 1) := by decide +kernel
set_option maxRecDepth 20000 in
theorem ggX6_order_X6_isFar : GoodIn wsX6_order wsX6_isFar := goodIn_r _ [6, 7, 8, 9, 5, 10] (by decide +kernel) (by decide +kernel)
set_option maxRecDepth 20000 in
theorem gX6_order_X6_isFar : GoodIn wsX6_order (va_wsS RX6 219 yX6_isFar wsX6_isFar) := goodIn_app (goodIn_of _ (by decide +kernel)) ggX6_order_X6_isFar
set_option maxRecDepth 20000 in
theorem ggX6_order_X6_isPart : GoodIn wsX6_order wsX6_isPart := goodIn_r _ [13, 8, 9, 5, 10] (by decide +kernel) (by decide +kernel)
set_option maxRecDepth 20000 in
theorem gX6_order_X6_isPart : GoodIn wsX6_order (va_wsS RX6 232 yX6_isPart wsX6_isPart) := goodIn_app (goodIn_of _ (by decide +kernel)) ggX6_order_X6_isPart
set_option maxRecDepth 20000 in
theorem ggX6_order_X6_areTwo : GoodIn wsX6_order wsX6_areTwo := goodIn_r _ [17, 2, 52, 53, 54, 55, 56, 57, 58, 59, 60, 61, 62, 63, 64, 65, 66, 67, 68, 69, 70, 71, 72, 73, 74, 75, 76, 77, 78, 79, 80, 81, 82] (by decide +kernel) (by decide +kernel)
set_option maxRecDepth 20000 in
theorem gX6_order_X6_areTwo : GoodIn wsX6_order (wsV RX6 207 RX6 yX6_areTwo wsX6_areTwo) := goodIn_app (goodIn_of _ (by decide +kernel)) ggX6_order_X6_areTwo
set_option maxRecDepth 20000 in
theorem ggX6_order_X6_starts : GoodIn wsX6_order wsX6_starts := goodIn_r _ [21, 1, 2, 52, 53, 54, 55, 56, 57, 58, 59, 60, 61, 62, 63, 64, 65, 66, 67, 68, 69, 70, 71, 72, 73, 74, 75, 76, 77, 78, 79, 80, 81, 82] (by decide +kernel) (by decide +kernel)
set_option maxRecDepth 20000 in
theorem gX6_order_X6_starts : GoodIn wsX6_order (wsV RX6 184 RX6 yX6_starts wsX6_starts) := goodIn_app (goodIn_of _ (by decide +kernel)) ggX6_order_X6_starts
set_option maxRecDepth 20000 in
theorem ggX6_order_X6_reignsGo : GoodIn wsX6_order wsX6_reignsGo := goodIn_r _ [25, 26, 27, 28, 5, 29, 1, 30, 31, 32, 33, 34, 35, 36, 37, 38, 39, 40, 41, 42, 43, 44, 45, 46, 47, 48, 49, 50, 51, 52, 53, 54, 55, 56, 57, 58, 59, 60, 61, 62, 63, 64, 65, 66, 67, 68, 69, 70, 71, 72, 73, 74, 75, 76, 77, 78, 79, 80, 81, 82] (by decide +kernel) (by decide +kernel)
set_option maxRecDepth 20000 in
theorem gX6_order_X6_reignsGo : GoodIn wsX6_order (wsV RX6 211 RX6 yX6_reignsGo wsX6_reignsGo) := goodIn_app (goodIn_of _ (by decide +kernel)) ggX6_order_X6_reignsGo
theorem dX6_order_0 : decode cX6_order 0 = .ok (.iload_n 1, 1) := by decide +kernel
theorem dX6_order_1 : decode cX6_order 1 = .ok (.invokestatic 219, 3) := by decide +kernel
theorem dX6_order_4 : decode cX6_order 4 = .ok (.ifCond .eq 10, 3) := by decide +kernel
theorem dX6_order_7 : decode cX6_order 7 = .ok (.iload_n 2, 1) := by decide +kernel
theorem dX6_order_8 : decode cX6_order 8 = .ok (.invokestatic 232, 3) := by decide +kernel
theorem dX6_order_11 : decode cX6_order 11 = .ok (.ifCond .ne 5, 3) := by decide +kernel
theorem dX6_order_14 : decode cX6_order 14 = .ok (.iconst (-1), 1) := by decide +kernel
theorem dX6_order_15 : decode cX6_order 15 = .ok (.ireturn, 1) := by decide +kernel
theorem dX6_order_16 : decode cX6_order 16 = .ok (.aload_n 0, 1) := by decide +kernel
theorem dX6_order_17 : decode cX6_order 17 = .ok (.invokevirtual 207, 3) := by decide +kernel
theorem dX6_order_20 : decode cX6_order 20 = .ok (.ifCond .ne 6, 3) := by decide +kernel
theorem dX6_order_23 : decode cX6_order 23 = .ok (.bipush (-2), 2) := by decide +kernel
theorem dX6_order_25 : decode cX6_order 25 = .ok (.ireturn, 1) := by decide +kernel
theorem dX6_order_26 : decode cX6_order 26 = .ok (.aload_n 0, 1) := by decide +kernel
theorem dX6_order_27 : decode cX6_order 27 = .ok (.invokevirtual 184, 3) := by decide +kernel
theorem dX6_order_30 : decode cX6_order 30 = .ok (.aload_n 0, 1) := by decide +kernel
theorem dX6_order_31 : decode cX6_order 31 = .ok (.iload_n 1, 1) := by decide +kernel
theorem dX6_order_32 : decode cX6_order 32 = .ok (.invokevirtual 211, 3) := by decide +kernel
theorem dX6_order_35 : decode cX6_order 35 = .ok (.aload_n 0, 1) := by decide +kernel
theorem dX6_order_36 : decode cX6_order 36 = .ok (.getfield 13, 3) := by decide +kernel
theorem dX6_order_39 : decode cX6_order 39 = .ok (.bipush 32, 2) := by decide +kernel
theorem dX6_order_41 : decode cX6_order 41 = .ok (.iaload, 1) := by decide +kernel
theorem dX6_order_42 : decode cX6_order 42 = .ok (.istore_n 3, 1) := by decide +kernel
theorem dX6_order_43 : decode cX6_order 43 = .ok (.bipush (-4), 2) := by decide +kernel
theorem dX6_order_45 : decode cX6_order 45 = .ok (.istore 4, 2) := by decide +kernel
theorem dX6_order_47 : decode cX6_order 47 = .ok (.iconst 0, 1) := by decide +kernel
theorem dX6_order_48 : decode cX6_order 48 = .ok (.istore 5, 2) := by decide +kernel
theorem dX6_order_50 : decode cX6_order 50 = .ok (.iload 5, 2) := by decide +kernel
theorem dX6_order_52 : decode cX6_order 52 = .ok (.aload_n 0, 1) := by decide +kernel
theorem dX6_order_53 : decode cX6_order 53 = .ok (.getfield 7, 3) := by decide +kernel
theorem dX6_order_56 : decode cX6_order 56 = .ok (.bipush 24, 2) := by decide +kernel
theorem dX6_order_58 : decode cX6_order 58 = .ok (.iaload, 1) := by decide +kernel
theorem dX6_order_59 : decode cX6_order 59 = .ok (.if_icmp .ge 131, 3) := by decide +kernel
theorem dX6_order_62 : decode cX6_order 62 = .ok (.iload 5, 2) := by decide +kernel
theorem dX6_order_64 : decode cX6_order 64 = .ok (.iconst 1, 1) := by decide +kernel
theorem dX6_order_65 : decode cX6_order 65 = .ok (.iadd, 1) := by decide +kernel
theorem dX6_order_66 : decode cX6_order 66 = .ok (.istore 6, 2) := by decide +kernel
theorem dX6_order_68 : decode cX6_order 68 = .ok (.iload 6, 2) := by decide +kernel
theorem dX6_order_70 : decode cX6_order 70 = .ok (.aload_n 0, 1) := by decide +kernel
theorem dX6_order_71 : decode cX6_order 71 = .ok (.getfield 7, 3) := by decide +kernel
theorem dX6_order_74 : decode cX6_order 74 = .ok (.bipush 24, 2) := by decide +kernel
theorem dX6_order_76 : decode cX6_order 76 = .ok (.iaload, 1) := by decide +kernel
theorem dX6_order_77 : decode cX6_order 77 = .ok (.if_icmp .ge 107, 3) := by decide +kernel
theorem dX6_order_80 : decode cX6_order 80 = .ok (.aload_n 0, 1) := by decide +kernel
theorem dX6_order_81 : decode cX6_order 81 = .ok (.invokevirtual 184, 3) := by decide +kernel
theorem dX6_order_84 : decode cX6_order 84 = .ok (.aload_n 0, 1) := by decide +kernel
theorem dX6_order_85 : decode cX6_order 85 = .ok (.getfield 13, 3) := by decide +kernel
theorem dX6_order_88 : decode cX6_order 88 = .ok (.bipush 25, 2) := by decide +kernel
theorem dX6_order_90 : decode cX6_order 90 = .ok (.iload 5, 2) := by decide +kernel
theorem dX6_order_92 : decode cX6_order 92 = .ok (.iadd, 1) := by decide +kernel
theorem dX6_order_93 : decode cX6_order 93 = .ok (.aload_n 0, 1) := by decide +kernel
theorem dX6_order_94 : decode cX6_order 94 = .ok (.getfield 7, 3) := by decide +kernel
theorem dX6_order_97 : decode cX6_order 97 = .ok (.bipush 25, 2) := by decide +kernel
theorem dX6_order_99 : decode cX6_order 99 = .ok (.iload 6, 2) := by decide +kernel
theorem dX6_order_101 : decode cX6_order 101 = .ok (.iadd, 1) := by decide +kernel
theorem dX6_order_102 : decode cX6_order 102 = .ok (.iaload, 1) := by decide +kernel
theorem dX6_order_103 : decode cX6_order 103 = .ok (.iastore, 1) := by decide +kernel
theorem dX6_order_104 : decode cX6_order 104 = .ok (.aload_n 0, 1) := by decide +kernel
theorem dX6_order_105 : decode cX6_order 105 = .ok (.getfield 13, 3) := by decide +kernel
theorem dX6_order_108 : decode cX6_order 108 = .ok (.bipush 25, 2) := by decide +kernel
theorem dX6_order_110 : decode cX6_order 110 = .ok (.iload 6, 2) := by decide +kernel
theorem dX6_order_112 : decode cX6_order 112 = .ok (.iadd, 1) := by decide +kernel
theorem dX6_order_113 : decode cX6_order 113 = .ok (.aload_n 0, 1) := by decide +kernel
theorem dX6_order_114 : decode cX6_order 114 = .ok (.getfield 7, 3) := by decide +kernel
theorem dX6_order_117 : decode cX6_order 117 = .ok (.bipush 25, 2) := by decide +kernel
theorem dX6_order_119 : decode cX6_order 119 = .ok (.iload 5, 2) := by decide +kernel
theorem dX6_order_121 : decode cX6_order 121 = .ok (.iadd, 1) := by decide +kernel
theorem dX6_order_122 : decode cX6_order 122 = .ok (.iaload, 1) := by decide +kernel
theorem dX6_order_123 : decode cX6_order 123 = .ok (.iastore, 1) := by decide +kernel
theorem dX6_order_124 : decode cX6_order 124 = .ok (.aload_n 0, 1) := by decide +kernel
theorem dX6_order_125 : decode cX6_order 125 = .ok (.iload_n 1, 1) := by decide +kernel
theorem dX6_order_126 : decode cX6_order 126 = .ok (.invokevirtual 211, 3) := by decide +kernel
theorem dX6_order_129 : decode cX6_order 129 = .ok (.aload_n 0, 1) := by decide +kernel
theorem dX6_order_130 : decode cX6_order 130 = .ok (.getfield 13, 3) := by decide +kernel
theorem dX6_order_133 : decode cX6_order 133 = .ok (.bipush 32, 2) := by decide +kernel
theorem dX6_order_135 : decode cX6_order 135 = .ok (.iaload, 1) := by decide +kernel
theorem dX6_order_136 : decode cX6_order 136 = .ok (.iload_n 3, 1) := by decide +kernel
theorem dX6_order_137 : decode cX6_order 137 = .ok (.if_icmp .le 14, 3) := by decide +kernel
theorem dX6_order_140 : decode cX6_order 140 = .ok (.bipush 10, 2) := by decide +kernel
theorem dX6_order_142 : decode cX6_order 142 = .ok (.iload 5, 2) := by decide +kernel
theorem dX6_order_144 : decode cX6_order 144 = .ok (.imul, 1) := by decide +kernel
theorem dX6_order_145 : decode cX6_order 145 = .ok (.iload 6, 2) := by decide +kernel
theorem dX6_order_147 : decode cX6_order 147 = .ok (.iadd, 1) := by decide +kernel
theorem dX6_order_148 : decode cX6_order 148 = .ok (.goto 5, 3) := by decide +kernel
theorem dX6_order_151 : decode cX6_order 151 = .ok (.iload 4, 2) := by decide +kernel
theorem dX6_order_153 : decode cX6_order 153 = .ok (.istore 4, 2) := by decide +kernel
theorem dX6_order_155 : decode cX6_order 155 = .ok (.aload_n 0, 1) := by decide +kernel
theorem dX6_order_156 : decode cX6_order 156 = .ok (.getfield 13, 3) := by decide +kernel
theorem dX6_order_159 : decode cX6_order 159 = .ok (.bipush 32, 2) := by decide +kernel
theorem dX6_order_161 : decode cX6_order 161 = .ok (.iaload, 1) := by decide +kernel
theorem dX6_order_162 : decode cX6_order 162 = .ok (.iload_n 3, 1) := by decide +kernel
theorem dX6_order_163 : decode cX6_order 163 = .ok (.if_icmp .le 13, 3) := by decide +kernel
theorem dX6_order_166 : decode cX6_order 166 = .ok (.aload_n 0, 1) := by decide +kernel
theorem dX6_order_167 : decode cX6_order 167 = .ok (.getfield 13, 3) := by decide +kernel
theorem dX6_order_170 : decode cX6_order 170 = .ok (.bipush 32, 2) := by decide +kernel
theorem dX6_order_172 : decode cX6_order 172 = .ok (.iaload, 1) := by decide +kernel
theorem dX6_order_173 : decode cX6_order 173 = .ok (.goto 4, 3) := by decide +kernel
theorem dX6_order_176 : decode cX6_order 176 = .ok (.iload_n 3, 1) := by decide +kernel
theorem dX6_order_177 : decode cX6_order 177 = .ok (.istore_n 3, 1) := by decide +kernel
theorem dX6_order_178 : decode cX6_order 178 = .ok (.iinc 6 1, 3) := by decide +kernel
theorem dX6_order_181 : decode cX6_order 181 = .ok (.goto (-113), 3) := by decide +kernel
theorem dX6_order_184 : decode cX6_order 184 = .ok (.iinc 5 1, 3) := by decide +kernel
theorem dX6_order_187 : decode cX6_order 187 = .ok (.goto (-137), 3) := by decide +kernel
theorem dX6_order_190 : decode cX6_order 190 = .ok (.iload 4, 2) := by decide +kernel
theorem dX6_order_192 : decode cX6_order 192 = .ok (.bipush (-4), 2) := by decide +kernel
theorem dX6_order_194 : decode cX6_order 194 = .ok (.if_icmp .ne 8, 3) := by decide +kernel
theorem dX6_order_197 : decode cX6_order 197 = .ok (.bipush (-4), 2) := by decide +kernel
theorem dX6_order_199 : decode cX6_order 199 = .ok (.goto 13, 3) := by decide +kernel
theorem dX6_order_202 : decode cX6_order 202 = .ok (.iload_n 2, 1) := by decide +kernel
theorem dX6_order_203 : decode cX6_order 203 = .ok (.ifCond .ne 8, 3) := by decide +kernel
theorem dX6_order_206 : decode cX6_order 206 = .ok (.iload 4, 2) := by decide +kernel
theorem dX6_order_208 : decode cX6_order 208 = .ok (.goto 4, 3) := by decide +kernel
theorem dX6_order_211 : decode cX6_order 211 = .ok (.iload_n 3, 1) := by decide +kernel
theorem dX6_order_212 : decode cX6_order 212 = .ok (.ireturn, 1) := by decide +kernel
set_option maxRecDepth 20000 in
theorem ggX6_stool_X6_isFar : GoodIn wsX6_stool wsX6_isFar := goodIn_r _ [6, 7, 8, 9, 5, 10] (by decide +kernel) (by decide +kernel)
set_option maxRecDepth 20000 in
theorem gX6_stool_X6_isFar : GoodIn wsX6_stool (va_wsS RX6 219 yX6_isFar wsX6_isFar) := goodIn_app (goodIn_of _ (by decide +kernel)) ggX6_stool_X6_isFar
set_option maxRecDepth 20000 in
theorem ggX6_stool_X6_isPart : GoodIn wsX6_stool wsX6_isPart := goodIn_r _ [13, 8, 9, 5, 10] (by decide +kernel) (by decide +kernel)
set_option maxRecDepth 20000 in
theorem gX6_stool_X6_isPart : GoodIn wsX6_stool (va_wsS RX6 232 yX6_isPart wsX6_isPart) := goodIn_app (goodIn_of _ (by decide +kernel)) ggX6_stool_X6_isPart
set_option maxRecDepth 20000 in
theorem ggX6_stool_X6_areTwo : GoodIn wsX6_stool wsX6_areTwo := goodIn_r _ [17, 2, 52, 53, 54, 55, 56, 57, 58, 59, 60, 61, 62, 63, 64, 65, 66, 67, 68, 69, 70, 71, 72, 73, 74, 75, 76, 77, 78, 79, 80, 81, 82] (by decide +kernel) (by decide +kernel)
set_option maxRecDepth 20000 in
theorem gX6_stool_X6_areTwo : GoodIn wsX6_stool (wsV RX6 207 RX6 yX6_areTwo wsX6_areTwo) := goodIn_app (goodIn_of _ (by decide +kernel)) ggX6_stool_X6_areTwo
set_option maxRecDepth 20000 in
theorem ggX6_stool_X6_starts : GoodIn wsX6_stool wsX6_starts := goodIn_r _ [21, 1, 2, 52, 53, 54, 55, 56, 57, 58, 59, 60, 61, 62, 63, 64, 65, 66, 67, 68, 69, 70, 71, 72, 73, 74, 75, 76, 77, 78, 79, 80, 81, 82] (by decide +kernel) (by decide +kernel)
set_option maxRecDepth 20000 in
theorem gX6_stool_X6_starts : GoodIn wsX6_stool (wsV RX6 184 RX6 yX6_starts wsX6_starts) := goodIn_app (goodIn_of _ (by decide +kernel)) ggX6_stool_X6_starts
set_option maxRecDepth 20000 in
theorem ggX6_stool_X6_reignsGo : GoodIn wsX6_stool wsX6_reignsGo := goodIn_r _ [25, 26, 27, 28, 5, 29, 1, 30, 31, 32, 33, 34, 35, 36, 37, 38, 39, 40, 41, 42, 43, 44, 45, 46, 47, 48, 49, 50, 51, 52, 53, 54, 55, 56, 57, 58, 59, 60, 61, 62, 63, 64, 65, 66, 67, 68, 69, 70, 71, 72, 73, 74, 75, 76, 77, 78, 79, 80, 81, 82] (by decide +kernel) (by decide +kernel)
set_option maxRecDepth 20000 in
theorem gX6_stool_X6_reignsGo : GoodIn wsX6_stool (wsV RX6 211 RX6 yX6_reignsGo wsX6_reignsGo) := goodIn_app (goodIn_of _ (by decide +kernel)) ggX6_stool_X6_reignsGo
set_option maxRecDepth 20000 in
theorem ggX6_stool_X6_becomesOf : GoodIn wsX6_stool wsX6_becomesOf := goodIn_r _ [51, 1, 52, 53, 54, 55, 56, 57, 58, 59, 60, 61, 62, 63, 64, 65, 66, 67, 68, 69, 70, 71, 72, 73, 74, 75, 76, 77, 78, 79, 80, 81, 82] (by decide +kernel) (by decide +kernel)
set_option maxRecDepth 20000 in
theorem gX6_stool_X6_becomesOf : GoodIn wsX6_stool (wsV RX6 170 RX6 yX6_becomesOf wsX6_becomesOf) := goodIn_app (goodIn_of _ (by decide +kernel)) ggX6_stool_X6_becomesOf
theorem dX6_stool_0 : decode cX6_stool 0 = .ok (.iload_n 1, 1) := by decide +kernel
theorem dX6_stool_1 : decode cX6_stool 1 = .ok (.invokestatic 219, 3) := by decide +kernel
theorem dX6_stool_4 : decode cX6_stool 4 = .ok (.ifCond .eq 10, 3) := by decide +kernel
theorem dX6_stool_7 : decode cX6_stool 7 = .ok (.iload_n 2, 1) := by decide +kernel
theorem dX6_stool_8 : decode cX6_stool 8 = .ok (.invokestatic 232, 3) := by decide +kernel
theorem dX6_stool_11 : decode cX6_stool 11 = .ok (.ifCond .ne 5, 3) := by decide +kernel
theorem dX6_stool_14 : decode cX6_stool 14 = .ok (.iconst (-1), 1) := by decide +kernel
theorem dX6_stool_15 : decode cX6_stool 15 = .ok (.ireturn, 1) := by decide +kernel
theorem dX6_stool_16 : decode cX6_stool 16 = .ok (.aload_n 0, 1) := by decide +kernel
theorem dX6_stool_17 : decode cX6_stool 17 = .ok (.invokevirtual 207, 3) := by decide +kernel
theorem dX6_stool_20 : decode cX6_stool 20 = .ok (.ifCond .ne 6, 3) := by decide +kernel
theorem dX6_stool_23 : decode cX6_stool 23 = .ok (.bipush (-2), 2) := by decide +kernel
theorem dX6_stool_25 : decode cX6_stool 25 = .ok (.ireturn, 1) := by decide +kernel
theorem dX6_stool_26 : decode cX6_stool 26 = .ok (.aload_n 0, 1) := by decide +kernel
theorem dX6_stool_27 : decode cX6_stool 27 = .ok (.invokevirtual 184, 3) := by decide +kernel
theorem dX6_stool_30 : decode cX6_stool 30 = .ok (.aload_n 0, 1) := by decide +kernel
theorem dX6_stool_31 : decode cX6_stool 31 = .ok (.iload_n 1, 1) := by decide +kernel
theorem dX6_stool_32 : decode cX6_stool 32 = .ok (.invokevirtual 211, 3) := by decide +kernel
theorem dX6_stool_35 : decode cX6_stool 35 = .ok (.aload_n 0, 1) := by decide +kernel
theorem dX6_stool_36 : decode cX6_stool 36 = .ok (.getfield 13, 3) := by decide +kernel
theorem dX6_stool_39 : decode cX6_stool 39 = .ok (.bipush 35, 2) := by decide +kernel
theorem dX6_stool_41 : decode cX6_stool 41 = .ok (.iaload, 1) := by decide +kernel
theorem dX6_stool_42 : decode cX6_stool 42 = .ok (.aload_n 0, 1) := by decide +kernel
theorem dX6_stool_43 : decode cX6_stool 43 = .ok (.getfield 7, 3) := by decide +kernel
theorem dX6_stool_46 : decode cX6_stool 46 = .ok (.bipush 35, 2) := by decide +kernel
theorem dX6_stool_48 : decode cX6_stool 48 = .ok (.iaload, 1) := by decide +kernel
theorem dX6_stool_49 : decode cX6_stool 49 = .ok (.isub, 1) := by decide +kernel
theorem dX6_stool_50 : decode cX6_stool 50 = .ok (.istore_n 3, 1) := by decide +kernel
theorem dX6_stool_51 : decode cX6_stool 51 = .ok (.bipush (-4), 2) := by decide +kernel
theorem dX6_stool_53 : decode cX6_stool 53 = .ok (.istore 4, 2) := by decide +kernel
theorem dX6_stool_55 : decode cX6_stool 55 = .ok (.iconst 0, 1) := by decide +kernel
theorem dX6_stool_56 : decode cX6_stool 56 = .ok (.istore 5, 2) := by decide +kernel
theorem dX6_stool_58 : decode cX6_stool 58 = .ok (.iload 5, 2) := by decide +kernel
theorem dX6_stool_60 : decode cX6_stool 60 = .ok (.aload_n 0, 1) := by decide +kernel
theorem dX6_stool_61 : decode cX6_stool 61 = .ok (.getfield 7, 3) := by decide +kernel
theorem dX6_stool_64 : decode cX6_stool 64 = .ok (.bipush 24, 2) := by decide +kernel
theorem dX6_stool_66 : decode cX6_stool 66 = .ok (.iaload, 1) := by decide +kernel
theorem dX6_stool_67 : decode cX6_stool 67 = .ok (.if_icmp .ge 71, 3) := by decide +kernel
theorem dX6_stool_70 : decode cX6_stool 70 = .ok (.aload_n 0, 1) := by decide +kernel
theorem dX6_stool_71 : decode cX6_stool 71 = .ok (.invokevirtual 184, 3) := by decide +kernel
theorem dX6_stool_74 : decode cX6_stool 74 = .ok (.aload_n 0, 1) := by decide +kernel
theorem dX6_stool_75 : decode cX6_stool 75 = .ok (.iload 5, 2) := by decide +kernel
theorem dX6_stool_77 : decode cX6_stool 77 = .ok (.iconst 0, 1) := by decide +kernel
theorem dX6_stool_78 : decode cX6_stool 78 = .ok (.iconst 3, 1) := by decide +kernel
theorem dX6_stool_79 : decode cX6_stool 79 = .ok (.invokevirtual 170, 3) := by decide +kernel
theorem dX6_stool_82 : decode cX6_stool 82 = .ok (.aload_n 0, 1) := by decide +kernel
theorem dX6_stool_83 : decode cX6_stool 83 = .ok (.iload_n 1, 1) := by decide +kernel
theorem dX6_stool_84 : decode cX6_stool 84 = .ok (.invokevirtual 211, 3) := by decide +kernel
theorem dX6_stool_87 : decode cX6_stool 87 = .ok (.aload_n 0, 1) := by decide +kernel
theorem dX6_stool_88 : decode cX6_stool 88 = .ok (.getfield 13, 3) := by decide +kernel
theorem dX6_stool_91 : decode cX6_stool 91 = .ok (.bipush 35, 2) := by decide +kernel
theorem dX6_stool_93 : decode cX6_stool 93 = .ok (.iaload, 1) := by decide +kernel
theorem dX6_stool_94 : decode cX6_stool 94 = .ok (.aload_n 0, 1) := by decide +kernel
theorem dX6_stool_95 : decode cX6_stool 95 = .ok (.getfield 7, 3) := by decide +kernel
theorem dX6_stool_98 : decode cX6_stool 98 = .ok (.bipush 35, 2) := by decide +kernel
theorem dX6_stool_100 : decode cX6_stool 100 = .ok (.iaload, 1) := by decide +kernel
theorem dX6_stool_101 : decode cX6_stool 101 = .ok (.isub, 1) := by decide +kernel
theorem dX6_stool_102 : decode cX6_stool 102 = .ok (.istore 6, 2) := by decide +kernel
theorem dX6_stool_104 : decode cX6_stool 104 = .ok (.iload 6, 2) := by decide +kernel
theorem dX6_stool_106 : decode cX6_stool 106 = .ok (.iload_n 3, 1) := by decide +kernel
theorem dX6_stool_107 : decode cX6_stool 107 = .ok (.if_icmp .ge 8, 3) := by decide +kernel
theorem dX6_stool_110 : decode cX6_stool 110 = .ok (.iload 5, 2) := by decide +kernel
theorem dX6_stool_112 : decode cX6_stool 112 = .ok (.goto 5, 3) := by decide +kernel
theorem dX6_stool_115 : decode cX6_stool 115 = .ok (.iload 4, 2) := by decide +kernel
theorem dX6_stool_117 : decode cX6_stool 117 = .ok (.istore 4, 2) := by decide +kernel
theorem dX6_stool_119 : decode cX6_stool 119 = .ok (.iload 6, 2) := by decide +kernel
theorem dX6_stool_121 : decode cX6_stool 121 = .ok (.iload_n 3, 1) := by decide +kernel
theorem dX6_stool_122 : decode cX6_stool 122 = .ok (.if_icmp .ge 8, 3) := by decide +kernel
theorem dX6_stool_125 : decode cX6_stool 125 = .ok (.iload 6, 2) := by decide +kernel
theorem dX6_stool_127 : decode cX6_stool 127 = .ok (.goto 4, 3) := by decide +kernel
theorem dX6_stool_130 : decode cX6_stool 130 = .ok (.iload_n 3, 1) := by decide +kernel
theorem dX6_stool_131 : decode cX6_stool 131 = .ok (.istore_n 3, 1) := by decide +kernel
theorem dX6_stool_132 : decode cX6_stool 132 = .ok (.iinc 5 1, 3) := by decide +kernel
theorem dX6_stool_135 : decode cX6_stool 135 = .ok (.goto (-77), 3) := by decide +kernel
theorem dX6_stool_138 : decode cX6_stool 138 = .ok (.iload 4, 2) := by decide +kernel
theorem dX6_stool_140 : decode cX6_stool 140 = .ok (.bipush (-4), 2) := by decide +kernel
theorem dX6_stool_142 : decode cX6_stool 142 = .ok (.if_icmp .ne 8, 3) := by decide +kernel
theorem dX6_stool_145 : decode cX6_stool 145 = .ok (.bipush (-4), 2) := by decide +kernel
theorem dX6_stool_147 : decode cX6_stool 147 = .ok (.goto 13, 3) := by decide +kernel
theorem dX6_stool_150 : decode cX6_stool 150 = .ok (.iload_n 2, 1) := by decide +kernel
theorem dX6_stool_151 : decode cX6_stool 151 = .ok (.ifCond .ne 8, 3) := by decide +kernel
theorem dX6_stool_154 : decode cX6_stool 154 = .ok (.iload 4, 2) := by decide +kernel
theorem dX6_stool_156 : decode cX6_stool 156 = .ok (.goto 4, 3) := by decide +kernel
theorem dX6_stool_159 : decode cX6_stool 159 = .ok (.iload_n 3, 1) := by decide +kernel
theorem dX6_stool_160 : decode cX6_stool 160 = .ok (.ireturn, 1) := by decide +kernel
set_option maxRecDepth 20000 in
theorem ggX6_bestOf_X6_starts : GoodIn wsX6_bestOf wsX6_starts := goodIn_r _ [6, 1, 7, 38, 39, 40, 41, 42, 43, 44, 45, 46, 47, 48, 49, 50, 51, 52, 53, 54, 55, 56, 57, 58, 59, 60, 61, 62, 63, 64, 65, 66, 67, 68] (by decide +kernel) (by decide +kernel)
set_option maxRecDepth 20000 in
theorem gX6_bestOf_X6_starts : GoodIn wsX6_bestOf (wsV RX6 184 RX6 yX6_starts wsX6_starts) := goodIn_app (goodIn_of _ (by decide +kernel)) ggX6_bestOf_X6_starts
set_option maxRecDepth 20000 in
theorem ggX6_bestOf_X6_reignsGo : GoodIn wsX6_bestOf wsX6_reignsGo := goodIn_r _ [11, 12, 13, 14, 5, 15, 1, 16, 17, 18, 19, 20, 21, 22, 23, 24, 25, 26, 27, 28, 29, 30, 31, 32, 33, 34, 35, 36, 37, 38, 39, 40, 41, 42, 43, 44, 45, 46, 47, 48, 49, 50, 51, 52, 53, 54, 55, 56, 57, 58, 59, 60, 61, 62, 63, 64, 65, 66, 67, 68] (by decide +kernel) (by decide +kernel)
set_option maxRecDepth 20000 in
theorem gX6_bestOf_X6_reignsGo : GoodIn wsX6_bestOf (wsV RX6 211 RX6 yX6_reignsGo wsX6_reignsGo) := goodIn_app (goodIn_of _ (by decide +kernel)) ggX6_bestOf_X6_reignsGo
theorem dX6_bestOf_0 : decode cX6_bestOf 0 = .ok (.iconst (-1), 1) := by decide +kernel
theorem dX6_bestOf_1 : decode cX6_bestOf 1 = .ok (.istore 6, 2) := by decide +kernel
theorem dX6_bestOf_3 : decode cX6_bestOf 3 = .ok (.iload_n 2, 1) := by decide +kernel
theorem dX6_bestOf_4 : decode cX6_bestOf 4 = .ok (.istore 7, 2) := by decide +kernel
theorem dX6_bestOf_6 : decode cX6_bestOf 6 = .ok (.iload_n 2, 1) := by decide +kernel
theorem dX6_bestOf_7 : decode cX6_bestOf 7 = .ok (.istore 8, 2) := by decide +kernel
theorem dX6_bestOf_9 : decode cX6_bestOf 9 = .ok (.iload 8, 2) := by decide +kernel
theorem dX6_bestOf_11 : decode cX6_bestOf 11 = .ok (.iload_n 3, 1) := by decide +kernel
theorem dX6_bestOf_12 : decode cX6_bestOf 12 = .ok (.if_icmp .gt 74, 3) := by decide +kernel
theorem dX6_bestOf_15 : decode cX6_bestOf 15 = .ok (.aload_n 0, 1) := by decide +kernel
theorem dX6_bestOf_16 : decode cX6_bestOf 16 = .ok (.invokevirtual 184, 3) := by decide +kernel
theorem dX6_bestOf_19 : decode cX6_bestOf 19 = .ok (.aload_n 0, 1) := by decide +kernel
theorem dX6_bestOf_20 : decode cX6_bestOf 20 = .ok (.getfield 13, 3) := by decide +kernel
theorem dX6_bestOf_23 : decode cX6_bestOf 23 = .ok (.iload_n 1, 1) := by decide +kernel
theorem dX6_bestOf_24 : decode cX6_bestOf 24 = .ok (.iload 8, 2) := by decide +kernel
theorem dX6_bestOf_26 : decode cX6_bestOf 26 = .ok (.iastore, 1) := by decide +kernel
theorem dX6_bestOf_27 : decode cX6_bestOf 27 = .ok (.aload_n 0, 1) := by decide +kernel
theorem dX6_bestOf_28 : decode cX6_bestOf 28 = .ok (.iload 4, 2) := by decide +kernel
theorem dX6_bestOf_30 : decode cX6_bestOf 30 = .ok (.invokevirtual 211, 3) := by decide +kernel
theorem dX6_bestOf_33 : decode cX6_bestOf 33 = .ok (.aload_n 0, 1) := by decide +kernel
theorem dX6_bestOf_34 : decode cX6_bestOf 34 = .ok (.getfield 13, 3) := by decide +kernel
theorem dX6_bestOf_37 : decode cX6_bestOf 37 = .ok (.bipush 32, 2) := by decide +kernel
theorem dX6_bestOf_39 : decode cX6_bestOf 39 = .ok (.iaload, 1) := by decide +kernel
theorem dX6_bestOf_40 : decode cX6_bestOf 40 = .ok (.iload 6, 2) := by decide +kernel
theorem dX6_bestOf_42 : decode cX6_bestOf 42 = .ok (.if_icmp .le 8, 3) := by decide +kernel
theorem dX6_bestOf_45 : decode cX6_bestOf 45 = .ok (.iload 8, 2) := by decide +kernel
theorem dX6_bestOf_47 : decode cX6_bestOf 47 = .ok (.goto 5, 3) := by decide +kernel
theorem dX6_bestOf_50 : decode cX6_bestOf 50 = .ok (.iload 7, 2) := by decide +kernel
theorem dX6_bestOf_52 : decode cX6_bestOf 52 = .ok (.istore 7, 2) := by decide +kernel
theorem dX6_bestOf_54 : decode cX6_bestOf 54 = .ok (.aload_n 0, 1) := by decide +kernel
theorem dX6_bestOf_55 : decode cX6_bestOf 55 = .ok (.getfield 13, 3) := by decide +kernel
theorem dX6_bestOf_58 : decode cX6_bestOf 58 = .ok (.bipush 32, 2) := by decide +kernel
theorem dX6_bestOf_60 : decode cX6_bestOf 60 = .ok (.iaload, 1) := by decide +kernel
theorem dX6_bestOf_61 : decode cX6_bestOf 61 = .ok (.iload 6, 2) := by decide +kernel
theorem dX6_bestOf_63 : decode cX6_bestOf 63 = .ok (.if_icmp .le 13, 3) := by decide +kernel
theorem dX6_bestOf_66 : decode cX6_bestOf 66 = .ok (.aload_n 0, 1) := by decide +kernel
theorem dX6_bestOf_67 : decode cX6_bestOf 67 = .ok (.getfield 13, 3) := by decide +kernel
theorem dX6_bestOf_70 : decode cX6_bestOf 70 = .ok (.bipush 32, 2) := by decide +kernel
theorem dX6_bestOf_72 : decode cX6_bestOf 72 = .ok (.iaload, 1) := by decide +kernel
theorem dX6_bestOf_73 : decode cX6_bestOf 73 = .ok (.goto 5, 3) := by decide +kernel
theorem dX6_bestOf_76 : decode cX6_bestOf 76 = .ok (.iload 6, 2) := by decide +kernel
theorem dX6_bestOf_78 : decode cX6_bestOf 78 = .ok (.istore 6, 2) := by decide +kernel
theorem dX6_bestOf_80 : decode cX6_bestOf 80 = .ok (.iinc 8 1, 3) := by decide +kernel
theorem dX6_bestOf_83 : decode cX6_bestOf 83 = .ok (.goto (-74), 3) := by decide +kernel
theorem dX6_bestOf_86 : decode cX6_bestOf 86 = .ok (.iload 5, 2) := by decide +kernel
theorem dX6_bestOf_88 : decode cX6_bestOf 88 = .ok (.ifCond .ne 8, 3) := by decide +kernel
theorem dX6_bestOf_91 : decode cX6_bestOf 91 = .ok (.iload 7, 2) := by decide +kernel
theorem dX6_bestOf_93 : decode cX6_bestOf 93 = .ok (.goto 5, 3) := by decide +kernel
theorem dX6_bestOf_96 : decode cX6_bestOf 96 = .ok (.iload 6, 2) := by decide +kernel
theorem dX6_bestOf_98 : decode cX6_bestOf 98 = .ok (.ireturn, 1) := by decide +kernel
set_option maxRecDepth 20000 in
theorem ggX6_term_X6_isHeir : GoodIn wsX6_term wsX6_isHeir := goodIn_r _ [5, 6, 7, 8, 4, 9, 60, 61, 62, 63, 64, 65, 66, 67, 68, 69, 70, 71, 72, 73, 74, 75, 76, 77, 78, 79, 80, 81, 82, 83, 84, 85, 86, 87, 88, 89, 90] (by decide +kernel) (by decide +kernel)
set_option maxRecDepth 20000 in
theorem gX6_term_X6_isHeir : GoodIn wsX6_term (wsV RX6 178 RX6 yX6_isHeir wsX6_isHeir) := goodIn_app (goodIn_of _ (by decide +kernel)) ggX6_term_X6_isHeir
set_option maxRecDepth 20000 in
theorem ggX6_term_X6_isFar : GoodIn wsX6_term wsX6_isFar := goodIn_r _ [12, 13, 7, 8, 4, 9] (by decide +kernel) (by decide +kernel)
set_option maxRecDepth 20000 in
theorem gX6_term_X6_isFar : GoodIn wsX6_term (va_wsS RX6 219 yX6_isFar wsX6_isFar) := goodIn_app (goodIn_of _ (by decide +kernel)) ggX6_term_X6_isFar
set_option maxRecDepth 20000 in
theorem ggX6_term_X6_isPart : GoodIn wsX6_term wsX6_isPart := goodIn_r _ [16, 7, 8, 4, 9] (by decide +kernel) (by decide +kernel)
set_option maxRecDepth 20000 in
theorem gX6_term_X6_isPart : GoodIn wsX6_term (va_wsS RX6 232 yX6_isPart wsX6_isPart) := goodIn_app (goodIn_of _ (by decide +kernel)) ggX6_term_X6_isPart
set_option maxRecDepth 20000 in
theorem ggX6_term_X6_areTwo : GoodIn wsX6_term wsX6_areTwo := goodIn_r _ [20, 6, 60, 61, 62, 63, 64, 65, 66, 67, 68, 69, 70, 71, 72, 73, 74, 75, 76, 77, 78, 79, 80, 81, 82, 83, 84, 85, 86, 87, 88, 89, 90] (by decide +kernel) (by decide +kernel)
set_option maxRecDepth 20000 in
theorem gX6_term_X6_areTwo : GoodIn wsX6_term (wsV RX6 207 RX6 yX6_areTwo wsX6_areTwo) := goodIn_app (goodIn_of _ (by decide +kernel)) ggX6_term_X6_areTwo
set_option maxRecDepth 20000 in
theorem ggX6_term_X6_bestOf : GoodIn wsX6_term wsX6_bestOf := goodIn_r _ [24, 25, 26, 27, 28, 4, 29, 6, 30, 31, 32, 33, 34, 35, 36, 37, 38, 39, 40, 41, 42, 43, 44, 45, 46, 47, 48, 49, 50, 51, 52, 53, 54, 55, 56, 57, 58, 59, 60, 61, 62, 63, 64, 65, 66, 67, 68, 69, 70, 71, 72, 73, 74, 75, 76, 77, 78, 79, 80, 81, 82, 83, 84, 85, 86, 87, 88, 89, 90] (by decide +kernel) (by decide +kernel)
set_option maxRecDepth 20000 in
theorem gX6_term_X6_bestOf : GoodIn wsX6_term (wsV RX6 235 RX6 yX6_bestOf wsX6_bestOf) := goodIn_app (goodIn_of _ (by decide +kernel)) ggX6_term_X6_bestOf
theorem dX6_term_0 : decode cX6_term 0 = .ok (.aload_n 0, 1) := by decide +kernel
theorem dX6_term_1 : decode cX6_term 1 = .ok (.iload_n 1, 1) := by decide +kernel
theorem dX6_term_2 : decode cX6_term 2 = .ok (.invokevirtual 178, 3) := by decide +kernel
theorem dX6_term_5 : decode cX6_term 5 = .ok (.ifCond .eq 17, 3) := by decide +kernel
theorem dX6_term_8 : decode cX6_term 8 = .ok (.iload_n 2, 1) := by decide +kernel
theorem dX6_term_9 : decode cX6_term 9 = .ok (.invokestatic 219, 3) := by decide +kernel
theorem dX6_term_12 : decode cX6_term 12 = .ok (.ifCond .eq 10, 3) := by decide +kernel
theorem dX6_term_15 : decode cX6_term 15 = .ok (.iload_n 3, 1) := by decide +kernel
theorem dX6_term_16 : decode cX6_term 16 = .ok (.invokestatic 232, 3) := by decide +kernel
theorem dX6_term_19 : decode cX6_term 19 = .ok (.ifCond .ne 5, 3) := by decide +kernel
theorem dX6_term_22 : decode cX6_term 22 = .ok (.iconst (-1), 1) := by decide +kernel
theorem dX6_term_23 : decode cX6_term 23 = .ok (.ireturn, 1) := by decide +kernel
theorem dX6_term_24 : decode cX6_term 24 = .ok (.aload_n 0, 1) := by decide +kernel
theorem dX6_term_25 : decode cX6_term 25 = .ok (.invokevirtual 207, 3) := by decide +kernel
theorem dX6_term_28 : decode cX6_term 28 = .ok (.ifCond .eq 20, 3) := by decide +kernel
theorem dX6_term_31 : decode cX6_term 31 = .ok (.aload_n 0, 1) := by decide +kernel
theorem dX6_term_32 : decode cX6_term 32 = .ok (.iconst 4, 1) := by decide +kernel
theorem dX6_term_33 : decode cX6_term 33 = .ok (.iload_n 1, 1) := by decide +kernel
theorem dX6_term_34 : decode cX6_term 34 = .ok (.imul, 1) := by decide +kernel
theorem dX6_term_35 : decode cX6_term 35 = .ok (.iconst 3, 1) := by decide +kernel
theorem dX6_term_36 : decode cX6_term 36 = .ok (.iadd, 1) := by decide +kernel
theorem dX6_term_37 : decode cX6_term 37 = .ok (.iconst 1, 1) := by decide +kernel
theorem dX6_term_38 : decode cX6_term 38 = .ok (.bipush 30, 2) := by decide +kernel
theorem dX6_term_40 : decode cX6_term 40 = .ok (.iload_n 2, 1) := by decide +kernel
theorem dX6_term_41 : decode cX6_term 41 = .ok (.iload_n 3, 1) := by decide +kernel
theorem dX6_term_42 : decode cX6_term 42 = .ok (.invokevirtual 235, 3) := by decide +kernel
theorem dX6_term_45 : decode cX6_term 45 = .ok (.goto 5, 3) := by decide +kernel
theorem dX6_term_48 : decode cX6_term 48 = .ok (.bipush (-2), 2) := by decide +kernel
theorem dX6_term_50 : decode cX6_term 50 = .ok (.ireturn, 1) := by decide +kernel
set_option maxRecDepth 20000 in
theorem ggX6_ache_X6_isFar : GoodIn wsX6_ache wsX6_isFar := goodIn_r _ [4, 5, 6, 7, 3, 8] (by decide +kernel) (by decide +kernel)
set_option maxRecDepth 20000 in
theorem gX6_ache_X6_isFar : GoodIn wsX6_ache (va_wsS RX6 219 yX6_isFar wsX6_isFar) := goodIn_app (goodIn_of _ (by decide +kernel)) ggX6_ache_X6_isFar
set_option maxRecDepth 20000 in
theorem ggX6_ache_X6_isPart : GoodIn wsX6_ache wsX6_isPart := goodIn_r _ [11, 6, 7, 3, 8] (by decide +kernel) (by decide +kernel)
set_option maxRecDepth 20000 in
theorem gX6_ache_X6_isPart : GoodIn wsX6_ache (va_wsS RX6 232 yX6_isPart wsX6_isPart) := goodIn_app (goodIn_of _ (by decide +kernel)) ggX6_ache_X6_isPart
set_option maxRecDepth 20000 in
theorem ggX6_ache_X6_areTwo : GoodIn wsX6_ache wsX6_areTwo := goodIn_r _ [15, 16, 56, 57, 58, 59, 60, 61, 62, 63, 64, 65, 66, 67, 68, 69, 70, 71, 72, 73, 74, 75, 76, 77, 78, 79, 80, 81, 82, 83, 84, 85, 86] (by decide +kernel) (by decide +kernel)
set_option maxRecDepth 20000 in
theorem gX6_ache_X6_areTwo : GoodIn wsX6_ache (wsV RX6 207 RX6 yX6_areTwo wsX6_areTwo) := goodIn_app (goodIn_of _ (by decide +kernel)) ggX6_ache_X6_areTwo
set_option maxRecDepth 20000 in
theorem ggX6_ache_X6_bestOf : GoodIn wsX6_ache wsX6_bestOf := goodIn_r _ [20, 21, 22, 23, 24, 3, 25, 16, 26, 27, 28, 29, 30, 31, 32, 33, 34, 35, 36, 37, 38, 39, 40, 41, 42, 43, 44, 45, 46, 47, 48, 49, 50, 51, 52, 53, 54, 55, 56, 57, 58, 59, 60, 61, 62, 63, 64, 65, 66, 67, 68, 69, 70, 71, 72, 73, 74, 75, 76, 77, 78, 79, 80, 81, 82, 83, 84, 85, 86] (by decide +kernel) (by decide +kernel)
set_option maxRecDepth 20000 in
theorem gX6_ache_X6_bestOf : GoodIn wsX6_ache (wsV RX6 235 RX6 yX6_bestOf wsX6_bestOf) := goodIn_app (goodIn_of _ (by decide +kernel)) ggX6_ache_X6_bestOf
theorem dX6_ache_0 : decode cX6_ache 0 = .ok (.iload_n 1, 1) := by decide +kernel
theorem dX6_ache_1 : decode cX6_ache 1 = .ok (.invokestatic 219, 3) := by decide +kernel
theorem dX6_ache_4 : decode cX6_ache 4 = .ok (.ifCond .eq 10, 3) := by decide +kernel
theorem dX6_ache_7 : decode cX6_ache 7 = .ok (.iload_n 2, 1) := by decide +kernel
theorem dX6_ache_8 : decode cX6_ache 8 = .ok (.invokestatic 232, 3) := by decide +kernel
theorem dX6_ache_11 : decode cX6_ache 11 = .ok (.ifCond .ne 5, 3) := by decide +kernel
theorem dX6_ache_14 : decode cX6_ache 14 = .ok (.iconst (-1), 1) := by decide +kernel
theorem dX6_ache_15 : decode cX6_ache 15 = .ok (.ireturn, 1) := by decide +kernel
theorem dX6_ache_16 : decode cX6_ache 16 = .ok (.aload_n 0, 1) := by decide +kernel
theorem dX6_ache_17 : decode cX6_ache 17 = .ok (.invokevirtual 207, 3) := by decide +kernel
theorem dX6_ache_20 : decode cX6_ache 20 = .ok (.ifCond .eq 17, 3) := by decide +kernel
theorem dX6_ache_23 : decode cX6_ache 23 = .ok (.aload_n 0, 1) := by decide +kernel
theorem dX6_ache_24 : decode cX6_ache 24 = .ok (.bipush 31, 2) := by decide +kernel
theorem dX6_ache_26 : decode cX6_ache 26 = .ok (.iconst 0, 1) := by decide +kernel
theorem dX6_ache_27 : decode cX6_ache 27 = .ok (.bipush 9, 2) := by decide +kernel
theorem dX6_ache_29 : decode cX6_ache 29 = .ok (.iload_n 1, 1) := by decide +kernel
theorem dX6_ache_30 : decode cX6_ache 30 = .ok (.iload_n 2, 1) := by decide +kernel
theorem dX6_ache_31 : decode cX6_ache 31 = .ok (.invokevirtual 235, 3) := by decide +kernel
theorem dX6_ache_34 : decode cX6_ache 34 = .ok (.goto 5, 3) := by decide +kernel
theorem dX6_ache_37 : decode cX6_ache 37 = .ok (.bipush (-2), 2) := by decide +kernel
theorem dX6_ache_39 : decode cX6_ache 39 = .ok (.ireturn, 1) := by decide +kernel
set_option maxRecDepth 20000 in
theorem ggX6_builder_X6_in : GoodIn wsX6_builder wsX6_in := goodIn_r _ [9] (by decide +kernel) (by decide +kernel)
set_option maxRecDepth 20000 in
theorem gX6_builder_X6_in : GoodIn wsX6_builder (va_wsS RX6 71 yX6_in wsX6_in) := goodIn_app (goodIn_of _ (by decide +kernel)) ggX6_builder_X6_in
set_option maxRecDepth 20000 in
theorem ggX6_builder_X6_isPart : GoodIn wsX6_builder wsX6_isPart := goodIn_r _ [12, 6, 7, 8, 9] (by decide +kernel) (by decide +kernel)
set_option maxRecDepth 20000 in
theorem gX6_builder_X6_isPart : GoodIn wsX6_builder (va_wsS RX6 232 yX6_isPart wsX6_isPart) := goodIn_app (goodIn_of _ (by decide +kernel)) ggX6_builder_X6_isPart
set_option maxRecDepth 20000 in
theorem ggX6_builder_X6_areTwo : GoodIn wsX6_builder wsX6_areTwo := goodIn_r _ [16, 17, 46, 47, 48, 49, 50, 51, 52, 53, 54, 55, 56, 57, 58, 59, 60, 61, 62, 63, 64, 65, 66, 67, 68, 69, 70, 71, 72, 73, 74, 75, 76] (by decide +kernel) (by decide +kernel)
set_option maxRecDepth 20000 in
theorem gX6_builder_X6_areTwo : GoodIn wsX6_builder (wsV RX6 207 RX6 yX6_areTwo wsX6_areTwo) := goodIn_app (goodIn_of _ (by decide +kernel)) ggX6_builder_X6_areTwo
set_option maxRecDepth 20000 in
theorem ggX6_builder_X6_starts : GoodIn wsX6_builder wsX6_starts := goodIn_r _ [21, 4, 17, 46, 47, 48, 49, 50, 51, 52, 53, 54, 55, 56, 57, 58, 59, 60, 61, 62, 63, 64, 65, 66, 67, 68, 69, 70, 71, 72, 73, 74, 75, 76] (by decide +kernel) (by decide +kernel)
set_option maxRecDepth 20000 in
theorem gX6_builder_X6_starts : GoodIn wsX6_builder (wsV RX6 184 RX6 yX6_starts wsX6_starts) := goodIn_app (goodIn_of _ (by decide +kernel)) ggX6_builder_X6_starts
set_option maxRecDepth 20000 in
theorem ggX6_builder_X6_reignGoes : GoodIn wsX6_builder wsX6_reignGoes := goodIn_r _ [25, 4, 3, 26, 5, 27, 28, 29, 8, 30, 31, 32, 33, 34, 35, 36, 37, 38, 39, 40, 41, 42, 43, 44, 45, 46, 47, 48, 49, 50, 51, 52, 53, 54, 55, 56, 57, 58, 59, 60, 61, 62, 63, 64, 65, 66, 67, 68, 69, 70, 71, 72, 73, 74, 75, 76] (by decide +kernel) (by decide +kernel)
set_option maxRecDepth 20000 in
theorem gX6_builder_X6_reignGoes : GoodIn wsX6_builder (wsV RX6 174 RX6 yX6_reignGoes wsX6_reignGoes) := goodIn_app (goodIn_of _ (by decide +kernel)) ggX6_builder_X6_reignGoes
theorem dX6_builder_0 : decode cX6_builder 0 = .ok (.iload_n 1, 1) := by decide +kernel
theorem dX6_builder_1 : decode cX6_builder 1 = .ok (.i2l, 1) := by decide +kernel
theorem dX6_builder_2 : decode cX6_builder 2 = .ok (.lconst 1, 1) := by decide +kernel
theorem dX6_builder_3 : decode cX6_builder 3 = .ok (.ldc2_w 217, 3) := by decide +kernel
theorem dX6_builder_6 : decode cX6_builder 6 = .ok (.invokestatic 71, 3) := by decide +kernel
theorem dX6_builder_9 : decode cX6_builder 9 = .ok (.ifCond .eq 10, 3) := by decide +kernel
theorem dX6_builder_12 : decode cX6_builder 12 = .ok (.iload_n 2, 1) := by decide +kernel
theorem dX6_builder_13 : decode cX6_builder 13 = .ok (.invokestatic 232, 3) := by decide +kernel
theorem dX6_builder_16 : decode cX6_builder 16 = .ok (.ifCond .ne 5, 3) := by decide +kernel
theorem dX6_builder_19 : decode cX6_builder 19 = .ok (.iconst (-1), 1) := by decide +kernel
theorem dX6_builder_20 : decode cX6_builder 20 = .ok (.ireturn, 1) := by decide +kernel
theorem dX6_builder_21 : decode cX6_builder 21 = .ok (.aload_n 0, 1) := by decide +kernel
theorem dX6_builder_22 : decode cX6_builder 22 = .ok (.invokevirtual 207, 3) := by decide +kernel
theorem dX6_builder_25 : decode cX6_builder 25 = .ok (.ifCond .ne 6, 3) := by decide +kernel
theorem dX6_builder_28 : decode cX6_builder 28 = .ok (.bipush (-2), 2) := by decide +kernel
theorem dX6_builder_30 : decode cX6_builder 30 = .ok (.ireturn, 1) := by decide +kernel
theorem dX6_builder_31 : decode cX6_builder 31 = .ok (.iconst 0, 1) := by decide +kernel
theorem dX6_builder_32 : decode cX6_builder 32 = .ok (.istore_n 3, 1) := by decide +kernel
theorem dX6_builder_33 : decode cX6_builder 33 = .ok (.iload_n 3, 1) := by decide +kernel
theorem dX6_builder_34 : decode cX6_builder 34 = .ok (.bipush 6, 2) := by decide +kernel
theorem dX6_builder_36 : decode cX6_builder 36 = .ok (.if_icmp .ge 16, 3) := by decide +kernel
theorem dX6_builder_39 : decode cX6_builder 39 = .ok (.aload_n 0, 1) := by decide +kernel
theorem dX6_builder_40 : decode cX6_builder 40 = .ok (.getfield 29, 3) := by decide +kernel
theorem dX6_builder_43 : decode cX6_builder 43 = .ok (.iload_n 3, 1) := by decide +kernel
theorem dX6_builder_44 : decode cX6_builder 44 = .ok (.iconst 0, 1) := by decide +kernel
theorem dX6_builder_45 : decode cX6_builder 45 = .ok (.iastore, 1) := by decide +kernel
theorem dX6_builder_46 : decode cX6_builder 46 = .ok (.iinc 3 1, 3) := by decide +kernel
theorem dX6_builder_49 : decode cX6_builder 49 = .ok (.goto (-16), 3) := by decide +kernel
theorem dX6_builder_52 : decode cX6_builder 52 = .ok (.aload_n 0, 1) := by decide +kernel
theorem dX6_builder_53 : decode cX6_builder 53 = .ok (.invokevirtual 184, 3) := by decide +kernel
theorem dX6_builder_56 : decode cX6_builder 56 = .ok (.iconst 0, 1) := by decide +kernel
theorem dX6_builder_57 : decode cX6_builder 57 = .ok (.istore_n 3, 1) := by decide +kernel
theorem dX6_builder_58 : decode cX6_builder 58 = .ok (.iload_n 3, 1) := by decide +kernel
theorem dX6_builder_59 : decode cX6_builder 59 = .ok (.iload_n 1, 1) := by decide +kernel
theorem dX6_builder_60 : decode cX6_builder 60 = .ok (.if_icmp .ge 47, 3) := by decide +kernel
theorem dX6_builder_63 : decode cX6_builder 63 = .ok (.aload_n 0, 1) := by decide +kernel
theorem dX6_builder_64 : decode cX6_builder 64 = .ok (.iconst 0, 1) := by decide +kernel
theorem dX6_builder_65 : decode cX6_builder 65 = .ok (.invokevirtual 174, 3) := by decide +kernel
theorem dX6_builder_68 : decode cX6_builder 68 = .ok (.aload_n 0, 1) := by decide +kernel
theorem dX6_builder_69 : decode cX6_builder 69 = .ok (.getfield 29, 3) := by decide +kernel
theorem dX6_builder_72 : decode cX6_builder 72 = .ok (.aload_n 0, 1) := by decide +kernel
theorem dX6_builder_73 : decode cX6_builder 73 = .ok (.getfield 150, 3) := by decide +kernel
theorem dX6_builder_76 : decode cX6_builder 76 = .ok (.dup2, 1) := by decide +kernel
theorem dX6_builder_77 : decode cX6_builder 77 = .ok (.iaload, 1) := by decide +kernel
theorem dX6_builder_78 : decode cX6_builder 78 = .ok (.aload_n 0, 1) := by decide +kernel
theorem dX6_builder_79 : decode cX6_builder 79 = .ok (.getfield 13, 3) := by decide +kernel
theorem dX6_builder_82 : decode cX6_builder 82 = .ok (.bipush 33, 2) := by decide +kernel
theorem dX6_builder_84 : decode cX6_builder 84 = .ok (.iaload, 1) := by decide +kernel
theorem dX6_builder_85 : decode cX6_builder 85 = .ok (.iconst 2, 1) := by decide +kernel
theorem dX6_builder_86 : decode cX6_builder 86 = .ok (.irem, 1) := by decide +kernel
theorem dX6_builder_87 : decode cX6_builder 87 = .ok (.iconst 1, 1) := by decide +kernel
theorem dX6_builder_88 : decode cX6_builder 88 = .ok (.if_icmp .ne 10, 3) := by decide +kernel
theorem dX6_builder_91 : decode cX6_builder 91 = .ok (.aload_n 0, 1) := by decide +kernel
theorem dX6_builder_92 : decode cX6_builder 92 = .ok (.getfield 160, 3) := by decide +kernel
theorem dX6_builder_95 : decode cX6_builder 95 = .ok (.goto 4, 3) := by decide +kernel
theorem dX6_builder_98 : decode cX6_builder 98 = .ok (.iconst 0, 1) := by decide +kernel
theorem dX6_builder_99 : decode cX6_builder 99 = .ok (.iadd, 1) := by decide +kernel
theorem dX6_builder_100 : decode cX6_builder 100 = .ok (.iastore, 1) := by decide +kernel
theorem dX6_builder_101 : decode cX6_builder 101 = .ok (.iinc 3 1, 3) := by decide +kernel
theorem dX6_builder_104 : decode cX6_builder 104 = .ok (.goto (-46), 3) := by decide +kernel
theorem dX6_builder_107 : decode cX6_builder 107 = .ok (.iconst 0, 1) := by decide +kernel
theorem dX6_builder_108 : decode cX6_builder 108 = .ok (.istore_n 3, 1) := by decide +kernel
theorem dX6_builder_109 : decode cX6_builder 109 = .ok (.iconst 1, 1) := by decide +kernel
theorem dX6_builder_110 : decode cX6_builder 110 = .ok (.istore 4, 2) := by decide +kernel
theorem dX6_builder_112 : decode cX6_builder 112 = .ok (.iload 4, 2) := by decide +kernel
theorem dX6_builder_114 : decode cX6_builder 114 = .ok (.bipush 6, 2) := by decide +kernel
theorem dX6_builder_116 : decode cX6_builder 116 = .ok (.if_icmp .ge 32, 3) := by decide +kernel
theorem dX6_builder_119 : decode cX6_builder 119 = .ok (.aload_n 0, 1) := by decide +kernel
theorem dX6_builder_120 : decode cX6_builder 120 = .ok (.getfield 29, 3) := by decide +kernel
theorem dX6_builder_123 : decode cX6_builder 123 = .ok (.iload 4, 2) := by decide +kernel
theorem dX6_builder_125 : decode cX6_builder 125 = .ok (.iaload, 1) := by decide +kernel
theorem dX6_builder_126 : decode cX6_builder 126 = .ok (.aload_n 0, 1) := by decide +kernel
theorem dX6_builder_127 : decode cX6_builder 127 = .ok (.getfield 29, 3) := by decide +kernel
theorem dX6_builder_130 : decode cX6_builder 130 = .ok (.iload_n 3, 1) := by decide +kernel
theorem dX6_builder_131 : decode cX6_builder 131 = .ok (.iaload, 1) := by decide +kernel
theorem dX6_builder_132 : decode cX6_builder 132 = .ok (.if_icmp .le 8, 3) := by decide +kernel
theorem dX6_builder_135 : decode cX6_builder 135 = .ok (.iload 4, 2) := by decide +kernel
theorem dX6_builder_137 : decode cX6_builder 137 = .ok (.goto 4, 3) := by decide +kernel
theorem dX6_builder_140 : decode cX6_builder 140 = .ok (.iload_n 3, 1) := by decide +kernel
theorem dX6_builder_141 : decode cX6_builder 141 = .ok (.istore_n 3, 1) := by decide +kernel
theorem dX6_builder_142 : decode cX6_builder 142 = .ok (.iinc 4 1, 3) := by decide +kernel
theorem dX6_builder_145 : decode cX6_builder 145 = .ok (.goto (-33), 3) := by decide +kernel
theorem dX6_builder_148 : decode cX6_builder 148 = .ok (.iload_n 2, 1) := by decide +kernel
theorem dX6_builder_149 : decode cX6_builder 149 = .ok (.ifCond .ne 7, 3) := by decide +kernel
theorem dX6_builder_152 : decode cX6_builder 152 = .ok (.iload_n 3, 1) := by decide +kernel
theorem dX6_builder_153 : decode cX6_builder 153 = .ok (.goto 9, 3) := by decide +kernel
theorem dX6_builder_156 : decode cX6_builder 156 = .ok (.aload_n 0, 1) := by decide +kernel
theorem dX6_builder_157 : decode cX6_builder 157 = .ok (.getfield 29, 3) := by decide +kernel
theorem dX6_builder_160 : decode cX6_builder 160 = .ok (.iload_n 3, 1) := by decide +kernel
theorem dX6_builder_161 : decode cX6_builder 161 = .ok (.iaload, 1) := by decide +kernel
theorem dX6_builder_162 : decode cX6_builder 162 = .ok (.ireturn, 1) := by decide +kernel
theorem dX6_common_0 : decode cX6_common 0 = .ok (.lload_n 0, 1) := by decide +kernel
theorem dX6_common_1 : decode cX6_common 1 = .ok (.lstore 4, 2) := by decide +kernel
theorem dX6_common_3 : decode cX6_common 3 = .ok (.lload_n 2, 1) := by decide +kernel
theorem dX6_common_4 : decode cX6_common 4 = .ok (.lstore 6, 2) := by decide +kernel
theorem dX6_common_6 : decode cX6_common 6 = .ok (.lload 6, 2) := by decide +kernel
theorem dX6_common_8 : decode cX6_common 8 = .ok (.lconst 0, 1) := by decide +kernel
theorem dX6_common_9 : decode cX6_common 9 = .ok (.lcmp, 1) := by decide +kernel
theorem dX6_common_10 : decode cX6_common 10 = .ok (.ifCond .eq 21, 3) := by decide +kernel
theorem dX6_common_13 : decode cX6_common 13 = .ok (.lload 4, 2) := by decide +kernel
theorem dX6_common_15 : decode cX6_common 15 = .ok (.lload 6, 2) := by decide +kernel
theorem dX6_common_17 : decode cX6_common 17 = .ok (.lrem, 1) := by decide +kernel
theorem dX6_common_18 : decode cX6_common 18 = .ok (.lstore 8, 2) := by decide +kernel
theorem dX6_common_20 : decode cX6_common 20 = .ok (.lload 6, 2) := by decide +kernel
theorem dX6_common_22 : decode cX6_common 22 = .ok (.lstore 4, 2) := by decide +kernel
theorem dX6_common_24 : decode cX6_common 24 = .ok (.lload 8, 2) := by decide +kernel
theorem dX6_common_26 : decode cX6_common 26 = .ok (.lstore 6, 2) := by decide +kernel
theorem dX6_common_28 : decode cX6_common 28 = .ok (.goto (-22), 3) := by decide +kernel
theorem dX6_common_31 : decode cX6_common 31 = .ok (.lload 4, 2) := by decide +kernel
theorem dX6_common_33 : decode cX6_common 33 = .ok (.lreturn, 1) := by decide +kernel
set_option maxRecDepth 20000 in
theorem ggX6_told_X6_common : GoodIn wsX6_told wsX6_common := goodIn_r _ [4] (by decide +kernel) (by decide +kernel)
set_option maxRecDepth 20000 in
theorem gX6_told_X6_common : GoodIn wsX6_told (va_wsS RX6 239 yX6_common wsX6_common) := goodIn_app (goodIn_of _ (by decide +kernel)) ggX6_told_X6_common
theorem dX6_told_0 : decode cX6_told 0 = .ok (.lload_n 2, 1) := by decide +kernel
theorem dX6_told_1 : decode cX6_told 1 = .ok (.lload_n 0, 1) := by decide +kernel
theorem dX6_told_2 : decode cX6_told 2 = .ok (.invokestatic 239, 3) := by decide +kernel
theorem dX6_told_5 : decode cX6_told 5 = .ok (.lstore 5, 2) := by decide +kernel
theorem dX6_told_7 : decode cX6_told 7 = .ok (.iload 4, 2) := by decide +kernel
theorem dX6_told_9 : decode cX6_told 9 = .ok (.ifCond .ne 10, 3) := by decide +kernel
theorem dX6_told_12 : decode cX6_told 12 = .ok (.lload_n 0, 1) := by decide +kernel
theorem dX6_told_13 : decode cX6_told 13 = .ok (.lload 5, 2) := by decide +kernel
theorem dX6_told_15 : decode cX6_told 15 = .ok (.ldiv, 1) := by decide +kernel
theorem dX6_told_16 : decode cX6_told 16 = .ok (.goto 7, 3) := by decide +kernel
theorem dX6_told_19 : decode cX6_told 19 = .ok (.lload_n 2, 1) := by decide +kernel
theorem dX6_told_20 : decode cX6_told 20 = .ok (.lload 5, 2) := by decide +kernel
theorem dX6_told_22 : decode cX6_told 22 = .ok (.ldiv, 1) := by decide +kernel
theorem dX6_told_23 : decode cX6_told 23 = .ok (.lreturn, 1) := by decide +kernel
set_option maxRecDepth 20000 in
theorem ggX6_findOdds_X6_starts : GoodIn wsX6_findOdds wsX6_starts := goodIn_r _ [11, 6, 12, 38, 39, 40, 41, 42, 43, 44, 45, 46, 47, 48, 49, 50, 51, 52, 53, 54, 55, 56, 57, 58, 59, 60, 61, 62, 63, 64, 65, 66, 67, 68] (by decide +kernel) (by decide +kernel)
set_option maxRecDepth 20000 in
theorem gX6_findOdds_X6_starts : GoodIn wsX6_findOdds (wsV RX6 184 RX6 yX6_starts wsX6_starts) := goodIn_app (goodIn_of _ (by decide +kernel)) ggX6_findOdds_X6_starts
set_option maxRecDepth 20000 in
theorem ggX6_findOdds_X6_reignGoes : GoodIn wsX6_findOdds wsX6_reignGoes := goodIn_r _ [16, 6, 5, 17, 18, 19, 20, 21, 10, 22, 23, 24, 25, 26, 27, 28, 29, 30, 31, 32, 33, 34, 35, 36, 37, 38, 39, 40, 41, 42, 43, 44, 45, 46, 47, 48, 49, 50, 51, 52, 53, 54, 55, 56, 57, 58, 59, 60, 61, 62, 63, 64, 65, 66, 67, 68] (by decide +kernel) (by decide +kernel)
set_option maxRecDepth 20000 in
theorem gX6_findOdds_X6_reignGoes : GoodIn wsX6_findOdds (wsV RX6 174 RX6 yX6_reignGoes wsX6_reignGoes) := goodIn_app (goodIn_of _ (by decide +kernel)) ggX6_findOdds_X6_reignGoes
theorem dX6_findOdds_0 : decode cX6_findOdds 0 = .ok (.aload_n 0, 1) := by decide +kernel
theorem dX6_findOdds_1 : decode cX6_findOdds 1 = .ok (.lconst 0, 1) := by decide +kernel
theorem dX6_findOdds_2 : decode cX6_findOdds 2 = .ok (.putfield 243, 3) := by decide +kernel
theorem dX6_findOdds_5 : decode cX6_findOdds 5 = .ok (.aload_n 0, 1) := by decide +kernel
theorem dX6_findOdds_6 : decode cX6_findOdds 6 = .ok (.lconst 0, 1) := by decide +kernel
theorem dX6_findOdds_7 : decode cX6_findOdds 7 = .ok (.putfield 247, 3) := by decide +kernel
theorem dX6_findOdds_10 : decode cX6_findOdds 10 = .ok (.aload_n 0, 1) := by decide +kernel
theorem dX6_findOdds_11 : decode cX6_findOdds 11 = .ok (.lconst 1, 1) := by decide +kernel
theorem dX6_findOdds_12 : decode cX6_findOdds 12 = .ok (.putfield 250, 3) := by decide +kernel
theorem dX6_findOdds_15 : decode cX6_findOdds 15 = .ok (.iconst 0, 1) := by decide +kernel
theorem dX6_findOdds_16 : decode cX6_findOdds 16 = .ok (.istore 4, 2) := by decide +kernel
theorem dX6_findOdds_18 : decode cX6_findOdds 18 = .ok (.iload 4, 2) := by decide +kernel
theorem dX6_findOdds_20 : decode cX6_findOdds 20 = .ok (.iload_n 3, 1) := by decide +kernel
theorem dX6_findOdds_21 : decode cX6_findOdds 21 = .ok (.if_icmp .ge 21, 3) := by decide +kernel
theorem dX6_findOdds_24 : decode cX6_findOdds 24 = .ok (.aload_n 0, 1) := by decide +kernel
theorem dX6_findOdds_25 : decode cX6_findOdds 25 = .ok (.dup, 1) := by decide +kernel
theorem dX6_findOdds_26 : decode cX6_findOdds 26 = .ok (.getfield 250, 3) := by decide +kernel
theorem dX6_findOdds_29 : decode cX6_findOdds 29 = .ok (.ldc2_w 253, 3) := by decide +kernel
theorem dX6_findOdds_32 : decode cX6_findOdds 32 = .ok (.lmul, 1) := by decide +kernel
theorem dX6_findOdds_33 : decode cX6_findOdds 33 = .ok (.putfield 250, 3) := by decide +kernel
theorem dX6_findOdds_36 : decode cX6_findOdds 36 = .ok (.iinc 4 1, 3) := by decide +kernel
theorem dX6_findOdds_39 : decode cX6_findOdds 39 = .ok (.goto (-21), 3) := by decide +kernel
theorem dX6_findOdds_42 : decode cX6_findOdds 42 = .ok (.iconst 0, 1) := by decide +kernel
theorem dX6_findOdds_43 : decode cX6_findOdds 43 = .ok (.istore 4, 2) := by decide +kernel
theorem dX6_findOdds_45 : decode cX6_findOdds 45 = .ok (.iload 4, 2) := by decide +kernel
theorem dX6_findOdds_47 : decode cX6_findOdds 47 = .ok (.iconst 1, 1) := by decide +kernel
theorem dX6_findOdds_48 : decode cX6_findOdds 48 = .ok (.iload_n 3, 1) := by decide +kernel
theorem dX6_findOdds_49 : decode cX6_findOdds 49 = .ok (.ishl, 1) := by decide +kernel
theorem dX6_findOdds_50 : decode cX6_findOdds 50 = .ok (.if_icmp .ge 124, 3) := by decide +kernel
theorem dX6_findOdds_53 : decode cX6_findOdds 53 = .ok (.lconst 1, 1) := by decide +kernel
theorem dX6_findOdds_54 : decode cX6_findOdds 54 = .ok (.lstore 5, 2) := by decide +kernel
theorem dX6_findOdds_56 : decode cX6_findOdds 56 = .ok (.aload_n 0, 1) := by decide +kernel
theorem dX6_findOdds_57 : decode cX6_findOdds 57 = .ok (.invokevirtual 184, 3) := by decide +kernel
theorem dX6_findOdds_60 : decode cX6_findOdds 60 = .ok (.aload_n 0, 1) := by decide +kernel
theorem dX6_findOdds_61 : decode cX6_findOdds 61 = .ok (.bipush (-4), 2) := by decide +kernel
theorem dX6_findOdds_63 : decode cX6_findOdds 63 = .ok (.putfield 150, 3) := by decide +kernel
theorem dX6_findOdds_66 : decode cX6_findOdds 66 = .ok (.iconst 0, 1) := by decide +kernel
theorem dX6_findOdds_67 : decode cX6_findOdds 67 = .ok (.istore 7, 2) := by decide +kernel
theorem dX6_findOdds_69 : decode cX6_findOdds 69 = .ok (.iload 7, 2) := by decide +kernel
theorem dX6_findOdds_71 : decode cX6_findOdds 71 = .ok (.iload_n 3, 1) := by decide +kernel
theorem dX6_findOdds_72 : decode cX6_findOdds 72 = .ok (.if_icmp .ge 53, 3) := by decide +kernel
theorem dX6_findOdds_75 : decode cX6_findOdds 75 = .ok (.iload 4, 2) := by decide +kernel
theorem dX6_findOdds_77 : decode cX6_findOdds 77 = .ok (.iload 7, 2) := by decide +kernel
theorem dX6_findOdds_79 : decode cX6_findOdds 79 = .ok (.ishr, 1) := by decide +kernel
theorem dX6_findOdds_80 : decode cX6_findOdds 80 = .ok (.iconst 1, 1) := by decide +kernel
theorem dX6_findOdds_81 : decode cX6_findOdds 81 = .ok (.iand, 1) := by decide +kernel
theorem dX6_findOdds_82 : decode cX6_findOdds 82 = .ok (.iconst 1, 1) := by decide +kernel
theorem dX6_findOdds_83 : decode cX6_findOdds 83 = .ok (.if_icmp .ne 7, 3) := by decide +kernel
theorem dX6_findOdds_86 : decode cX6_findOdds 86 = .ok (.iconst 1, 1) := by decide +kernel
theorem dX6_findOdds_87 : decode cX6_findOdds 87 = .ok (.goto 4, 3) := by decide +kernel
theorem dX6_findOdds_90 : decode cX6_findOdds 90 = .ok (.iconst 0, 1) := by decide +kernel
theorem dX6_findOdds_91 : decode cX6_findOdds 91 = .ok (.istore 8, 2) := by decide +kernel
theorem dX6_findOdds_93 : decode cX6_findOdds 93 = .ok (.lload 5, 2) := by decide +kernel
theorem dX6_findOdds_95 : decode cX6_findOdds 95 = .ok (.iload 8, 2) := by decide +kernel
theorem dX6_findOdds_97 : decode cX6_findOdds 97 = .ok (.ifCond .eq 8, 3) := by decide +kernel
theorem dX6_findOdds_100 : decode cX6_findOdds 100 = .ok (.iload_n 1, 1) := by decide +kernel
theorem dX6_findOdds_101 : decode cX6_findOdds 101 = .ok (.i2l, 1) := by decide +kernel
theorem dX6_findOdds_102 : decode cX6_findOdds 102 = .ok (.goto 8, 3) := by decide +kernel
theorem dX6_findOdds_105 : decode cX6_findOdds 105 = .ok (.bipush 10, 2) := by decide +kernel
theorem dX6_findOdds_107 : decode cX6_findOdds 107 = .ok (.iload_n 1, 1) := by decide +kernel
theorem dX6_findOdds_108 : decode cX6_findOdds 108 = .ok (.isub, 1) := by decide +kernel
theorem dX6_findOdds_109 : decode cX6_findOdds 109 = .ok (.i2l, 1) := by decide +kernel
theorem dX6_findOdds_110 : decode cX6_findOdds 110 = .ok (.lmul, 1) := by decide +kernel
theorem dX6_findOdds_111 : decode cX6_findOdds 111 = .ok (.lstore 5, 2) := by decide +kernel
theorem dX6_findOdds_113 : decode cX6_findOdds 113 = .ok (.aload_n 0, 1) := by decide +kernel
theorem dX6_findOdds_114 : decode cX6_findOdds 114 = .ok (.iload 8, 2) := by decide +kernel
theorem dX6_findOdds_116 : decode cX6_findOdds 116 = .ok (.invokevirtual 174, 3) := by decide +kernel
theorem dX6_findOdds_119 : decode cX6_findOdds 119 = .ok (.iinc 7 1, 3) := by decide +kernel
theorem dX6_findOdds_122 : decode cX6_findOdds 122 = .ok (.goto (-53), 3) := by decide +kernel
theorem dX6_findOdds_125 : decode cX6_findOdds 125 = .ok (.aload_n 0, 1) := by decide +kernel
theorem dX6_findOdds_126 : decode cX6_findOdds 126 = .ok (.dup, 1) := by decide +kernel
theorem dX6_findOdds_127 : decode cX6_findOdds 127 = .ok (.getfield 243, 3) := by decide +kernel
theorem dX6_findOdds_130 : decode cX6_findOdds 130 = .ok (.aload_n 0, 1) := by decide +kernel
theorem dX6_findOdds_131 : decode cX6_findOdds 131 = .ok (.getfield 150, 3) := by decide +kernel
theorem dX6_findOdds_134 : decode cX6_findOdds 134 = .ok (.iload_n 2, 1) := by decide +kernel
theorem dX6_findOdds_135 : decode cX6_findOdds 135 = .ok (.if_icmp .ne 8, 3) := by decide +kernel
theorem dX6_findOdds_138 : decode cX6_findOdds 138 = .ok (.lload 5, 2) := by decide +kernel
theorem dX6_findOdds_140 : decode cX6_findOdds 140 = .ok (.goto 4, 3) := by decide +kernel
theorem dX6_findOdds_143 : decode cX6_findOdds 143 = .ok (.lconst 0, 1) := by decide +kernel
theorem dX6_findOdds_144 : decode cX6_findOdds 144 = .ok (.ladd, 1) := by decide +kernel
theorem dX6_findOdds_145 : decode cX6_findOdds 145 = .ok (.putfield 243, 3) := by decide +kernel
theorem dX6_findOdds_148 : decode cX6_findOdds 148 = .ok (.aload_n 0, 1) := by decide +kernel
theorem dX6_findOdds_149 : decode cX6_findOdds 149 = .ok (.dup, 1) := by decide +kernel
theorem dX6_findOdds_150 : decode cX6_findOdds 150 = .ok (.getfield 247, 3) := by decide +kernel
theorem dX6_findOdds_153 : decode cX6_findOdds 153 = .ok (.lload 5, 2) := by decide +kernel
theorem dX6_findOdds_155 : decode cX6_findOdds 155 = .ok (.aload_n 0, 1) := by decide +kernel
theorem dX6_findOdds_156 : decode cX6_findOdds 156 = .ok (.getfield 13, 3) := by decide +kernel
theorem dX6_findOdds_159 : decode cX6_findOdds 159 = .ok (.bipush 32, 2) := by decide +kernel
theorem dX6_findOdds_161 : decode cX6_findOdds 161 = .ok (.iaload, 1) := by decide +kernel
theorem dX6_findOdds_162 : decode cX6_findOdds 162 = .ok (.i2l, 1) := by decide +kernel
theorem dX6_findOdds_163 : decode cX6_findOdds 163 = .ok (.lmul, 1) := by decide +kernel
theorem dX6_findOdds_164 : decode cX6_findOdds 164 = .ok (.ladd, 1) := by decide +kernel
theorem dX6_findOdds_165 : decode cX6_findOdds 165 = .ok (.putfield 247, 3) := by decide +kernel
theorem dX6_findOdds_168 : decode cX6_findOdds 168 = .ok (.iinc 4 1, 3) := by decide +kernel
theorem dX6_findOdds_171 : decode cX6_findOdds 171 = .ok (.goto (-126), 3) := by decide +kernel
theorem dX6_findOdds_174 : decode cX6_findOdds 174 = .ok (.return_, 1) := by decide +kernel
set_option maxRecDepth 20000 in
theorem ggX6_luck_X6_in : GoodIn wsX6_luck wsX6_in := goodIn_r _ [10] (by decide +kernel) (by decide +kernel)
set_option maxRecDepth 20000 in
theorem gX6_luck_X6_in : GoodIn wsX6_luck (va_wsS RX6 71 yX6_in wsX6_in) := goodIn_app (goodIn_of _ (by decide +kernel)) ggX6_luck_X6_in
set_option maxRecDepth 20000 in
theorem ggX6_luck_X6_isHeir : GoodIn wsX6_luck wsX6_isHeir := goodIn_r _ [14, 15, 7, 8, 9, 10, 65, 66, 67, 68, 69, 70, 71, 72, 73, 74, 75, 76, 77, 78, 79, 80, 81, 82, 83, 84, 85, 86, 87, 88, 89, 90, 91, 92, 93, 94, 95] (by decide +kernel) (by decide +kernel)
set_option maxRecDepth 20000 in
theorem gX6_luck_X6_isHeir : GoodIn wsX6_luck (wsV RX6 178 RX6 yX6_isHeir wsX6_isHeir) := goodIn_app (goodIn_of _ (by decide +kernel)) ggX6_luck_X6_isHeir
set_option maxRecDepth 20000 in
theorem ggX6_luck_X6_isPart : GoodIn wsX6_luck wsX6_isPart := goodIn_r _ [18, 7, 8, 9, 10] (by decide +kernel) (by decide +kernel)
set_option maxRecDepth 20000 in
theorem gX6_luck_X6_isPart : GoodIn wsX6_luck (va_wsS RX6 232 yX6_isPart wsX6_isPart) := goodIn_app (goodIn_of _ (by decide +kernel)) ggX6_luck_X6_isPart
set_option maxRecDepth 20000 in
theorem ggX6_luck_X6_areTwo : GoodIn wsX6_luck wsX6_areTwo := goodIn_r _ [22, 15, 65, 66, 67, 68, 69, 70, 71, 72, 73, 74, 75, 76, 77, 78, 79, 80, 81, 82, 83, 84, 85, 86, 87, 88, 89, 90, 91, 92, 93, 94, 95] (by decide +kernel) (by decide +kernel)
set_option maxRecDepth 20000 in
theorem gX6_luck_X6_areTwo : GoodIn wsX6_luck (wsV RX6 207 RX6 yX6_areTwo wsX6_areTwo) := goodIn_app (goodIn_of _ (by decide +kernel)) ggX6_luck_X6_areTwo
set_option maxRecDepth 20000 in
theorem ggX6_luck_X6_findOdds : GoodIn wsX6_luck wsX6_findOdds := goodIn_r _ [26, 5, 27, 6, 1, 28, 29, 30, 31, 32, 9, 33, 15, 34, 35, 36, 37, 38, 39, 40, 41, 42, 43, 44, 45, 46, 47, 48, 49, 50, 51, 52, 53, 54, 55, 56, 57, 58, 65, 66, 67, 68, 69, 70, 71, 72, 73, 74, 75, 76, 77, 78, 79, 80, 81, 82, 83, 84, 85, 86, 87, 88, 89, 90, 91, 92, 93, 94, 95] (by decide +kernel) (by decide +kernel)
set_option maxRecDepth 20000 in
theorem gX6_luck_X6_findOdds : GoodIn wsX6_luck (wsV RX6 261 RX6 yX6_findOdds wsX6_findOdds) := goodIn_app (goodIn_of _ (by decide +kernel)) ggX6_luck_X6_findOdds
set_option maxRecDepth 20000 in
theorem ggX6_luck_X6_told : GoodIn wsX6_luck wsX6_told := goodIn_r _ [61, 62, 63, 9, 64] (by decide +kernel) (by decide +kernel)
set_option maxRecDepth 20000 in
theorem gX6_luck_X6_told : GoodIn wsX6_luck (va_wsS RX6 264 yX6_told wsX6_told) := goodIn_app (goodIn_of _ (by decide +kernel)) ggX6_luck_X6_told
theorem dX6_luck_0 : decode cX6_luck 0 = .ok (.iload_n 1, 1) := by decide +kernel
theorem dX6_luck_1 : decode cX6_luck 1 = .ok (.i2l, 1) := by decide +kernel
theorem dX6_luck_2 : decode cX6_luck 2 = .ok (.lconst 0, 1) := by decide +kernel
theorem dX6_luck_3 : decode cX6_luck 3 = .ok (.ldc2_w 253, 3) := by decide +kernel
theorem dX6_luck_6 : decode cX6_luck 6 = .ok (.invokestatic 71, 3) := by decide +kernel
theorem dX6_luck_9 : decode cX6_luck 9 = .ok (.ifCond .eq 31, 3) := by decide +kernel
theorem dX6_luck_12 : decode cX6_luck 12 = .ok (.aload_n 0, 1) := by decide +kernel
theorem dX6_luck_13 : decode cX6_luck 13 = .ok (.iload_n 2, 1) := by decide +kernel
theorem dX6_luck_14 : decode cX6_luck 14 = .ok (.invokevirtual 178, 3) := by decide +kernel
theorem dX6_luck_17 : decode cX6_luck 17 = .ok (.ifCond .eq 23, 3) := by decide +kernel
theorem dX6_luck_20 : decode cX6_luck 20 = .ok (.iload_n 3, 1) := by decide +kernel
theorem dX6_luck_21 : decode cX6_luck 21 = .ok (.i2l, 1) := by decide +kernel
theorem dX6_luck_22 : decode cX6_luck 22 = .ok (.lconst 0, 1) := by decide +kernel
theorem dX6_luck_23 : decode cX6_luck 23 = .ok (.ldc2_w 255, 3) := by decide +kernel
theorem dX6_luck_26 : decode cX6_luck 26 = .ok (.invokestatic 71, 3) := by decide +kernel
theorem dX6_luck_29 : decode cX6_luck 29 = .ok (.ifCond .eq 11, 3) := by decide +kernel
theorem dX6_luck_32 : decode cX6_luck 32 = .ok (.iload 4, 2) := by decide +kernel
theorem dX6_luck_34 : decode cX6_luck 34 = .ok (.invokestatic 232, 3) := by decide +kernel
theorem dX6_luck_37 : decode cX6_luck 37 = .ok (.ifCond .ne 7, 3) := by decide +kernel
theorem dX6_luck_40 : decode cX6_luck 40 = .ok (.ldc2_w 257, 3) := by decide +kernel
theorem dX6_luck_43 : decode cX6_luck 43 = .ok (.lreturn, 1) := by decide +kernel
theorem dX6_luck_44 : decode cX6_luck 44 = .ok (.aload_n 0, 1) := by decide +kernel
theorem dX6_luck_45 : decode cX6_luck 45 = .ok (.invokevirtual 207, 3) := by decide +kernel
theorem dX6_luck_48 : decode cX6_luck 48 = .ok (.ifCond .ne 7, 3) := by decide +kernel
theorem dX6_luck_51 : decode cX6_luck 51 = .ok (.ldc2_w 259, 3) := by decide +kernel
theorem dX6_luck_54 : decode cX6_luck 54 = .ok (.lreturn, 1) := by decide +kernel
theorem dX6_luck_55 : decode cX6_luck 55 = .ok (.aload_n 0, 1) := by decide +kernel
theorem dX6_luck_56 : decode cX6_luck 56 = .ok (.iload_n 1, 1) := by decide +kernel
theorem dX6_luck_57 : decode cX6_luck 57 = .ok (.iload_n 2, 1) := by decide +kernel
theorem dX6_luck_58 : decode cX6_luck 58 = .ok (.iload_n 3, 1) := by decide +kernel
theorem dX6_luck_59 : decode cX6_luck 59 = .ok (.invokevirtual 261, 3) := by decide +kernel
theorem dX6_luck_62 : decode cX6_luck 62 = .ok (.aload_n 0, 1) := by decide +kernel
theorem dX6_luck_63 : decode cX6_luck 63 = .ok (.getfield 243, 3) := by decide +kernel
theorem dX6_luck_66 : decode cX6_luck 66 = .ok (.aload_n 0, 1) := by decide +kernel
theorem dX6_luck_67 : decode cX6_luck 67 = .ok (.getfield 250, 3) := by decide +kernel
theorem dX6_luck_70 : decode cX6_luck 70 = .ok (.iload 4, 2) := by decide +kernel
theorem dX6_luck_72 : decode cX6_luck 72 = .ok (.invokestatic 264, 3) := by decide +kernel
theorem dX6_luck_75 : decode cX6_luck 75 = .ok (.lreturn, 1) := by decide +kernel
set_option maxRecDepth 20000 in
theorem ggX6_mean_X6_in : GoodIn wsX6_mean wsX6_in := goodIn_r _ [10] (by decide +kernel) (by decide +kernel)
set_option maxRecDepth 20000 in
theorem gX6_mean_X6_in : GoodIn wsX6_mean (va_wsS RX6 71 yX6_in wsX6_in) := goodIn_app (goodIn_of _ (by decide +kernel)) ggX6_mean_X6_in
set_option maxRecDepth 20000 in
theorem ggX6_mean_X6_isPart : GoodIn wsX6_mean wsX6_isPart := goodIn_r _ [13, 7, 8, 9, 10] (by decide +kernel) (by decide +kernel)
set_option maxRecDepth 20000 in
theorem gX6_mean_X6_isPart : GoodIn wsX6_mean (va_wsS RX6 232 yX6_isPart wsX6_isPart) := goodIn_app (goodIn_of _ (by decide +kernel)) ggX6_mean_X6_isPart
set_option maxRecDepth 20000 in
theorem ggX6_mean_X6_areTwo : GoodIn wsX6_mean wsX6_areTwo := goodIn_r _ [17, 18, 61, 62, 63, 64, 65, 66, 67, 68, 69, 70, 71, 72, 73, 74, 75, 76, 77, 78, 79, 80, 81, 82, 83, 84, 85, 86, 87, 88, 89, 90, 91] (by decide +kernel) (by decide +kernel)
set_option maxRecDepth 20000 in
theorem gX6_mean_X6_areTwo : GoodIn wsX6_mean (wsV RX6 207 RX6 yX6_areTwo wsX6_areTwo) := goodIn_app (goodIn_of _ (by decide +kernel)) ggX6_mean_X6_areTwo
set_option maxRecDepth 20000 in
theorem ggX6_mean_X6_findOdds : GoodIn wsX6_mean wsX6_findOdds := goodIn_r _ [22, 23, 5, 6, 1, 24, 25, 26, 27, 28, 9, 29, 18, 30, 31, 32, 33, 34, 35, 36, 37, 38, 39, 40, 41, 42, 43, 44, 45, 46, 47, 48, 49, 50, 51, 52, 53, 54, 61, 62, 63, 64, 65, 66, 67, 68, 69, 70, 71, 72, 73, 74, 75, 76, 77, 78, 79, 80, 81, 82, 83, 84, 85, 86, 87, 88, 89, 90, 91] (by decide +kernel) (by decide +kernel)
set_option maxRecDepth 20000 in
theorem gX6_mean_X6_findOdds : GoodIn wsX6_mean (wsV RX6 261 RX6 yX6_findOdds wsX6_findOdds) := goodIn_app (goodIn_of _ (by decide +kernel)) ggX6_mean_X6_findOdds
set_option maxRecDepth 20000 in
theorem ggX6_mean_X6_told : GoodIn wsX6_mean wsX6_told := goodIn_r _ [57, 58, 59, 9, 60] (by decide +kernel) (by decide +kernel)
set_option maxRecDepth 20000 in
theorem gX6_mean_X6_told : GoodIn wsX6_mean (va_wsS RX6 264 yX6_told wsX6_told) := goodIn_app (goodIn_of _ (by decide +kernel)) ggX6_mean_X6_told
theorem dX6_mean_0 : decode cX6_mean 0 = .ok (.iload_n 1, 1) := by decide +kernel
theorem dX6_mean_1 : decode cX6_mean 1 = .ok (.i2l, 1) := by decide +kernel
theorem dX6_mean_2 : decode cX6_mean 2 = .ok (.lconst 0, 1) := by decide +kernel
theorem dX6_mean_3 : decode cX6_mean 3 = .ok (.ldc2_w 253, 3) := by decide +kernel
theorem dX6_mean_6 : decode cX6_mean 6 = .ok (.invokestatic 71, 3) := by decide +kernel
theorem dX6_mean_9 : decode cX6_mean 9 = .ok (.ifCond .eq 22, 3) := by decide +kernel
theorem dX6_mean_12 : decode cX6_mean 12 = .ok (.iload_n 2, 1) := by decide +kernel
theorem dX6_mean_13 : decode cX6_mean 13 = .ok (.i2l, 1) := by decide +kernel
theorem dX6_mean_14 : decode cX6_mean 14 = .ok (.lconst 0, 1) := by decide +kernel
theorem dX6_mean_15 : decode cX6_mean 15 = .ok (.ldc2_w 255, 3) := by decide +kernel
theorem dX6_mean_18 : decode cX6_mean 18 = .ok (.invokestatic 71, 3) := by decide +kernel
theorem dX6_mean_21 : decode cX6_mean 21 = .ok (.ifCond .eq 10, 3) := by decide +kernel
theorem dX6_mean_24 : decode cX6_mean 24 = .ok (.iload_n 3, 1) := by decide +kernel
theorem dX6_mean_25 : decode cX6_mean 25 = .ok (.invokestatic 232, 3) := by decide +kernel
theorem dX6_mean_28 : decode cX6_mean 28 = .ok (.ifCond .ne 7, 3) := by decide +kernel
theorem dX6_mean_31 : decode cX6_mean 31 = .ok (.ldc2_w 257, 3) := by decide +kernel
theorem dX6_mean_34 : decode cX6_mean 34 = .ok (.lreturn, 1) := by decide +kernel
theorem dX6_mean_35 : decode cX6_mean 35 = .ok (.aload_n 0, 1) := by decide +kernel
theorem dX6_mean_36 : decode cX6_mean 36 = .ok (.invokevirtual 207, 3) := by decide +kernel
theorem dX6_mean_39 : decode cX6_mean 39 = .ok (.ifCond .ne 7, 3) := by decide +kernel
theorem dX6_mean_42 : decode cX6_mean 42 = .ok (.ldc2_w 259, 3) := by decide +kernel
theorem dX6_mean_45 : decode cX6_mean 45 = .ok (.lreturn, 1) := by decide +kernel
theorem dX6_mean_46 : decode cX6_mean 46 = .ok (.aload_n 0, 1) := by decide +kernel
theorem dX6_mean_47 : decode cX6_mean 47 = .ok (.iload_n 1, 1) := by decide +kernel
theorem dX6_mean_48 : decode cX6_mean 48 = .ok (.bipush (-4), 2) := by decide +kernel
theorem dX6_mean_50 : decode cX6_mean 50 = .ok (.iload_n 2, 1) := by decide +kernel
theorem dX6_mean_51 : decode cX6_mean 51 = .ok (.invokevirtual 261, 3) := by decide +kernel
theorem dX6_mean_54 : decode cX6_mean 54 = .ok (.aload_n 0, 1) := by decide +kernel
theorem dX6_mean_55 : decode cX6_mean 55 = .ok (.getfield 247, 3) := by decide +kernel
theorem dX6_mean_58 : decode cX6_mean 58 = .ok (.aload_n 0, 1) := by decide +kernel
theorem dX6_mean_59 : decode cX6_mean 59 = .ok (.getfield 250, 3) := by decide +kernel
theorem dX6_mean_62 : decode cX6_mean 62 = .ok (.iload_n 3, 1) := by decide +kernel
theorem dX6_mean_63 : decode cX6_mean 63 = .ok (.invokestatic 264, 3) := by decide +kernel
theorem dX6_mean_66 : decode cX6_mean 66 = .ok (.lreturn, 1) := by decide +kernel
set_option maxRecDepth 20000 in
theorem ggX6_see_X6_in : GoodIn wsX6_see wsX6_in := goodIn_r _ [6] (by decide +kernel) (by decide +kernel)
set_option maxRecDepth 20000 in
theorem gX6_see_X6_in : GoodIn wsX6_see (va_wsS RX6 71 yX6_in wsX6_in) := goodIn_app (goodIn_of _ (by decide +kernel)) ggX6_see_X6_in
set_option maxRecDepth 20000 in
theorem ggX6_see_X6_isHeir : GoodIn wsX6_see wsX6_isHeir := goodIn_r _ [10, 2, 3, 4, 5, 6, 11, 12, 13, 14, 15, 16, 17, 18, 19, 20, 21, 22, 23, 24, 25, 26, 27, 28, 29, 30, 31, 32, 33, 34, 35, 36, 37, 38, 39, 40, 41] (by decide +kernel) (by decide +kernel)
set_option maxRecDepth 20000 in
theorem gX6_see_X6_isHeir : GoodIn wsX6_see (wsV RX6 178 RX6 yX6_isHeir wsX6_isHeir) := goodIn_app (goodIn_of _ (by decide +kernel)) ggX6_see_X6_isHeir
theorem dX6_see_0 : decode cX6_see 0 = .ok (.iload_n 1, 1) := by decide +kernel
theorem dX6_see_1 : decode cX6_see 1 = .ok (.i2l, 1) := by decide +kernel
theorem dX6_see_2 : decode cX6_see 2 = .ok (.lconst 1, 1) := by decide +kernel
theorem dX6_see_3 : decode cX6_see 3 = .ok (.ldc2_w 192, 3) := by decide +kernel
theorem dX6_see_6 : decode cX6_see 6 = .ok (.invokestatic 71, 3) := by decide +kernel
theorem dX6_see_9 : decode cX6_see 9 = .ok (.ifCond .eq 11, 3) := by decide +kernel
theorem dX6_see_12 : decode cX6_see 12 = .ok (.aload_n 0, 1) := by decide +kernel
theorem dX6_see_13 : decode cX6_see 13 = .ok (.iload_n 2, 1) := by decide +kernel
theorem dX6_see_14 : decode cX6_see 14 = .ok (.invokevirtual 178, 3) := by decide +kernel
theorem dX6_see_17 : decode cX6_see 17 = .ok (.ifCond .ne 5, 3) := by decide +kernel
theorem dX6_see_20 : decode cX6_see 20 = .ok (.iconst (-1), 1) := by decide +kernel
theorem dX6_see_21 : decode cX6_see 21 = .ok (.ireturn, 1) := by decide +kernel
theorem dX6_see_22 : decode cX6_see 22 = .ok (.aload_n 0, 1) := by decide +kernel
theorem dX6_see_23 : decode cX6_see 23 = .ok (.getfield 7, 3) := by decide +kernel
theorem dX6_see_26 : decode cX6_see 26 = .ok (.bipush 36, 2) := by decide +kernel
theorem dX6_see_28 : decode cX6_see 28 = .ok (.iaload, 1) := by decide +kernel
theorem dX6_see_29 : decode cX6_see 29 = .ok (.bipush 6, 2) := by decide +kernel
theorem dX6_see_31 : decode cX6_see 31 = .ok (.if_icmp .ne 6, 3) := by decide +kernel
theorem dX6_see_34 : decode cX6_see 34 = .ok (.bipush (-3), 2) := by decide +kernel
theorem dX6_see_36 : decode cX6_see 36 = .ok (.ireturn, 1) := by decide +kernel
theorem dX6_see_37 : decode cX6_see 37 = .ok (.bipush 37, 2) := by decide +kernel
theorem dX6_see_39 : decode cX6_see 39 = .ok (.iconst 2, 1) := by decide +kernel
theorem dX6_see_40 : decode cX6_see 40 = .ok (.aload_n 0, 1) := by decide +kernel
theorem dX6_see_41 : decode cX6_see 41 = .ok (.getfield 7, 3) := by decide +kernel
theorem dX6_see_44 : decode cX6_see 44 = .ok (.bipush 36, 2) := by decide +kernel
theorem dX6_see_46 : decode cX6_see 46 = .ok (.iaload, 1) := by decide +kernel
theorem dX6_see_47 : decode cX6_see 47 = .ok (.imul, 1) := by decide +kernel
theorem dX6_see_48 : decode cX6_see 48 = .ok (.iadd, 1) := by decide +kernel
theorem dX6_see_49 : decode cX6_see 49 = .ok (.istore_n 3, 1) := by decide +kernel
theorem dX6_see_50 : decode cX6_see 50 = .ok (.aload_n 0, 1) := by decide +kernel
theorem dX6_see_51 : decode cX6_see 51 = .ok (.getfield 7, 3) := by decide +kernel
theorem dX6_see_54 : decode cX6_see 54 = .ok (.iload_n 3, 1) := by decide +kernel
theorem dX6_see_55 : decode cX6_see 55 = .ok (.iload_n 1, 1) := by decide +kernel
theorem dX6_see_56 : decode cX6_see 56 = .ok (.iastore, 1) := by decide +kernel
theorem dX6_see_57 : decode cX6_see 57 = .ok (.aload_n 0, 1) := by decide +kernel
theorem dX6_see_58 : decode cX6_see 58 = .ok (.getfield 7, 3) := by decide +kernel
theorem dX6_see_61 : decode cX6_see 61 = .ok (.iload_n 3, 1) := by decide +kernel
theorem dX6_see_62 : decode cX6_see 62 = .ok (.iconst 1, 1) := by decide +kernel
theorem dX6_see_63 : decode cX6_see 63 = .ok (.iadd, 1) := by decide +kernel
theorem dX6_see_64 : decode cX6_see 64 = .ok (.iload_n 2, 1) := by decide +kernel
theorem dX6_see_65 : decode cX6_see 65 = .ok (.iastore, 1) := by decide +kernel
theorem dX6_see_66 : decode cX6_see 66 = .ok (.aload_n 0, 1) := by decide +kernel
theorem dX6_see_67 : decode cX6_see 67 = .ok (.getfield 7, 3) := by decide +kernel
theorem dX6_see_70 : decode cX6_see 70 = .ok (.bipush 36, 2) := by decide +kernel
theorem dX6_see_72 : decode cX6_see 72 = .ok (.dup2, 1) := by decide +kernel
theorem dX6_see_73 : decode cX6_see 73 = .ok (.iaload, 1) := by decide +kernel
theorem dX6_see_74 : decode cX6_see 74 = .ok (.iconst 1, 1) := by decide +kernel
theorem dX6_see_75 : decode cX6_see 75 = .ok (.iadd, 1) := by decide +kernel
theorem dX6_see_76 : decode cX6_see 76 = .ok (.iastore, 1) := by decide +kernel
theorem dX6_see_77 : decode cX6_see 77 = .ok (.aload_n 0, 1) := by decide +kernel
theorem dX6_see_78 : decode cX6_see 78 = .ok (.getfield 7, 3) := by decide +kernel
theorem dX6_see_81 : decode cX6_see 81 = .ok (.bipush 36, 2) := by decide +kernel
theorem dX6_see_83 : decode cX6_see 83 = .ok (.iaload, 1) := by decide +kernel
theorem dX6_see_84 : decode cX6_see 84 = .ok (.ireturn, 1) := by decide +kernel
set_option maxRecDepth 20000 in
theorem ggX6_forget_X6_in : GoodIn wsX6_forget wsX6_in := goodIn_r _ [5] (by decide +kernel) (by decide +kernel)
set_option maxRecDepth 20000 in
theorem gX6_forget_X6_in : GoodIn wsX6_forget (va_wsS RX6 71 yX6_in wsX6_in) := goodIn_app (goodIn_of _ (by decide +kernel)) ggX6_forget_X6_in
set_option maxRecDepth 20000 in
theorem ggX6_forget_X6_becomes : GoodIn wsX6_forget wsX6_becomes := goodIn_r _ [9, 1, 10, 11, 12, 13, 14, 15, 16, 17, 18, 19, 20, 21, 22, 23, 24, 25, 26, 27, 28, 29, 30, 31, 32, 33, 34, 35, 36, 37, 38, 39, 40] (by decide +kernel) (by decide +kernel)
set_option maxRecDepth 20000 in
theorem gX6_forget_X6_becomes : GoodIn wsX6_forget (wsV RX6 200 RX6 yX6_becomes wsX6_becomes) := goodIn_app (goodIn_of _ (by decide +kernel)) ggX6_forget_X6_becomes
theorem dX6_forget_0 : decode cX6_forget 0 = .ok (.iload_n 1, 1) := by decide +kernel
theorem dX6_forget_1 : decode cX6_forget 1 = .ok (.i2l, 1) := by decide +kernel
theorem dX6_forget_2 : decode cX6_forget 2 = .ok (.lconst 0, 1) := by decide +kernel
theorem dX6_forget_3 : decode cX6_forget 3 = .ok (.aload_n 0, 1) := by decide +kernel
theorem dX6_forget_4 : decode cX6_forget 4 = .ok (.getfield 7, 3) := by decide +kernel
theorem dX6_forget_7 : decode cX6_forget 7 = .ok (.bipush 36, 2) := by decide +kernel
theorem dX6_forget_9 : decode cX6_forget 9 = .ok (.iaload, 1) := by decide +kernel
theorem dX6_forget_10 : decode cX6_forget 10 = .ok (.i2l, 1) := by decide +kernel
theorem dX6_forget_11 : decode cX6_forget 11 = .ok (.invokestatic 71, 3) := by decide +kernel
theorem dX6_forget_14 : decode cX6_forget 14 = .ok (.ifCond .eq 13, 3) := by decide +kernel
theorem dX6_forget_17 : decode cX6_forget 17 = .ok (.aload_n 0, 1) := by decide +kernel
theorem dX6_forget_18 : decode cX6_forget 18 = .ok (.bipush 36, 2) := by decide +kernel
theorem dX6_forget_20 : decode cX6_forget 20 = .ok (.iload_n 1, 1) := by decide +kernel
theorem dX6_forget_21 : decode cX6_forget 21 = .ok (.invokevirtual 200, 3) := by decide +kernel
theorem dX6_forget_24 : decode cX6_forget 24 = .ok (.goto 4, 3) := by decide +kernel
theorem dX6_forget_27 : decode cX6_forget 27 = .ok (.iconst (-1), 1) := by decide +kernel
theorem dX6_forget_28 : decode cX6_forget 28 = .ok (.ireturn, 1) := by decide +kernel
set_option maxRecDepth 20000 in
theorem ggX6_isSoWith_X6_starts : GoodIn wsX6_isSoWith wsX6_starts := goodIn_r _ [8, 9, 3, 35, 36, 37, 38, 39, 40, 41, 42, 43, 44, 45, 46, 47, 48, 49, 50, 51, 52, 53, 54, 55, 56, 57, 58, 59, 60, 61, 62, 63, 64, 65] (by decide +kernel) (by decide +kernel)
set_option maxRecDepth 20000 in
theorem gX6_isSoWith_X6_starts : GoodIn wsX6_isSoWith (wsV RX6 184 RX6 yX6_starts wsX6_starts) := goodIn_app (goodIn_of _ (by decide +kernel)) ggX6_isSoWith_X6_starts
set_option maxRecDepth 20000 in
theorem ggX6_isSoWith_X6_becomesOf : GoodIn wsX6_isSoWith wsX6_becomesOf := goodIn_r _ [13, 9, 35, 36, 37, 38, 39, 40, 41, 42, 43, 44, 45, 46, 47, 48, 49, 50, 51, 52, 53, 54, 55, 56, 57, 58, 59, 60, 61, 62, 63, 64, 65] (by decide +kernel) (by decide +kernel)
set_option maxRecDepth 20000 in
theorem gX6_isSoWith_X6_becomesOf : GoodIn wsX6_isSoWith (wsV RX6 170 RX6 yX6_becomesOf wsX6_becomesOf) := goodIn_app (goodIn_of _ (by decide +kernel)) ggX6_isSoWith_X6_becomesOf
set_option maxRecDepth 20000 in
theorem ggX6_isSoWith_X6_reignGoes : GoodIn wsX6_isSoWith wsX6_reignGoes := goodIn_r _ [17, 9, 2, 18, 19, 20, 21, 22, 7, 23, 24, 25, 26, 27, 28, 29, 30, 31, 32, 33, 34, 10, 11, 12, 13, 35, 36, 37, 38, 39, 40, 41, 42, 43, 44, 45, 46, 47, 48, 49, 50, 51, 52, 53, 54, 55, 56, 57, 58, 59, 60, 61, 62, 63, 64, 65] (by decide +kernel) (by decide +kernel)
set_option maxRecDepth 20000 in
theorem gX6_isSoWith_X6_reignGoes : GoodIn wsX6_isSoWith (wsV RX6 174 RX6 yX6_reignGoes wsX6_reignGoes) := goodIn_app (goodIn_of _ (by decide +kernel)) ggX6_isSoWith_X6_reignGoes
theorem dX6_isSoWith_0 : decode cX6_isSoWith 0 = .ok (.aload_n 0, 1) := by decide +kernel
theorem dX6_isSoWith_1 : decode cX6_isSoWith 1 = .ok (.invokevirtual 184, 3) := by decide +kernel
theorem dX6_isSoWith_4 : decode cX6_isSoWith 4 = .ok (.aload_n 0, 1) := by decide +kernel
theorem dX6_isSoWith_5 : decode cX6_isSoWith 5 = .ok (.iload_n 1, 1) := by decide +kernel
theorem dX6_isSoWith_6 : decode cX6_isSoWith 6 = .ok (.iload_n 2, 1) := by decide +kernel
theorem dX6_isSoWith_7 : decode cX6_isSoWith 7 = .ok (.iload_n 3, 1) := by decide +kernel
theorem dX6_isSoWith_8 : decode cX6_isSoWith 8 = .ok (.invokevirtual 170, 3) := by decide +kernel
theorem dX6_isSoWith_11 : decode cX6_isSoWith 11 = .ok (.iconst 1, 1) := by decide +kernel
theorem dX6_isSoWith_12 : decode cX6_isSoWith 12 = .ok (.istore 4, 2) := by decide +kernel
theorem dX6_isSoWith_14 : decode cX6_isSoWith 14 = .ok (.iload 4, 2) := by decide +kernel
theorem dX6_isSoWith_16 : decode cX6_isSoWith 16 = .ok (.bipush 20, 2) := by decide +kernel
theorem dX6_isSoWith_18 : decode cX6_isSoWith 18 = .ok (.if_icmp .gt 25, 3) := by decide +kernel
theorem dX6_isSoWith_21 : decode cX6_isSoWith 21 = .ok (.aload_n 0, 1) := by decide +kernel
theorem dX6_isSoWith_22 : decode cX6_isSoWith 22 = .ok (.iconst 0, 1) := by decide +kernel
theorem dX6_isSoWith_23 : decode cX6_isSoWith 23 = .ok (.invokevirtual 174, 3) := by decide +kernel
theorem dX6_isSoWith_26 : decode cX6_isSoWith 26 = .ok (.aload_n 0, 1) := by decide +kernel
theorem dX6_isSoWith_27 : decode cX6_isSoWith 27 = .ok (.getfield 32, 3) := by decide +kernel
theorem dX6_isSoWith_30 : decode cX6_isSoWith 30 = .ok (.iload 4, 2) := by decide +kernel
theorem dX6_isSoWith_32 : decode cX6_isSoWith 32 = .ok (.aload_n 0, 1) := by decide +kernel
theorem dX6_isSoWith_33 : decode cX6_isSoWith 33 = .ok (.getfield 150, 3) := by decide +kernel
theorem dX6_isSoWith_36 : decode cX6_isSoWith 36 = .ok (.iastore, 1) := by decide +kernel
theorem dX6_isSoWith_37 : decode cX6_isSoWith 37 = .ok (.iinc 4 1, 3) := by decide +kernel
theorem dX6_isSoWith_40 : decode cX6_isSoWith 40 = .ok (.goto (-26), 3) := by decide +kernel
theorem dX6_isSoWith_43 : decode cX6_isSoWith 43 = .ok (.iconst 1, 1) := by decide +kernel
theorem dX6_isSoWith_44 : decode cX6_isSoWith 44 = .ok (.istore 4, 2) := by decide +kernel
theorem dX6_isSoWith_46 : decode cX6_isSoWith 46 = .ok (.iconst 0, 1) := by decide +kernel
theorem dX6_isSoWith_47 : decode cX6_isSoWith 47 = .ok (.istore 5, 2) := by decide +kernel
theorem dX6_isSoWith_49 : decode cX6_isSoWith 49 = .ok (.iload 5, 2) := by decide +kernel
theorem dX6_isSoWith_51 : decode cX6_isSoWith 51 = .ok (.aload_n 0, 1) := by decide +kernel
theorem dX6_isSoWith_52 : decode cX6_isSoWith 52 = .ok (.getfield 7, 3) := by decide +kernel
theorem dX6_isSoWith_55 : decode cX6_isSoWith 55 = .ok (.bipush 36, 2) := by decide +kernel
theorem dX6_isSoWith_57 : decode cX6_isSoWith 57 = .ok (.iaload, 1) := by decide +kernel
theorem dX6_isSoWith_58 : decode cX6_isSoWith 58 = .ok (.if_icmp .ge 55, 3) := by decide +kernel
theorem dX6_isSoWith_61 : decode cX6_isSoWith 61 = .ok (.iload 4, 2) := by decide +kernel
theorem dX6_isSoWith_63 : decode cX6_isSoWith 63 = .ok (.ifCond .eq 41, 3) := by decide +kernel
theorem dX6_isSoWith_66 : decode cX6_isSoWith 66 = .ok (.aload_n 0, 1) := by decide +kernel
theorem dX6_isSoWith_67 : decode cX6_isSoWith 67 = .ok (.getfield 32, 3) := by decide +kernel
theorem dX6_isSoWith_70 : decode cX6_isSoWith 70 = .ok (.aload_n 0, 1) := by decide +kernel
theorem dX6_isSoWith_71 : decode cX6_isSoWith 71 = .ok (.getfield 7, 3) := by decide +kernel
theorem dX6_isSoWith_74 : decode cX6_isSoWith 74 = .ok (.bipush 37, 2) := by decide +kernel
theorem dX6_isSoWith_76 : decode cX6_isSoWith 76 = .ok (.iconst 2, 1) := by decide +kernel
theorem dX6_isSoWith_77 : decode cX6_isSoWith 77 = .ok (.iload 5, 2) := by decide +kernel
theorem dX6_isSoWith_79 : decode cX6_isSoWith 79 = .ok (.imul, 1) := by decide +kernel
theorem dX6_isSoWith_80 : decode cX6_isSoWith 80 = .ok (.iadd, 1) := by decide +kernel
theorem dX6_isSoWith_81 : decode cX6_isSoWith 81 = .ok (.iaload, 1) := by decide +kernel
theorem dX6_isSoWith_82 : decode cX6_isSoWith 82 = .ok (.iaload, 1) := by decide +kernel
theorem dX6_isSoWith_83 : decode cX6_isSoWith 83 = .ok (.aload_n 0, 1) := by decide +kernel
theorem dX6_isSoWith_84 : decode cX6_isSoWith 84 = .ok (.getfield 7, 3) := by decide +kernel
theorem dX6_isSoWith_87 : decode cX6_isSoWith 87 = .ok (.bipush 37, 2) := by decide +kernel
theorem dX6_isSoWith_89 : decode cX6_isSoWith 89 = .ok (.iconst 2, 1) := by decide +kernel
theorem dX6_isSoWith_90 : decode cX6_isSoWith 90 = .ok (.iload 5, 2) := by decide +kernel
theorem dX6_isSoWith_92 : decode cX6_isSoWith 92 = .ok (.imul, 1) := by decide +kernel
theorem dX6_isSoWith_93 : decode cX6_isSoWith 93 = .ok (.iadd, 1) := by decide +kernel
theorem dX6_isSoWith_94 : decode cX6_isSoWith 94 = .ok (.iconst 1, 1) := by decide +kernel
theorem dX6_isSoWith_95 : decode cX6_isSoWith 95 = .ok (.iadd, 1) := by decide +kernel
theorem dX6_isSoWith_96 : decode cX6_isSoWith 96 = .ok (.iaload, 1) := by decide +kernel
theorem dX6_isSoWith_97 : decode cX6_isSoWith 97 = .ok (.if_icmp .ne 7, 3) := by decide +kernel
theorem dX6_isSoWith_100 : decode cX6_isSoWith 100 = .ok (.iconst 1, 1) := by decide +kernel
theorem dX6_isSoWith_101 : decode cX6_isSoWith 101 = .ok (.goto 4, 3) := by decide +kernel
theorem dX6_isSoWith_104 : decode cX6_isSoWith 104 = .ok (.iconst 0, 1) := by decide +kernel
theorem dX6_isSoWith_105 : decode cX6_isSoWith 105 = .ok (.istore 4, 2) := by decide +kernel
theorem dX6_isSoWith_107 : decode cX6_isSoWith 107 = .ok (.iinc 5 1, 3) := by decide +kernel
theorem dX6_isSoWith_110 : decode cX6_isSoWith 110 = .ok (.goto (-61), 3) := by decide +kernel
theorem dX6_isSoWith_113 : decode cX6_isSoWith 113 = .ok (.iload 4, 2) := by decide +kernel
theorem dX6_isSoWith_115 : decode cX6_isSoWith 115 = .ok (.ireturn, 1) := by decide +kernel
set_option maxRecDepth 20000 in
theorem ggX6_kinds_X6_isHeir : GoodIn wsX6_kinds wsX6_isHeir := goodIn_r _ [5, 6, 7, 8, 4, 9, 50, 51, 52, 53, 54, 55, 56, 57, 58, 59, 60, 61, 62, 63, 64, 65, 66, 67, 68, 69, 70, 71, 72, 73, 74, 75, 76, 77, 78, 79, 80] (by decide +kernel) (by decide +kernel)
set_option maxRecDepth 20000 in
theorem gX6_kinds_X6_isHeir : GoodIn wsX6_kinds (wsV RX6 178 RX6 yX6_isHeir wsX6_isHeir) := goodIn_app (goodIn_of _ (by decide +kernel)) ggX6_kinds_X6_isHeir
set_option maxRecDepth 20000 in
theorem ggX6_kinds_X6_areTwo : GoodIn wsX6_kinds wsX6_areTwo := goodIn_r _ [13, 6, 50, 51, 52, 53, 54, 55, 56, 57, 58, 59, 60, 61, 62, 63, 64, 65, 66, 67, 68, 69, 70, 71, 72, 73, 74, 75, 76, 77, 78, 79, 80] (by decide +kernel) (by decide +kernel)
set_option maxRecDepth 20000 in
theorem gX6_kinds_X6_areTwo : GoodIn wsX6_kinds (wsV RX6 207 RX6 yX6_areTwo wsX6_areTwo) := goodIn_app (goodIn_of _ (by decide +kernel)) ggX6_kinds_X6_areTwo
set_option maxRecDepth 20000 in
theorem ggX6_kinds_X6_isSoWith : GoodIn wsX6_kinds wsX6_isSoWith := goodIn_r _ [17, 18, 19, 6, 20, 21, 22, 4, 23, 24, 25, 26, 27, 28, 29, 30, 31, 32, 33, 34, 35, 36, 37, 38, 39, 40, 41, 42, 43, 44, 45, 46, 47, 48, 49, 50, 51, 52, 53, 54, 55, 56, 57, 58, 59, 60, 61, 62, 63, 64, 65, 66, 67, 68, 69, 70, 71, 72, 73, 74, 75, 76, 77, 78, 79, 80] (by decide +kernel) (by decide +kernel)
set_option maxRecDepth 20000 in
theorem gX6_kinds_X6_isSoWith : GoodIn wsX6_kinds (wsV RX6 268 RX6 yX6_isSoWith wsX6_isSoWith) := goodIn_app (goodIn_of _ (by decide +kernel)) ggX6_kinds_X6_isSoWith
set_option maxRecDepth 20000 in
theorem ggX6_kinds_X6_flag : GoodIn wsX6_kinds wsX6_flag := goodIn_r _ [45] (by decide +kernel) (by decide +kernel)
set_option maxRecDepth 20000 in
theorem gX6_kinds_X6_flag : GoodIn wsX6_kinds (va_wsS RX6 163 yX6_flag wsX6_flag) := goodIn_app (goodIn_of _ (by decide +kernel)) ggX6_kinds_X6_flag
theorem dX6_kinds_0 : decode cX6_kinds 0 = .ok (.aload_n 0, 1) := by decide +kernel
theorem dX6_kinds_1 : decode cX6_kinds 1 = .ok (.iload_n 1, 1) := by decide +kernel
theorem dX6_kinds_2 : decode cX6_kinds 2 = .ok (.invokevirtual 178, 3) := by decide +kernel
theorem dX6_kinds_5 : decode cX6_kinds 5 = .ok (.ifCond .ne 5, 3) := by decide +kernel
theorem dX6_kinds_8 : decode cX6_kinds 8 = .ok (.iconst (-1), 1) := by decide +kernel
theorem dX6_kinds_9 : decode cX6_kinds 9 = .ok (.ireturn, 1) := by decide +kernel
theorem dX6_kinds_10 : decode cX6_kinds 10 = .ok (.aload_n 0, 1) := by decide +kernel
theorem dX6_kinds_11 : decode cX6_kinds 11 = .ok (.invokevirtual 207, 3) := by decide +kernel
theorem dX6_kinds_14 : decode cX6_kinds 14 = .ok (.ifCond .ne 6, 3) := by decide +kernel
theorem dX6_kinds_17 : decode cX6_kinds 17 = .ok (.bipush (-2), 2) := by decide +kernel
theorem dX6_kinds_19 : decode cX6_kinds 19 = .ok (.ireturn, 1) := by decide +kernel
theorem dX6_kinds_20 : decode cX6_kinds 20 = .ok (.iconst 0, 1) := by decide +kernel
theorem dX6_kinds_21 : decode cX6_kinds 21 = .ok (.istore_n 2, 1) := by decide +kernel
theorem dX6_kinds_22 : decode cX6_kinds 22 = .ok (.iconst 0, 1) := by decide +kernel
theorem dX6_kinds_23 : decode cX6_kinds 23 = .ok (.istore_n 3, 1) := by decide +kernel
theorem dX6_kinds_24 : decode cX6_kinds 24 = .ok (.iload_n 3, 1) := by decide +kernel
theorem dX6_kinds_25 : decode cX6_kinds 25 = .ok (.iconst 4, 1) := by decide +kernel
theorem dX6_kinds_26 : decode cX6_kinds 26 = .ok (.if_icmp .ge 24, 3) := by decide +kernel
theorem dX6_kinds_29 : decode cX6_kinds 29 = .ok (.iload_n 2, 1) := by decide +kernel
theorem dX6_kinds_30 : decode cX6_kinds 30 = .ok (.aload_n 0, 1) := by decide +kernel
theorem dX6_kinds_31 : decode cX6_kinds 31 = .ok (.iload_n 1, 1) := by decide +kernel
theorem dX6_kinds_32 : decode cX6_kinds 32 = .ok (.iconst 0, 1) := by decide +kernel
theorem dX6_kinds_33 : decode cX6_kinds 33 = .ok (.iload_n 3, 1) := by decide +kernel
theorem dX6_kinds_34 : decode cX6_kinds 34 = .ok (.invokevirtual 268, 3) := by decide +kernel
theorem dX6_kinds_37 : decode cX6_kinds 37 = .ok (.invokestatic 163, 3) := by decide +kernel
theorem dX6_kinds_40 : decode cX6_kinds 40 = .ok (.iload_n 3, 1) := by decide +kernel
theorem dX6_kinds_41 : decode cX6_kinds 41 = .ok (.ishl, 1) := by decide +kernel
theorem dX6_kinds_42 : decode cX6_kinds 42 = .ok (.ior, 1) := by decide +kernel
theorem dX6_kinds_43 : decode cX6_kinds 43 = .ok (.istore_n 2, 1) := by decide +kernel
theorem dX6_kinds_44 : decode cX6_kinds 44 = .ok (.iinc 3 1, 3) := by decide +kernel
theorem dX6_kinds_47 : decode cX6_kinds 47 = .ok (.goto (-23), 3) := by decide +kernel
theorem dX6_kinds_50 : decode cX6_kinds 50 = .ok (.iload_n 2, 1) := by decide +kernel
theorem dX6_kinds_51 : decode cX6_kinds 51 = .ok (.ireturn, 1) := by decide +kernel
set_option maxRecDepth 20000 in
theorem ggX6_springs_X6_isHeir : GoodIn wsX6_springs wsX6_isHeir := goodIn_r _ [5, 6, 7, 8, 4, 9, 50, 51, 52, 53, 54, 55, 56, 57, 58, 59, 60, 61, 62, 63, 64, 65, 66, 67, 68, 69, 70, 71, 72, 73, 74, 75, 76, 77, 78, 79, 80] (by decide +kernel) (by decide +kernel)
set_option maxRecDepth 20000 in
theorem gX6_springs_X6_isHeir : GoodIn wsX6_springs (wsV RX6 178 RX6 yX6_isHeir wsX6_isHeir) := goodIn_app (goodIn_of _ (by decide +kernel)) ggX6_springs_X6_isHeir
set_option maxRecDepth 20000 in
theorem ggX6_springs_X6_areTwo : GoodIn wsX6_springs wsX6_areTwo := goodIn_r _ [13, 6, 50, 51, 52, 53, 54, 55, 56, 57, 58, 59, 60, 61, 62, 63, 64, 65, 66, 67, 68, 69, 70, 71, 72, 73, 74, 75, 76, 77, 78, 79, 80] (by decide +kernel) (by decide +kernel)
set_option maxRecDepth 20000 in
theorem gX6_springs_X6_areTwo : GoodIn wsX6_springs (wsV RX6 207 RX6 yX6_areTwo wsX6_areTwo) := goodIn_app (goodIn_of _ (by decide +kernel)) ggX6_springs_X6_areTwo
set_option maxRecDepth 20000 in
theorem ggX6_springs_X6_isSoWith : GoodIn wsX6_springs wsX6_isSoWith := goodIn_r _ [17, 18, 19, 6, 20, 21, 22, 4, 23, 24, 25, 26, 27, 28, 29, 30, 31, 32, 33, 34, 35, 36, 37, 38, 39, 40, 41, 42, 43, 44, 45, 46, 47, 48, 49, 50, 51, 52, 53, 54, 55, 56, 57, 58, 59, 60, 61, 62, 63, 64, 65, 66, 67, 68, 69, 70, 71, 72, 73, 74, 75, 76, 77, 78, 79, 80] (by decide +kernel) (by decide +kernel)
set_option maxRecDepth 20000 in
theorem gX6_springs_X6_isSoWith : GoodIn wsX6_springs (wsV RX6 268 RX6 yX6_isSoWith wsX6_isSoWith) := goodIn_app (goodIn_of _ (by decide +kernel)) ggX6_springs_X6_isSoWith
set_option maxRecDepth 20000 in
theorem ggX6_springs_X6_flag : GoodIn wsX6_springs wsX6_flag := goodIn_r _ [45] (by decide +kernel) (by decide +kernel)
set_option maxRecDepth 20000 in
theorem gX6_springs_X6_flag : GoodIn wsX6_springs (va_wsS RX6 163 yX6_flag wsX6_flag) := goodIn_app (goodIn_of _ (by decide +kernel)) ggX6_springs_X6_flag
theorem dX6_springs_0 : decode cX6_springs 0 = .ok (.aload_n 0, 1) := by decide +kernel
theorem dX6_springs_1 : decode cX6_springs 1 = .ok (.iload_n 1, 1) := by decide +kernel
theorem dX6_springs_2 : decode cX6_springs 2 = .ok (.invokevirtual 178, 3) := by decide +kernel
theorem dX6_springs_5 : decode cX6_springs 5 = .ok (.ifCond .ne 5, 3) := by decide +kernel
theorem dX6_springs_8 : decode cX6_springs 8 = .ok (.iconst (-1), 1) := by decide +kernel
theorem dX6_springs_9 : decode cX6_springs 9 = .ok (.ireturn, 1) := by decide +kernel
theorem dX6_springs_10 : decode cX6_springs 10 = .ok (.aload_n 0, 1) := by decide +kernel
theorem dX6_springs_11 : decode cX6_springs 11 = .ok (.invokevirtual 207, 3) := by decide +kernel
theorem dX6_springs_14 : decode cX6_springs 14 = .ok (.ifCond .ne 6, 3) := by decide +kernel
theorem dX6_springs_17 : decode cX6_springs 17 = .ok (.bipush (-2), 2) := by decide +kernel
theorem dX6_springs_19 : decode cX6_springs 19 = .ok (.ireturn, 1) := by decide +kernel
theorem dX6_springs_20 : decode cX6_springs 20 = .ok (.iconst 0, 1) := by decide +kernel
theorem dX6_springs_21 : decode cX6_springs 21 = .ok (.istore_n 2, 1) := by decide +kernel
theorem dX6_springs_22 : decode cX6_springs 22 = .ok (.iconst 0, 1) := by decide +kernel
theorem dX6_springs_23 : decode cX6_springs 23 = .ok (.istore_n 3, 1) := by decide +kernel
theorem dX6_springs_24 : decode cX6_springs 24 = .ok (.iload_n 3, 1) := by decide +kernel
theorem dX6_springs_25 : decode cX6_springs 25 = .ok (.bipush 20, 2) := by decide +kernel
theorem dX6_springs_27 : decode cX6_springs 27 = .ok (.if_icmp .gt 24, 3) := by decide +kernel
theorem dX6_springs_30 : decode cX6_springs 30 = .ok (.iload_n 2, 1) := by decide +kernel
theorem dX6_springs_31 : decode cX6_springs 31 = .ok (.aload_n 0, 1) := by decide +kernel
theorem dX6_springs_32 : decode cX6_springs 32 = .ok (.iload_n 1, 1) := by decide +kernel
theorem dX6_springs_33 : decode cX6_springs 33 = .ok (.iconst 1, 1) := by decide +kernel
theorem dX6_springs_34 : decode cX6_springs 34 = .ok (.iload_n 3, 1) := by decide +kernel
theorem dX6_springs_35 : decode cX6_springs 35 = .ok (.invokevirtual 268, 3) := by decide +kernel
theorem dX6_springs_38 : decode cX6_springs 38 = .ok (.invokestatic 163, 3) := by decide +kernel
theorem dX6_springs_41 : decode cX6_springs 41 = .ok (.iload_n 3, 1) := by decide +kernel
theorem dX6_springs_42 : decode cX6_springs 42 = .ok (.ishl, 1) := by decide +kernel
theorem dX6_springs_43 : decode cX6_springs 43 = .ok (.ior, 1) := by decide +kernel
theorem dX6_springs_44 : decode cX6_springs 44 = .ok (.istore_n 2, 1) := by decide +kernel
theorem dX6_springs_45 : decode cX6_springs 45 = .ok (.iinc 3 1, 3) := by decide +kernel
theorem dX6_springs_48 : decode cX6_springs 48 = .ok (.goto (-24), 3) := by decide +kernel
theorem dX6_springs_51 : decode cX6_springs 51 = .ok (.iload_n 2, 1) := by decide +kernel
theorem dX6_springs_52 : decode cX6_springs 52 = .ok (.ireturn, 1) := by decide +kernel
set_option maxRecDepth 20000 in
theorem ggX6_ask_X6_isHeir : GoodIn wsX6_ask wsX6_isHeir := goodIn_r _ [7, 8, 9, 10, 6, 11, 54, 55, 56, 57, 58, 59, 60, 61, 62, 63, 64, 65, 66, 67, 68, 69, 70, 71, 72, 73, 74, 75, 76, 77, 78, 79, 80, 81, 82, 83, 84] (by decide +kernel) (by decide +kernel)
set_option maxRecDepth 20000 in
theorem gX6_ask_X6_isHeir : GoodIn wsX6_ask (wsV RX6 178 RX6 yX6_isHeir wsX6_isHeir) := goodIn_app (goodIn_of _ (by decide +kernel)) ggX6_ask_X6_isHeir
set_option maxRecDepth 20000 in
theorem ggX6_ask_X6_isPart : GoodIn wsX6_ask wsX6_isPart := goodIn_r _ [14, 9, 10, 6, 11] (by decide +kernel) (by decide +kernel)
set_option maxRecDepth 20000 in
theorem gX6_ask_X6_isPart : GoodIn wsX6_ask (va_wsS RX6 232 yX6_isPart wsX6_isPart) := goodIn_app (goodIn_of _ (by decide +kernel)) ggX6_ask_X6_isPart
set_option maxRecDepth 20000 in
theorem ggX6_ask_X6_areTwo : GoodIn wsX6_ask wsX6_areTwo := goodIn_r _ [18, 8, 54, 55, 56, 57, 58, 59, 60, 61, 62, 63, 64, 65, 66, 67, 68, 69, 70, 71, 72, 73, 74, 75, 76, 77, 78, 79, 80, 81, 82, 83, 84] (by decide +kernel) (by decide +kernel)
set_option maxRecDepth 20000 in
theorem gX6_ask_X6_areTwo : GoodIn wsX6_ask (wsV RX6 207 RX6 yX6_areTwo wsX6_areTwo) := goodIn_app (goodIn_of _ (by decide +kernel)) ggX6_ask_X6_areTwo
set_option maxRecDepth 20000 in
theorem ggX6_ask_X6_isSoWith : GoodIn wsX6_ask wsX6_isSoWith := goodIn_r _ [22, 2, 23, 8, 24, 25, 26, 6, 27, 28, 29, 30, 31, 32, 33, 34, 35, 36, 37, 38, 39, 40, 41, 42, 43, 44, 45, 46, 47, 48, 49, 50, 51, 52, 53, 54, 55, 56, 57, 58, 59, 60, 61, 62, 63, 64, 65, 66, 67, 68, 69, 70, 71, 72, 73, 74, 75, 76, 77, 78, 79, 80, 81, 82, 83, 84] (by decide +kernel) (by decide +kernel)
set_option maxRecDepth 20000 in
theorem gX6_ask_X6_isSoWith : GoodIn wsX6_ask (wsV RX6 268 RX6 yX6_isSoWith wsX6_isSoWith) := goodIn_app (goodIn_of _ (by decide +kernel)) ggX6_ask_X6_isSoWith
theorem dX6_ask_0 : decode cX6_ask 0 = .ok (.aload_n 0, 1) := by decide +kernel
theorem dX6_ask_1 : decode cX6_ask 1 = .ok (.iload_n 1, 1) := by decide +kernel
theorem dX6_ask_2 : decode cX6_ask 2 = .ok (.invokevirtual 178, 3) := by decide +kernel
theorem dX6_ask_5 : decode cX6_ask 5 = .ok (.ifCond .eq 10, 3) := by decide +kernel
theorem dX6_ask_8 : decode cX6_ask 8 = .ok (.iload_n 2, 1) := by decide +kernel
theorem dX6_ask_9 : decode cX6_ask 9 = .ok (.invokestatic 232, 3) := by decide +kernel
theorem dX6_ask_12 : decode cX6_ask 12 = .ok (.ifCond .ne 5, 3) := by decide +kernel
theorem dX6_ask_15 : decode cX6_ask 15 = .ok (.iconst (-1), 1) := by decide +kernel
theorem dX6_ask_16 : decode cX6_ask 16 = .ok (.ireturn, 1) := by decide +kernel
theorem dX6_ask_17 : decode cX6_ask 17 = .ok (.aload_n 0, 1) := by decide +kernel
theorem dX6_ask_18 : decode cX6_ask 18 = .ok (.invokevirtual 207, 3) := by decide +kernel
theorem dX6_ask_21 : decode cX6_ask 21 = .ok (.ifCond .ne 6, 3) := by decide +kernel
theorem dX6_ask_24 : decode cX6_ask 24 = .ok (.bipush (-2), 2) := by decide +kernel
theorem dX6_ask_26 : decode cX6_ask 26 = .ok (.ireturn, 1) := by decide +kernel
theorem dX6_ask_27 : decode cX6_ask 27 = .ok (.iconst 0, 1) := by decide +kernel
theorem dX6_ask_28 : decode cX6_ask 28 = .ok (.istore_n 3, 1) := by decide +kernel
theorem dX6_ask_29 : decode cX6_ask 29 = .ok (.bipush (-4), 2) := by decide +kernel
theorem dX6_ask_31 : decode cX6_ask 31 = .ok (.istore 4, 2) := by decide +kernel
theorem dX6_ask_33 : decode cX6_ask 33 = .ok (.iconst 0, 1) := by decide +kernel
theorem dX6_ask_34 : decode cX6_ask 34 = .ok (.istore 5, 2) := by decide +kernel
theorem dX6_ask_36 : decode cX6_ask 36 = .ok (.iload 5, 2) := by decide +kernel
theorem dX6_ask_38 : decode cX6_ask 38 = .ok (.bipush 126, 2) := by decide +kernel
theorem dX6_ask_40 : decode cX6_ask 40 = .ok (.if_icmp .ge 17, 3) := by decide +kernel
theorem dX6_ask_43 : decode cX6_ask 43 = .ok (.aload_n 0, 1) := by decide +kernel
theorem dX6_ask_44 : decode cX6_ask 44 = .ok (.getfield 35, 3) := by decide +kernel
theorem dX6_ask_47 : decode cX6_ask 47 = .ok (.iload 5, 2) := by decide +kernel
theorem dX6_ask_49 : decode cX6_ask 49 = .ok (.iconst 0, 1) := by decide +kernel
theorem dX6_ask_50 : decode cX6_ask 50 = .ok (.iastore, 1) := by decide +kernel
theorem dX6_ask_51 : decode cX6_ask 51 = .ok (.iinc 5 1, 3) := by decide +kernel
theorem dX6_ask_54 : decode cX6_ask 54 = .ok (.goto (-18), 3) := by decide +kernel
theorem dX6_ask_57 : decode cX6_ask 57 = .ok (.iconst 0, 1) := by decide +kernel
theorem dX6_ask_58 : decode cX6_ask 58 = .ok (.istore 5, 2) := by decide +kernel
theorem dX6_ask_60 : decode cX6_ask 60 = .ok (.iload 5, 2) := by decide +kernel
theorem dX6_ask_62 : decode cX6_ask 62 = .ok (.bipush 20, 2) := by decide +kernel
theorem dX6_ask_64 : decode cX6_ask 64 = .ok (.if_icmp .gt 61, 3) := by decide +kernel
theorem dX6_ask_67 : decode cX6_ask 67 = .ok (.aload_n 0, 1) := by decide +kernel
theorem dX6_ask_68 : decode cX6_ask 68 = .ok (.iload_n 1, 1) := by decide +kernel
theorem dX6_ask_69 : decode cX6_ask 69 = .ok (.iconst 1, 1) := by decide +kernel
theorem dX6_ask_70 : decode cX6_ask 70 = .ok (.iload 5, 2) := by decide +kernel
theorem dX6_ask_72 : decode cX6_ask 72 = .ok (.invokevirtual 268, 3) := by decide +kernel
theorem dX6_ask_75 : decode cX6_ask 75 = .ok (.ifCond .eq 44, 3) := by decide +kernel
theorem dX6_ask_78 : decode cX6_ask 78 = .ok (.iinc 3 1, 3) := by decide +kernel
theorem dX6_ask_81 : decode cX6_ask 81 = .ok (.iconst 1, 1) := by decide +kernel
theorem dX6_ask_82 : decode cX6_ask 82 = .ok (.istore 6, 2) := by decide +kernel
theorem dX6_ask_84 : decode cX6_ask 84 = .ok (.iload 6, 2) := by decide +kernel
theorem dX6_ask_86 : decode cX6_ask 86 = .ok (.bipush 20, 2) := by decide +kernel
theorem dX6_ask_88 : decode cX6_ask 88 = .ok (.if_icmp .gt 31, 3) := by decide +kernel
theorem dX6_ask_91 : decode cX6_ask 91 = .ok (.aload_n 0, 1) := by decide +kernel
theorem dX6_ask_92 : decode cX6_ask 92 = .ok (.getfield 35, 3) := by decide +kernel
theorem dX6_ask_95 : decode cX6_ask 95 = .ok (.bipush 6, 2) := by decide +kernel
theorem dX6_ask_97 : decode cX6_ask 97 = .ok (.iload 6, 2) := by decide +kernel
theorem dX6_ask_99 : decode cX6_ask 99 = .ok (.imul, 1) := by decide +kernel
theorem dX6_ask_100 : decode cX6_ask 100 = .ok (.aload_n 0, 1) := by decide +kernel
theorem dX6_ask_101 : decode cX6_ask 101 = .ok (.getfield 32, 3) := by decide +kernel
theorem dX6_ask_104 : decode cX6_ask 104 = .ok (.iload 6, 2) := by decide +kernel
theorem dX6_ask_106 : decode cX6_ask 106 = .ok (.iaload, 1) := by decide +kernel
theorem dX6_ask_107 : decode cX6_ask 107 = .ok (.iadd, 1) := by decide +kernel
theorem dX6_ask_108 : decode cX6_ask 108 = .ok (.dup2, 1) := by decide +kernel
theorem dX6_ask_109 : decode cX6_ask 109 = .ok (.iaload, 1) := by decide +kernel
theorem dX6_ask_110 : decode cX6_ask 110 = .ok (.iconst 1, 1) := by decide +kernel
theorem dX6_ask_111 : decode cX6_ask 111 = .ok (.iadd, 1) := by decide +kernel
theorem dX6_ask_112 : decode cX6_ask 112 = .ok (.iastore, 1) := by decide +kernel
theorem dX6_ask_113 : decode cX6_ask 113 = .ok (.iinc 6 1, 3) := by decide +kernel
theorem dX6_ask_116 : decode cX6_ask 116 = .ok (.goto (-32), 3) := by decide +kernel
theorem dX6_ask_119 : decode cX6_ask 119 = .ok (.iinc 5 1, 3) := by decide +kernel
theorem dX6_ask_122 : decode cX6_ask 122 = .ok (.goto (-62), 3) := by decide +kernel
theorem dX6_ask_125 : decode cX6_ask 125 = .ok (.iconst 1, 1) := by decide +kernel
theorem dX6_ask_126 : decode cX6_ask 126 = .ok (.istore 5, 2) := by decide +kernel
theorem dX6_ask_128 : decode cX6_ask 128 = .ok (.iload 5, 2) := by decide +kernel
theorem dX6_ask_130 : decode cX6_ask 130 = .ok (.bipush 20, 2) := by decide +kernel
theorem dX6_ask_132 : decode cX6_ask 132 = .ok (.if_icmp .gt 94, 3) := by decide +kernel
theorem dX6_ask_135 : decode cX6_ask 135 = .ok (.iconst 0, 1) := by decide +kernel
theorem dX6_ask_136 : decode cX6_ask 136 = .ok (.istore 6, 2) := by decide +kernel
theorem dX6_ask_138 : decode cX6_ask 138 = .ok (.iconst 0, 1) := by decide +kernel
theorem dX6_ask_139 : decode cX6_ask 139 = .ok (.istore 7, 2) := by decide +kernel
theorem dX6_ask_141 : decode cX6_ask 141 = .ok (.iload 7, 2) := by decide +kernel
theorem dX6_ask_143 : decode cX6_ask 143 = .ok (.bipush 6, 2) := by decide +kernel
theorem dX6_ask_145 : decode cX6_ask 145 = .ok (.if_icmp .ge 47, 3) := by decide +kernel
theorem dX6_ask_148 : decode cX6_ask 148 = .ok (.aload_n 0, 1) := by decide +kernel
theorem dX6_ask_149 : decode cX6_ask 149 = .ok (.getfield 35, 3) := by decide +kernel
theorem dX6_ask_152 : decode cX6_ask 152 = .ok (.bipush 6, 2) := by decide +kernel
theorem dX6_ask_154 : decode cX6_ask 154 = .ok (.iload 5, 2) := by decide +kernel
theorem dX6_ask_156 : decode cX6_ask 156 = .ok (.imul, 1) := by decide +kernel
theorem dX6_ask_157 : decode cX6_ask 157 = .ok (.iload 7, 2) := by decide +kernel
theorem dX6_ask_159 : decode cX6_ask 159 = .ok (.iadd, 1) := by decide +kernel
theorem dX6_ask_160 : decode cX6_ask 160 = .ok (.iaload, 1) := by decide +kernel
theorem dX6_ask_161 : decode cX6_ask 161 = .ok (.iload 6, 2) := by decide +kernel
theorem dX6_ask_163 : decode cX6_ask 163 = .ok (.if_icmp .le 19, 3) := by decide +kernel
theorem dX6_ask_166 : decode cX6_ask 166 = .ok (.aload_n 0, 1) := by decide +kernel
theorem dX6_ask_167 : decode cX6_ask 167 = .ok (.getfield 35, 3) := by decide +kernel
theorem dX6_ask_170 : decode cX6_ask 170 = .ok (.bipush 6, 2) := by decide +kernel
theorem dX6_ask_172 : decode cX6_ask 172 = .ok (.iload 5, 2) := by decide +kernel
theorem dX6_ask_174 : decode cX6_ask 174 = .ok (.imul, 1) := by decide +kernel
theorem dX6_ask_175 : decode cX6_ask 175 = .ok (.iload 7, 2) := by decide +kernel
theorem dX6_ask_177 : decode cX6_ask 177 = .ok (.iadd, 1) := by decide +kernel
theorem dX6_ask_178 : decode cX6_ask 178 = .ok (.iaload, 1) := by decide +kernel
theorem dX6_ask_179 : decode cX6_ask 179 = .ok (.goto 5, 3) := by decide +kernel
theorem dX6_ask_182 : decode cX6_ask 182 = .ok (.iload 6, 2) := by decide +kernel
theorem dX6_ask_184 : decode cX6_ask 184 = .ok (.istore 6, 2) := by decide +kernel
theorem dX6_ask_186 : decode cX6_ask 186 = .ok (.iinc 7 1, 3) := by decide +kernel
theorem dX6_ask_189 : decode cX6_ask 189 = .ok (.goto (-48), 3) := by decide +kernel
theorem dX6_ask_192 : decode cX6_ask 192 = .ok (.iload 6, 2) := by decide +kernel
theorem dX6_ask_194 : decode cX6_ask 194 = .ok (.iload_n 3, 1) := by decide +kernel
theorem dX6_ask_195 : decode cX6_ask 195 = .ok (.if_icmp .ge 8, 3) := by decide +kernel
theorem dX6_ask_198 : decode cX6_ask 198 = .ok (.iload 5, 2) := by decide +kernel
theorem dX6_ask_200 : decode cX6_ask 200 = .ok (.goto 5, 3) := by decide +kernel
theorem dX6_ask_203 : decode cX6_ask 203 = .ok (.iload 4, 2) := by decide +kernel
theorem dX6_ask_205 : decode cX6_ask 205 = .ok (.istore 4, 2) := by decide +kernel
theorem dX6_ask_207 : decode cX6_ask 207 = .ok (.iload 6, 2) := by decide +kernel
theorem dX6_ask_209 : decode cX6_ask 209 = .ok (.iload_n 3, 1) := by decide +kernel
theorem dX6_ask_210 : decode cX6_ask 210 = .ok (.if_icmp .ge 8, 3) := by decide +kernel
theorem dX6_ask_213 : decode cX6_ask 213 = .ok (.iload 6, 2) := by decide +kernel
theorem dX6_ask_215 : decode cX6_ask 215 = .ok (.goto 4, 3) := by decide +kernel
theorem dX6_ask_218 : decode cX6_ask 218 = .ok (.iload_n 3, 1) := by decide +kernel
theorem dX6_ask_219 : decode cX6_ask 219 = .ok (.istore_n 3, 1) := by decide +kernel
theorem dX6_ask_220 : decode cX6_ask 220 = .ok (.iinc 5 1, 3) := by decide +kernel
theorem dX6_ask_223 : decode cX6_ask 223 = .ok (.goto (-95), 3) := by decide +kernel
theorem dX6_ask_226 : decode cX6_ask 226 = .ok (.iload 4, 2) := by decide +kernel
theorem dX6_ask_228 : decode cX6_ask 228 = .ok (.bipush (-4), 2) := by decide +kernel
theorem dX6_ask_230 : decode cX6_ask 230 = .ok (.if_icmp .ne 8, 3) := by decide +kernel
theorem dX6_ask_233 : decode cX6_ask 233 = .ok (.bipush (-4), 2) := by decide +kernel
theorem dX6_ask_235 : decode cX6_ask 235 = .ok (.goto 13, 3) := by decide +kernel
theorem dX6_ask_238 : decode cX6_ask 238 = .ok (.iload_n 2, 1) := by decide +kernel
theorem dX6_ask_239 : decode cX6_ask 239 = .ok (.ifCond .ne 8, 3) := by decide +kernel
theorem dX6_ask_242 : decode cX6_ask 242 = .ok (.iload 4, 2) := by decide +kernel
theorem dX6_ask_244 : decode cX6_ask 244 = .ok (.goto 4, 3) := by decide +kernel
theorem dX6_ask_247 : decode cX6_ask 247 = .ok (.iload_n 3, 1) := by decide +kernel
theorem dX6_ask_248 : decode cX6_ask 248 = .ok (.ireturn, 1) := by decide +kernel
set_option maxRecDepth 20000 in
theorem ggX6_drift_X6_in : GoodIn wsX6_drift wsX6_in := goodIn_r _ [8] (by decide +kernel) (by decide +kernel)
set_option maxRecDepth 20000 in
theorem gX6_drift_X6_in : GoodIn wsX6_drift (va_wsS RX6 71 yX6_in wsX6_in) := goodIn_app (goodIn_of _ (by decide +kernel)) ggX6_drift_X6_in
set_option maxRecDepth 20000 in
theorem ggX6_drift_X6_isPart : GoodIn wsX6_drift wsX6_isPart := goodIn_r _ [11, 5, 6, 7, 8] (by decide +kernel) (by decide +kernel)
set_option maxRecDepth 20000 in
theorem gX6_drift_X6_isPart : GoodIn wsX6_drift (va_wsS RX6 232 yX6_isPart wsX6_isPart) := goodIn_app (goodIn_of _ (by decide +kernel)) ggX6_drift_X6_isPart
set_option maxRecDepth 20000 in
theorem ggX6_drift_X6_areTwo : GoodIn wsX6_drift wsX6_areTwo := goodIn_r _ [15, 4, 46, 47, 48, 49, 50, 51, 52, 53, 54, 55, 56, 57, 58, 59, 60, 61, 62, 63, 64, 65, 66, 67, 68, 69, 70, 71, 72, 73, 74, 75, 76] (by decide +kernel) (by decide +kernel)
set_option maxRecDepth 20000 in
theorem gX6_drift_X6_areTwo : GoodIn wsX6_drift (wsV RX6 207 RX6 yX6_areTwo wsX6_areTwo) := goodIn_app (goodIn_of _ (by decide +kernel)) ggX6_drift_X6_areTwo
set_option maxRecDepth 20000 in
theorem ggX6_drift_X6_starts : GoodIn wsX6_drift wsX6_starts := goodIn_r _ [19, 3, 4, 46, 47, 48, 49, 50, 51, 52, 53, 54, 55, 56, 57, 58, 59, 60, 61, 62, 63, 64, 65, 66, 67, 68, 69, 70, 71, 72, 73, 74, 75, 76] (by decide +kernel) (by decide +kernel)
set_option maxRecDepth 20000 in
theorem gX6_drift_X6_starts : GoodIn wsX6_drift (wsV RX6 184 RX6 yX6_starts wsX6_starts) := goodIn_app (goodIn_of _ (by decide +kernel)) ggX6_drift_X6_starts
set_option maxRecDepth 20000 in
theorem ggX6_drift_X6_reignGoes : GoodIn wsX6_drift wsX6_reignGoes := goodIn_r _ [23, 3, 24, 25, 26, 27, 28, 29, 7, 30, 31, 32, 33, 34, 35, 36, 37, 38, 39, 40, 41, 42, 43, 44, 45, 46, 47, 48, 49, 50, 51, 52, 53, 54, 55, 56, 57, 58, 59, 60, 61, 62, 63, 64, 65, 66, 67, 68, 69, 70, 71, 72, 73, 74, 75, 76] (by decide +kernel) (by decide +kernel)
set_option maxRecDepth 20000 in
theorem gX6_drift_X6_reignGoes : GoodIn wsX6_drift (wsV RX6 174 RX6 yX6_reignGoes wsX6_reignGoes) := goodIn_app (goodIn_of _ (by decide +kernel)) ggX6_drift_X6_reignGoes
theorem dX6_drift_0 : decode cX6_drift 0 = .ok (.iload_n 2, 1) := by decide +kernel
theorem dX6_drift_1 : decode cX6_drift 1 = .ok (.i2l, 1) := by decide +kernel
theorem dX6_drift_2 : decode cX6_drift 2 = .ok (.lconst 1, 1) := by decide +kernel
theorem dX6_drift_3 : decode cX6_drift 3 = .ok (.ldc2_w 217, 3) := by decide +kernel
theorem dX6_drift_6 : decode cX6_drift 6 = .ok (.invokestatic 71, 3) := by decide +kernel
theorem dX6_drift_9 : decode cX6_drift 9 = .ok (.ifCond .eq 10, 3) := by decide +kernel
theorem dX6_drift_12 : decode cX6_drift 12 = .ok (.iload_n 3, 1) := by decide +kernel
theorem dX6_drift_13 : decode cX6_drift 13 = .ok (.invokestatic 232, 3) := by decide +kernel
theorem dX6_drift_16 : decode cX6_drift 16 = .ok (.ifCond .ne 5, 3) := by decide +kernel
theorem dX6_drift_19 : decode cX6_drift 19 = .ok (.iconst (-1), 1) := by decide +kernel
theorem dX6_drift_20 : decode cX6_drift 20 = .ok (.ireturn, 1) := by decide +kernel
theorem dX6_drift_21 : decode cX6_drift 21 = .ok (.aload_n 0, 1) := by decide +kernel
theorem dX6_drift_22 : decode cX6_drift 22 = .ok (.invokevirtual 207, 3) := by decide +kernel
theorem dX6_drift_25 : decode cX6_drift 25 = .ok (.ifCond .ne 6, 3) := by decide +kernel
theorem dX6_drift_28 : decode cX6_drift 28 = .ok (.bipush (-2), 2) := by decide +kernel
theorem dX6_drift_30 : decode cX6_drift 30 = .ok (.ireturn, 1) := by decide +kernel
theorem dX6_drift_31 : decode cX6_drift 31 = .ok (.iload_n 1, 1) := by decide +kernel
theorem dX6_drift_32 : decode cX6_drift 32 = .ok (.istore 4, 2) := by decide +kernel
theorem dX6_drift_34 : decode cX6_drift 34 = .ok (.aload_n 0, 1) := by decide +kernel
theorem dX6_drift_35 : decode cX6_drift 35 = .ok (.invokevirtual 184, 3) := by decide +kernel
theorem dX6_drift_38 : decode cX6_drift 38 = .ok (.iconst 0, 1) := by decide +kernel
theorem dX6_drift_39 : decode cX6_drift 39 = .ok (.istore 5, 2) := by decide +kernel
theorem dX6_drift_41 : decode cX6_drift 41 = .ok (.iload 5, 2) := by decide +kernel
theorem dX6_drift_43 : decode cX6_drift 43 = .ok (.iload_n 2, 1) := by decide +kernel
theorem dX6_drift_44 : decode cX6_drift 44 = .ok (.if_icmp .ge 45, 3) := by decide +kernel
theorem dX6_drift_47 : decode cX6_drift 47 = .ok (.iload 4, 2) := by decide +kernel
theorem dX6_drift_49 : decode cX6_drift 49 = .ok (.ldc_w 271, 3) := by decide +kernel
theorem dX6_drift_52 : decode cX6_drift 52 = .ok (.imul, 1) := by decide +kernel
theorem dX6_drift_53 : decode cX6_drift 53 = .ok (.sipush 12345, 3) := by decide +kernel
theorem dX6_drift_56 : decode cX6_drift 56 = .ok (.iadd, 1) := by decide +kernel
theorem dX6_drift_57 : decode cX6_drift 57 = .ok (.istore 4, 2) := by decide +kernel
theorem dX6_drift_59 : decode cX6_drift 59 = .ok (.aload_n 0, 1) := by decide +kernel
theorem dX6_drift_60 : decode cX6_drift 60 = .ok (.getfield 13, 3) := by decide +kernel
theorem dX6_drift_63 : decode cX6_drift 63 = .ok (.bipush 31, 2) := by decide +kernel
theorem dX6_drift_65 : decode cX6_drift 65 = .ok (.iload 4, 2) := by decide +kernel
theorem dX6_drift_67 : decode cX6_drift 67 = .ok (.bipush 16, 2) := by decide +kernel
theorem dX6_drift_69 : decode cX6_drift 69 = .ok (.ishr, 1) := by decide +kernel
theorem dX6_drift_70 : decode cX6_drift 70 = .ok (.sipush 32767, 3) := by decide +kernel
theorem dX6_drift_73 : decode cX6_drift 73 = .ok (.iand, 1) := by decide +kernel
theorem dX6_drift_74 : decode cX6_drift 74 = .ok (.bipush 10, 2) := by decide +kernel
theorem dX6_drift_76 : decode cX6_drift 76 = .ok (.irem, 1) := by decide +kernel
theorem dX6_drift_77 : decode cX6_drift 77 = .ok (.iastore, 1) := by decide +kernel
theorem dX6_drift_78 : decode cX6_drift 78 = .ok (.aload_n 0, 1) := by decide +kernel
theorem dX6_drift_79 : decode cX6_drift 79 = .ok (.iconst 0, 1) := by decide +kernel
theorem dX6_drift_80 : decode cX6_drift 80 = .ok (.invokevirtual 174, 3) := by decide +kernel
theorem dX6_drift_83 : decode cX6_drift 83 = .ok (.iinc 5 1, 3) := by decide +kernel
theorem dX6_drift_86 : decode cX6_drift 86 = .ok (.goto (-45), 3) := by decide +kernel
theorem dX6_drift_89 : decode cX6_drift 89 = .ok (.iload_n 3, 1) := by decide +kernel
theorem dX6_drift_90 : decode cX6_drift 90 = .ok (.ifCond .ne 13, 3) := by decide +kernel
theorem dX6_drift_93 : decode cX6_drift 93 = .ok (.aload_n 0, 1) := by decide +kernel
theorem dX6_drift_94 : decode cX6_drift 94 = .ok (.getfield 13, 3) := by decide +kernel
theorem dX6_drift_97 : decode cX6_drift 97 = .ok (.bipush 32, 2) := by decide +kernel
theorem dX6_drift_99 : decode cX6_drift 99 = .ok (.iaload, 1) := by decide +kernel
theorem dX6_drift_100 : decode cX6_drift 100 = .ok (.goto 18, 3) := by decide +kernel
theorem dX6_drift_103 : decode cX6_drift 103 = .ok (.aload_n 0, 1) := by decide +kernel
theorem dX6_drift_104 : decode cX6_drift 104 = .ok (.getfield 13, 3) := by decide +kernel
theorem dX6_drift_107 : decode cX6_drift 107 = .ok (.bipush 35, 2) := by decide +kernel
theorem dX6_drift_109 : decode cX6_drift 109 = .ok (.iaload, 1) := by decide +kernel
theorem dX6_drift_110 : decode cX6_drift 110 = .ok (.aload_n 0, 1) := by decide +kernel
theorem dX6_drift_111 : decode cX6_drift 111 = .ok (.getfield 7, 3) := by decide +kernel
theorem dX6_drift_114 : decode cX6_drift 114 = .ok (.bipush 35, 2) := by decide +kernel
theorem dX6_drift_116 : decode cX6_drift 116 = .ok (.iaload, 1) := by decide +kernel
theorem dX6_drift_117 : decode cX6_drift 117 = .ok (.isub, 1) := by decide +kernel
theorem dX6_drift_118 : decode cX6_drift 118 = .ok (.ireturn, 1) := by decide +kernel
theorem dX6_copies_0 : decode cX6_copies 0 = .ok (.iconst 0, 1) := by decide +kernel
theorem dX6_copies_1 : decode cX6_copies 1 = .ok (.istore_n 3, 1) := by decide +kernel
theorem dX6_copies_2 : decode cX6_copies 2 = .ok (.iload_n 3, 1) := by decide +kernel
theorem dX6_copies_3 : decode cX6_copies 3 = .ok (.bipush 49, 2) := by decide +kernel
theorem dX6_copies_5 : decode cX6_copies 5 = .ok (.if_icmp .ge 25, 3) := by decide +kernel
theorem dX6_copies_8 : decode cX6_copies 8 = .ok (.aload_n 0, 1) := by decide +kernel
theorem dX6_copies_9 : decode cX6_copies 9 = .ok (.getfield 7, 3) := by decide +kernel
theorem dX6_copies_12 : decode cX6_copies 12 = .ok (.iload_n 1, 1) := by decide +kernel
theorem dX6_copies_13 : decode cX6_copies 13 = .ok (.iload_n 3, 1) := by decide +kernel
theorem dX6_copies_14 : decode cX6_copies 14 = .ok (.iadd, 1) := by decide +kernel
theorem dX6_copies_15 : decode cX6_copies 15 = .ok (.aload_n 0, 1) := by decide +kernel
theorem dX6_copies_16 : decode cX6_copies 16 = .ok (.getfield 7, 3) := by decide +kernel
theorem dX6_copies_19 : decode cX6_copies 19 = .ok (.iload_n 2, 1) := by decide +kernel
theorem dX6_copies_20 : decode cX6_copies 20 = .ok (.iload_n 3, 1) := by decide +kernel
theorem dX6_copies_21 : decode cX6_copies 21 = .ok (.iadd, 1) := by decide +kernel
theorem dX6_copies_22 : decode cX6_copies 22 = .ok (.iaload, 1) := by decide +kernel
theorem dX6_copies_23 : decode cX6_copies 23 = .ok (.iastore, 1) := by decide +kernel
theorem dX6_copies_24 : decode cX6_copies 24 = .ok (.iinc 3 1, 3) := by decide +kernel
theorem dX6_copies_27 : decode cX6_copies 27 = .ok (.goto (-25), 3) := by decide +kernel
theorem dX6_copies_30 : decode cX6_copies 30 = .ok (.return_, 1) := by decide +kernel
set_option maxRecDepth 20000 in
theorem ggX6_keep_X6_in : GoodIn wsX6_keep wsX6_in := goodIn_r _ [5] (by decide +kernel) (by decide +kernel)
set_option maxRecDepth 20000 in
theorem gX6_keep_X6_in : GoodIn wsX6_keep (va_wsS RX6 71 yX6_in wsX6_in) := goodIn_app (goodIn_of _ (by decide +kernel)) ggX6_keep_X6_in
set_option maxRecDepth 20000 in
theorem ggX6_keep_X6_flag : GoodIn wsX6_keep wsX6_flag := goodIn_r _ [8] (by decide +kernel) (by decide +kernel)
set_option maxRecDepth 20000 in
theorem gX6_keep_X6_flag : GoodIn wsX6_keep (va_wsS RX6 163 yX6_flag wsX6_flag) := goodIn_app (goodIn_of _ (by decide +kernel)) ggX6_keep_X6_flag
set_option maxRecDepth 20000 in
theorem ggX6_keep_X6_copies : GoodIn wsX6_keep wsX6_copies := goodIn_r _ [12, 13, 14, 15, 16, 17, 18, 19, 20, 21, 22, 23, 24, 25, 26, 27, 28, 29, 30, 31, 32, 33, 34, 35, 36, 37, 38, 39, 40, 41, 42, 43, 44] (by decide +kernel) (by decide +kernel)
set_option maxRecDepth 20000 in
theorem gX6_keep_X6_copies : GoodIn wsX6_keep (wsV RX6 272 RX6 yX6_copies wsX6_copies) := goodIn_app (goodIn_of _ (by decide +kernel)) ggX6_keep_X6_copies
theorem dX6_keep_0 : decode cX6_keep 0 = .ok (.iload_n 1, 1) := by decide +kernel
theorem dX6_keep_1 : decode cX6_keep 1 = .ok (.i2l, 1) := by decide +kernel
theorem dX6_keep_2 : decode cX6_keep 2 = .ok (.lconst 0, 1) := by decide +kernel
theorem dX6_keep_3 : decode cX6_keep 3 = .ok (.lconst 1, 1) := by decide +kernel
theorem dX6_keep_4 : decode cX6_keep 4 = .ok (.invokestatic 71, 3) := by decide +kernel
theorem dX6_keep_7 : decode cX6_keep 7 = .ok (.ifCond .ne 5, 3) := by decide +kernel
theorem dX6_keep_10 : decode cX6_keep 10 = .ok (.iconst (-1), 1) := by decide +kernel
theorem dX6_keep_11 : decode cX6_keep 11 = .ok (.ireturn, 1) := by decide +kernel
theorem dX6_keep_12 : decode cX6_keep 12 = .ok (.aload_n 0, 1) := by decide +kernel
theorem dX6_keep_13 : decode cX6_keep 13 = .ok (.getfield 16, 3) := by decide +kernel
theorem dX6_keep_16 : decode cX6_keep 16 = .ok (.iload_n 1, 1) := by decide +kernel
theorem dX6_keep_17 : decode cX6_keep 17 = .ok (.baload, 1) := by decide +kernel
theorem dX6_keep_18 : decode cX6_keep 18 = .ok (.invokestatic 163, 3) := by decide +kernel
theorem dX6_keep_21 : decode cX6_keep 21 = .ok (.istore_n 2, 1) := by decide +kernel
theorem dX6_keep_22 : decode cX6_keep 22 = .ok (.aload_n 0, 1) := by decide +kernel
theorem dX6_keep_23 : decode cX6_keep 23 = .ok (.getfield 16, 3) := by decide +kernel
theorem dX6_keep_26 : decode cX6_keep 26 = .ok (.iload_n 1, 1) := by decide +kernel
theorem dX6_keep_27 : decode cX6_keep 27 = .ok (.iconst 1, 1) := by decide +kernel
theorem dX6_keep_28 : decode cX6_keep 28 = .ok (.bastore, 1) := by decide +kernel
theorem dX6_keep_29 : decode cX6_keep 29 = .ok (.aload_n 0, 1) := by decide +kernel
theorem dX6_keep_30 : decode cX6_keep 30 = .ok (.bipush 49, 2) := by decide +kernel
theorem dX6_keep_32 : decode cX6_keep 32 = .ok (.iload_n 1, 1) := by decide +kernel
theorem dX6_keep_33 : decode cX6_keep 33 = .ok (.iconst 1, 1) := by decide +kernel
theorem dX6_keep_34 : decode cX6_keep 34 = .ok (.iadd, 1) := by decide +kernel
theorem dX6_keep_35 : decode cX6_keep 35 = .ok (.imul, 1) := by decide +kernel
theorem dX6_keep_36 : decode cX6_keep 36 = .ok (.iconst 0, 1) := by decide +kernel
theorem dX6_keep_37 : decode cX6_keep 37 = .ok (.invokevirtual 272, 3) := by decide +kernel
theorem dX6_keep_40 : decode cX6_keep 40 = .ok (.iload_n 2, 1) := by decide +kernel
theorem dX6_keep_41 : decode cX6_keep 41 = .ok (.ireturn, 1) := by decide +kernel
set_option maxRecDepth 20000 in
theorem ggX6_back_X6_in : GoodIn wsX6_back wsX6_in := goodIn_r _ [6] (by decide +kernel) (by decide +kernel)
set_option maxRecDepth 20000 in
theorem gX6_back_X6_in : GoodIn wsX6_back (va_wsS RX6 71 yX6_in wsX6_in) := goodIn_app (goodIn_of _ (by decide +kernel)) ggX6_back_X6_in
set_option maxRecDepth 20000 in
theorem ggX6_back_X6_copies : GoodIn wsX6_back wsX6_copies := goodIn_r _ [10, 2, 11, 12, 13, 14, 15, 16, 17, 18, 19, 20, 21, 22, 23, 24, 25, 26, 27, 28, 29, 30, 31, 32, 33, 34, 35, 36, 37, 38, 39, 40, 41] (by decide +kernel) (by decide +kernel)
set_option maxRecDepth 20000 in
theorem gX6_back_X6_copies : GoodIn wsX6_back (wsV RX6 272 RX6 yX6_copies wsX6_copies) := goodIn_app (goodIn_of _ (by decide +kernel)) ggX6_back_X6_copies
theorem dX6_back_0 : decode cX6_back 0 = .ok (.iload_n 1, 1) := by decide +kernel
theorem dX6_back_1 : decode cX6_back 1 = .ok (.i2l, 1) := by decide +kernel
theorem dX6_back_2 : decode cX6_back 2 = .ok (.lconst 0, 1) := by decide +kernel
theorem dX6_back_3 : decode cX6_back 3 = .ok (.lconst 1, 1) := by decide +kernel
theorem dX6_back_4 : decode cX6_back 4 = .ok (.invokestatic 71, 3) := by decide +kernel
theorem dX6_back_7 : decode cX6_back 7 = .ok (.ifCond .ne 5, 3) := by decide +kernel
theorem dX6_back_10 : decode cX6_back 10 = .ok (.iconst (-1), 1) := by decide +kernel
theorem dX6_back_11 : decode cX6_back 11 = .ok (.ireturn, 1) := by decide +kernel
theorem dX6_back_12 : decode cX6_back 12 = .ok (.aload_n 0, 1) := by decide +kernel
theorem dX6_back_13 : decode cX6_back 13 = .ok (.getfield 16, 3) := by decide +kernel
theorem dX6_back_16 : decode cX6_back 16 = .ok (.iload_n 1, 1) := by decide +kernel
theorem dX6_back_17 : decode cX6_back 17 = .ok (.baload, 1) := by decide +kernel
theorem dX6_back_18 : decode cX6_back 18 = .ok (.ifCond .ne 6, 3) := by decide +kernel
theorem dX6_back_21 : decode cX6_back 21 = .ok (.bipush (-2), 2) := by decide +kernel
theorem dX6_back_23 : decode cX6_back 23 = .ok (.ireturn, 1) := by decide +kernel
theorem dX6_back_24 : decode cX6_back 24 = .ok (.aload_n 0, 1) := by decide +kernel
theorem dX6_back_25 : decode cX6_back 25 = .ok (.iconst 0, 1) := by decide +kernel
theorem dX6_back_26 : decode cX6_back 26 = .ok (.bipush 49, 2) := by decide +kernel
theorem dX6_back_28 : decode cX6_back 28 = .ok (.iload_n 1, 1) := by decide +kernel
theorem dX6_back_29 : decode cX6_back 29 = .ok (.iconst 1, 1) := by decide +kernel
theorem dX6_back_30 : decode cX6_back 30 = .ok (.iadd, 1) := by decide +kernel
theorem dX6_back_31 : decode cX6_back 31 = .ok (.imul, 1) := by decide +kernel
theorem dX6_back_32 : decode cX6_back 32 = .ok (.invokevirtual 272, 3) := by decide +kernel
theorem dX6_back_35 : decode cX6_back 35 = .ok (.aload_n 0, 1) := by decide +kernel
theorem dX6_back_36 : decode cX6_back 36 = .ok (.getfield 7, 3) := by decide +kernel
theorem dX6_back_39 : decode cX6_back 39 = .ok (.bipush 32, 2) := by decide +kernel
theorem dX6_back_41 : decode cX6_back 41 = .ok (.iaload, 1) := by decide +kernel
theorem dX6_back_42 : decode cX6_back 42 = .ok (.ireturn, 1) := by decide +kernel
set_option maxRecDepth 20000 in
theorem ggX6_isSheet_X6_in : GoodIn wsX6_isSheet wsX6_in := goodIn_r _ [6] (by decide +kernel) (by decide +kernel)
set_option maxRecDepth 20000 in
theorem gX6_isSheet_X6_in : GoodIn wsX6_isSheet (va_wsS RX6 71 yX6_in wsX6_in) := goodIn_app (goodIn_of _ (by decide +kernel)) ggX6_isSheet_X6_in
theorem dX6_isSheet_0 : decode cX6_isSheet 0 = .ok (.iload_n 0, 1) := by decide +kernel
theorem dX6_isSheet_1 : decode cX6_isSheet 1 = .ok (.i2l, 1) := by decide +kernel
theorem dX6_isSheet_2 : decode cX6_isSheet 2 = .ok (.lconst 0, 1) := by decide +kernel
theorem dX6_isSheet_3 : decode cX6_isSheet 3 = .ok (.ldc2_w 190, 3) := by decide +kernel
theorem dX6_isSheet_6 : decode cX6_isSheet 6 = .ok (.invokestatic 71, 3) := by decide +kernel
theorem dX6_isSheet_9 : decode cX6_isSheet 9 = .ok (.ifCond .eq 19, 3) := by decide +kernel
theorem dX6_isSheet_12 : decode cX6_isSheet 12 = .ok (.iload_n 1, 1) := by decide +kernel
theorem dX6_isSheet_13 : decode cX6_isSheet 13 = .ok (.i2l, 1) := by decide +kernel
theorem dX6_isSheet_14 : decode cX6_isSheet 14 = .ok (.lconst 0, 1) := by decide +kernel
theorem dX6_isSheet_15 : decode cX6_isSheet 15 = .ok (.ldc2_w 224, 3) := by decide +kernel
theorem dX6_isSheet_18 : decode cX6_isSheet 18 = .ok (.invokestatic 71, 3) := by decide +kernel
theorem dX6_isSheet_21 : decode cX6_isSheet 21 = .ok (.ifCond .eq 7, 3) := by decide +kernel
theorem dX6_isSheet_24 : decode cX6_isSheet 24 = .ok (.iconst 1, 1) := by decide +kernel
theorem dX6_isSheet_25 : decode cX6_isSheet 25 = .ok (.goto 4, 3) := by decide +kernel
theorem dX6_isSheet_28 : decode cX6_isSheet 28 = .ok (.iconst 0, 1) := by decide +kernel
theorem dX6_isSheet_29 : decode cX6_isSheet 29 = .ok (.ireturn, 1) := by decide +kernel
set_option maxRecDepth 20000 in
theorem ggX6_sheet_X6_isSheet : GoodIn wsX6_sheet wsX6_isSheet := goodIn_r _ [7, 8, 9, 10, 11, 6, 12] (by decide +kernel) (by decide +kernel)
set_option maxRecDepth 20000 in
theorem gX6_sheet_X6_isSheet : GoodIn wsX6_sheet (va_wsS RX6 276 yX6_isSheet wsX6_isSheet) := goodIn_app (goodIn_of _ (by decide +kernel)) ggX6_sheet_X6_isSheet
theorem dX6_sheet_0 : decode cX6_sheet 0 = .ok (.iload_n 1, 1) := by decide +kernel
theorem dX6_sheet_1 : decode cX6_sheet 1 = .ok (.iload_n 2, 1) := by decide +kernel
theorem dX6_sheet_2 : decode cX6_sheet 2 = .ok (.invokestatic 276, 3) := by decide +kernel
theorem dX6_sheet_5 : decode cX6_sheet 5 = .ok (.ifCond .eq 9, 3) := by decide +kernel
theorem dX6_sheet_8 : decode cX6_sheet 8 = .ok (.iload_n 3, 1) := by decide +kernel
theorem dX6_sheet_9 : decode cX6_sheet 9 = .ok (.bipush 40, 2) := by decide +kernel
theorem dX6_sheet_11 : decode cX6_sheet 11 = .ok (.if_icmp .le 5, 3) := by decide +kernel
theorem dX6_sheet_14 : decode cX6_sheet 14 = .ok (.iconst (-1), 1) := by decide +kernel
theorem dX6_sheet_15 : decode cX6_sheet 15 = .ok (.ireturn, 1) := by decide +kernel
theorem dX6_sheet_16 : decode cX6_sheet 16 = .ok (.iload_n 3, 1) := by decide +kernel
theorem dX6_sheet_17 : decode cX6_sheet 17 = .ok (.ifCond .ge 6, 3) := by decide +kernel
theorem dX6_sheet_20 : decode cX6_sheet 20 = .ok (.bipush (-14), 2) := by decide +kernel
theorem dX6_sheet_22 : decode cX6_sheet 22 = .ok (.ireturn, 1) := by decide +kernel
theorem dX6_sheet_23 : decode cX6_sheet 23 = .ok (.aload_n 0, 1) := by decide +kernel
theorem dX6_sheet_24 : decode cX6_sheet 24 = .ok (.getfield 38, 3) := by decide +kernel
theorem dX6_sheet_27 : decode cX6_sheet 27 = .ok (.iload_n 1, 1) := by decide +kernel
theorem dX6_sheet_28 : decode cX6_sheet 28 = .ok (.iload_n 2, 1) := by decide +kernel
theorem dX6_sheet_29 : decode cX6_sheet 29 = .ok (.iastore, 1) := by decide +kernel
theorem dX6_sheet_30 : decode cX6_sheet 30 = .ok (.aload_n 0, 1) := by decide +kernel
theorem dX6_sheet_31 : decode cX6_sheet 31 = .ok (.getfield 41, 3) := by decide +kernel
theorem dX6_sheet_34 : decode cX6_sheet 34 = .ok (.iload_n 1, 1) := by decide +kernel
theorem dX6_sheet_35 : decode cX6_sheet 35 = .ok (.iload_n 3, 1) := by decide +kernel
theorem dX6_sheet_36 : decode cX6_sheet 36 = .ok (.iastore, 1) := by decide +kernel
theorem dX6_sheet_37 : decode cX6_sheet 37 = .ok (.iconst 0, 1) := by decide +kernel
theorem dX6_sheet_38 : decode cX6_sheet 38 = .ok (.istore 4, 2) := by decide +kernel
theorem dX6_sheet_40 : decode cX6_sheet 40 = .ok (.iload 4, 2) := by decide +kernel
theorem dX6_sheet_42 : decode cX6_sheet 42 = .ok (.bipush 40, 2) := by decide +kernel
theorem dX6_sheet_44 : decode cX6_sheet 44 = .ok (.if_icmp .ge 22, 3) := by decide +kernel
theorem dX6_sheet_47 : decode cX6_sheet 47 = .ok (.aload_n 0, 1) := by decide +kernel
theorem dX6_sheet_48 : decode cX6_sheet 48 = .ok (.getfield 44, 3) := by decide +kernel
theorem dX6_sheet_51 : decode cX6_sheet 51 = .ok (.bipush 40, 2) := by decide +kernel
theorem dX6_sheet_53 : decode cX6_sheet 53 = .ok (.iload_n 1, 1) := by decide +kernel
theorem dX6_sheet_54 : decode cX6_sheet 54 = .ok (.imul, 1) := by decide +kernel
theorem dX6_sheet_55 : decode cX6_sheet 55 = .ok (.iload 4, 2) := by decide +kernel
theorem dX6_sheet_57 : decode cX6_sheet 57 = .ok (.iadd, 1) := by decide +kernel
theorem dX6_sheet_58 : decode cX6_sheet 58 = .ok (.iconst 0, 1) := by decide +kernel
theorem dX6_sheet_59 : decode cX6_sheet 59 = .ok (.iastore, 1) := by decide +kernel
theorem dX6_sheet_60 : decode cX6_sheet 60 = .ok (.iinc 4 1, 3) := by decide +kernel
theorem dX6_sheet_63 : decode cX6_sheet 63 = .ok (.goto (-23), 3) := by decide +kernel
theorem dX6_sheet_66 : decode cX6_sheet 66 = .ok (.iconst 1, 1) := by decide +kernel
theorem dX6_sheet_67 : decode cX6_sheet 67 = .ok (.ireturn, 1) := by decide +kernel
set_option maxRecDepth 20000 in
theorem ggX6_lay_X6_isSheet : GoodIn wsX6_lay wsX6_isSheet := goodIn_r _ [7, 8, 9, 10, 11, 6, 12] (by decide +kernel) (by decide +kernel)
set_option maxRecDepth 20000 in
theorem gX6_lay_X6_isSheet : GoodIn wsX6_lay (va_wsS RX6 276 yX6_isSheet wsX6_isSheet) := goodIn_app (goodIn_of _ (by decide +kernel)) ggX6_lay_X6_isSheet
set_option maxRecDepth 20000 in
theorem ggX6_lay_X6_in : GoodIn wsX6_lay wsX6_in := goodIn_r _ [12] (by decide +kernel) (by decide +kernel)
set_option maxRecDepth 20000 in
theorem gX6_lay_X6_in : GoodIn wsX6_lay (va_wsS RX6 71 yX6_in wsX6_in) := goodIn_app (goodIn_of _ (by decide +kernel)) ggX6_lay_X6_in
theorem dX6_lay_0 : decode cX6_lay 0 = .ok (.iload_n 1, 1) := by decide +kernel
theorem dX6_lay_1 : decode cX6_lay 1 = .ok (.iconst 0, 1) := by decide +kernel
theorem dX6_lay_2 : decode cX6_lay 2 = .ok (.invokestatic 276, 3) := by decide +kernel
theorem dX6_lay_5 : decode cX6_lay 5 = .ok (.ifCond .ne 5, 3) := by decide +kernel
theorem dX6_lay_8 : decode cX6_lay 8 = .ok (.iconst (-1), 1) := by decide +kernel
theorem dX6_lay_9 : decode cX6_lay 9 = .ok (.ireturn, 1) := by decide +kernel
theorem dX6_lay_10 : decode cX6_lay 10 = .ok (.aload_n 0, 1) := by decide +kernel
theorem dX6_lay_11 : decode cX6_lay 11 = .ok (.getfield 38, 3) := by decide +kernel
theorem dX6_lay_14 : decode cX6_lay 14 = .ok (.iload_n 1, 1) := by decide +kernel
theorem dX6_lay_15 : decode cX6_lay 15 = .ok (.iaload, 1) := by decide +kernel
theorem dX6_lay_16 : decode cX6_lay 16 = .ok (.bipush (-4), 2) := by decide +kernel
theorem dX6_lay_18 : decode cX6_lay 18 = .ok (.if_icmp .ne 6, 3) := by decide +kernel
theorem dX6_lay_21 : decode cX6_lay 21 = .ok (.bipush (-11), 2) := by decide +kernel
theorem dX6_lay_23 : decode cX6_lay 23 = .ok (.ireturn, 1) := by decide +kernel
theorem dX6_lay_24 : decode cX6_lay 24 = .ok (.iload_n 2, 1) := by decide +kernel
theorem dX6_lay_25 : decode cX6_lay 25 = .ok (.i2l, 1) := by decide +kernel
theorem dX6_lay_26 : decode cX6_lay 26 = .ok (.lconst 0, 1) := by decide +kernel
theorem dX6_lay_27 : decode cX6_lay 27 = .ok (.aload_n 0, 1) := by decide +kernel
theorem dX6_lay_28 : decode cX6_lay 28 = .ok (.getfield 41, 3) := by decide +kernel
theorem dX6_lay_31 : decode cX6_lay 31 = .ok (.iload_n 1, 1) := by decide +kernel
theorem dX6_lay_32 : decode cX6_lay 32 = .ok (.iaload, 1) := by decide +kernel
theorem dX6_lay_33 : decode cX6_lay 33 = .ok (.iconst 1, 1) := by decide +kernel
theorem dX6_lay_34 : decode cX6_lay 34 = .ok (.isub, 1) := by decide +kernel
theorem dX6_lay_35 : decode cX6_lay 35 = .ok (.i2l, 1) := by decide +kernel
theorem dX6_lay_36 : decode cX6_lay 36 = .ok (.invokestatic 71, 3) := by decide +kernel
theorem dX6_lay_39 : decode cX6_lay 39 = .ok (.ifCond .ne 6, 3) := by decide +kernel
theorem dX6_lay_42 : decode cX6_lay 42 = .ok (.bipush (-12), 2) := by decide +kernel
theorem dX6_lay_44 : decode cX6_lay 44 = .ok (.ireturn, 1) := by decide +kernel
theorem dX6_lay_45 : decode cX6_lay 45 = .ok (.aload_n 0, 1) := by decide +kernel
theorem dX6_lay_46 : decode cX6_lay 46 = .ok (.getfield 44, 3) := by decide +kernel
theorem dX6_lay_49 : decode cX6_lay 49 = .ok (.bipush 40, 2) := by decide +kernel
theorem dX6_lay_51 : decode cX6_lay 51 = .ok (.iload_n 1, 1) := by decide +kernel
theorem dX6_lay_52 : decode cX6_lay 52 = .ok (.imul, 1) := by decide +kernel
theorem dX6_lay_53 : decode cX6_lay 53 = .ok (.iload_n 2, 1) := by decide +kernel
theorem dX6_lay_54 : decode cX6_lay 54 = .ok (.iadd, 1) := by decide +kernel
theorem dX6_lay_55 : decode cX6_lay 55 = .ok (.aload_n 0, 1) := by decide +kernel
theorem dX6_lay_56 : decode cX6_lay 56 = .ok (.getfield 38, 3) := by decide +kernel
theorem dX6_lay_59 : decode cX6_lay 59 = .ok (.iload_n 1, 1) := by decide +kernel
theorem dX6_lay_60 : decode cX6_lay 60 = .ok (.iaload, 1) := by decide +kernel
theorem dX6_lay_61 : decode cX6_lay 61 = .ok (.ifCond .ne 8, 3) := by decide +kernel
theorem dX6_lay_64 : decode cX6_lay 64 = .ok (.iload_n 3, 1) := by decide +kernel
theorem dX6_lay_65 : decode cX6_lay 65 = .ok (.i2b, 1) := by decide +kernel
theorem dX6_lay_66 : decode cX6_lay 66 = .ok (.goto 19, 3) := by decide +kernel
theorem dX6_lay_69 : decode cX6_lay 69 = .ok (.aload_n 0, 1) := by decide +kernel
theorem dX6_lay_70 : decode cX6_lay 70 = .ok (.getfield 38, 3) := by decide +kernel
theorem dX6_lay_73 : decode cX6_lay 73 = .ok (.iload_n 1, 1) := by decide +kernel
theorem dX6_lay_74 : decode cX6_lay 74 = .ok (.iaload, 1) := by decide +kernel
theorem dX6_lay_75 : decode cX6_lay 75 = .ok (.iconst 1, 1) := by decide +kernel
theorem dX6_lay_76 : decode cX6_lay 76 = .ok (.if_icmp .ne 8, 3) := by decide +kernel
theorem dX6_lay_79 : decode cX6_lay 79 = .ok (.iload_n 3, 1) := by decide +kernel
theorem dX6_lay_80 : decode cX6_lay 80 = .ok (.i2s, 1) := by decide +kernel
theorem dX6_lay_81 : decode cX6_lay 81 = .ok (.goto 4, 3) := by decide +kernel
theorem dX6_lay_84 : decode cX6_lay 84 = .ok (.iload_n 3, 1) := by decide +kernel
theorem dX6_lay_85 : decode cX6_lay 85 = .ok (.iastore, 1) := by decide +kernel
theorem dX6_lay_86 : decode cX6_lay 86 = .ok (.iconst 1, 1) := by decide +kernel
theorem dX6_lay_87 : decode cX6_lay 87 = .ok (.ireturn, 1) := by decide +kernel
set_option maxRecDepth 20000 in
theorem ggX6_read_X6_isSheet : GoodIn wsX6_read wsX6_isSheet := goodIn_r _ [11, 12, 13, 14, 15, 10, 16] (by decide +kernel) (by decide +kernel)
set_option maxRecDepth 20000 in
theorem gX6_read_X6_isSheet : GoodIn wsX6_read (va_wsS RX6 276 yX6_isSheet wsX6_isSheet) := goodIn_app (goodIn_of _ (by decide +kernel)) ggX6_read_X6_isSheet
set_option maxRecDepth 20000 in
theorem ggX6_read_X6_in : GoodIn wsX6_read wsX6_in := goodIn_r _ [16] (by decide +kernel) (by decide +kernel)
set_option maxRecDepth 20000 in
theorem gX6_read_X6_in : GoodIn wsX6_read (va_wsS RX6 71 yX6_in wsX6_in) := goodIn_app (goodIn_of _ (by decide +kernel)) ggX6_read_X6_in
set_option maxRecDepth 20000 in
theorem ggX6_read_X6_alter : GoodIn wsX6_read wsX6_alter := goodIn_r _ [20, 21, 22, 23, 10, 24, 3, 14, 15, 16, 25, 26, 27, 12, 1, 28, 29, 30, 31, 32, 80, 81, 82, 83, 84, 85, 86, 87, 88, 89, 90, 91, 92, 93, 94, 95, 96, 97, 98, 99, 100, 101, 102, 103, 104, 105, 106, 107, 108, 109, 110] (by decide +kernel) (by decide +kernel)
set_option maxRecDepth 20000 in
theorem gX6_read_X6_alter : GoodIn wsX6_read (wsV RX6 279 RX6 yX6_alter wsX6_alter) := goodIn_app (goodIn_of _ (by decide +kernel)) ggX6_read_X6_alter
set_option maxRecDepth 20000 in
theorem ggX6_read_X6_reigns : GoodIn wsX6_read wsX6_reigns := goodIn_r _ [36, 28, 3, 14, 15, 10, 16, 37, 38, 39, 40, 41, 42, 43, 44, 45, 46, 47, 48, 49, 50, 51, 52, 53, 54, 55, 56, 57, 58, 59, 60, 61, 62, 63, 64, 65, 66, 67, 68, 69, 70, 71, 72, 73, 74, 75, 76, 77, 78, 79, 80, 81, 82, 83, 84, 85, 86, 87, 88, 89, 90, 91, 92, 93, 94, 95, 96, 97, 98, 99, 100, 101, 102, 103, 104, 105, 106, 107, 108, 109, 110] (by decide +kernel) (by decide +kernel)
set_option maxRecDepth 20000 in
theorem gX6_read_X6_reigns : GoodIn wsX6_read (wsV RX6 283 RX6 yX6_reigns wsX6_reigns) := goodIn_app (goodIn_of _ (by decide +kernel)) ggX6_read_X6_reigns
theorem dX6_read_0 : decode cX6_read 0 = .ok (.iload_n 1, 1) := by decide +kernel
theorem dX6_read_1 : decode cX6_read 1 = .ok (.iload_n 2, 1) := by decide +kernel
theorem dX6_read_2 : decode cX6_read 2 = .ok (.invokestatic 276, 3) := by decide +kernel
theorem dX6_read_5 : decode cX6_read 5 = .ok (.ifCond .eq 16, 3) := by decide +kernel
theorem dX6_read_8 : decode cX6_read 8 = .ok (.iload 4, 2) := by decide +kernel
theorem dX6_read_10 : decode cX6_read 10 = .ok (.i2l, 1) := by decide +kernel
theorem dX6_read_11 : decode cX6_read 11 = .ok (.lconst 0, 1) := by decide +kernel
theorem dX6_read_12 : decode cX6_read 12 = .ok (.ldc2_w 192, 3) := by decide +kernel
theorem dX6_read_15 : decode cX6_read 15 = .ok (.invokestatic 71, 3) := by decide +kernel
theorem dX6_read_18 : decode cX6_read 18 = .ok (.ifCond .ne 5, 3) := by decide +kernel
theorem dX6_read_21 : decode cX6_read 21 = .ok (.iconst (-1), 1) := by decide +kernel
theorem dX6_read_22 : decode cX6_read 22 = .ok (.ireturn, 1) := by decide +kernel
theorem dX6_read_23 : decode cX6_read 23 = .ok (.iconst 0, 1) := by decide +kernel
theorem dX6_read_24 : decode cX6_read 24 = .ok (.istore 5, 2) := by decide +kernel
theorem dX6_read_26 : decode cX6_read 26 = .ok (.iload 5, 2) := by decide +kernel
theorem dX6_read_28 : decode cX6_read 28 = .ok (.bipush 49, 2) := by decide +kernel
theorem dX6_read_30 : decode cX6_read 30 = .ok (.if_icmp .ge 23, 3) := by decide +kernel
theorem dX6_read_33 : decode cX6_read 33 = .ok (.aload_n 0, 1) := by decide +kernel
theorem dX6_read_34 : decode cX6_read 34 = .ok (.getfield 47, 3) := by decide +kernel
theorem dX6_read_37 : decode cX6_read 37 = .ok (.iload 5, 2) := by decide +kernel
theorem dX6_read_39 : decode cX6_read 39 = .ok (.aload_n 0, 1) := by decide +kernel
theorem dX6_read_40 : decode cX6_read 40 = .ok (.getfield 7, 3) := by decide +kernel
theorem dX6_read_43 : decode cX6_read 43 = .ok (.iload 5, 2) := by decide +kernel
theorem dX6_read_45 : decode cX6_read 45 = .ok (.iaload, 1) := by decide +kernel
theorem dX6_read_46 : decode cX6_read 46 = .ok (.iastore, 1) := by decide +kernel
theorem dX6_read_47 : decode cX6_read 47 = .ok (.iinc 5 1, 3) := by decide +kernel
theorem dX6_read_50 : decode cX6_read 50 = .ok (.goto (-24), 3) := by decide +kernel
theorem dX6_read_53 : decode cX6_read 53 = .ok (.iconst 0, 1) := by decide +kernel
theorem dX6_read_54 : decode cX6_read 54 = .ok (.istore 5, 2) := by decide +kernel
theorem dX6_read_56 : decode cX6_read 56 = .ok (.iconst 0, 1) := by decide +kernel
theorem dX6_read_57 : decode cX6_read 57 = .ok (.istore 6, 2) := by decide +kernel
theorem dX6_read_59 : decode cX6_read 59 = .ok (.iconst 0, 1) := by decide +kernel
theorem dX6_read_60 : decode cX6_read 60 = .ok (.istore 7, 2) := by decide +kernel
theorem dX6_read_62 : decode cX6_read 62 = .ok (.iload 7, 2) := by decide +kernel
theorem dX6_read_64 : decode cX6_read 64 = .ok (.iload 4, 2) := by decide +kernel
theorem dX6_read_66 : decode cX6_read 66 = .ok (.if_icmp .ge 194, 3) := by decide +kernel
theorem dX6_read_69 : decode cX6_read 69 = .ok (.iload 5, 2) := by decide +kernel
theorem dX6_read_71 : decode cX6_read 71 = .ok (.ifCond .ne 189, 3) := by decide +kernel
theorem dX6_read_74 : decode cX6_read 74 = .ok (.iconst 0, 1) := by decide +kernel
theorem dX6_read_75 : decode cX6_read 75 = .ok (.istore 8, 2) := by decide +kernel
theorem dX6_read_77 : decode cX6_read 77 = .ok (.iload 8, 2) := by decide +kernel
theorem dX6_read_79 : decode cX6_read 79 = .ok (.iconst 2, 1) := by decide +kernel
theorem dX6_read_80 : decode cX6_read 80 = .ok (.if_icmp .ge 84, 3) := by decide +kernel
theorem dX6_read_83 : decode cX6_read 83 = .ok (.iload 5, 2) := by decide +kernel
theorem dX6_read_85 : decode cX6_read 85 = .ok (.ifCond .ne 79, 3) := by decide +kernel
theorem dX6_read_88 : decode cX6_read 88 = .ok (.iload_n 3, 1) := by decide +kernel
theorem dX6_read_89 : decode cX6_read 89 = .ok (.i2l, 1) := by decide +kernel
theorem dX6_read_90 : decode cX6_read 90 = .ok (.iconst 2, 1) := by decide +kernel
theorem dX6_read_91 : decode cX6_read 91 = .ok (.iload 7, 2) := by decide +kernel
theorem dX6_read_93 : decode cX6_read 93 = .ok (.imul, 1) := by decide +kernel
theorem dX6_read_94 : decode cX6_read 94 = .ok (.i2l, 1) := by decide +kernel
theorem dX6_read_95 : decode cX6_read 95 = .ok (.ladd, 1) := by decide +kernel
theorem dX6_read_96 : decode cX6_read 96 = .ok (.iload 8, 2) := by decide +kernel
theorem dX6_read_98 : decode cX6_read 98 = .ok (.i2l, 1) := by decide +kernel
theorem dX6_read_99 : decode cX6_read 99 = .ok (.ladd, 1) := by decide +kernel
theorem dX6_read_100 : decode cX6_read 100 = .ok (.lstore 9, 2) := by decide +kernel
theorem dX6_read_102 : decode cX6_read 102 = .ok (.aload_n 0, 1) := by decide +kernel
theorem dX6_read_103 : decode cX6_read 103 = .ok (.getfield 38, 3) := by decide +kernel
theorem dX6_read_106 : decode cX6_read 106 = .ok (.iload_n 1, 1) := by decide +kernel
theorem dX6_read_107 : decode cX6_read 107 = .ok (.iaload, 1) := by decide +kernel
theorem dX6_read_108 : decode cX6_read 108 = .ok (.bipush (-4), 2) := by decide +kernel
theorem dX6_read_110 : decode cX6_read 110 = .ok (.if_icmp .ne 7, 3) := by decide +kernel
theorem dX6_read_113 : decode cX6_read 113 = .ok (.iconst 1, 1) := by decide +kernel
theorem dX6_read_114 : decode cX6_read 114 = .ok (.goto 42, 3) := by decide +kernel
theorem dX6_read_117 : decode cX6_read 117 = .ok (.aload_n 0, 1) := by decide +kernel
theorem dX6_read_118 : decode cX6_read 118 = .ok (.getfield 38, 3) := by decide +kernel
theorem dX6_read_121 : decode cX6_read 121 = .ok (.iload_n 1, 1) := by decide +kernel
theorem dX6_read_122 : decode cX6_read 122 = .ok (.iaload, 1) := by decide +kernel
theorem dX6_read_123 : decode cX6_read 123 = .ok (.iload_n 2, 1) := by decide +kernel
theorem dX6_read_124 : decode cX6_read 124 = .ok (.if_icmp .eq 7, 3) := by decide +kernel
theorem dX6_read_127 : decode cX6_read 127 = .ok (.iconst 3, 1) := by decide +kernel
theorem dX6_read_128 : decode cX6_read 128 = .ok (.goto 28, 3) := by decide +kernel
theorem dX6_read_131 : decode cX6_read 131 = .ok (.lload 9, 2) := by decide +kernel
theorem dX6_read_133 : decode cX6_read 133 = .ok (.lconst 0, 1) := by decide +kernel
theorem dX6_read_134 : decode cX6_read 134 = .ok (.lcmp, 1) := by decide +kernel
theorem dX6_read_135 : decode cX6_read 135 = .ok (.ifCond .lt 16, 3) := by decide +kernel
theorem dX6_read_138 : decode cX6_read 138 = .ok (.lload 9, 2) := by decide +kernel
theorem dX6_read_140 : decode cX6_read 140 = .ok (.aload_n 0, 1) := by decide +kernel
theorem dX6_read_141 : decode cX6_read 141 = .ok (.getfield 41, 3) := by decide +kernel
theorem dX6_read_144 : decode cX6_read 144 = .ok (.iload_n 1, 1) := by decide +kernel
theorem dX6_read_145 : decode cX6_read 145 = .ok (.iaload, 1) := by decide +kernel
theorem dX6_read_146 : decode cX6_read 146 = .ok (.i2l, 1) := by decide +kernel
theorem dX6_read_147 : decode cX6_read 147 = .ok (.lcmp, 1) := by decide +kernel
theorem dX6_read_148 : decode cX6_read 148 = .ok (.ifCond .lt 7, 3) := by decide +kernel
theorem dX6_read_151 : decode cX6_read 151 = .ok (.iconst 2, 1) := by decide +kernel
theorem dX6_read_152 : decode cX6_read 152 = .ok (.goto 4, 3) := by decide +kernel
theorem dX6_read_155 : decode cX6_read 155 = .ok (.iconst 0, 1) := by decide +kernel
theorem dX6_read_156 : decode cX6_read 156 = .ok (.istore 5, 2) := by decide +kernel
theorem dX6_read_158 : decode cX6_read 158 = .ok (.iinc 8 1, 3) := by decide +kernel
theorem dX6_read_161 : decode cX6_read 161 = .ok (.goto (-84), 3) := by decide +kernel
theorem dX6_read_164 : decode cX6_read 164 = .ok (.iload 5, 2) := by decide +kernel
theorem dX6_read_166 : decode cX6_read 166 = .ok (.ifCond .ne 88, 3) := by decide +kernel
theorem dX6_read_169 : decode cX6_read 169 = .ok (.bipush 40, 2) := by decide +kernel
theorem dX6_read_171 : decode cX6_read 171 = .ok (.iload_n 1, 1) := by decide +kernel
theorem dX6_read_172 : decode cX6_read 172 = .ok (.imul, 1) := by decide +kernel
theorem dX6_read_173 : decode cX6_read 173 = .ok (.iload_n 3, 1) := by decide +kernel
theorem dX6_read_174 : decode cX6_read 174 = .ok (.iadd, 1) := by decide +kernel
theorem dX6_read_175 : decode cX6_read 175 = .ok (.iconst 2, 1) := by decide +kernel
theorem dX6_read_176 : decode cX6_read 176 = .ok (.iload 7, 2) := by decide +kernel
theorem dX6_read_178 : decode cX6_read 178 = .ok (.imul, 1) := by decide +kernel
theorem dX6_read_179 : decode cX6_read 179 = .ok (.iadd, 1) := by decide +kernel
theorem dX6_read_180 : decode cX6_read 180 = .ok (.istore 8, 2) := by decide +kernel
theorem dX6_read_182 : decode cX6_read 182 = .ok (.aload_n 0, 1) := by decide +kernel
theorem dX6_read_183 : decode cX6_read 183 = .ok (.aload_n 0, 1) := by decide +kernel
theorem dX6_read_184 : decode cX6_read 184 = .ok (.getfield 44, 3) := by decide +kernel
theorem dX6_read_187 : decode cX6_read 187 = .ok (.iload 8, 2) := by decide +kernel
theorem dX6_read_189 : decode cX6_read 189 = .ok (.iaload, 1) := by decide +kernel
theorem dX6_read_190 : decode cX6_read 190 = .ok (.iconst 1, 1) := by decide +kernel
theorem dX6_read_191 : decode cX6_read 191 = .ok (.aload_n 0, 1) := by decide +kernel
theorem dX6_read_192 : decode cX6_read 192 = .ok (.getfield 44, 3) := by decide +kernel
theorem dX6_read_195 : decode cX6_read 195 = .ok (.iload 8, 2) := by decide +kernel
theorem dX6_read_197 : decode cX6_read 197 = .ok (.iconst 1, 1) := by decide +kernel
theorem dX6_read_198 : decode cX6_read 198 = .ok (.iadd, 1) := by decide +kernel
theorem dX6_read_199 : decode cX6_read 199 = .ok (.iaload, 1) := by decide +kernel
theorem dX6_read_200 : decode cX6_read 200 = .ok (.invokevirtual 279, 3) := by decide +kernel
theorem dX6_read_203 : decode cX6_read 203 = .ok (.iconst (-1), 1) := by decide +kernel
theorem dX6_read_204 : decode cX6_read 204 = .ok (.if_icmp .eq 11, 3) := by decide +kernel
theorem dX6_read_207 : decode cX6_read 207 = .ok (.aload_n 0, 1) := by decide +kernel
theorem dX6_read_208 : decode cX6_read 208 = .ok (.iconst 1, 1) := by decide +kernel
theorem dX6_read_209 : decode cX6_read 209 = .ok (.invokevirtual 283, 3) := by decide +kernel
theorem dX6_read_212 : decode cX6_read 212 = .ok (.ifCond .ge 39, 3) := by decide +kernel
theorem dX6_read_215 : decode cX6_read 215 = .ok (.iconst 0, 1) := by decide +kernel
theorem dX6_read_216 : decode cX6_read 216 = .ok (.istore 9, 2) := by decide +kernel
theorem dX6_read_218 : decode cX6_read 218 = .ok (.iload 9, 2) := by decide +kernel
theorem dX6_read_220 : decode cX6_read 220 = .ok (.bipush 49, 2) := by decide +kernel
theorem dX6_read_222 : decode cX6_read 222 = .ok (.if_icmp .ge 23, 3) := by decide +kernel
theorem dX6_read_225 : decode cX6_read 225 = .ok (.aload_n 0, 1) := by decide +kernel
theorem dX6_read_226 : decode cX6_read 226 = .ok (.getfield 7, 3) := by decide +kernel
theorem dX6_read_229 : decode cX6_read 229 = .ok (.iload 9, 2) := by decide +kernel
theorem dX6_read_231 : decode cX6_read 231 = .ok (.aload_n 0, 1) := by decide +kernel
theorem dX6_read_232 : decode cX6_read 232 = .ok (.getfield 47, 3) := by decide +kernel
theorem dX6_read_235 : decode cX6_read 235 = .ok (.iload 9, 2) := by decide +kernel
theorem dX6_read_237 : decode cX6_read 237 = .ok (.iaload, 1) := by decide +kernel
theorem dX6_read_238 : decode cX6_read 238 = .ok (.iastore, 1) := by decide +kernel
theorem dX6_read_239 : decode cX6_read 239 = .ok (.iinc 9 1, 3) := by decide +kernel
theorem dX6_read_242 : decode cX6_read 242 = .ok (.goto (-24), 3) := by decide +kernel
theorem dX6_read_245 : decode cX6_read 245 = .ok (.bipush (-20), 2) := by decide +kernel
theorem dX6_read_247 : decode cX6_read 247 = .ok (.iload 7, 2) := by decide +kernel
theorem dX6_read_249 : decode cX6_read 249 = .ok (.isub, 1) := by decide +kernel
theorem dX6_read_250 : decode cX6_read 250 = .ok (.ireturn, 1) := by decide +kernel
theorem dX6_read_251 : decode cX6_read 251 = .ok (.iinc 6 1, 3) := by decide +kernel
theorem dX6_read_254 : decode cX6_read 254 = .ok (.iinc 7 1, 3) := by decide +kernel
theorem dX6_read_257 : decode cX6_read 257 = .ok (.goto (-195), 3) := by decide +kernel
theorem dX6_read_260 : decode cX6_read 260 = .ok (.aload_n 0, 1) := by decide +kernel
theorem dX6_read_261 : decode cX6_read 261 = .ok (.iload 5, 2) := by decide +kernel
theorem dX6_read_263 : decode cX6_read 263 = .ok (.putfield 286, 3) := by decide +kernel
theorem dX6_read_266 : decode cX6_read 266 = .ok (.iload 6, 2) := by decide +kernel
theorem dX6_read_268 : decode cX6_read 268 = .ok (.ireturn, 1) := by decide +kernel
theorem dX6_torn_0 : decode cX6_torn 0 = .ok (.aload_n 0, 1) := by decide +kernel
theorem dX6_torn_1 : decode cX6_torn 1 = .ok (.getfield 286, 3) := by decide +kernel
theorem dX6_torn_4 : decode cX6_torn 4 = .ok (.ireturn, 1) := by decide +kernel
set_option maxRecDepth 20000 in
theorem ggX6_count_X6_starts : GoodIn wsX6_count wsX6_starts := goodIn_r _ [10, 11, 1, 23, 24, 25, 26, 27, 28, 29, 30, 31, 32, 33, 34, 35, 36, 37, 38, 39, 40, 41, 42, 43, 44, 45, 46, 47, 48, 49, 50, 51, 52, 53] (by decide +kernel) (by decide +kernel)
set_option maxRecDepth 20000 in
theorem gX6_count_X6_starts : GoodIn wsX6_count (wsV RX6 184 RX6 yX6_starts wsX6_starts) := goodIn_app (goodIn_of _ (by decide +kernel)) ggX6_count_X6_starts
set_option maxRecDepth 20000 in
theorem ggX6_count_X6_flag : GoodIn wsX6_count wsX6_flag := goodIn_r _ [14] (by decide +kernel) (by decide +kernel)
set_option maxRecDepth 20000 in
theorem gX6_count_X6_flag : GoodIn wsX6_count (va_wsS RX6 163 yX6_flag wsX6_flag) := goodIn_app (goodIn_of _ (by decide +kernel)) ggX6_count_X6_flag
set_option maxRecDepth 20000 in
theorem ggX6_count_X6_allOf : GoodIn wsX6_count wsX6_allOf := goodIn_r _ [18, 11, 19, 20, 21, 9, 22, 23, 24, 25, 26, 27, 28, 29, 30, 31, 32, 33, 34, 35, 36, 37, 38, 39, 40, 41, 42, 43, 44, 45, 46, 47, 48, 49, 50, 51, 52, 53] (by decide +kernel) (by decide +kernel)
set_option maxRecDepth 20000 in
theorem gX6_count_X6_allOf : GoodIn wsX6_count (wsV RX6 289 RX6 yX6_allOf wsX6_allOf) := goodIn_app (goodIn_of _ (by decide +kernel)) ggX6_count_X6_allOf
theorem dX6_count_0 : decode cX6_count 0 = .ok (.aload_n 0, 1) := by decide +kernel
theorem dX6_count_1 : decode cX6_count 1 = .ok (.invokevirtual 184, 3) := by decide +kernel
theorem dX6_count_4 : decode cX6_count 4 = .ok (.iload_n 1, 1) := by decide +kernel
theorem dX6_count_5 : decode cX6_count 5 = .ok (.tableswitch 107 0 5 #[39, 47, 67, 72, 95, 101], 39) := by decide +kernel
theorem dX6_count_44 : decode cX6_count 44 = .ok (.aload_n 0, 1) := by decide +kernel
theorem dX6_count_45 : decode cX6_count 45 = .ok (.getfield 7, 3) := by decide +kernel
theorem dX6_count_48 : decode cX6_count 48 = .ok (.bipush 36, 2) := by decide +kernel
theorem dX6_count_50 : decode cX6_count 50 = .ok (.iaload, 1) := by decide +kernel
theorem dX6_count_51 : decode cX6_count 51 = .ok (.ireturn, 1) := by decide +kernel
theorem dX6_count_52 : decode cX6_count 52 = .ok (.aload_n 0, 1) := by decide +kernel
theorem dX6_count_53 : decode cX6_count 53 = .ok (.getfield 16, 3) := by decide +kernel
theorem dX6_count_56 : decode cX6_count 56 = .ok (.iconst 0, 1) := by decide +kernel
theorem dX6_count_57 : decode cX6_count 57 = .ok (.baload, 1) := by decide +kernel
theorem dX6_count_58 : decode cX6_count 58 = .ok (.invokestatic 163, 3) := by decide +kernel
theorem dX6_count_61 : decode cX6_count 61 = .ok (.aload_n 0, 1) := by decide +kernel
theorem dX6_count_62 : decode cX6_count 62 = .ok (.getfield 16, 3) := by decide +kernel
theorem dX6_count_65 : decode cX6_count 65 = .ok (.iconst 1, 1) := by decide +kernel
theorem dX6_count_66 : decode cX6_count 66 = .ok (.baload, 1) := by decide +kernel
theorem dX6_count_67 : decode cX6_count 67 = .ok (.invokestatic 163, 3) := by decide +kernel
theorem dX6_count_70 : decode cX6_count 70 = .ok (.iadd, 1) := by decide +kernel
theorem dX6_count_71 : decode cX6_count 71 = .ok (.ireturn, 1) := by decide +kernel
theorem dX6_count_72 : decode cX6_count 72 = .ok (.aload_n 0, 1) := by decide +kernel
theorem dX6_count_73 : decode cX6_count 73 = .ok (.getfield 75, 3) := by decide +kernel
theorem dX6_count_76 : decode cX6_count 76 = .ok (.ireturn, 1) := by decide +kernel
theorem dX6_count_77 : decode cX6_count 77 = .ok (.aload_n 0, 1) := by decide +kernel
theorem dX6_count_78 : decode cX6_count 78 = .ok (.getfield 38, 3) := by decide +kernel
theorem dX6_count_81 : decode cX6_count 81 = .ok (.iconst 0, 1) := by decide +kernel
theorem dX6_count_82 : decode cX6_count 82 = .ok (.iaload, 1) := by decide +kernel
theorem dX6_count_83 : decode cX6_count 83 = .ok (.bipush (-4), 2) := by decide +kernel
theorem dX6_count_85 : decode cX6_count 85 = .ok (.if_icmp .ne 8, 3) := by decide +kernel
theorem dX6_count_88 : decode cX6_count 88 = .ok (.bipush (-4), 2) := by decide +kernel
theorem dX6_count_90 : decode cX6_count 90 = .ok (.goto 9, 3) := by decide +kernel
theorem dX6_count_93 : decode cX6_count 93 = .ok (.aload_n 0, 1) := by decide +kernel
theorem dX6_count_94 : decode cX6_count 94 = .ok (.getfield 41, 3) := by decide +kernel
theorem dX6_count_97 : decode cX6_count 97 = .ok (.iconst 0, 1) := by decide +kernel
theorem dX6_count_98 : decode cX6_count 98 = .ok (.iaload, 1) := by decide +kernel
theorem dX6_count_99 : decode cX6_count 99 = .ok (.ireturn, 1) := by decide +kernel
theorem dX6_count_100 : decode cX6_count 100 = .ok (.aload_n 0, 1) := by decide +kernel
theorem dX6_count_101 : decode cX6_count 101 = .ok (.iconst 1, 1) := by decide +kernel
theorem dX6_count_102 : decode cX6_count 102 = .ok (.invokevirtual 289, 3) := by decide +kernel
theorem dX6_count_105 : decode cX6_count 105 = .ok (.ireturn, 1) := by decide +kernel
theorem dX6_count_106 : decode cX6_count 106 = .ok (.aload_n 0, 1) := by decide +kernel
theorem dX6_count_107 : decode cX6_count 107 = .ok (.iconst 3, 1) := by decide +kernel
theorem dX6_count_108 : decode cX6_count 108 = .ok (.invokevirtual 289, 3) := by decide +kernel
theorem dX6_count_111 : decode cX6_count 111 = .ok (.ireturn, 1) := by decide +kernel
theorem dX6_count_112 : decode cX6_count 112 = .ok (.iconst (-1), 1) := by decide +kernel
theorem dX6_count_113 : decode cX6_count 113 = .ok (.ireturn, 1) := by decide +kernel
