set_option maxRecDepth 20000 in
theorem ggX5_init_X4_init : GoodIn wsX5_init wsX4_init := goodIn_r _ [30, 31, 2, 3, 32, 33, 34, 9, 10, 35, 25, 36, 37, 38, 39, 40, 41, 42, 43, 44, 45, 46, 64, 65, 66, 67, 68, 69, 70, 71, 72, 73, 74, 75, 76, 77, 78, 79, 80, 91, 92, 93, 94, 95, 96, 97, 98, 99, 100, 101, 102] (by decide +kernel) (by decide +kernel)
set_option maxRecDepth 20000 in
theorem gX5_init_X4_init_n9 : GoodIn wsX5_init (wsX4_init) := ggX5_init_X4_init
set_option maxRecDepth 20000 in
theorem ggX5_init_X0_init : GoodIn wsX5_init wsX0_init := goodIn_r _ [41, 42, 2, 3, 43, 25, 44, 45, 46, 91, 92, 93, 94, 95, 96, 97, 98, 99, 100, 101, 102] (by decide +kernel) (by decide +kernel)
set_option maxRecDepth 20000 in
theorem gX5_init_X0_init_n18 : GoodIn wsX5_init (wsX0_init) := ggX5_init_X0_init
set_option maxRecDepth 20000 in
theorem ggX5_init_X3_init : GoodIn wsX5_init wsX3_init := goodIn_r _ [48, 49, 2, 3, 25, 50, 51, 103, 104, 105] (by decide +kernel) (by decide +kernel)
set_option maxRecDepth 20000 in
theorem gX5_init_X3_init_n28 : GoodIn wsX5_init (wsX3_init) := ggX5_init_X3_init
set_option maxRecDepth 20000 in
theorem ggX5_init_X1_init : GoodIn wsX5_init wsX1_init := goodIn_r _ [53, 54, 2, 3, 55, 9, 10, 56, 57, 14, 15, 58, 40, 41, 42, 43, 25, 44, 45, 46, 47, 48, 49, 50, 51, 91, 92, 93, 94, 95, 96, 97, 98, 99, 100, 101, 102, 106, 107, 108, 103, 104, 105] (by decide +kernel) (by decide +kernel)
set_option maxRecDepth 20000 in
theorem gX5_init_X1_init_n39 : GoodIn wsX5_init (wsX1_init) := ggX5_init_X1_init
set_option maxRecDepth 20000 in
theorem ggX5_init_X2_init : GoodIn wsX5_init wsX2_init := goodIn_r _ [60, 61, 2, 3, 25, 62, 63, 109, 110, 111] (by decide +kernel) (by decide +kernel)
set_option maxRecDepth 20000 in
theorem gX5_init_X2_init_n46 : GoodIn wsX5_init (wsX2_init) := ggX5_init_X2_init
theorem dX5_init_0 : decode cX5_init 0 = .ok (.aload_n 0, 1) := by decide +kernel
theorem dX5_init_1 : decode cX5_init 1 = .ok (.invokespecial 1, 3) := by decide +kernel
theorem dX5_init_4 : decode cX5_init 4 = .ok (.aload_n 0, 1) := by decide +kernel
theorem dX5_init_5 : decode cX5_init 5 = .ok (.new 7, 3) := by decide +kernel
theorem dX5_init_8 : decode cX5_init 8 = .ok (.dup, 1) := by decide +kernel
theorem dX5_init_9 : decode cX5_init 9 = .ok (.invokespecial 9, 3) := by decide +kernel
theorem dX5_init_12 : decode cX5_init 12 = .ok (.putfield 10, 3) := by decide +kernel
theorem dX5_init_15 : decode cX5_init 15 = .ok (.aload_n 0, 1) := by decide +kernel
theorem dX5_init_16 : decode cX5_init 16 = .ok (.new 16, 3) := by decide +kernel
theorem dX5_init_19 : decode cX5_init 19 = .ok (.dup, 1) := by decide +kernel
theorem dX5_init_20 : decode cX5_init 20 = .ok (.invokespecial 18, 3) := by decide +kernel
theorem dX5_init_23 : decode cX5_init 23 = .ok (.putfield 19, 3) := by decide +kernel
theorem dX5_init_26 : decode cX5_init 26 = .ok (.aload_n 0, 1) := by decide +kernel
theorem dX5_init_27 : decode cX5_init 27 = .ok (.new 16, 3) := by decide +kernel
theorem dX5_init_30 : decode cX5_init 30 = .ok (.dup, 1) := by decide +kernel
theorem dX5_init_31 : decode cX5_init 31 = .ok (.invokespecial 18, 3) := by decide +kernel
theorem dX5_init_34 : decode cX5_init 34 = .ok (.putfield 23, 3) := by decide +kernel
theorem dX5_init_37 : decode cX5_init 37 = .ok (.aload_n 0, 1) := by decide +kernel
theorem dX5_init_38 : decode cX5_init 38 = .ok (.new 26, 3) := by decide +kernel
theorem dX5_init_41 : decode cX5_init 41 = .ok (.dup, 1) := by decide +kernel
theorem dX5_init_42 : decode cX5_init 42 = .ok (.invokespecial 28, 3) := by decide +kernel
theorem dX5_init_45 : decode cX5_init 45 = .ok (.putfield 29, 3) := by decide +kernel
theorem dX5_init_48 : decode cX5_init 48 = .ok (.aload_n 0, 1) := by decide +kernel
theorem dX5_init_49 : decode cX5_init 49 = .ok (.iconst 2, 1) := by decide +kernel
theorem dX5_init_50 : decode cX5_init 50 = .ok (.anewarray 33, 3) := by decide +kernel
theorem dX5_init_53 : decode cX5_init 53 = .ok (.putfield 35, 3) := by decide +kernel
theorem dX5_init_56 : decode cX5_init 56 = .ok (.iconst 0, 1) := by decide +kernel
theorem dX5_init_57 : decode cX5_init 57 = .ok (.istore_n 1, 1) := by decide +kernel
theorem dX5_init_58 : decode cX5_init 58 = .ok (.iload_n 1, 1) := by decide +kernel
theorem dX5_init_59 : decode cX5_init 59 = .ok (.iconst 2, 1) := by decide +kernel
theorem dX5_init_60 : decode cX5_init 60 = .ok (.if_icmp .ge 22, 3) := by decide +kernel
theorem dX5_init_63 : decode cX5_init 63 = .ok (.aload_n 0, 1) := by decide +kernel
theorem dX5_init_64 : decode cX5_init 64 = .ok (.getfield 35, 3) := by decide +kernel
theorem dX5_init_67 : decode cX5_init 67 = .ok (.iload_n 1, 1) := by decide +kernel
theorem dX5_init_68 : decode cX5_init 68 = .ok (.new 33, 3) := by decide +kernel
theorem dX5_init_71 : decode cX5_init 71 = .ok (.dup, 1) := by decide +kernel
theorem dX5_init_72 : decode cX5_init 72 = .ok (.invokespecial 39, 3) := by decide +kernel
theorem dX5_init_75 : decode cX5_init 75 = .ok (.aastore, 1) := by decide +kernel
theorem dX5_init_76 : decode cX5_init 76 = .ok (.iinc 1 1, 3) := by decide +kernel
theorem dX5_init_79 : decode cX5_init 79 = .ok (.goto (-21), 3) := by decide +kernel
theorem dX5_init_82 : decode cX5_init 82 = .ok (.aload_n 0, 1) := by decide +kernel
theorem dX5_init_83 : decode cX5_init 83 = .ok (.iconst 4, 1) := by decide +kernel
theorem dX5_init_84 : decode cX5_init 84 = .ok (.anewarray 40, 3) := by decide +kernel
theorem dX5_init_87 : decode cX5_init 87 = .ok (.putfield 42, 3) := by decide +kernel
theorem dX5_init_90 : decode cX5_init 90 = .ok (.iconst 0, 1) := by decide +kernel
theorem dX5_init_91 : decode cX5_init 91 = .ok (.istore_n 1, 1) := by decide +kernel
theorem dX5_init_92 : decode cX5_init 92 = .ok (.iload_n 1, 1) := by decide +kernel
theorem dX5_init_93 : decode cX5_init 93 = .ok (.iconst 4, 1) := by decide +kernel
theorem dX5_init_94 : decode cX5_init 94 = .ok (.if_icmp .ge 22, 3) := by decide +kernel
theorem dX5_init_97 : decode cX5_init 97 = .ok (.aload_n 0, 1) := by decide +kernel
theorem dX5_init_98 : decode cX5_init 98 = .ok (.getfield 42, 3) := by decide +kernel
theorem dX5_init_101 : decode cX5_init 101 = .ok (.iload_n 1, 1) := by decide +kernel
theorem dX5_init_102 : decode cX5_init 102 = .ok (.new 40, 3) := by decide +kernel
theorem dX5_init_105 : decode cX5_init 105 = .ok (.dup, 1) := by decide +kernel
theorem dX5_init_106 : decode cX5_init 106 = .ok (.invokespecial 46, 3) := by decide +kernel
theorem dX5_init_109 : decode cX5_init 109 = .ok (.aastore, 1) := by decide +kernel
theorem dX5_init_110 : decode cX5_init 110 = .ok (.iinc 1 1, 3) := by decide +kernel
theorem dX5_init_113 : decode cX5_init 113 = .ok (.goto (-21), 3) := by decide +kernel
theorem dX5_init_116 : decode cX5_init 116 = .ok (.aload_n 0, 1) := by decide +kernel
theorem dX5_init_117 : decode cX5_init 117 = .ok (.bipush 20, 2) := by decide +kernel
theorem dX5_init_119 : decode cX5_init 119 = .ok (.newarray .int, 2) := by decide +kernel
theorem dX5_init_121 : decode cX5_init 121 = .ok (.putfield 47, 3) := by decide +kernel
theorem dX5_init_124 : decode cX5_init 124 = .ok (.aload_n 0, 1) := by decide +kernel
theorem dX5_init_125 : decode cX5_init 125 = .ok (.bipush 6, 2) := by decide +kernel
theorem dX5_init_127 : decode cX5_init 127 = .ok (.newarray .int, 2) := by decide +kernel
theorem dX5_init_129 : decode cX5_init 129 = .ok (.putfield 51, 3) := by decide +kernel
theorem dX5_init_132 : decode cX5_init 132 = .ok (.aload_n 0, 1) := by decide +kernel
theorem dX5_init_133 : decode cX5_init 133 = .ok (.bipush 120, 2) := by decide +kernel
theorem dX5_init_135 : decode cX5_init 135 = .ok (.newarray .int, 2) := by decide +kernel
theorem dX5_init_137 : decode cX5_init 137 = .ok (.putfield 54, 3) := by decide +kernel
theorem dX5_init_140 : decode cX5_init 140 = .ok (.return_, 1) := by decide +kernel
set_option maxRecDepth 20000 in
theorem ggX5_feed_X5_within : GoodIn wsX5_feed wsX5_within := goodIn_r _ [6] (by decide +kernel) (by decide +kernel)
set_option maxRecDepth 20000 in
theorem gX5_feed_X5_within : GoodIn wsX5_feed (va_wsS RX5 57 yX5_within wsX5_within) := goodIn_app (goodIn_of _ (by decide +kernel)) ggX5_feed_X5_within
set_option maxRecDepth 20000 in
theorem ggX5_feed_X4_push : GoodIn wsX5_feed wsX4_push := goodIn_r _ [11, 12, 13, 24, 25, 26, 27, 28, 29, 30, 31, 32, 33, 34, 35, 36, 37, 38, 39, 40] (by decide +kernel) (by decide +kernel)
set_option maxRecDepth 20000 in
theorem gX5_feed_X4_push : GoodIn wsX5_feed (wsV RX5 61 RX4 yX4_push wsX4_push) := goodIn_app (goodIn_of _ (by decide +kernel)) ggX5_feed_X4_push
theorem dX5_feed_0 : decode cX5_feed 0 = .ok (.iload_n 1, 1) := by decide +kernel
theorem dX5_feed_1 : decode cX5_feed 1 = .ok (.iconst 0, 1) := by decide +kernel
theorem dX5_feed_2 : decode cX5_feed 2 = .ok (.bipush 127, 2) := by decide +kernel
theorem dX5_feed_4 : decode cX5_feed 4 = .ok (.invokestatic 57, 3) := by decide +kernel
theorem dX5_feed_7 : decode cX5_feed 7 = .ok (.ifCond .ne 5, 3) := by decide +kernel
theorem dX5_feed_10 : decode cX5_feed 10 = .ok (.iconst (-1), 1) := by decide +kernel
theorem dX5_feed_11 : decode cX5_feed 11 = .ok (.ireturn, 1) := by decide +kernel
theorem dX5_feed_12 : decode cX5_feed 12 = .ok (.aload_n 0, 1) := by decide +kernel
theorem dX5_feed_13 : decode cX5_feed 13 = .ok (.getfield 10, 3) := by decide +kernel
theorem dX5_feed_16 : decode cX5_feed 16 = .ok (.iload_n 1, 1) := by decide +kernel
theorem dX5_feed_17 : decode cX5_feed 17 = .ok (.invokevirtual 61, 3) := by decide +kernel
theorem dX5_feed_20 : decode cX5_feed 20 = .ok (.ifCond .eq 13, 3) := by decide +kernel
theorem dX5_feed_23 : decode cX5_feed 23 = .ok (.aload_n 0, 1) := by decide +kernel
theorem dX5_feed_24 : decode cX5_feed 24 = .ok (.getfield 10, 3) := by decide +kernel
theorem dX5_feed_27 : decode cX5_feed 27 = .ok (.getfield 65, 3) := by decide +kernel
theorem dX5_feed_30 : decode cX5_feed 30 = .ok (.goto 5, 3) := by decide +kernel
theorem dX5_feed_33 : decode cX5_feed 33 = .ok (.bipush (-3), 2) := by decide +kernel
theorem dX5_feed_35 : decode cX5_feed 35 = .ok (.ireturn, 1) := by decide +kernel
set_option maxRecDepth 20000 in
theorem ggX5_end_X5_within : GoodIn wsX5_end wsX5_within := goodIn_r _ [6] (by decide +kernel) (by decide +kernel)
set_option maxRecDepth 20000 in
theorem gX5_end_X5_within : GoodIn wsX5_end (va_wsS RX5 57 yX5_within wsX5_within) := goodIn_app (goodIn_of _ (by decide +kernel)) ggX5_end_X5_within
theorem dX5_end_0 : decode cX5_end 0 = .ok (.iload_n 1, 1) := by decide +kernel
theorem dX5_end_1 : decode cX5_end 1 = .ok (.iconst 0, 1) := by decide +kernel
theorem dX5_end_2 : decode cX5_end 2 = .ok (.aload_n 0, 1) := by decide +kernel
theorem dX5_end_3 : decode cX5_end 3 = .ok (.getfield 10, 3) := by decide +kernel
theorem dX5_end_6 : decode cX5_end 6 = .ok (.getfield 65, 3) := by decide +kernel
theorem dX5_end_9 : decode cX5_end 9 = .ok (.invokestatic 57, 3) := by decide +kernel
theorem dX5_end_12 : decode cX5_end 12 = .ok (.ifCond .ne 5, 3) := by decide +kernel
theorem dX5_end_15 : decode cX5_end 15 = .ok (.iconst (-1), 1) := by decide +kernel
theorem dX5_end_16 : decode cX5_end 16 = .ok (.ireturn, 1) := by decide +kernel
theorem dX5_end_17 : decode cX5_end 17 = .ok (.aload_n 0, 1) := by decide +kernel
theorem dX5_end_18 : decode cX5_end 18 = .ok (.getfield 10, 3) := by decide +kernel
theorem dX5_end_21 : decode cX5_end 21 = .ok (.getfield 65, 3) := by decide +kernel
theorem dX5_end_24 : decode cX5_end 24 = .ok (.istore_n 2, 1) := by decide +kernel
theorem dX5_end_25 : decode cX5_end 25 = .ok (.aload_n 0, 1) := by decide +kernel
theorem dX5_end_26 : decode cX5_end 26 = .ok (.getfield 10, 3) := by decide +kernel
theorem dX5_end_29 : decode cX5_end 29 = .ok (.iload_n 1, 1) := by decide +kernel
theorem dX5_end_30 : decode cX5_end 30 = .ok (.putfield 65, 3) := by decide +kernel
theorem dX5_end_33 : decode cX5_end 33 = .ok (.iload_n 2, 1) := by decide +kernel
theorem dX5_end_34 : decode cX5_end 34 = .ok (.ireturn, 1) := by decide +kernel
set_option maxRecDepth 20000 in
theorem ggX5_text_X4_readAll : GoodIn wsX5_text wsX4_readAll := goodIn_r _ [16, 17, 18, 19, 20, 21, 22, 15, 23, 24, 25, 26, 27, 28, 29, 30, 31, 32, 33, 34, 35, 36, 37, 38, 39, 40, 41, 42, 43, 44, 45, 46, 47, 48, 49, 50, 51, 52, 53, 54, 55, 56, 57, 58, 59, 60, 61, 62, 63, 64, 65, 66, 67, 68, 69, 70, 71, 72, 73, 74, 75, 76, 77, 78, 79, 80, 81, 82, 83, 84, 85, 86, 87, 88, 89, 90, 91, 92, 93, 94, 95, 96, 97, 98, 99, 100, 101, 102, 103, 104, 105, 106, 107, 108, 109, 110, 111, 112, 113, 114, 115, 116, 117, 118, 119, 120, 121, 122, 123, 124, 125, 126, 127, 128, 129, 130, 131, 132, 133, 134, 135, 136, 137, 138, 139, 140, 141, 142, 143, 144, 145, 146, 147, 148, 149, 150, 151, 152, 153, 154, 155, 156, 157, 158, 159, 160, 161, 162, 163, 164, 165, 166, 167, 168, 188, 189, 190, 191, 192, 193, 194, 195, 196, 197, 198, 199, 200, 201, 202, 203, 204, 211, 212, 213, 214, 215, 216, 217, 218, 219, 220, 221, 222] (by decide +kernel) (by decide +kernel)
set_option maxRecDepth 20000 in
theorem gX5_text_X4_readAll : GoodIn wsX5_text (wsV RX5 69 RX4 yX4_readAll wsX4_readAll) := goodIn_app (goodIn_of _ (by decide +kernel)) ggX5_text_X4_readAll
set_option maxRecDepth 20000 in
theorem ggX5_text_X0_copyFrom : GoodIn wsX5_text wsX0_copyFrom := goodIn_r _ [172, 143, 173, 174, 175, 176, 144, 38, 39, 40, 41, 42, 43, 177, 211, 212, 213, 214, 215, 216, 217, 218, 219, 220, 221, 222] (by decide +kernel) (by decide +kernel)
set_option maxRecDepth 20000 in
theorem gX5_text_X0_copyFrom : GoodIn wsX5_text (wsV RX5 81 RX0 yX0_copyFrom wsX0_copyFrom) := goodIn_app (goodIn_of _ (by decide +kernel)) ggX5_text_X0_copyFrom
theorem dX5_text_0 : decode cX5_text 0 = .ok (.aload_n 0, 1) := by decide +kernel
theorem dX5_text_1 : decode cX5_text 1 = .ok (.getfield 10, 3) := by decide +kernel
theorem dX5_text_4 : decode cX5_text 4 = .ok (.invokevirtual 69, 3) := by decide +kernel
theorem dX5_text_7 : decode cX5_text 7 = .ok (.aload_n 0, 1) := by decide +kernel
theorem dX5_text_8 : decode cX5_text 8 = .ok (.getfield 10, 3) := by decide +kernel
theorem dX5_text_11 : decode cX5_text 11 = .ok (.iconst 0, 1) := by decide +kernel
theorem dX5_text_12 : decode cX5_text 12 = .ok (.putfield 65, 3) := by decide +kernel
theorem dX5_text_15 : decode cX5_text 15 = .ok (.aload_n 0, 1) := by decide +kernel
theorem dX5_text_16 : decode cX5_text 16 = .ok (.getfield 10, 3) := by decide +kernel
theorem dX5_text_19 : decode cX5_text 19 = .ok (.getfield 72, 3) := by decide +kernel
theorem dX5_text_22 : decode cX5_text 22 = .ok (.ifCond .eq 14, 3) := by decide +kernel
theorem dX5_text_25 : decode cX5_text 25 = .ok (.bipush (-10), 2) := by decide +kernel
theorem dX5_text_27 : decode cX5_text 27 = .ok (.aload_n 0, 1) := by decide +kernel
theorem dX5_text_28 : decode cX5_text 28 = .ok (.getfield 10, 3) := by decide +kernel
theorem dX5_text_31 : decode cX5_text 31 = .ok (.getfield 75, 3) := by decide +kernel
theorem dX5_text_34 : decode cX5_text 34 = .ok (.isub, 1) := by decide +kernel
theorem dX5_text_35 : decode cX5_text 35 = .ok (.ireturn, 1) := by decide +kernel
theorem dX5_text_36 : decode cX5_text 36 = .ok (.aload_n 0, 1) := by decide +kernel
theorem dX5_text_37 : decode cX5_text 37 = .ok (.getfield 19, 3) := by decide +kernel
theorem dX5_text_40 : decode cX5_text 40 = .ok (.aload_n 0, 1) := by decide +kernel
theorem dX5_text_41 : decode cX5_text 41 = .ok (.getfield 10, 3) := by decide +kernel
theorem dX5_text_44 : decode cX5_text 44 = .ok (.getfield 78, 3) := by decide +kernel
theorem dX5_text_47 : decode cX5_text 47 = .ok (.invokevirtual 81, 3) := by decide +kernel
theorem dX5_text_50 : decode cX5_text 50 = .ok (.aload_n 0, 1) := by decide +kernel
theorem dX5_text_51 : decode cX5_text 51 = .ok (.getfield 29, 3) := by decide +kernel
theorem dX5_text_54 : decode cX5_text 54 = .ok (.iconst 0, 1) := by decide +kernel
theorem dX5_text_55 : decode cX5_text 55 = .ok (.putfield 85, 3) := by decide +kernel
theorem dX5_text_58 : decode cX5_text 58 = .ok (.iconst 0, 1) := by decide +kernel
theorem dX5_text_59 : decode cX5_text 59 = .ok (.istore_n 1, 1) := by decide +kernel
theorem dX5_text_60 : decode cX5_text 60 = .ok (.iload_n 1, 1) := by decide +kernel
theorem dX5_text_61 : decode cX5_text 61 = .ok (.iconst 2, 1) := by decide +kernel
theorem dX5_text_62 : decode cX5_text 62 = .ok (.if_icmp .ge 19, 3) := by decide +kernel
theorem dX5_text_65 : decode cX5_text 65 = .ok (.aload_n 0, 1) := by decide +kernel
theorem dX5_text_66 : decode cX5_text 66 = .ok (.getfield 35, 3) := by decide +kernel
theorem dX5_text_69 : decode cX5_text 69 = .ok (.iload_n 1, 1) := by decide +kernel
theorem dX5_text_70 : decode cX5_text 70 = .ok (.aaload, 1) := by decide +kernel
theorem dX5_text_71 : decode cX5_text 71 = .ok (.iconst 0, 1) := by decide +kernel
theorem dX5_text_72 : decode cX5_text 72 = .ok (.putfield 88, 3) := by decide +kernel
theorem dX5_text_75 : decode cX5_text 75 = .ok (.iinc 1 1, 3) := by decide +kernel
theorem dX5_text_78 : decode cX5_text 78 = .ok (.goto (-18), 3) := by decide +kernel
theorem dX5_text_81 : decode cX5_text 81 = .ok (.aload_n 0, 1) := by decide +kernel
theorem dX5_text_82 : decode cX5_text 82 = .ok (.getfield 10, 3) := by decide +kernel
theorem dX5_text_85 : decode cX5_text 85 = .ok (.getfield 92, 3) := by decide +kernel
theorem dX5_text_88 : decode cX5_text 88 = .ok (.ireturn, 1) := by decide +kernel
theorem dX5_fault_0 : decode cX5_fault 0 = .ok (.aload_n 0, 1) := by decide +kernel
theorem dX5_fault_1 : decode cX5_fault 1 = .ok (.getfield 10, 3) := by decide +kernel
theorem dX5_fault_4 : decode cX5_fault 4 = .ok (.getfield 72, 3) := by decide +kernel
theorem dX5_fault_7 : decode cX5_fault 7 = .ok (.ireturn, 1) := by decide +kernel
theorem dX5_rule_0 : decode cX5_rule 0 = .ok (.iload_n 1, 1) := by decide +kernel
theorem dX5_rule_1 : decode cX5_rule 1 = .ok (.tableswitch 87 0 5 #[39, 47, 55, 63, 71, 79], 39) := by decide +kernel
theorem dX5_rule_40 : decode cX5_rule 40 = .ok (.aload_n 0, 1) := by decide +kernel
theorem dX5_rule_41 : decode cX5_rule 41 = .ok (.getfield 19, 3) := by decide +kernel
theorem dX5_rule_44 : decode cX5_rule 44 = .ok (.getfield 95, 3) := by decide +kernel
theorem dX5_rule_47 : decode cX5_rule 47 = .ok (.ireturn, 1) := by decide +kernel
theorem dX5_rule_48 : decode cX5_rule 48 = .ok (.aload_n 0, 1) := by decide +kernel
theorem dX5_rule_49 : decode cX5_rule 49 = .ok (.getfield 19, 3) := by decide +kernel
theorem dX5_rule_52 : decode cX5_rule 52 = .ok (.getfield 98, 3) := by decide +kernel
theorem dX5_rule_55 : decode cX5_rule 55 = .ok (.ireturn, 1) := by decide +kernel
theorem dX5_rule_56 : decode cX5_rule 56 = .ok (.aload_n 0, 1) := by decide +kernel
theorem dX5_rule_57 : decode cX5_rule 57 = .ok (.getfield 19, 3) := by decide +kernel
theorem dX5_rule_60 : decode cX5_rule 60 = .ok (.getfield 101, 3) := by decide +kernel
theorem dX5_rule_63 : decode cX5_rule 63 = .ok (.ireturn, 1) := by decide +kernel
theorem dX5_rule_64 : decode cX5_rule 64 = .ok (.aload_n 0, 1) := by decide +kernel
theorem dX5_rule_65 : decode cX5_rule 65 = .ok (.getfield 19, 3) := by decide +kernel
theorem dX5_rule_68 : decode cX5_rule 68 = .ok (.getfield 104, 3) := by decide +kernel
theorem dX5_rule_71 : decode cX5_rule 71 = .ok (.ireturn, 1) := by decide +kernel
theorem dX5_rule_72 : decode cX5_rule 72 = .ok (.aload_n 0, 1) := by decide +kernel
theorem dX5_rule_73 : decode cX5_rule 73 = .ok (.getfield 19, 3) := by decide +kernel
theorem dX5_rule_76 : decode cX5_rule 76 = .ok (.getfield 107, 3) := by decide +kernel
theorem dX5_rule_79 : decode cX5_rule 79 = .ok (.ireturn, 1) := by decide +kernel
theorem dX5_rule_80 : decode cX5_rule 80 = .ok (.aload_n 0, 1) := by decide +kernel
theorem dX5_rule_81 : decode cX5_rule 81 = .ok (.getfield 19, 3) := by decide +kernel
theorem dX5_rule_84 : decode cX5_rule 84 = .ok (.getfield 110, 3) := by decide +kernel
theorem dX5_rule_87 : decode cX5_rule 87 = .ok (.ireturn, 1) := by decide +kernel
theorem dX5_rule_88 : decode cX5_rule 88 = .ok (.iconst (-1), 1) := by decide +kernel
theorem dX5_rule_89 : decode cX5_rule 89 = .ok (.ireturn, 1) := by decide +kernel
set_option maxRecDepth 20000 in
theorem ggX5_heir_X5_isHeir : GoodIn wsX5_heir wsX5_isHeir := goodIn_r _ [7, 1, 8, 9, 10, 6, 11, 28, 29, 30, 31, 32, 33, 34, 35, 36, 37, 38, 39, 40, 41, 42, 43, 44, 45, 46, 47, 48, 49] (by decide +kernel) (by decide +kernel)
set_option maxRecDepth 20000 in
theorem gX5_heir_X5_isHeir : GoodIn wsX5_heir (wsV RX5 113 RX5 yX5_isHeir wsX5_isHeir) := goodIn_app (goodIn_of _ (by decide +kernel)) ggX5_heir_X5_isHeir
set_option maxRecDepth 20000 in
theorem ggX5_heir_X5_within : GoodIn wsX5_heir wsX5_within := goodIn_r _ [11] (by decide +kernel) (by decide +kernel)
set_option maxRecDepth 20000 in
theorem gX5_heir_X5_within : GoodIn wsX5_heir (va_wsS RX5 57 yX5_within wsX5_within) := goodIn_app (goodIn_of _ (by decide +kernel)) ggX5_heir_X5_within
set_option maxRecDepth 20000 in
theorem ggX5_heir_X0_heightOf : GoodIn wsX5_heir wsX0_heightOf := goodIn_r _ [16, 17, 18, 19, 20, 21, 38, 39, 40, 41, 42, 43, 44, 45, 46, 47, 48, 49] (by decide +kernel) (by decide +kernel)
set_option maxRecDepth 20000 in
theorem gX5_heir_X0_heightOf : GoodIn wsX5_heir (wsV RX5 120 RX0 yX0_heightOf wsX0_heightOf) := goodIn_app (goodIn_of _ (by decide +kernel)) ggX5_heir_X0_heightOf
set_option maxRecDepth 20000 in
theorem ggX5_heir_X0_placeOf : GoodIn wsX5_heir wsX0_placeOf := goodIn_r _ [25, 26, 27, 38, 39, 40, 41, 42, 43, 44, 45, 46, 47, 48, 49] (by decide +kernel) (by decide +kernel)
set_option maxRecDepth 20000 in
theorem gX5_heir_X0_placeOf : GoodIn wsX5_heir (wsV RX5 124 RX0 yX0_placeOf wsX0_placeOf) := goodIn_app (goodIn_of _ (by decide +kernel)) ggX5_heir_X0_placeOf
theorem dX5_heir_0 : decode cX5_heir 0 = .ok (.aload_n 0, 1) := by decide +kernel
theorem dX5_heir_1 : decode cX5_heir 1 = .ok (.iload_n 1, 1) := by decide +kernel
theorem dX5_heir_2 : decode cX5_heir 2 = .ok (.invokevirtual 113, 3) := by decide +kernel
theorem dX5_heir_5 : decode cX5_heir 5 = .ok (.ifCond .eq 12, 3) := by decide +kernel
theorem dX5_heir_8 : decode cX5_heir 8 = .ok (.iload_n 2, 1) := by decide +kernel
theorem dX5_heir_9 : decode cX5_heir 9 = .ok (.iconst 0, 1) := by decide +kernel
theorem dX5_heir_10 : decode cX5_heir 10 = .ok (.iconst 5, 1) := by decide +kernel
theorem dX5_heir_11 : decode cX5_heir 11 = .ok (.invokestatic 57, 3) := by decide +kernel
theorem dX5_heir_14 : decode cX5_heir 14 = .ok (.ifCond .ne 5, 3) := by decide +kernel
theorem dX5_heir_17 : decode cX5_heir 17 = .ok (.iconst (-1), 1) := by decide +kernel
theorem dX5_heir_18 : decode cX5_heir 18 = .ok (.ireturn, 1) := by decide +kernel
theorem dX5_heir_19 : decode cX5_heir 19 = .ok (.iload_n 2, 1) := by decide +kernel
theorem dX5_heir_20 : decode cX5_heir 20 = .ok (.iconst 4, 1) := by decide +kernel
theorem dX5_heir_21 : decode cX5_heir 21 = .ok (.if_icmp .ge 15, 3) := by decide +kernel
theorem dX5_heir_24 : decode cX5_heir 24 = .ok (.aload_n 0, 1) := by decide +kernel
theorem dX5_heir_25 : decode cX5_heir 25 = .ok (.getfield 19, 3) := by decide +kernel
theorem dX5_heir_28 : decode cX5_heir 28 = .ok (.getfield 116, 3) := by decide +kernel
theorem dX5_heir_31 : decode cX5_heir 31 = .ok (.iload_n 2, 1) := by decide +kernel
theorem dX5_heir_32 : decode cX5_heir 32 = .ok (.aaload, 1) := by decide +kernel
theorem dX5_heir_33 : decode cX5_heir 33 = .ok (.iload_n 1, 1) := by decide +kernel
theorem dX5_heir_34 : decode cX5_heir 34 = .ok (.iaload, 1) := by decide +kernel
theorem dX5_heir_35 : decode cX5_heir 35 = .ok (.ireturn, 1) := by decide +kernel
theorem dX5_heir_36 : decode cX5_heir 36 = .ok (.iload_n 2, 1) := by decide +kernel
theorem dX5_heir_37 : decode cX5_heir 37 = .ok (.iconst 4, 1) := by decide +kernel
theorem dX5_heir_38 : decode cX5_heir 38 = .ok (.if_icmp .ne 14, 3) := by decide +kernel
theorem dX5_heir_41 : decode cX5_heir 41 = .ok (.aload_n 0, 1) := by decide +kernel
theorem dX5_heir_42 : decode cX5_heir 42 = .ok (.getfield 19, 3) := by decide +kernel
theorem dX5_heir_45 : decode cX5_heir 45 = .ok (.iload_n 1, 1) := by decide +kernel
theorem dX5_heir_46 : decode cX5_heir 46 = .ok (.invokevirtual 120, 3) := by decide +kernel
theorem dX5_heir_49 : decode cX5_heir 49 = .ok (.goto 11, 3) := by decide +kernel
theorem dX5_heir_52 : decode cX5_heir 52 = .ok (.aload_n 0, 1) := by decide +kernel
theorem dX5_heir_53 : decode cX5_heir 53 = .ok (.getfield 19, 3) := by decide +kernel
theorem dX5_heir_56 : decode cX5_heir 56 = .ok (.iload_n 1, 1) := by decide +kernel
theorem dX5_heir_57 : decode cX5_heir 57 = .ok (.invokevirtual 124, 3) := by decide +kernel
theorem dX5_heir_60 : decode cX5_heir 60 = .ok (.ireturn, 1) := by decide +kernel
set_option maxRecDepth 20000 in
theorem ggX5_line_X5_isPlace : GoodIn wsX5_line wsX5_isPlace := goodIn_r _ [7, 1, 8, 9, 10, 6, 11, 12, 13, 14, 15, 16, 17, 18, 19, 20, 21, 22, 23, 24, 25, 26, 27, 28, 29, 30, 31, 32, 33] (by decide +kernel) (by decide +kernel)
set_option maxRecDepth 20000 in
theorem gX5_line_X5_isPlace : GoodIn wsX5_line (wsV RX5 127 RX5 yX5_isPlace wsX5_isPlace) := goodIn_app (goodIn_of _ (by decide +kernel)) ggX5_line_X5_isPlace
theorem dX5_line_0 : decode cX5_line 0 = .ok (.aload_n 0, 1) := by decide +kernel
theorem dX5_line_1 : decode cX5_line 1 = .ok (.iload_n 1, 1) := by decide +kernel
theorem dX5_line_2 : decode cX5_line 2 = .ok (.invokevirtual 127, 3) := by decide +kernel
theorem dX5_line_5 : decode cX5_line 5 = .ok (.ifCond .eq 15, 3) := by decide +kernel
theorem dX5_line_8 : decode cX5_line 8 = .ok (.aload_n 0, 1) := by decide +kernel
theorem dX5_line_9 : decode cX5_line 9 = .ok (.getfield 19, 3) := by decide +kernel
theorem dX5_line_12 : decode cX5_line 12 = .ok (.getfield 130, 3) := by decide +kernel
theorem dX5_line_15 : decode cX5_line 15 = .ok (.iload_n 1, 1) := by decide +kernel
theorem dX5_line_16 : decode cX5_line 16 = .ok (.iaload, 1) := by decide +kernel
theorem dX5_line_17 : decode cX5_line 17 = .ok (.goto 4, 3) := by decide +kernel
theorem dX5_line_20 : decode cX5_line 20 = .ok (.iconst (-1), 1) := by decide +kernel
theorem dX5_line_21 : decode cX5_line 21 = .ok (.ireturn, 1) := by decide +kernel
set_option maxRecDepth 20000 in
theorem ggX5_alter_X0_takes : GoodIn wsX5_alter wsX0_takes := goodIn_r _ [7, 8, 9, 10, 11, 12, 13, 14, 15, 16, 27, 28, 29, 30, 31, 32, 33, 34, 35, 36, 37, 38] (by decide +kernel) (by decide +kernel)
set_option maxRecDepth 20000 in
theorem gX5_alter_X0_takes : GoodIn wsX5_alter (wsV RX5 133 RX0 yX0_takes wsX0_takes) := goodIn_app (goodIn_of _ (by decide +kernel)) ggX5_alter_X0_takes
theorem dX5_alter_0 : decode cX5_alter 0 = .ok (.aload_n 0, 1) := by decide +kernel
theorem dX5_alter_1 : decode cX5_alter 1 = .ok (.getfield 19, 3) := by decide +kernel
theorem dX5_alter_4 : decode cX5_alter 4 = .ok (.iload_n 1, 1) := by decide +kernel
theorem dX5_alter_5 : decode cX5_alter 5 = .ok (.iload_n 2, 1) := by decide +kernel
theorem dX5_alter_6 : decode cX5_alter 6 = .ok (.iload_n 3, 1) := by decide +kernel
theorem dX5_alter_7 : decode cX5_alter 7 = .ok (.invokevirtual 133, 3) := by decide +kernel
theorem dX5_alter_10 : decode cX5_alter 10 = .ok (.ifCond .ne 5, 3) := by decide +kernel
theorem dX5_alter_13 : decode cX5_alter 13 = .ok (.iconst (-1), 1) := by decide +kernel
theorem dX5_alter_14 : decode cX5_alter 14 = .ok (.ireturn, 1) := by decide +kernel
theorem dX5_alter_15 : decode cX5_alter 15 = .ok (.aload_n 0, 1) := by decide +kernel
theorem dX5_alter_16 : decode cX5_alter 16 = .ok (.getfield 19, 3) := by decide +kernel
theorem dX5_alter_19 : decode cX5_alter 19 = .ok (.getfield 116, 3) := by decide +kernel
theorem dX5_alter_22 : decode cX5_alter 22 = .ok (.iload_n 2, 1) := by decide +kernel
theorem dX5_alter_23 : decode cX5_alter 23 = .ok (.aaload, 1) := by decide +kernel
theorem dX5_alter_24 : decode cX5_alter 24 = .ok (.iload_n 1, 1) := by decide +kernel
theorem dX5_alter_25 : decode cX5_alter 25 = .ok (.iaload, 1) := by decide +kernel
theorem dX5_alter_26 : decode cX5_alter 26 = .ok (.istore 4, 2) := by decide +kernel
theorem dX5_alter_28 : decode cX5_alter 28 = .ok (.aload_n 0, 1) := by decide +kernel
theorem dX5_alter_29 : decode cX5_alter 29 = .ok (.getfield 19, 3) := by decide +kernel
theorem dX5_alter_32 : decode cX5_alter 32 = .ok (.getfield 116, 3) := by decide +kernel
theorem dX5_alter_35 : decode cX5_alter 35 = .ok (.iload_n 2, 1) := by decide +kernel
theorem dX5_alter_36 : decode cX5_alter 36 = .ok (.aaload, 1) := by decide +kernel
theorem dX5_alter_37 : decode cX5_alter 37 = .ok (.iload_n 1, 1) := by decide +kernel
theorem dX5_alter_38 : decode cX5_alter 38 = .ok (.iload_n 3, 1) := by decide +kernel
theorem dX5_alter_39 : decode cX5_alter 39 = .ok (.iastore, 1) := by decide +kernel
theorem dX5_alter_40 : decode cX5_alter 40 = .ok (.iload 4, 2) := by decide +kernel
theorem dX5_alter_42 : decode cX5_alter 42 = .ok (.ireturn, 1) := by decide +kernel
set_option maxRecDepth 20000 in
theorem ggX5_lumbago_X5_within : GoodIn wsX5_lumbago wsX5_within := goodIn_r _ [6] (by decide +kernel) (by decide +kernel)
set_option maxRecDepth 20000 in
theorem gX5_lumbago_X5_within : GoodIn wsX5_lumbago (va_wsS RX5 57 yX5_within wsX5_within) := goodIn_app (goodIn_of _ (by decide +kernel)) ggX5_lumbago_X5_within
theorem dX5_lumbago_0 : decode cX5_lumbago 0 = .ok (.iload_n 1, 1) := by decide +kernel
theorem dX5_lumbago_1 : decode cX5_lumbago 1 = .ok (.iconst 0, 1) := by decide +kernel
theorem dX5_lumbago_2 : decode cX5_lumbago 2 = .ok (.bipush 9, 2) := by decide +kernel
theorem dX5_lumbago_4 : decode cX5_lumbago 4 = .ok (.invokestatic 57, 3) := by decide +kernel
theorem dX5_lumbago_7 : decode cX5_lumbago 7 = .ok (.ifCond .ne 5, 3) := by decide +kernel
theorem dX5_lumbago_10 : decode cX5_lumbago 10 = .ok (.iconst (-1), 1) := by decide +kernel
theorem dX5_lumbago_11 : decode cX5_lumbago 11 = .ok (.ireturn, 1) := by decide +kernel
theorem dX5_lumbago_12 : decode cX5_lumbago 12 = .ok (.aload_n 0, 1) := by decide +kernel
theorem dX5_lumbago_13 : decode cX5_lumbago 13 = .ok (.getfield 19, 3) := by decide +kernel
theorem dX5_lumbago_16 : decode cX5_lumbago 16 = .ok (.getfield 104, 3) := by decide +kernel
theorem dX5_lumbago_19 : decode cX5_lumbago 19 = .ok (.istore_n 2, 1) := by decide +kernel
theorem dX5_lumbago_20 : decode cX5_lumbago 20 = .ok (.aload_n 0, 1) := by decide +kernel
theorem dX5_lumbago_21 : decode cX5_lumbago 21 = .ok (.getfield 19, 3) := by decide +kernel
theorem dX5_lumbago_24 : decode cX5_lumbago 24 = .ok (.iload_n 1, 1) := by decide +kernel
theorem dX5_lumbago_25 : decode cX5_lumbago 25 = .ok (.putfield 104, 3) := by decide +kernel
theorem dX5_lumbago_28 : decode cX5_lumbago 28 = .ok (.iload_n 2, 1) := by decide +kernel
theorem dX5_lumbago_29 : decode cX5_lumbago 29 = .ok (.ireturn, 1) := by decide +kernel
set_option maxRecDepth 20000 in
theorem ggX5_works_X5_within : GoodIn wsX5_works wsX5_within := goodIn_r _ [6] (by decide +kernel) (by decide +kernel)
set_option maxRecDepth 20000 in
theorem gX5_works_X5_within : GoodIn wsX5_works (va_wsS RX5 57 yX5_within wsX5_within) := goodIn_app (goodIn_of _ (by decide +kernel)) ggX5_works_X5_within
theorem dX5_works_0 : decode cX5_works 0 = .ok (.iload_n 1, 1) := by decide +kernel
theorem dX5_works_1 : decode cX5_works 1 = .ok (.iconst 0, 1) := by decide +kernel
theorem dX5_works_2 : decode cX5_works 2 = .ok (.sipush 999, 3) := by decide +kernel
theorem dX5_works_5 : decode cX5_works 5 = .ok (.invokestatic 57, 3) := by decide +kernel
theorem dX5_works_8 : decode cX5_works 8 = .ok (.ifCond .ne 5, 3) := by decide +kernel
theorem dX5_works_11 : decode cX5_works 11 = .ok (.iconst (-1), 1) := by decide +kernel
theorem dX5_works_12 : decode cX5_works 12 = .ok (.ireturn, 1) := by decide +kernel
theorem dX5_works_13 : decode cX5_works 13 = .ok (.aload_n 0, 1) := by decide +kernel
theorem dX5_works_14 : decode cX5_works 14 = .ok (.getfield 19, 3) := by decide +kernel
theorem dX5_works_17 : decode cX5_works 17 = .ok (.getfield 101, 3) := by decide +kernel
theorem dX5_works_20 : decode cX5_works 20 = .ok (.istore_n 2, 1) := by decide +kernel
theorem dX5_works_21 : decode cX5_works 21 = .ok (.aload_n 0, 1) := by decide +kernel
theorem dX5_works_22 : decode cX5_works 22 = .ok (.getfield 19, 3) := by decide +kernel
theorem dX5_works_25 : decode cX5_works 25 = .ok (.iload_n 1, 1) := by decide +kernel
theorem dX5_works_26 : decode cX5_works 26 = .ok (.putfield 101, 3) := by decide +kernel
theorem dX5_works_29 : decode cX5_works 29 = .ok (.iload_n 2, 1) := by decide +kernel
theorem dX5_works_30 : decode cX5_works 30 = .ok (.ireturn, 1) := by decide +kernel
set_option maxRecDepth 20000 in
theorem ggX5_change_X5_isPlace : GoodIn wsX5_change wsX5_isPlace := goodIn_r _ [7, 1, 8, 9, 10, 6, 11, 18, 19, 20, 21, 22, 23, 24, 25, 26, 27, 28, 29, 30, 31, 32, 33, 34, 35, 36, 37, 38, 39] (by decide +kernel) (by decide +kernel)
set_option maxRecDepth 20000 in
theorem gX5_change_X5_isPlace : GoodIn wsX5_change (wsV RX5 127 RX5 yX5_isPlace wsX5_isPlace) := goodIn_app (goodIn_of _ (by decide +kernel)) ggX5_change_X5_isPlace
set_option maxRecDepth 20000 in
theorem ggX5_change_X0_swap : GoodIn wsX5_change wsX0_swap := goodIn_r _ [16, 17, 28, 29, 30, 31, 32, 33, 34, 35, 36, 37, 38, 39] (by decide +kernel) (by decide +kernel)
set_option maxRecDepth 20000 in
theorem gX5_change_X0_swap : GoodIn wsX5_change (wsV RX5 136 RX0 yX0_swap wsX0_swap) := goodIn_app (goodIn_of _ (by decide +kernel)) ggX5_change_X0_swap
theorem dX5_change_0 : decode cX5_change 0 = .ok (.aload_n 0, 1) := by decide +kernel
theorem dX5_change_1 : decode cX5_change 1 = .ok (.iload_n 1, 1) := by decide +kernel
theorem dX5_change_2 : decode cX5_change 2 = .ok (.invokevirtual 127, 3) := by decide +kernel
theorem dX5_change_5 : decode cX5_change 5 = .ok (.ifCond .eq 16, 3) := by decide +kernel
theorem dX5_change_8 : decode cX5_change 8 = .ok (.aload_n 0, 1) := by decide +kernel
theorem dX5_change_9 : decode cX5_change 9 = .ok (.iload_n 2, 1) := by decide +kernel
theorem dX5_change_10 : decode cX5_change 10 = .ok (.invokevirtual 127, 3) := by decide +kernel
theorem dX5_change_13 : decode cX5_change 13 = .ok (.ifCond .eq 8, 3) := by decide +kernel
theorem dX5_change_16 : decode cX5_change 16 = .ok (.iload_n 1, 1) := by decide +kernel
theorem dX5_change_17 : decode cX5_change 17 = .ok (.iload_n 2, 1) := by decide +kernel
theorem dX5_change_18 : decode cX5_change 18 = .ok (.if_icmp .ne 5, 3) := by decide +kernel
theorem dX5_change_21 : decode cX5_change 21 = .ok (.iconst (-1), 1) := by decide +kernel
theorem dX5_change_22 : decode cX5_change 22 = .ok (.ireturn, 1) := by decide +kernel
theorem dX5_change_23 : decode cX5_change 23 = .ok (.aload_n 0, 1) := by decide +kernel
theorem dX5_change_24 : decode cX5_change 24 = .ok (.getfield 19, 3) := by decide +kernel
theorem dX5_change_27 : decode cX5_change 27 = .ok (.getfield 130, 3) := by decide +kernel
theorem dX5_change_30 : decode cX5_change 30 = .ok (.iload_n 1, 1) := by decide +kernel
theorem dX5_change_31 : decode cX5_change 31 = .ok (.iaload, 1) := by decide +kernel
theorem dX5_change_32 : decode cX5_change 32 = .ok (.istore_n 3, 1) := by decide +kernel
theorem dX5_change_33 : decode cX5_change 33 = .ok (.aload_n 0, 1) := by decide +kernel
theorem dX5_change_34 : decode cX5_change 34 = .ok (.getfield 19, 3) := by decide +kernel
theorem dX5_change_37 : decode cX5_change 37 = .ok (.iload_n 1, 1) := by decide +kernel
theorem dX5_change_38 : decode cX5_change 38 = .ok (.iload_n 2, 1) := by decide +kernel
theorem dX5_change_39 : decode cX5_change 39 = .ok (.invokevirtual 136, 3) := by decide +kernel
theorem dX5_change_42 : decode cX5_change 42 = .ok (.iload_n 3, 1) := by decide +kernel
theorem dX5_change_43 : decode cX5_change 43 = .ok (.ireturn, 1) := by decide +kernel
set_option maxRecDepth 20000 in
theorem ggX5_bear_X5_isTrait : GoodIn wsX5_bear wsX5_isTrait := goodIn_r _ [6, 7, 8, 9, 10, 5, 11] (by decide +kernel) (by decide +kernel)
set_option maxRecDepth 20000 in
theorem gX5_bear_X5_isTrait : GoodIn wsX5_bear (va_wsS RX5 140 yX5_isTrait wsX5_isTrait) := goodIn_app (goodIn_of _ (by decide +kernel)) ggX5_bear_X5_isTrait
set_option maxRecDepth 20000 in
theorem ggX5_bear_X0_add : GoodIn wsX5_bear wsX0_add := goodIn_r _ [16, 17, 18, 19, 30, 31, 32, 33, 34, 35, 36, 37, 38, 39, 40, 41] (by decide +kernel) (by decide +kernel)
set_option maxRecDepth 20000 in
theorem gX5_bear_X0_add : GoodIn wsX5_bear (wsV RX5 144 RX0 yX0_add wsX0_add) := goodIn_app (goodIn_of _ (by decide +kernel)) ggX5_bear_X0_add
theorem dX5_bear_0 : decode cX5_bear 0 = .ok (.iconst 1, 1) := by decide +kernel
theorem dX5_bear_1 : decode cX5_bear 1 = .ok (.iload_n 1, 1) := by decide +kernel
theorem dX5_bear_2 : decode cX5_bear 2 = .ok (.invokestatic 140, 3) := by decide +kernel
theorem dX5_bear_5 : decode cX5_bear 5 = .ok (.ifCond .eq 19, 3) := by decide +kernel
theorem dX5_bear_8 : decode cX5_bear 8 = .ok (.iconst 2, 1) := by decide +kernel
theorem dX5_bear_9 : decode cX5_bear 9 = .ok (.iload_n 2, 1) := by decide +kernel
theorem dX5_bear_10 : decode cX5_bear 10 = .ok (.invokestatic 140, 3) := by decide +kernel
theorem dX5_bear_13 : decode cX5_bear 13 = .ok (.ifCond .eq 11, 3) := by decide +kernel
theorem dX5_bear_16 : decode cX5_bear 16 = .ok (.iconst 3, 1) := by decide +kernel
theorem dX5_bear_17 : decode cX5_bear 17 = .ok (.iload_n 3, 1) := by decide +kernel
theorem dX5_bear_18 : decode cX5_bear 18 = .ok (.invokestatic 140, 3) := by decide +kernel
theorem dX5_bear_21 : decode cX5_bear 21 = .ok (.ifCond .ne 5, 3) := by decide +kernel
theorem dX5_bear_24 : decode cX5_bear 24 = .ok (.iconst (-1), 1) := by decide +kernel
theorem dX5_bear_25 : decode cX5_bear 25 = .ok (.ireturn, 1) := by decide +kernel
theorem dX5_bear_26 : decode cX5_bear 26 = .ok (.aload_n 0, 1) := by decide +kernel
theorem dX5_bear_27 : decode cX5_bear 27 = .ok (.getfield 19, 3) := by decide +kernel
theorem dX5_bear_30 : decode cX5_bear 30 = .ok (.iconst 0, 1) := by decide +kernel
theorem dX5_bear_31 : decode cX5_bear 31 = .ok (.iload_n 1, 1) := by decide +kernel
theorem dX5_bear_32 : decode cX5_bear 32 = .ok (.iload_n 2, 1) := by decide +kernel
theorem dX5_bear_33 : decode cX5_bear 33 = .ok (.iload_n 3, 1) := by decide +kernel
theorem dX5_bear_34 : decode cX5_bear 34 = .ok (.invokevirtual 144, 3) := by decide +kernel
theorem dX5_bear_37 : decode cX5_bear 37 = .ok (.ifCond .eq 13, 3) := by decide +kernel
theorem dX5_bear_40 : decode cX5_bear 40 = .ok (.aload_n 0, 1) := by decide +kernel
theorem dX5_bear_41 : decode cX5_bear 41 = .ok (.getfield 19, 3) := by decide +kernel
theorem dX5_bear_44 : decode cX5_bear 44 = .ok (.getfield 95, 3) := by decide +kernel
theorem dX5_bear_47 : decode cX5_bear 47 = .ok (.goto 5, 3) := by decide +kernel
theorem dX5_bear_50 : decode cX5_bear 50 = .ok (.bipush (-3), 2) := by decide +kernel
theorem dX5_bear_52 : decode cX5_bear 52 = .ok (.ireturn, 1) := by decide +kernel
set_option maxRecDepth 20000 in
theorem ggX5_reigns_X5_within : GoodIn wsX5_reigns wsX5_within := goodIn_r _ [6] (by decide +kernel) (by decide +kernel)
set_option maxRecDepth 20000 in
theorem gX5_reigns_X5_within : GoodIn wsX5_reigns (va_wsS RX5 57 yX5_within wsX5_within) := goodIn_app (goodIn_of _ (by decide +kernel)) ggX5_reigns_X5_within
set_option maxRecDepth 20000 in
theorem ggX5_reigns_X5_refusal : GoodIn wsX5_reigns wsX5_refusal := goodIn_r _ [10, 1, 11, 56, 57, 58, 59, 60, 61, 62, 63, 64, 65, 66, 67, 68, 69, 70, 71, 72, 73, 74, 75, 76, 77] (by decide +kernel) (by decide +kernel)
set_option maxRecDepth 20000 in
theorem gX5_reigns_X5_refusal : GoodIn wsX5_reigns (wsV RX5 148 RX5 yX5_refusal wsX5_refusal) := goodIn_app (goodIn_of _ (by decide +kernel)) ggX5_reigns_X5_refusal
set_option maxRecDepth 20000 in
theorem ggX5_reigns_X0_worksBehind : GoodIn wsX5_reigns wsX0_worksBehind := goodIn_r _ [16, 17, 18, 19, 20, 15, 21, 22, 23, 24, 25, 26, 27, 28, 29, 30, 31, 32, 33, 34, 35, 36, 37, 38, 39, 40, 41, 42, 43, 44, 45, 46, 47, 48, 49, 50, 51, 52, 53, 54, 55, 66, 67, 68, 69, 70, 71, 72, 73, 74, 75, 76, 77] (by decide +kernel) (by decide +kernel)
set_option maxRecDepth 20000 in
theorem gX5_reigns_X0_worksBehind : GoodIn wsX5_reigns (wsV RX5 152 RX0 yX0_worksBehind wsX0_worksBehind) := goodIn_app (goodIn_of _ (by decide +kernel)) ggX5_reigns_X0_worksBehind
theorem dX5_reigns_0 : decode cX5_reigns 0 = .ok (.aload_n 0, 1) := by decide +kernel
theorem dX5_reigns_1 : decode cX5_reigns 1 = .ok (.iload_n 1, 1) := by decide +kernel
theorem dX5_reigns_2 : decode cX5_reigns 2 = .ok (.iconst 0, 1) := by decide +kernel
theorem dX5_reigns_3 : decode cX5_reigns 3 = .ok (.bipush 30, 2) := by decide +kernel
theorem dX5_reigns_5 : decode cX5_reigns 5 = .ok (.invokestatic 57, 3) := by decide +kernel
theorem dX5_reigns_8 : decode cX5_reigns 8 = .ok (.invokevirtual 148, 3) := by decide +kernel
theorem dX5_reigns_11 : decode cX5_reigns 11 = .ok (.istore_n 2, 1) := by decide +kernel
theorem dX5_reigns_12 : decode cX5_reigns 12 = .ok (.iload_n 2, 1) := by decide +kernel
theorem dX5_reigns_13 : decode cX5_reigns 13 = .ok (.ifCond .eq 5, 3) := by decide +kernel
theorem dX5_reigns_16 : decode cX5_reigns 16 = .ok (.iload_n 2, 1) := by decide +kernel
theorem dX5_reigns_17 : decode cX5_reigns 17 = .ok (.ireturn, 1) := by decide +kernel
theorem dX5_reigns_18 : decode cX5_reigns 18 = .ok (.aload_n 0, 1) := by decide +kernel
theorem dX5_reigns_19 : decode cX5_reigns 19 = .ok (.getfield 19, 3) := by decide +kernel
theorem dX5_reigns_22 : decode cX5_reigns 22 = .ok (.getfield 98, 3) := by decide +kernel
theorem dX5_reigns_25 : decode cX5_reigns 25 = .ok (.iload_n 1, 1) := by decide +kernel
theorem dX5_reigns_26 : decode cX5_reigns 26 = .ok (.iadd, 1) := by decide +kernel
theorem dX5_reigns_27 : decode cX5_reigns 27 = .ok (.sipush 999, 3) := by decide +kernel
theorem dX5_reigns_30 : decode cX5_reigns 30 = .ok (.if_icmp .le 6, 3) := by decide +kernel
theorem dX5_reigns_33 : decode cX5_reigns 33 = .ok (.bipush (-3), 2) := by decide +kernel
theorem dX5_reigns_35 : decode cX5_reigns 35 = .ok (.ireturn, 1) := by decide +kernel
theorem dX5_reigns_36 : decode cX5_reigns 36 = .ok (.aload_n 0, 1) := by decide +kernel
theorem dX5_reigns_37 : decode cX5_reigns 37 = .ok (.getfield 19, 3) := by decide +kernel
theorem dX5_reigns_40 : decode cX5_reigns 40 = .ok (.iload_n 1, 1) := by decide +kernel
theorem dX5_reigns_41 : decode cX5_reigns 41 = .ok (.invokevirtual 152, 3) := by decide +kernel
theorem dX5_reigns_44 : decode cX5_reigns 44 = .ok (.ireturn, 1) := by decide +kernel
set_option maxRecDepth 20000 in
theorem ggX5_runs_X5_isAhead : GoodIn wsX5_runs wsX5_isAhead := goodIn_r _ [11, 12, 13, 10, 14] (by decide +kernel) (by decide +kernel)
set_option maxRecDepth 20000 in
theorem gX5_runs_X5_isAhead : GoodIn wsX5_runs (va_wsS RX5 155 yX5_isAhead wsX5_isAhead) := goodIn_app (goodIn_of _ (by decide +kernel)) ggX5_runs_X5_isAhead
set_option maxRecDepth 20000 in
theorem ggX5_runs_X5_within : GoodIn wsX5_runs wsX5_within := goodIn_r _ [14] (by decide +kernel) (by decide +kernel)
set_option maxRecDepth 20000 in
theorem gX5_runs_X5_within : GoodIn wsX5_runs (va_wsS RX5 57 yX5_within wsX5_within) := goodIn_app (goodIn_of _ (by decide +kernel)) ggX5_runs_X5_within
set_option maxRecDepth 20000 in
theorem ggX5_runs_X5_refusal : GoodIn wsX5_runs wsX5_refusal := goodIn_r _ [18, 2, 19, 64, 65, 66, 67, 68, 69, 70, 71, 72, 73, 74, 75, 76, 77, 78, 79, 80, 81, 82, 83, 84, 85] (by decide +kernel) (by decide +kernel)
set_option maxRecDepth 20000 in
theorem gX5_runs_X5_refusal : GoodIn wsX5_runs (wsV RX5 148 RX5 yX5_refusal wsX5_refusal) := goodIn_app (goodIn_of _ (by decide +kernel)) ggX5_runs_X5_refusal
set_option maxRecDepth 20000 in
theorem ggX5_runs_X0_copyFrom : GoodIn wsX5_runs wsX0_copyFrom := goodIn_r _ [24, 25, 26, 27, 28, 29, 30, 31, 32, 33, 34, 35, 36, 37, 74, 75, 76, 77, 78, 79, 80, 81, 82, 83, 84, 85] (by decide +kernel) (by decide +kernel)
set_option maxRecDepth 20000 in
theorem gX5_runs_X0_copyFrom : GoodIn wsX5_runs (wsV RX5 81 RX0 yX0_copyFrom wsX0_copyFrom) := goodIn_app (goodIn_of _ (by decide +kernel)) ggX5_runs_X0_copyFrom
set_option maxRecDepth 20000 in
theorem ggX5_runs_X0_crown : GoodIn wsX5_runs wsX0_crown := goodIn_r _ [41, 30, 37, 42, 25, 43, 34, 35, 44, 33, 45, 46, 47, 48, 49, 50, 51, 36, 52, 53, 54, 23, 55, 32, 56, 57, 58, 59, 60, 61, 62, 63, 31, 74, 75, 76, 77, 78, 79, 80, 81, 82, 83, 84, 85] (by decide +kernel) (by decide +kernel)
set_option maxRecDepth 20000 in
theorem gX5_runs_X0_crown : GoodIn wsX5_runs (wsV RX5 158 RX0 yX0_crown wsX0_crown) := goodIn_app (goodIn_of _ (by decide +kernel)) ggX5_runs_X0_crown
theorem dX5_runs_0 : decode cX5_runs 0 = .ok (.aload_n 0, 1) := by decide +kernel
theorem dX5_runs_1 : decode cX5_runs 1 = .ok (.iload_n 1, 1) := by decide +kernel
theorem dX5_runs_2 : decode cX5_runs 2 = .ok (.invokestatic 155, 3) := by decide +kernel
theorem dX5_runs_5 : decode cX5_runs 5 = .ok (.ifCond .eq 16, 3) := by decide +kernel
theorem dX5_runs_8 : decode cX5_runs 8 = .ok (.iload_n 2, 1) := by decide +kernel
theorem dX5_runs_9 : decode cX5_runs 9 = .ok (.iconst 0, 1) := by decide +kernel
theorem dX5_runs_10 : decode cX5_runs 10 = .ok (.iconst 4, 1) := by decide +kernel
theorem dX5_runs_11 : decode cX5_runs 11 = .ok (.invokestatic 57, 3) := by decide +kernel
theorem dX5_runs_14 : decode cX5_runs 14 = .ok (.ifCond .eq 7, 3) := by decide +kernel
theorem dX5_runs_17 : decode cX5_runs 17 = .ok (.iconst 1, 1) := by decide +kernel
theorem dX5_runs_18 : decode cX5_runs 18 = .ok (.goto 4, 3) := by decide +kernel
theorem dX5_runs_21 : decode cX5_runs 21 = .ok (.iconst 0, 1) := by decide +kernel
theorem dX5_runs_22 : decode cX5_runs 22 = .ok (.invokevirtual 148, 3) := by decide +kernel
theorem dX5_runs_25 : decode cX5_runs 25 = .ok (.istore_n 3, 1) := by decide +kernel
theorem dX5_runs_26 : decode cX5_runs 26 = .ok (.iload_n 3, 1) := by decide +kernel
theorem dX5_runs_27 : decode cX5_runs 27 = .ok (.ifCond .eq 5, 3) := by decide +kernel
theorem dX5_runs_30 : decode cX5_runs 30 = .ok (.iload_n 3, 1) := by decide +kernel
theorem dX5_runs_31 : decode cX5_runs 31 = .ok (.ireturn, 1) := by decide +kernel
theorem dX5_runs_32 : decode cX5_runs 32 = .ok (.aload_n 0, 1) := by decide +kernel
theorem dX5_runs_33 : decode cX5_runs 33 = .ok (.getfield 23, 3) := by decide +kernel
theorem dX5_runs_36 : decode cX5_runs 36 = .ok (.aload_n 0, 1) := by decide +kernel
theorem dX5_runs_37 : decode cX5_runs 37 = .ok (.getfield 19, 3) := by decide +kernel
theorem dX5_runs_40 : decode cX5_runs 40 = .ok (.invokevirtual 81, 3) := by decide +kernel
theorem dX5_runs_43 : decode cX5_runs 43 = .ok (.bipush (-4), 2) := by decide +kernel
theorem dX5_runs_45 : decode cX5_runs 45 = .ok (.istore 4, 2) := by decide +kernel
theorem dX5_runs_47 : decode cX5_runs 47 = .ok (.iconst 1, 1) := by decide +kernel
theorem dX5_runs_48 : decode cX5_runs 48 = .ok (.istore 5, 2) := by decide +kernel
theorem dX5_runs_50 : decode cX5_runs 50 = .ok (.iload 5, 2) := by decide +kernel
theorem dX5_runs_52 : decode cX5_runs 52 = .ok (.iload_n 1, 1) := by decide +kernel
theorem dX5_runs_53 : decode cX5_runs 53 = .ok (.if_icmp .gt 38, 3) := by decide +kernel
theorem dX5_runs_56 : decode cX5_runs 56 = .ok (.aload_n 0, 1) := by decide +kernel
theorem dX5_runs_57 : decode cX5_runs 57 = .ok (.getfield 23, 3) := by decide +kernel
theorem dX5_runs_60 : decode cX5_runs 60 = .ok (.iconst 0, 1) := by decide +kernel
theorem dX5_runs_61 : decode cX5_runs 61 = .ok (.invokevirtual 158, 3) := by decide +kernel
theorem dX5_runs_64 : decode cX5_runs 64 = .ok (.aload_n 0, 1) := by decide +kernel
theorem dX5_runs_65 : decode cX5_runs 65 = .ok (.getfield 23, 3) := by decide +kernel
theorem dX5_runs_68 : decode cX5_runs 68 = .ok (.getfield 162, 3) := by decide +kernel
theorem dX5_runs_71 : decode cX5_runs 71 = .ok (.ifCond .ne 14, 3) := by decide +kernel
theorem dX5_runs_74 : decode cX5_runs 74 = .ok (.iload 4, 2) := by decide +kernel
theorem dX5_runs_76 : decode cX5_runs 76 = .ok (.bipush (-4), 2) := by decide +kernel
theorem dX5_runs_78 : decode cX5_runs 78 = .ok (.if_icmp .ne 7, 3) := by decide +kernel
theorem dX5_runs_81 : decode cX5_runs 81 = .ok (.iload 5, 2) := by decide +kernel
theorem dX5_runs_83 : decode cX5_runs 83 = .ok (.istore 4, 2) := by decide +kernel
theorem dX5_runs_85 : decode cX5_runs 85 = .ok (.iinc 5 1, 3) := by decide +kernel
theorem dX5_runs_88 : decode cX5_runs 88 = .ok (.goto (-38), 3) := by decide +kernel
theorem dX5_runs_91 : decode cX5_runs 91 = .ok (.iload_n 2, 1) := by decide +kernel
theorem dX5_runs_92 : decode cX5_runs 92 = .ok (.tableswitch 75 0 3 #[32, 40, 56, 72], 32) := by decide +kernel
theorem dX5_runs_124 : decode cX5_runs 124 = .ok (.aload_n 0, 1) := by decide +kernel
theorem dX5_runs_125 : decode cX5_runs 125 = .ok (.getfield 23, 3) := by decide +kernel
theorem dX5_runs_128 : decode cX5_runs 128 = .ok (.getfield 101, 3) := by decide +kernel
theorem dX5_runs_131 : decode cX5_runs 131 = .ok (.ireturn, 1) := by decide +kernel
theorem dX5_runs_132 : decode cX5_runs 132 = .ok (.aload_n 0, 1) := by decide +kernel
theorem dX5_runs_133 : decode cX5_runs 133 = .ok (.getfield 23, 3) := by decide +kernel
theorem dX5_runs_136 : decode cX5_runs 136 = .ok (.getfield 107, 3) := by decide +kernel
theorem dX5_runs_139 : decode cX5_runs 139 = .ok (.aload_n 0, 1) := by decide +kernel
theorem dX5_runs_140 : decode cX5_runs 140 = .ok (.getfield 19, 3) := by decide +kernel
theorem dX5_runs_143 : decode cX5_runs 143 = .ok (.getfield 107, 3) := by decide +kernel
theorem dX5_runs_146 : decode cX5_runs 146 = .ok (.isub, 1) := by decide +kernel
theorem dX5_runs_147 : decode cX5_runs 147 = .ok (.ireturn, 1) := by decide +kernel
theorem dX5_runs_148 : decode cX5_runs 148 = .ok (.aload_n 0, 1) := by decide +kernel
theorem dX5_runs_149 : decode cX5_runs 149 = .ok (.getfield 23, 3) := by decide +kernel
theorem dX5_runs_152 : decode cX5_runs 152 = .ok (.getfield 110, 3) := by decide +kernel
theorem dX5_runs_155 : decode cX5_runs 155 = .ok (.aload_n 0, 1) := by decide +kernel
theorem dX5_runs_156 : decode cX5_runs 156 = .ok (.getfield 19, 3) := by decide +kernel
theorem dX5_runs_159 : decode cX5_runs 159 = .ok (.getfield 110, 3) := by decide +kernel
theorem dX5_runs_162 : decode cX5_runs 162 = .ok (.isub, 1) := by decide +kernel
theorem dX5_runs_163 : decode cX5_runs 163 = .ok (.ireturn, 1) := by decide +kernel
theorem dX5_runs_164 : decode cX5_runs 164 = .ok (.iload 4, 2) := by decide +kernel
theorem dX5_runs_166 : decode cX5_runs 166 = .ok (.ireturn, 1) := by decide +kernel
theorem dX5_runs_167 : decode cX5_runs 167 = .ok (.aload_n 0, 1) := by decide +kernel
theorem dX5_runs_168 : decode cX5_runs 168 = .ok (.getfield 23, 3) := by decide +kernel
theorem dX5_runs_171 : decode cX5_runs 171 = .ok (.getfield 165, 3) := by decide +kernel
theorem dX5_runs_174 : decode cX5_runs 174 = .ok (.ireturn, 1) := by decide +kernel
set_option maxRecDepth 20000 in
theorem ggX5_ahead_X5_isHeir : GoodIn wsX5_ahead wsX5_isHeir := goodIn_r _ [10, 2, 11, 12, 13, 9, 14, 70, 71, 72, 73, 74, 75, 76, 77, 78, 79, 80, 81, 82, 83, 84, 85, 86, 87, 88, 89, 90, 91] (by decide +kernel) (by decide +kernel)
set_option maxRecDepth 20000 in
theorem gX5_ahead_X5_isHeir : GoodIn wsX5_ahead (wsV RX5 113 RX5 yX5_isHeir wsX5_isHeir) := goodIn_app (goodIn_of _ (by decide +kernel)) ggX5_ahead_X5_isHeir
set_option maxRecDepth 20000 in
theorem ggX5_ahead_X5_isAhead : GoodIn wsX5_ahead wsX5_isAhead := goodIn_r _ [17, 12, 13, 9, 14] (by decide +kernel) (by decide +kernel)
set_option maxRecDepth 20000 in
theorem gX5_ahead_X5_isAhead : GoodIn wsX5_ahead (va_wsS RX5 155 yX5_isAhead wsX5_isAhead) := goodIn_app (goodIn_of _ (by decide +kernel)) ggX5_ahead_X5_isAhead
set_option maxRecDepth 20000 in
theorem ggX5_ahead_X5_within : GoodIn wsX5_ahead wsX5_within := goodIn_r _ [14] (by decide +kernel) (by decide +kernel)
set_option maxRecDepth 20000 in
theorem gX5_ahead_X5_within : GoodIn wsX5_ahead (va_wsS RX5 57 yX5_within wsX5_within) := goodIn_app (goodIn_of _ (by decide +kernel)) ggX5_ahead_X5_within
set_option maxRecDepth 20000 in
theorem ggX5_ahead_X5_refusal : GoodIn wsX5_ahead wsX5_refusal := goodIn_r _ [21, 2, 11, 70, 71, 72, 73, 74, 75, 76, 77, 78, 79, 80, 81, 82, 83, 84, 85, 86, 87, 88, 89, 90, 91] (by decide +kernel) (by decide +kernel)
set_option maxRecDepth 20000 in
theorem gX5_ahead_X5_refusal : GoodIn wsX5_ahead (wsV RX5 148 RX5 yX5_refusal wsX5_refusal) := goodIn_app (goodIn_of _ (by decide +kernel)) ggX5_ahead_X5_refusal
set_option maxRecDepth 20000 in
theorem ggX5_ahead_X0_copyFrom : GoodIn wsX5_ahead wsX0_copyFrom := goodIn_r _ [26, 27, 28, 29, 30, 31, 32, 33, 34, 35, 36, 37, 38, 39, 80, 81, 82, 83, 84, 85, 86, 87, 88, 89, 90, 91] (by decide +kernel) (by decide +kernel)
set_option maxRecDepth 20000 in
theorem gX5_ahead_X0_copyFrom : GoodIn wsX5_ahead (wsV RX5 81 RX0 yX0_copyFrom wsX0_copyFrom) := goodIn_app (goodIn_of _ (by decide +kernel)) ggX5_ahead_X0_copyFrom
set_option maxRecDepth 20000 in
theorem ggX5_ahead_X0_crown : GoodIn wsX5_ahead wsX0_crown := goodIn_r _ [43, 32, 39, 44, 27, 45, 36, 37, 46, 35, 47, 48, 49, 50, 51, 52, 53, 38, 54, 55, 56, 25, 57, 34, 58, 59, 60, 61, 62, 63, 64, 65, 33, 80, 81, 82, 83, 84, 85, 86, 87, 88, 89, 90, 91] (by decide +kernel) (by decide +kernel)
set_option maxRecDepth 20000 in
theorem gX5_ahead_X0_crown : GoodIn wsX5_ahead (wsV RX5 158 RX0 yX0_crown wsX0_crown) := goodIn_app (goodIn_of _ (by decide +kernel)) ggX5_ahead_X0_crown
set_option maxRecDepth 20000 in
theorem ggX5_ahead_X0_placeOf : GoodIn wsX5_ahead wsX0_placeOf := goodIn_r _ [69, 33, 32, 80, 81, 82, 83, 84, 85, 86, 87, 88, 89, 90, 91] (by decide +kernel) (by decide +kernel)
set_option maxRecDepth 20000 in
theorem gX5_ahead_X0_placeOf : GoodIn wsX5_ahead (wsV RX5 124 RX0 yX0_placeOf wsX0_placeOf) := goodIn_app (goodIn_of _ (by decide +kernel)) ggX5_ahead_X0_placeOf
theorem dX5_ahead_0 : decode cX5_ahead 0 = .ok (.aload_n 0, 1) := by decide +kernel
theorem dX5_ahead_1 : decode cX5_ahead 1 = .ok (.aload_n 0, 1) := by decide +kernel
theorem dX5_ahead_2 : decode cX5_ahead 2 = .ok (.iload_n 1, 1) := by decide +kernel
theorem dX5_ahead_3 : decode cX5_ahead 3 = .ok (.invokevirtual 113, 3) := by decide +kernel
theorem dX5_ahead_6 : decode cX5_ahead 6 = .ok (.ifCond .eq 23, 3) := by decide +kernel
theorem dX5_ahead_9 : decode cX5_ahead 9 = .ok (.iload_n 2, 1) := by decide +kernel
theorem dX5_ahead_10 : decode cX5_ahead 10 = .ok (.invokestatic 155, 3) := by decide +kernel
theorem dX5_ahead_13 : decode cX5_ahead 13 = .ok (.ifCond .eq 16, 3) := by decide +kernel
theorem dX5_ahead_16 : decode cX5_ahead 16 = .ok (.iload_n 3, 1) := by decide +kernel
theorem dX5_ahead_17 : decode cX5_ahead 17 = .ok (.iconst 0, 1) := by decide +kernel
theorem dX5_ahead_18 : decode cX5_ahead 18 = .ok (.iconst 2, 1) := by decide +kernel
theorem dX5_ahead_19 : decode cX5_ahead 19 = .ok (.invokestatic 57, 3) := by decide +kernel
theorem dX5_ahead_22 : decode cX5_ahead 22 = .ok (.ifCond .eq 7, 3) := by decide +kernel
theorem dX5_ahead_25 : decode cX5_ahead 25 = .ok (.iconst 1, 1) := by decide +kernel
theorem dX5_ahead_26 : decode cX5_ahead 26 = .ok (.goto 4, 3) := by decide +kernel
theorem dX5_ahead_29 : decode cX5_ahead 29 = .ok (.iconst 0, 1) := by decide +kernel
theorem dX5_ahead_30 : decode cX5_ahead 30 = .ok (.invokevirtual 148, 3) := by decide +kernel
theorem dX5_ahead_33 : decode cX5_ahead 33 = .ok (.istore 4, 2) := by decide +kernel
theorem dX5_ahead_35 : decode cX5_ahead 35 = .ok (.iload 4, 2) := by decide +kernel
theorem dX5_ahead_37 : decode cX5_ahead 37 = .ok (.ifCond .eq 6, 3) := by decide +kernel
theorem dX5_ahead_40 : decode cX5_ahead 40 = .ok (.iload 4, 2) := by decide +kernel
theorem dX5_ahead_42 : decode cX5_ahead 42 = .ok (.ireturn, 1) := by decide +kernel
theorem dX5_ahead_43 : decode cX5_ahead 43 = .ok (.aload_n 0, 1) := by decide +kernel
theorem dX5_ahead_44 : decode cX5_ahead 44 = .ok (.getfield 23, 3) := by decide +kernel
theorem dX5_ahead_47 : decode cX5_ahead 47 = .ok (.aload_n 0, 1) := by decide +kernel
theorem dX5_ahead_48 : decode cX5_ahead 48 = .ok (.getfield 19, 3) := by decide +kernel
theorem dX5_ahead_51 : decode cX5_ahead 51 = .ok (.invokevirtual 81, 3) := by decide +kernel
theorem dX5_ahead_54 : decode cX5_ahead 54 = .ok (.iconst 0, 1) := by decide +kernel
theorem dX5_ahead_55 : decode cX5_ahead 55 = .ok (.istore 5, 2) := by decide +kernel
theorem dX5_ahead_57 : decode cX5_ahead 57 = .ok (.iconst 1, 1) := by decide +kernel
theorem dX5_ahead_58 : decode cX5_ahead 58 = .ok (.istore 6, 2) := by decide +kernel
theorem dX5_ahead_60 : decode cX5_ahead 60 = .ok (.iload 6, 2) := by decide +kernel
theorem dX5_ahead_62 : decode cX5_ahead 62 = .ok (.iload_n 2, 1) := by decide +kernel
theorem dX5_ahead_63 : decode cX5_ahead 63 = .ok (.if_icmp .gt 40, 3) := by decide +kernel
theorem dX5_ahead_66 : decode cX5_ahead 66 = .ok (.aload_n 0, 1) := by decide +kernel
theorem dX5_ahead_67 : decode cX5_ahead 67 = .ok (.getfield 23, 3) := by decide +kernel
theorem dX5_ahead_70 : decode cX5_ahead 70 = .ok (.iconst 0, 1) := by decide +kernel
theorem dX5_ahead_71 : decode cX5_ahead 71 = .ok (.invokevirtual 158, 3) := by decide +kernel
theorem dX5_ahead_74 : decode cX5_ahead 74 = .ok (.aload_n 0, 1) := by decide +kernel
theorem dX5_ahead_75 : decode cX5_ahead 75 = .ok (.getfield 23, 3) := by decide +kernel
theorem dX5_ahead_78 : decode cX5_ahead 78 = .ok (.getfield 165, 3) := by decide +kernel
theorem dX5_ahead_81 : decode cX5_ahead 81 = .ok (.iload_n 1, 1) := by decide +kernel
theorem dX5_ahead_82 : decode cX5_ahead 82 = .ok (.if_icmp .ne 15, 3) := by decide +kernel
theorem dX5_ahead_85 : decode cX5_ahead 85 = .ok (.iload 5, 2) := by decide +kernel
theorem dX5_ahead_87 : decode cX5_ahead 87 = .ok (.aload_n 0, 1) := by decide +kernel
theorem dX5_ahead_88 : decode cX5_ahead 88 = .ok (.getfield 23, 3) := by decide +kernel
theorem dX5_ahead_91 : decode cX5_ahead 91 = .ok (.getfield 168, 3) := by decide +kernel
theorem dX5_ahead_94 : decode cX5_ahead 94 = .ok (.iadd, 1) := by decide +kernel
theorem dX5_ahead_95 : decode cX5_ahead 95 = .ok (.istore 5, 2) := by decide +kernel
theorem dX5_ahead_97 : decode cX5_ahead 97 = .ok (.iinc 6 1, 3) := by decide +kernel
theorem dX5_ahead_100 : decode cX5_ahead 100 = .ok (.goto (-40), 3) := by decide +kernel
theorem dX5_ahead_103 : decode cX5_ahead 103 = .ok (.iload_n 3, 1) := by decide +kernel
theorem dX5_ahead_104 : decode cX5_ahead 104 = .ok (.lookupswitch 49 #[(0, 28), (1, 40)], 28) := by decide +kernel
theorem dX5_ahead_132 : decode cX5_ahead 132 = .ok (.aload_n 0, 1) := by decide +kernel
theorem dX5_ahead_133 : decode cX5_ahead 133 = .ok (.getfield 23, 3) := by decide +kernel
theorem dX5_ahead_136 : decode cX5_ahead 136 = .ok (.getfield 116, 3) := by decide +kernel
theorem dX5_ahead_139 : decode cX5_ahead 139 = .ok (.iconst 1, 1) := by decide +kernel
theorem dX5_ahead_140 : decode cX5_ahead 140 = .ok (.aaload, 1) := by decide +kernel
theorem dX5_ahead_141 : decode cX5_ahead 141 = .ok (.iload_n 1, 1) := by decide +kernel
theorem dX5_ahead_142 : decode cX5_ahead 142 = .ok (.iaload, 1) := by decide +kernel
theorem dX5_ahead_143 : decode cX5_ahead 143 = .ok (.ireturn, 1) := by decide +kernel
theorem dX5_ahead_144 : decode cX5_ahead 144 = .ok (.aload_n 0, 1) := by decide +kernel
theorem dX5_ahead_145 : decode cX5_ahead 145 = .ok (.getfield 23, 3) := by decide +kernel
theorem dX5_ahead_148 : decode cX5_ahead 148 = .ok (.iload_n 1, 1) := by decide +kernel
theorem dX5_ahead_149 : decode cX5_ahead 149 = .ok (.invokevirtual 124, 3) := by decide +kernel
theorem dX5_ahead_152 : decode cX5_ahead 152 = .ok (.ireturn, 1) := by decide +kernel
theorem dX5_ahead_153 : decode cX5_ahead 153 = .ok (.iload 5, 2) := by decide +kernel
theorem dX5_ahead_155 : decode cX5_ahead 155 = .ok (.ireturn, 1) := by decide +kernel
set_option maxRecDepth 20000 in
theorem ggX5_soonest_X5_isHeir : GoodIn wsX5_soonest wsX5_isHeir := goodIn_r _ [5, 6, 7, 8, 9, 4, 10, 65, 66, 67, 68, 69, 70, 71, 72, 73, 74, 75, 76, 77, 78, 79, 80, 81, 82, 83, 84, 85, 86] (by decide +kernel) (by decide +kernel)
set_option maxRecDepth 20000 in
theorem gX5_soonest_X5_isHeir : GoodIn wsX5_soonest (wsV RX5 113 RX5 yX5_isHeir wsX5_isHeir) := goodIn_app (goodIn_of _ (by decide +kernel)) ggX5_soonest_X5_isHeir
set_option maxRecDepth 20000 in
theorem ggX5_soonest_X5_refusal : GoodIn wsX5_soonest wsX5_refusal := goodIn_r _ [14, 6, 7, 65, 66, 67, 68, 69, 70, 71, 72, 73, 74, 75, 76, 77, 78, 79, 80, 81, 82, 83, 84, 85, 86] (by decide +kernel) (by decide +kernel)
set_option maxRecDepth 20000 in
theorem gX5_soonest_X5_refusal : GoodIn wsX5_soonest (wsV RX5 148 RX5 yX5_refusal wsX5_refusal) := goodIn_app (goodIn_of _ (by decide +kernel)) ggX5_soonest_X5_refusal
set_option maxRecDepth 20000 in
theorem ggX5_soonest_X5_firstReignOf : GoodIn wsX5_soonest wsX5_firstReignOf := goodIn_r _ [18, 19, 6, 20, 21, 22, 23, 24, 25, 26, 27, 28, 29, 30, 31, 32, 33, 34, 35, 36, 37, 38, 39, 40, 41, 42, 43, 44, 45, 46, 47, 48, 49, 50, 51, 52, 53, 54, 55, 56, 57, 58, 59, 60, 61, 62, 63, 64, 65, 66, 67, 68, 69, 70, 71, 72, 73, 74, 75, 76, 77, 78, 79, 80, 81, 82, 83, 84, 85, 86] (by decide +kernel) (by decide +kernel)
set_option maxRecDepth 20000 in
theorem gX5_soonest_X5_firstReignOf : GoodIn wsX5_soonest (wsV RX5 171 RX5 yX5_firstReignOf wsX5_firstReignOf) := goodIn_app (goodIn_of _ (by decide +kernel)) ggX5_soonest_X5_firstReignOf
theorem dX5_soonest_0 : decode cX5_soonest 0 = .ok (.aload_n 0, 1) := by decide +kernel
theorem dX5_soonest_1 : decode cX5_soonest 1 = .ok (.aload_n 0, 1) := by decide +kernel
theorem dX5_soonest_2 : decode cX5_soonest 2 = .ok (.iload_n 1, 1) := by decide +kernel
theorem dX5_soonest_3 : decode cX5_soonest 3 = .ok (.invokevirtual 113, 3) := by decide +kernel
theorem dX5_soonest_6 : decode cX5_soonest 6 = .ok (.invokevirtual 148, 3) := by decide +kernel
theorem dX5_soonest_9 : decode cX5_soonest 9 = .ok (.istore_n 2, 1) := by decide +kernel
theorem dX5_soonest_10 : decode cX5_soonest 10 = .ok (.iload_n 2, 1) := by decide +kernel
theorem dX5_soonest_11 : decode cX5_soonest 11 = .ok (.ifCond .eq 7, 3) := by decide +kernel
theorem dX5_soonest_14 : decode cX5_soonest 14 = .ok (.iload_n 2, 1) := by decide +kernel
theorem dX5_soonest_15 : decode cX5_soonest 15 = .ok (.goto 8, 3) := by decide +kernel
theorem dX5_soonest_18 : decode cX5_soonest 18 = .ok (.aload_n 0, 1) := by decide +kernel
theorem dX5_soonest_19 : decode cX5_soonest 19 = .ok (.iload_n 1, 1) := by decide +kernel
theorem dX5_soonest_20 : decode cX5_soonest 20 = .ok (.invokevirtual 171, 3) := by decide +kernel
theorem dX5_soonest_23 : decode cX5_soonest 23 = .ok (.ireturn, 1) := by decide +kernel
set_option maxRecDepth 20000 in
theorem ggX5_again_X5_refusal : GoodIn wsX5_again wsX5_refusal := goodIn_r _ [7, 2, 8, 57, 58, 59, 60, 61, 62, 63, 64, 65, 66, 67, 68, 69, 70, 71, 72, 73, 74, 75, 76, 77, 78] (by decide +kernel) (by decide +kernel)
set_option maxRecDepth 20000 in
theorem gX5_again_X5_refusal : GoodIn wsX5_again (wsV RX5 148 RX5 yX5_refusal wsX5_refusal) := goodIn_app (goodIn_of _ (by decide +kernel)) ggX5_again_X5_refusal
set_option maxRecDepth 20000 in
theorem ggX5_again_X0_copyFrom : GoodIn wsX5_again wsX0_copyFrom := goodIn_r _ [13, 14, 15, 16, 17, 18, 19, 20, 21, 22, 23, 24, 25, 26, 67, 68, 69, 70, 71, 72, 73, 74, 75, 76, 77, 78] (by decide +kernel) (by decide +kernel)
set_option maxRecDepth 20000 in
theorem gX5_again_X0_copyFrom : GoodIn wsX5_again (wsV RX5 81 RX0 yX0_copyFrom wsX0_copyFrom) := goodIn_app (goodIn_of _ (by decide +kernel)) ggX5_again_X0_copyFrom
set_option maxRecDepth 20000 in
theorem ggX5_again_X0_crown : GoodIn wsX5_again wsX0_crown := goodIn_r _ [30, 19, 26, 31, 14, 32, 23, 24, 33, 22, 34, 35, 36, 37, 38, 39, 40, 25, 41, 42, 43, 12, 44, 21, 45, 46, 47, 48, 49, 50, 51, 52, 20, 67, 68, 69, 70, 71, 72, 73, 74, 75, 76, 77, 78] (by decide +kernel) (by decide +kernel)
set_option maxRecDepth 20000 in
theorem gX5_again_X0_crown : GoodIn wsX5_again (wsV RX5 158 RX0 yX0_crown wsX0_crown) := goodIn_app (goodIn_of _ (by decide +kernel)) ggX5_again_X0_crown
set_option maxRecDepth 20000 in
theorem ggX5_again_X0_standsAs : GoodIn wsX5_again wsX0_standsAs := goodIn_r _ [56, 20, 19, 67, 68, 69, 70, 71, 72, 73, 74, 75, 76, 77, 78] (by decide +kernel) (by decide +kernel)
set_option maxRecDepth 20000 in
theorem gX5_again_X0_standsAs : GoodIn wsX5_again (wsV RX5 174 RX0 yX0_standsAs wsX0_standsAs) := goodIn_app (goodIn_of _ (by decide +kernel)) ggX5_again_X0_standsAs
theorem dX5_again_0 : decode cX5_again 0 = .ok (.aload_n 0, 1) := by decide +kernel
theorem dX5_again_1 : decode cX5_again 1 = .ok (.iconst 1, 1) := by decide +kernel
theorem dX5_again_2 : decode cX5_again 2 = .ok (.invokevirtual 148, 3) := by decide +kernel
theorem dX5_again_5 : decode cX5_again 5 = .ok (.istore_n 1, 1) := by decide +kernel
theorem dX5_again_6 : decode cX5_again 6 = .ok (.iload_n 1, 1) := by decide +kernel
theorem dX5_again_7 : decode cX5_again 7 = .ok (.ifCond .eq 5, 3) := by decide +kernel
theorem dX5_again_10 : decode cX5_again 10 = .ok (.iload_n 1, 1) := by decide +kernel
theorem dX5_again_11 : decode cX5_again 11 = .ok (.ireturn, 1) := by decide +kernel
theorem dX5_again_12 : decode cX5_again 12 = .ok (.aload_n 0, 1) := by decide +kernel
theorem dX5_again_13 : decode cX5_again 13 = .ok (.getfield 23, 3) := by decide +kernel
theorem dX5_again_16 : decode cX5_again 16 = .ok (.aload_n 0, 1) := by decide +kernel
theorem dX5_again_17 : decode cX5_again 17 = .ok (.getfield 19, 3) := by decide +kernel
theorem dX5_again_20 : decode cX5_again 20 = .ok (.invokevirtual 81, 3) := by decide +kernel
theorem dX5_again_23 : decode cX5_again 23 = .ok (.iconst 1, 1) := by decide +kernel
theorem dX5_again_24 : decode cX5_again 24 = .ok (.istore_n 2, 1) := by decide +kernel
theorem dX5_again_25 : decode cX5_again 25 = .ok (.iload_n 2, 1) := by decide +kernel
theorem dX5_again_26 : decode cX5_again 26 = .ok (.bipush 60, 2) := by decide +kernel
theorem dX5_again_28 : decode cX5_again 28 = .ok (.if_icmp .gt 33, 3) := by decide +kernel
theorem dX5_again_31 : decode cX5_again 31 = .ok (.aload_n 0, 1) := by decide +kernel
theorem dX5_again_32 : decode cX5_again 32 = .ok (.getfield 23, 3) := by decide +kernel
theorem dX5_again_35 : decode cX5_again 35 = .ok (.iconst 0, 1) := by decide +kernel
theorem dX5_again_36 : decode cX5_again 36 = .ok (.invokevirtual 158, 3) := by decide +kernel
theorem dX5_again_39 : decode cX5_again 39 = .ok (.aload_n 0, 1) := by decide +kernel
theorem dX5_again_40 : decode cX5_again 40 = .ok (.getfield 23, 3) := by decide +kernel
theorem dX5_again_43 : decode cX5_again 43 = .ok (.aload_n 0, 1) := by decide +kernel
theorem dX5_again_44 : decode cX5_again 44 = .ok (.getfield 19, 3) := by decide +kernel
theorem dX5_again_47 : decode cX5_again 47 = .ok (.invokevirtual 174, 3) := by decide +kernel
theorem dX5_again_50 : decode cX5_again 50 = .ok (.ifCond .eq 5, 3) := by decide +kernel
theorem dX5_again_53 : decode cX5_again 53 = .ok (.iload_n 2, 1) := by decide +kernel
theorem dX5_again_54 : decode cX5_again 54 = .ok (.ireturn, 1) := by decide +kernel
theorem dX5_again_55 : decode cX5_again 55 = .ok (.iinc 2 1, 3) := by decide +kernel
theorem dX5_again_58 : decode cX5_again 58 = .ok (.goto (-33), 3) := by decide +kernel
theorem dX5_again_61 : decode cX5_again 61 = .ok (.bipush (-4), 2) := by decide +kernel
theorem dX5_again_63 : decode cX5_again 63 = .ok (.ireturn, 1) := by decide +kernel
set_option maxRecDepth 20000 in
theorem ggX5_ruins_X5_refusal : GoodIn wsX5_ruins wsX5_refusal := goodIn_r _ [8, 2, 9, 54, 55, 56, 57, 58, 59, 60, 61, 62, 63, 64, 65, 66, 67, 68, 69, 70, 71, 72, 73, 74, 75] (by decide +kernel) (by decide +kernel)
set_option maxRecDepth 20000 in
theorem gX5_ruins_X5_refusal : GoodIn wsX5_ruins (wsV RX5 148 RX5 yX5_refusal wsX5_refusal) := goodIn_app (goodIn_of _ (by decide +kernel)) ggX5_ruins_X5_refusal
set_option maxRecDepth 20000 in
theorem ggX5_ruins_X0_copyFrom : GoodIn wsX5_ruins wsX0_copyFrom := goodIn_r _ [14, 15, 16, 17, 18, 19, 20, 21, 22, 23, 24, 25, 26, 27, 64, 65, 66, 67, 68, 69, 70, 71, 72, 73, 74, 75] (by decide +kernel) (by decide +kernel)
set_option maxRecDepth 20000 in
theorem gX5_ruins_X0_copyFrom : GoodIn wsX5_ruins (wsV RX5 81 RX0 yX0_copyFrom wsX0_copyFrom) := goodIn_app (goodIn_of _ (by decide +kernel)) ggX5_ruins_X0_copyFrom
set_option maxRecDepth 20000 in
theorem ggX5_ruins_X0_crown : GoodIn wsX5_ruins wsX0_crown := goodIn_r _ [31, 20, 27, 32, 15, 33, 24, 25, 34, 23, 35, 36, 37, 38, 39, 40, 41, 26, 42, 43, 44, 13, 45, 22, 46, 47, 48, 49, 50, 51, 52, 53, 21, 64, 65, 66, 67, 68, 69, 70, 71, 72, 73, 74, 75] (by decide +kernel) (by decide +kernel)
set_option maxRecDepth 20000 in
theorem gX5_ruins_X0_crown : GoodIn wsX5_ruins (wsV RX5 158 RX0 yX0_crown wsX0_crown) := goodIn_app (goodIn_of _ (by decide +kernel)) ggX5_ruins_X0_crown
theorem dX5_ruins_0 : decode cX5_ruins 0 = .ok (.aload_n 0, 1) := by decide +kernel
theorem dX5_ruins_1 : decode cX5_ruins 1 = .ok (.iconst 1, 1) := by decide +kernel
theorem dX5_ruins_2 : decode cX5_ruins 2 = .ok (.invokevirtual 148, 3) := by decide +kernel
theorem dX5_ruins_5 : decode cX5_ruins 5 = .ok (.istore_n 1, 1) := by decide +kernel
theorem dX5_ruins_6 : decode cX5_ruins 6 = .ok (.iload_n 1, 1) := by decide +kernel
theorem dX5_ruins_7 : decode cX5_ruins 7 = .ok (.ifCond .eq 5, 3) := by decide +kernel
theorem dX5_ruins_10 : decode cX5_ruins 10 = .ok (.iload_n 1, 1) := by decide +kernel
theorem dX5_ruins_11 : decode cX5_ruins 11 = .ok (.ireturn, 1) := by decide +kernel
theorem dX5_ruins_12 : decode cX5_ruins 12 = .ok (.aload_n 0, 1) := by decide +kernel
theorem dX5_ruins_13 : decode cX5_ruins 13 = .ok (.getfield 23, 3) := by decide +kernel
theorem dX5_ruins_16 : decode cX5_ruins 16 = .ok (.aload_n 0, 1) := by decide +kernel
theorem dX5_ruins_17 : decode cX5_ruins 17 = .ok (.getfield 19, 3) := by decide +kernel
theorem dX5_ruins_20 : decode cX5_ruins 20 = .ok (.invokevirtual 81, 3) := by decide +kernel
theorem dX5_ruins_23 : decode cX5_ruins 23 = .ok (.iconst 0, 1) := by decide +kernel
theorem dX5_ruins_24 : decode cX5_ruins 24 = .ok (.istore_n 2, 1) := by decide +kernel
theorem dX5_ruins_25 : decode cX5_ruins 25 = .ok (.iload_n 2, 1) := by decide +kernel
theorem dX5_ruins_26 : decode cX5_ruins 26 = .ok (.bipush 60, 2) := by decide +kernel
theorem dX5_ruins_28 : decode cX5_ruins 28 = .ok (.if_icmp .gt 29, 3) := by decide +kernel
theorem dX5_ruins_31 : decode cX5_ruins 31 = .ok (.aload_n 0, 1) := by decide +kernel
theorem dX5_ruins_32 : decode cX5_ruins 32 = .ok (.getfield 23, 3) := by decide +kernel
theorem dX5_ruins_35 : decode cX5_ruins 35 = .ok (.getfield 101, 3) := by decide +kernel
theorem dX5_ruins_38 : decode cX5_ruins 38 = .ok (.ifCond .ne 5, 3) := by decide +kernel
theorem dX5_ruins_41 : decode cX5_ruins 41 = .ok (.iload_n 2, 1) := by decide +kernel
theorem dX5_ruins_42 : decode cX5_ruins 42 = .ok (.ireturn, 1) := by decide +kernel
theorem dX5_ruins_43 : decode cX5_ruins 43 = .ok (.aload_n 0, 1) := by decide +kernel
theorem dX5_ruins_44 : decode cX5_ruins 44 = .ok (.getfield 23, 3) := by decide +kernel
theorem dX5_ruins_47 : decode cX5_ruins 47 = .ok (.iconst 0, 1) := by decide +kernel
theorem dX5_ruins_48 : decode cX5_ruins 48 = .ok (.invokevirtual 158, 3) := by decide +kernel
theorem dX5_ruins_51 : decode cX5_ruins 51 = .ok (.iinc 2 1, 3) := by decide +kernel
theorem dX5_ruins_54 : decode cX5_ruins 54 = .ok (.goto (-29), 3) := by decide +kernel
theorem dX5_ruins_57 : decode cX5_ruins 57 = .ok (.bipush (-4), 2) := by decide +kernel
theorem dX5_ruins_59 : decode cX5_ruins 59 = .ok (.ireturn, 1) := by decide +kernel
set_option maxRecDepth 20000 in
theorem ggX5_need_X5_isHeir : GoodIn wsX5_need wsX5_isHeir := goodIn_r _ [9, 2, 10, 11, 12, 8, 13, 73, 74, 75, 76, 77, 78, 79, 80, 81, 82, 83, 84, 85, 86, 87, 88, 89, 90, 91, 92, 93, 94] (by decide +kernel) (by decide +kernel)
set_option maxRecDepth 20000 in
theorem gX5_need_X5_isHeir : GoodIn wsX5_need (wsV RX5 113 RX5 yX5_isHeir wsX5_isHeir) := goodIn_app (goodIn_of _ (by decide +kernel)) ggX5_need_X5_isHeir
set_option maxRecDepth 20000 in
theorem ggX5_need_X5_refusal : GoodIn wsX5_need wsX5_refusal := goodIn_r _ [17, 2, 10, 73, 74, 75, 76, 77, 78, 79, 80, 81, 82, 83, 84, 85, 86, 87, 88, 89, 90, 91, 92, 93, 94] (by decide +kernel) (by decide +kernel)
set_option maxRecDepth 20000 in
theorem gX5_need_X5_refusal : GoodIn wsX5_need (wsV RX5 148 RX5 yX5_refusal wsX5_refusal) := goodIn_app (goodIn_of _ (by decide +kernel)) ggX5_need_X5_refusal
set_option maxRecDepth 20000 in
theorem ggX5_need_X5_firstReignOf : GoodIn wsX5_need wsX5_firstReignOf := goodIn_r _ [21, 1, 2, 22, 23, 24, 25, 26, 27, 28, 29, 30, 31, 32, 33, 34, 35, 36, 37, 38, 39, 40, 41, 42, 43, 44, 45, 46, 47, 48, 49, 50, 51, 52, 53, 54, 55, 56, 57, 58, 59, 60, 61, 62, 63, 64, 65, 66, 73, 74, 75, 76, 77, 78, 79, 80, 81, 82, 83, 84, 85, 86, 87, 88, 89, 90, 91, 92, 93, 94] (by decide +kernel) (by decide +kernel)
set_option maxRecDepth 20000 in
theorem gX5_need_X5_firstReignOf : GoodIn wsX5_need (wsV RX5 171 RX5 yX5_firstReignOf wsX5_firstReignOf) := goodIn_app (goodIn_of _ (by decide +kernel)) ggX5_need_X5_firstReignOf
set_option maxRecDepth 20000 in
theorem ggX5_need_X0_copyFrom : GoodIn wsX5_need wsX0_copyFrom := goodIn_r _ [27, 28, 29, 30, 31, 32, 33, 34, 35, 36, 37, 38, 39, 40, 83, 84, 85, 86, 87, 88, 89, 90, 91, 92, 93, 94] (by decide +kernel) (by decide +kernel)
set_option maxRecDepth 20000 in
theorem gX5_need_X0_copyFrom : GoodIn wsX5_need (wsV RX5 81 RX0 yX0_copyFrom wsX0_copyFrom) := goodIn_app (goodIn_of _ (by decide +kernel)) ggX5_need_X0_copyFrom
set_option maxRecDepth 20000 in
theorem ggX5_need_X0_pass : GoodIn wsX5_need wsX0_pass := goodIn_r _ [70, 71, 42, 43, 26, 44, 33, 40, 45, 28, 46, 37, 38, 47, 36, 48, 49, 50, 51, 52, 53, 54, 39, 55, 56, 57, 58, 35, 59, 60, 61, 62, 63, 64, 65, 66, 34, 83, 84, 85, 86, 87, 88, 89, 90, 91, 92, 93, 94] (by decide +kernel) (by decide +kernel)
set_option maxRecDepth 20000 in
theorem gX5_need_X0_pass : GoodIn wsX5_need (wsV RX5 178 RX0 yX0_pass wsX0_pass) := goodIn_app (goodIn_of _ (by decide +kernel)) ggX5_need_X0_pass
set_option maxRecDepth 20000 in
theorem ggX5_need_X0_heightOf : GoodIn wsX5_need wsX0_heightOf := goodIn_r _ [62, 28, 52, 53, 50, 54, 83, 84, 85, 86, 87, 88, 89, 90, 91, 92, 93, 94] (by decide +kernel) (by decide +kernel)
set_option maxRecDepth 20000 in
theorem gX5_need_X0_heightOf : GoodIn wsX5_need (wsV RX5 120 RX0 yX0_heightOf wsX0_heightOf) := goodIn_app (goodIn_of _ (by decide +kernel)) ggX5_need_X0_heightOf
theorem dX5_need_0 : decode cX5_need 0 = .ok (.aload_n 0, 1) := by decide +kernel
theorem dX5_need_1 : decode cX5_need 1 = .ok (.aload_n 0, 1) := by decide +kernel
theorem dX5_need_2 : decode cX5_need 2 = .ok (.iload_n 1, 1) := by decide +kernel
theorem dX5_need_3 : decode cX5_need 3 = .ok (.invokevirtual 113, 3) := by decide +kernel
theorem dX5_need_6 : decode cX5_need 6 = .ok (.invokevirtual 148, 3) := by decide +kernel
theorem dX5_need_9 : decode cX5_need 9 = .ok (.istore_n 2, 1) := by decide +kernel
theorem dX5_need_10 : decode cX5_need 10 = .ok (.iload_n 2, 1) := by decide +kernel
theorem dX5_need_11 : decode cX5_need 11 = .ok (.ifCond .eq 5, 3) := by decide +kernel
theorem dX5_need_14 : decode cX5_need 14 = .ok (.iload_n 2, 1) := by decide +kernel
theorem dX5_need_15 : decode cX5_need 15 = .ok (.ireturn, 1) := by decide +kernel
theorem dX5_need_16 : decode cX5_need 16 = .ok (.aload_n 0, 1) := by decide +kernel
theorem dX5_need_17 : decode cX5_need 17 = .ok (.iload_n 1, 1) := by decide +kernel
theorem dX5_need_18 : decode cX5_need 18 = .ok (.invokevirtual 171, 3) := by decide +kernel
theorem dX5_need_21 : decode cX5_need 21 = .ok (.istore_n 3, 1) := by decide +kernel
theorem dX5_need_22 : decode cX5_need 22 = .ok (.iload_n 3, 1) := by decide +kernel
theorem dX5_need_23 : decode cX5_need 23 = .ok (.bipush (-4), 2) := by decide +kernel
theorem dX5_need_25 : decode cX5_need 25 = .ok (.if_icmp .ne 6, 3) := by decide +kernel
theorem dX5_need_28 : decode cX5_need 28 = .ok (.bipush (-4), 2) := by decide +kernel
theorem dX5_need_30 : decode cX5_need 30 = .ok (.ireturn, 1) := by decide +kernel
theorem dX5_need_31 : decode cX5_need 31 = .ok (.aload_n 0, 1) := by decide +kernel
theorem dX5_need_32 : decode cX5_need 32 = .ok (.getfield 23, 3) := by decide +kernel
theorem dX5_need_35 : decode cX5_need 35 = .ok (.aload_n 0, 1) := by decide +kernel
theorem dX5_need_36 : decode cX5_need 36 = .ok (.getfield 19, 3) := by decide +kernel
theorem dX5_need_39 : decode cX5_need 39 = .ok (.invokevirtual 81, 3) := by decide +kernel
theorem dX5_need_42 : decode cX5_need 42 = .ok (.aload_n 0, 1) := by decide +kernel
theorem dX5_need_43 : decode cX5_need 43 = .ok (.getfield 23, 3) := by decide +kernel
theorem dX5_need_46 : decode cX5_need 46 = .ok (.iload_n 3, 1) := by decide +kernel
theorem dX5_need_47 : decode cX5_need 47 = .ok (.iconst 1, 1) := by decide +kernel
theorem dX5_need_48 : decode cX5_need 48 = .ok (.isub, 1) := by decide +kernel
theorem dX5_need_49 : decode cX5_need 49 = .ok (.invokevirtual 178, 3) := by decide +kernel
theorem dX5_need_52 : decode cX5_need 52 = .ok (.aload_n 0, 1) := by decide +kernel
theorem dX5_need_53 : decode cX5_need 53 = .ok (.getfield 23, 3) := by decide +kernel
theorem dX5_need_56 : decode cX5_need 56 = .ok (.aload_n 0, 1) := by decide +kernel
theorem dX5_need_57 : decode cX5_need 57 = .ok (.getfield 23, 3) := by decide +kernel
theorem dX5_need_60 : decode cX5_need 60 = .ok (.getfield 130, 3) := by decide +kernel
theorem dX5_need_63 : decode cX5_need 63 = .ok (.iconst 0, 1) := by decide +kernel
theorem dX5_need_64 : decode cX5_need 64 = .ok (.iaload, 1) := by decide +kernel
theorem dX5_need_65 : decode cX5_need 65 = .ok (.invokevirtual 120, 3) := by decide +kernel
theorem dX5_need_68 : decode cX5_need 68 = .ok (.aload_n 0, 1) := by decide +kernel
theorem dX5_need_69 : decode cX5_need 69 = .ok (.getfield 23, 3) := by decide +kernel
theorem dX5_need_72 : decode cX5_need 72 = .ok (.getfield 104, 3) := by decide +kernel
theorem dX5_need_75 : decode cX5_need 75 = .ok (.iadd, 1) := by decide +kernel
theorem dX5_need_76 : decode cX5_need 76 = .ok (.istore 4, 2) := by decide +kernel
theorem dX5_need_78 : decode cX5_need 78 = .ok (.iload 4, 2) := by decide +kernel
theorem dX5_need_80 : decode cX5_need 80 = .ok (.bipush 20, 2) := by decide +kernel
theorem dX5_need_82 : decode cX5_need 82 = .ok (.if_icmp .gt 8, 3) := by decide +kernel
theorem dX5_need_85 : decode cX5_need 85 = .ok (.iload 4, 2) := by decide +kernel
theorem dX5_need_87 : decode cX5_need 87 = .ok (.goto 5, 3) := by decide +kernel
theorem dX5_need_90 : decode cX5_need 90 = .ok (.bipush (-4), 2) := by decide +kernel
theorem dX5_need_92 : decode cX5_need 92 = .ok (.ireturn, 1) := by decide +kernel
set_option maxRecDepth 20000 in
theorem ggX5_order_X5_isAhead : GoodIn wsX5_order wsX5_isAhead := goodIn_r _ [7, 8, 9, 6, 10] (by decide +kernel) (by decide +kernel)
set_option maxRecDepth 20000 in
theorem gX5_order_X5_isAhead : GoodIn wsX5_order (va_wsS RX5 155 yX5_isAhead wsX5_isAhead) := goodIn_app (goodIn_of _ (by decide +kernel)) ggX5_order_X5_isAhead
set_option maxRecDepth 20000 in
theorem ggX5_order_X5_isWhichOrMuch : GoodIn wsX5_order wsX5_isWhichOrMuch := goodIn_r _ [13, 8, 9, 6, 10] (by decide +kernel) (by decide +kernel)
set_option maxRecDepth 20000 in
theorem gX5_order_X5_isWhichOrMuch : GoodIn wsX5_order (va_wsS RX5 182 yX5_isWhichOrMuch wsX5_isWhichOrMuch) := goodIn_app (goodIn_of _ (by decide +kernel)) ggX5_order_X5_isWhichOrMuch
set_option maxRecDepth 20000 in
theorem ggX5_order_X5_refusal : GoodIn wsX5_order wsX5_refusal := goodIn_r _ [17, 2, 3, 77, 78, 79, 80, 81, 82, 83, 84, 85, 86, 87, 88, 89, 90, 91, 92, 93, 94, 95, 96, 97, 98] (by decide +kernel) (by decide +kernel)
set_option maxRecDepth 20000 in
theorem gX5_order_X5_refusal : GoodIn wsX5_order (wsV RX5 148 RX5 yX5_refusal wsX5_refusal) := goodIn_app (goodIn_of _ (by decide +kernel)) ggX5_order_X5_refusal
set_option maxRecDepth 20000 in
theorem ggX5_order_X0_copyFrom : GoodIn wsX5_order wsX0_copyFrom := goodIn_r _ [22, 23, 24, 25, 26, 27, 28, 29, 30, 31, 32, 33, 34, 35, 87, 88, 89, 90, 91, 92, 93, 94, 95, 96, 97, 98] (by decide +kernel) (by decide +kernel)
set_option maxRecDepth 20000 in
theorem gX5_order_X0_copyFrom : GoodIn wsX5_order (wsV RX5 81 RX0 yX0_copyFrom wsX0_copyFrom) := goodIn_app (goodIn_of _ (by decide +kernel)) ggX5_order_X0_copyFrom
set_option maxRecDepth 20000 in
theorem ggX5_order_X0_worksBehind : GoodIn wsX5_order wsX0_worksBehind := goodIn_r _ [39, 31, 40, 41, 42, 21, 43, 44, 45, 46, 47, 28, 35, 48, 23, 49, 32, 33, 50, 51, 52, 53, 54, 55, 56, 57, 34, 58, 59, 60, 61, 30, 62, 63, 64, 65, 66, 67, 68, 69, 29, 87, 88, 89, 90, 91, 92, 93, 94, 95, 96, 97, 98] (by decide +kernel) (by decide +kernel)
set_option maxRecDepth 20000 in
theorem gX5_order_X0_worksBehind : GoodIn wsX5_order (wsV RX5 152 RX0 yX0_worksBehind wsX0_worksBehind) := goodIn_app (goodIn_of _ (by decide +kernel)) ggX5_order_X0_worksBehind
set_option maxRecDepth 20000 in
theorem ggX5_order_X0_swap : GoodIn wsX5_order wsX0_swap := goodIn_r _ [73, 28, 87, 88, 89, 90, 91, 92, 93, 94, 95, 96, 97, 98] (by decide +kernel) (by decide +kernel)
set_option maxRecDepth 20000 in
theorem gX5_order_X0_swap : GoodIn wsX5_order (wsV RX5 136 RX0 yX0_swap wsX0_swap) := goodIn_app (goodIn_of _ (by decide +kernel)) ggX5_order_X0_swap
set_option maxRecDepth 20000 in
theorem ggX5_order_X5_whichOrMuch : GoodIn wsX5_order wsX5_whichOrMuch := goodIn_r _ [76] (by decide +kernel) (by decide +kernel)
set_option maxRecDepth 20000 in
theorem gX5_order_X5_whichOrMuch : GoodIn wsX5_order (va_wsS RX5 185 yX5_whichOrMuch wsX5_whichOrMuch) := goodIn_app (goodIn_of _ (by decide +kernel)) ggX5_order_X5_whichOrMuch
theorem dX5_order_0 : decode cX5_order 0 = .ok (.aload_n 0, 1) := by decide +kernel
theorem dX5_order_1 : decode cX5_order 1 = .ok (.iload_n 1, 1) := by decide +kernel
theorem dX5_order_2 : decode cX5_order 2 = .ok (.invokestatic 155, 3) := by decide +kernel
theorem dX5_order_5 : decode cX5_order 5 = .ok (.ifCond .eq 14, 3) := by decide +kernel
theorem dX5_order_8 : decode cX5_order 8 = .ok (.iload_n 2, 1) := by decide +kernel
theorem dX5_order_9 : decode cX5_order 9 = .ok (.invokestatic 182, 3) := by decide +kernel
theorem dX5_order_12 : decode cX5_order 12 = .ok (.ifCond .eq 7, 3) := by decide +kernel
theorem dX5_order_15 : decode cX5_order 15 = .ok (.iconst 1, 1) := by decide +kernel
theorem dX5_order_16 : decode cX5_order 16 = .ok (.goto 4, 3) := by decide +kernel
theorem dX5_order_19 : decode cX5_order 19 = .ok (.iconst 0, 1) := by decide +kernel
theorem dX5_order_20 : decode cX5_order 20 = .ok (.invokevirtual 148, 3) := by decide +kernel
theorem dX5_order_23 : decode cX5_order 23 = .ok (.istore_n 3, 1) := by decide +kernel
theorem dX5_order_24 : decode cX5_order 24 = .ok (.iload_n 3, 1) := by decide +kernel
theorem dX5_order_25 : decode cX5_order 25 = .ok (.ifCond .eq 5, 3) := by decide +kernel
theorem dX5_order_28 : decode cX5_order 28 = .ok (.iload_n 3, 1) := by decide +kernel
theorem dX5_order_29 : decode cX5_order 29 = .ok (.ireturn, 1) := by decide +kernel
theorem dX5_order_30 : decode cX5_order 30 = .ok (.aload_n 0, 1) := by decide +kernel
theorem dX5_order_31 : decode cX5_order 31 = .ok (.getfield 23, 3) := by decide +kernel
theorem dX5_order_34 : decode cX5_order 34 = .ok (.aload_n 0, 1) := by decide +kernel
theorem dX5_order_35 : decode cX5_order 35 = .ok (.getfield 19, 3) := by decide +kernel
theorem dX5_order_38 : decode cX5_order 38 = .ok (.invokevirtual 81, 3) := by decide +kernel
theorem dX5_order_41 : decode cX5_order 41 = .ok (.aload_n 0, 1) := by decide +kernel
theorem dX5_order_42 : decode cX5_order 42 = .ok (.getfield 23, 3) := by decide +kernel
theorem dX5_order_45 : decode cX5_order 45 = .ok (.iload_n 1, 1) := by decide +kernel
theorem dX5_order_46 : decode cX5_order 46 = .ok (.invokevirtual 152, 3) := by decide +kernel
theorem dX5_order_49 : decode cX5_order 49 = .ok (.istore 4, 2) := by decide +kernel
theorem dX5_order_51 : decode cX5_order 51 = .ok (.bipush (-4), 2) := by decide +kernel
theorem dX5_order_53 : decode cX5_order 53 = .ok (.istore 5, 2) := by decide +kernel
theorem dX5_order_55 : decode cX5_order 55 = .ok (.iconst 0, 1) := by decide +kernel
theorem dX5_order_56 : decode cX5_order 56 = .ok (.istore 6, 2) := by decide +kernel
theorem dX5_order_58 : decode cX5_order 58 = .ok (.iload 6, 2) := by decide +kernel
theorem dX5_order_60 : decode cX5_order 60 = .ok (.aload_n 0, 1) := by decide +kernel
theorem dX5_order_61 : decode cX5_order 61 = .ok (.getfield 19, 3) := by decide +kernel
theorem dX5_order_64 : decode cX5_order 64 = .ok (.getfield 95, 3) := by decide +kernel
theorem dX5_order_67 : decode cX5_order 67 = .ok (.if_icmp .ge 86, 3) := by decide +kernel
theorem dX5_order_70 : decode cX5_order 70 = .ok (.iload 6, 2) := by decide +kernel
theorem dX5_order_72 : decode cX5_order 72 = .ok (.iconst 1, 1) := by decide +kernel
theorem dX5_order_73 : decode cX5_order 73 = .ok (.iadd, 1) := by decide +kernel
theorem dX5_order_74 : decode cX5_order 74 = .ok (.istore 7, 2) := by decide +kernel
theorem dX5_order_76 : decode cX5_order 76 = .ok (.iload 7, 2) := by decide +kernel
theorem dX5_order_78 : decode cX5_order 78 = .ok (.aload_n 0, 1) := by decide +kernel
theorem dX5_order_79 : decode cX5_order 79 = .ok (.getfield 19, 3) := by decide +kernel
theorem dX5_order_82 : decode cX5_order 82 = .ok (.getfield 95, 3) := by decide +kernel
theorem dX5_order_85 : decode cX5_order 85 = .ok (.if_icmp .ge 62, 3) := by decide +kernel
theorem dX5_order_88 : decode cX5_order 88 = .ok (.aload_n 0, 1) := by decide +kernel
theorem dX5_order_89 : decode cX5_order 89 = .ok (.getfield 23, 3) := by decide +kernel
theorem dX5_order_92 : decode cX5_order 92 = .ok (.aload_n 0, 1) := by decide +kernel
theorem dX5_order_93 : decode cX5_order 93 = .ok (.getfield 19, 3) := by decide +kernel
theorem dX5_order_96 : decode cX5_order 96 = .ok (.invokevirtual 81, 3) := by decide +kernel
theorem dX5_order_99 : decode cX5_order 99 = .ok (.aload_n 0, 1) := by decide +kernel
theorem dX5_order_100 : decode cX5_order 100 = .ok (.getfield 23, 3) := by decide +kernel
theorem dX5_order_103 : decode cX5_order 103 = .ok (.iload 6, 2) := by decide +kernel
theorem dX5_order_105 : decode cX5_order 105 = .ok (.iload 7, 2) := by decide +kernel
theorem dX5_order_107 : decode cX5_order 107 = .ok (.invokevirtual 136, 3) := by decide +kernel
theorem dX5_order_110 : decode cX5_order 110 = .ok (.aload_n 0, 1) := by decide +kernel
theorem dX5_order_111 : decode cX5_order 111 = .ok (.getfield 23, 3) := by decide +kernel
theorem dX5_order_114 : decode cX5_order 114 = .ok (.iload_n 1, 1) := by decide +kernel
theorem dX5_order_115 : decode cX5_order 115 = .ok (.invokevirtual 152, 3) := by decide +kernel
theorem dX5_order_118 : decode cX5_order 118 = .ok (.istore 8, 2) := by decide +kernel
theorem dX5_order_120 : decode cX5_order 120 = .ok (.iload 8, 2) := by decide +kernel
theorem dX5_order_122 : decode cX5_order 122 = .ok (.iload 4, 2) := by decide +kernel
theorem dX5_order_124 : decode cX5_order 124 = .ok (.if_icmp .le 17, 3) := by decide +kernel
theorem dX5_order_127 : decode cX5_order 127 = .ok (.iload 8, 2) := by decide +kernel
theorem dX5_order_129 : decode cX5_order 129 = .ok (.istore 4, 2) := by decide +kernel
theorem dX5_order_131 : decode cX5_order 131 = .ok (.bipush 10, 2) := by decide +kernel
theorem dX5_order_133 : decode cX5_order 133 = .ok (.iload 6, 2) := by decide +kernel
theorem dX5_order_135 : decode cX5_order 135 = .ok (.imul, 1) := by decide +kernel
theorem dX5_order_136 : decode cX5_order 136 = .ok (.iload 7, 2) := by decide +kernel
theorem dX5_order_138 : decode cX5_order 138 = .ok (.iadd, 1) := by decide +kernel
theorem dX5_order_139 : decode cX5_order 139 = .ok (.istore 5, 2) := by decide +kernel
theorem dX5_order_141 : decode cX5_order 141 = .ok (.iinc 7 1, 3) := by decide +kernel
theorem dX5_order_144 : decode cX5_order 144 = .ok (.goto (-68), 3) := by decide +kernel
theorem dX5_order_147 : decode cX5_order 147 = .ok (.iinc 6 1, 3) := by decide +kernel
theorem dX5_order_150 : decode cX5_order 150 = .ok (.goto (-92), 3) := by decide +kernel
theorem dX5_order_153 : decode cX5_order 153 = .ok (.iload_n 2, 1) := by decide +kernel
theorem dX5_order_154 : decode cX5_order 154 = .ok (.iload 5, 2) := by decide +kernel
theorem dX5_order_156 : decode cX5_order 156 = .ok (.iload 4, 2) := by decide +kernel
theorem dX5_order_158 : decode cX5_order 158 = .ok (.invokestatic 185, 3) := by decide +kernel
theorem dX5_order_161 : decode cX5_order 161 = .ok (.ireturn, 1) := by decide +kernel
set_option maxRecDepth 20000 in
theorem ggX5_stool_X5_isAhead : GoodIn wsX5_stool wsX5_isAhead := goodIn_r _ [8, 9, 10, 7, 11] (by decide +kernel) (by decide +kernel)
set_option maxRecDepth 20000 in
theorem gX5_stool_X5_isAhead : GoodIn wsX5_stool (va_wsS RX5 155 yX5_isAhead wsX5_isAhead) := goodIn_app (goodIn_of _ (by decide +kernel)) ggX5_stool_X5_isAhead
set_option maxRecDepth 20000 in
theorem ggX5_stool_X5_isWhichOrMuch : GoodIn wsX5_stool wsX5_isWhichOrMuch := goodIn_r _ [14, 9, 10, 7, 11] (by decide +kernel) (by decide +kernel)
set_option maxRecDepth 20000 in
theorem gX5_stool_X5_isWhichOrMuch : GoodIn wsX5_stool (va_wsS RX5 182 yX5_isWhichOrMuch wsX5_isWhichOrMuch) := goodIn_app (goodIn_of _ (by decide +kernel)) ggX5_stool_X5_isWhichOrMuch
set_option maxRecDepth 20000 in
theorem ggX5_stool_X5_refusal : GoodIn wsX5_stool wsX5_refusal := goodIn_r _ [18, 2, 3, 74, 75, 76, 77, 78, 79, 80, 81, 82, 83, 84, 85, 86, 87, 88, 89, 90, 91, 92, 93, 94, 95] (by decide +kernel) (by decide +kernel)
set_option maxRecDepth 20000 in
theorem gX5_stool_X5_refusal : GoodIn wsX5_stool (wsV RX5 148 RX5 yX5_refusal wsX5_refusal) := goodIn_app (goodIn_of _ (by decide +kernel)) ggX5_stool_X5_refusal
set_option maxRecDepth 20000 in
theorem ggX5_stool_X0_copyFrom : GoodIn wsX5_stool wsX0_copyFrom := goodIn_r _ [23, 24, 25, 26, 27, 28, 29, 30, 31, 32, 33, 34, 35, 36, 84, 85, 86, 87, 88, 89, 90, 91, 92, 93, 94, 95] (by decide +kernel) (by decide +kernel)
set_option maxRecDepth 20000 in
theorem gX5_stool_X0_copyFrom : GoodIn wsX5_stool (wsV RX5 81 RX0 yX0_copyFrom wsX0_copyFrom) := goodIn_app (goodIn_of _ (by decide +kernel)) ggX5_stool_X0_copyFrom
set_option maxRecDepth 20000 in
theorem ggX5_stool_X0_fallsIn : GoodIn wsX5_stool wsX0_fallsIn := goodIn_r _ [40, 35, 41, 42, 43, 22, 44, 45, 46, 47, 48, 29, 36, 49, 24, 50, 33, 34, 51, 32, 52, 53, 54, 55, 56, 57, 58, 59, 60, 61, 62, 31, 63, 64, 65, 66, 67, 68, 69, 70, 30, 84, 85, 86, 87, 88, 89, 90, 91, 92, 93, 94, 95] (by decide +kernel) (by decide +kernel)
set_option maxRecDepth 20000 in
theorem gX5_stool_X0_fallsIn : GoodIn wsX5_stool (wsV RX5 189 RX0 yX0_fallsIn wsX0_fallsIn) := goodIn_app (goodIn_of _ (by decide +kernel)) ggX5_stool_X0_fallsIn
set_option maxRecDepth 20000 in
theorem ggX5_stool_X5_whichOrMuch : GoodIn wsX5_stool wsX5_whichOrMuch := goodIn_r _ [73] (by decide +kernel) (by decide +kernel)
set_option maxRecDepth 20000 in
theorem gX5_stool_X5_whichOrMuch : GoodIn wsX5_stool (va_wsS RX5 185 yX5_whichOrMuch wsX5_whichOrMuch) := goodIn_app (goodIn_of _ (by decide +kernel)) ggX5_stool_X5_whichOrMuch
theorem dX5_stool_0 : decode cX5_stool 0 = .ok (.aload_n 0, 1) := by decide +kernel
theorem dX5_stool_1 : decode cX5_stool 1 = .ok (.iload_n 1, 1) := by decide +kernel
theorem dX5_stool_2 : decode cX5_stool 2 = .ok (.invokestatic 155, 3) := by decide +kernel
theorem dX5_stool_5 : decode cX5_stool 5 = .ok (.ifCond .eq 14, 3) := by decide +kernel
theorem dX5_stool_8 : decode cX5_stool 8 = .ok (.iload_n 2, 1) := by decide +kernel
theorem dX5_stool_9 : decode cX5_stool 9 = .ok (.invokestatic 182, 3) := by decide +kernel
theorem dX5_stool_12 : decode cX5_stool 12 = .ok (.ifCond .eq 7, 3) := by decide +kernel
theorem dX5_stool_15 : decode cX5_stool 15 = .ok (.iconst 1, 1) := by decide +kernel
theorem dX5_stool_16 : decode cX5_stool 16 = .ok (.goto 4, 3) := by decide +kernel
theorem dX5_stool_19 : decode cX5_stool 19 = .ok (.iconst 0, 1) := by decide +kernel
theorem dX5_stool_20 : decode cX5_stool 20 = .ok (.invokevirtual 148, 3) := by decide +kernel
theorem dX5_stool_23 : decode cX5_stool 23 = .ok (.istore_n 3, 1) := by decide +kernel
theorem dX5_stool_24 : decode cX5_stool 24 = .ok (.iload_n 3, 1) := by decide +kernel
theorem dX5_stool_25 : decode cX5_stool 25 = .ok (.ifCond .eq 5, 3) := by decide +kernel
theorem dX5_stool_28 : decode cX5_stool 28 = .ok (.iload_n 3, 1) := by decide +kernel
theorem dX5_stool_29 : decode cX5_stool 29 = .ok (.ireturn, 1) := by decide +kernel
theorem dX5_stool_30 : decode cX5_stool 30 = .ok (.aload_n 0, 1) := by decide +kernel
theorem dX5_stool_31 : decode cX5_stool 31 = .ok (.getfield 23, 3) := by decide +kernel
theorem dX5_stool_34 : decode cX5_stool 34 = .ok (.aload_n 0, 1) := by decide +kernel
theorem dX5_stool_35 : decode cX5_stool 35 = .ok (.getfield 19, 3) := by decide +kernel
theorem dX5_stool_38 : decode cX5_stool 38 = .ok (.invokevirtual 81, 3) := by decide +kernel
theorem dX5_stool_41 : decode cX5_stool 41 = .ok (.aload_n 0, 1) := by decide +kernel
theorem dX5_stool_42 : decode cX5_stool 42 = .ok (.getfield 23, 3) := by decide +kernel
theorem dX5_stool_45 : decode cX5_stool 45 = .ok (.iload_n 1, 1) := by decide +kernel
theorem dX5_stool_46 : decode cX5_stool 46 = .ok (.invokevirtual 189, 3) := by decide +kernel
theorem dX5_stool_49 : decode cX5_stool 49 = .ok (.istore 4, 2) := by decide +kernel
theorem dX5_stool_51 : decode cX5_stool 51 = .ok (.bipush (-4), 2) := by decide +kernel
theorem dX5_stool_53 : decode cX5_stool 53 = .ok (.istore 5, 2) := by decide +kernel
theorem dX5_stool_55 : decode cX5_stool 55 = .ok (.iconst 0, 1) := by decide +kernel
theorem dX5_stool_56 : decode cX5_stool 56 = .ok (.istore 6, 2) := by decide +kernel
theorem dX5_stool_58 : decode cX5_stool 58 = .ok (.iload 6, 2) := by decide +kernel
theorem dX5_stool_60 : decode cX5_stool 60 = .ok (.aload_n 0, 1) := by decide +kernel
theorem dX5_stool_61 : decode cX5_stool 61 = .ok (.getfield 19, 3) := by decide +kernel
theorem dX5_stool_64 : decode cX5_stool 64 = .ok (.getfield 95, 3) := by decide +kernel
theorem dX5_stool_67 : decode cX5_stool 67 = .ok (.if_icmp .ge 58, 3) := by decide +kernel
theorem dX5_stool_70 : decode cX5_stool 70 = .ok (.aload_n 0, 1) := by decide +kernel
theorem dX5_stool_71 : decode cX5_stool 71 = .ok (.getfield 23, 3) := by decide +kernel
theorem dX5_stool_74 : decode cX5_stool 74 = .ok (.aload_n 0, 1) := by decide +kernel
theorem dX5_stool_75 : decode cX5_stool 75 = .ok (.getfield 19, 3) := by decide +kernel
theorem dX5_stool_78 : decode cX5_stool 78 = .ok (.invokevirtual 81, 3) := by decide +kernel
theorem dX5_stool_81 : decode cX5_stool 81 = .ok (.aload_n 0, 1) := by decide +kernel
theorem dX5_stool_82 : decode cX5_stool 82 = .ok (.getfield 23, 3) := by decide +kernel
theorem dX5_stool_85 : decode cX5_stool 85 = .ok (.getfield 116, 3) := by decide +kernel
theorem dX5_stool_88 : decode cX5_stool 88 = .ok (.iconst 0, 1) := by decide +kernel
theorem dX5_stool_89 : decode cX5_stool 89 = .ok (.aaload, 1) := by decide +kernel
theorem dX5_stool_90 : decode cX5_stool 90 = .ok (.iload 6, 2) := by decide +kernel
theorem dX5_stool_92 : decode cX5_stool 92 = .ok (.iconst 3, 1) := by decide +kernel
theorem dX5_stool_93 : decode cX5_stool 93 = .ok (.iastore, 1) := by decide +kernel
theorem dX5_stool_94 : decode cX5_stool 94 = .ok (.aload_n 0, 1) := by decide +kernel
theorem dX5_stool_95 : decode cX5_stool 95 = .ok (.getfield 23, 3) := by decide +kernel
theorem dX5_stool_98 : decode cX5_stool 98 = .ok (.iload_n 1, 1) := by decide +kernel
theorem dX5_stool_99 : decode cX5_stool 99 = .ok (.invokevirtual 189, 3) := by decide +kernel
theorem dX5_stool_102 : decode cX5_stool 102 = .ok (.istore 7, 2) := by decide +kernel
theorem dX5_stool_104 : decode cX5_stool 104 = .ok (.iload 7, 2) := by decide +kernel
theorem dX5_stool_106 : decode cX5_stool 106 = .ok (.iload 4, 2) := by decide +kernel
theorem dX5_stool_108 : decode cX5_stool 108 = .ok (.if_icmp .ge 11, 3) := by decide +kernel
theorem dX5_stool_111 : decode cX5_stool 111 = .ok (.iload 7, 2) := by decide +kernel
theorem dX5_stool_113 : decode cX5_stool 113 = .ok (.istore 4, 2) := by decide +kernel
theorem dX5_stool_115 : decode cX5_stool 115 = .ok (.iload 6, 2) := by decide +kernel
theorem dX5_stool_117 : decode cX5_stool 117 = .ok (.istore 5, 2) := by decide +kernel
theorem dX5_stool_119 : decode cX5_stool 119 = .ok (.iinc 6 1, 3) := by decide +kernel
theorem dX5_stool_122 : decode cX5_stool 122 = .ok (.goto (-64), 3) := by decide +kernel
theorem dX5_stool_125 : decode cX5_stool 125 = .ok (.iload_n 2, 1) := by decide +kernel
theorem dX5_stool_126 : decode cX5_stool 126 = .ok (.iload 5, 2) := by decide +kernel
theorem dX5_stool_128 : decode cX5_stool 128 = .ok (.iload 4, 2) := by decide +kernel
theorem dX5_stool_130 : decode cX5_stool 130 = .ok (.invokestatic 185, 3) := by decide +kernel
theorem dX5_stool_133 : decode cX5_stool 133 = .ok (.ireturn, 1) := by decide +kernel
set_option maxRecDepth 20000 in
theorem ggX5_term_X5_isHeir : GoodIn wsX5_term wsX5_isHeir := goodIn_r _ [8, 2, 9, 10, 11, 7, 12, 78, 79, 80, 81, 82, 83, 84, 85, 86, 87, 88, 89, 90, 91, 92, 93, 94, 95, 96, 97, 98, 99] (by decide +kernel) (by decide +kernel)
set_option maxRecDepth 20000 in
theorem gX5_term_X5_isHeir : GoodIn wsX5_term (wsV RX5 113 RX5 yX5_isHeir wsX5_isHeir) := goodIn_app (goodIn_of _ (by decide +kernel)) ggX5_term_X5_isHeir
set_option maxRecDepth 20000 in
theorem ggX5_term_X5_isAhead : GoodIn wsX5_term wsX5_isAhead := goodIn_r _ [15, 10, 11, 7, 12] (by decide +kernel) (by decide +kernel)
set_option maxRecDepth 20000 in
theorem gX5_term_X5_isAhead : GoodIn wsX5_term (va_wsS RX5 155 yX5_isAhead wsX5_isAhead) := goodIn_app (goodIn_of _ (by decide +kernel)) ggX5_term_X5_isAhead
set_option maxRecDepth 20000 in
theorem ggX5_term_X5_isWhichOrMuch : GoodIn wsX5_term wsX5_isWhichOrMuch := goodIn_r _ [18, 10, 11, 7, 12] (by decide +kernel) (by decide +kernel)
set_option maxRecDepth 20000 in
theorem gX5_term_X5_isWhichOrMuch : GoodIn wsX5_term (va_wsS RX5 182 yX5_isWhichOrMuch wsX5_isWhichOrMuch) := goodIn_app (goodIn_of _ (by decide +kernel)) ggX5_term_X5_isWhichOrMuch
set_option maxRecDepth 20000 in
theorem ggX5_term_X5_refusal : GoodIn wsX5_term wsX5_refusal := goodIn_r _ [22, 2, 9, 78, 79, 80, 81, 82, 83, 84, 85, 86, 87, 88, 89, 90, 91, 92, 93, 94, 95, 96, 97, 98, 99] (by decide +kernel) (by decide +kernel)
set_option maxRecDepth 20000 in
theorem gX5_term_X5_refusal : GoodIn wsX5_term (wsV RX5 148 RX5 yX5_refusal wsX5_refusal) := goodIn_app (goodIn_of _ (by decide +kernel)) ggX5_term_X5_refusal
set_option maxRecDepth 20000 in
theorem ggX5_term_X0_copyFrom : GoodIn wsX5_term wsX0_copyFrom := goodIn_r _ [27, 28, 29, 30, 31, 32, 33, 34, 35, 36, 37, 38, 39, 40, 88, 89, 90, 91, 92, 93, 94, 95, 96, 97, 98, 99] (by decide +kernel) (by decide +kernel)
set_option maxRecDepth 20000 in
theorem gX5_term_X0_copyFrom : GoodIn wsX5_term (wsV RX5 81 RX0 yX0_copyFrom wsX0_copyFrom) := goodIn_app (goodIn_of _ (by decide +kernel)) ggX5_term_X0_copyFrom
set_option maxRecDepth 20000 in
theorem ggX5_term_X0_worksBehind : GoodIn wsX5_term wsX0_worksBehind := goodIn_r _ [44, 36, 45, 46, 47, 26, 48, 49, 50, 51, 52, 33, 40, 53, 28, 54, 37, 38, 55, 56, 57, 58, 59, 60, 61, 62, 39, 63, 64, 65, 66, 35, 67, 68, 69, 70, 71, 72, 73, 74, 34, 88, 89, 90, 91, 92, 93, 94, 95, 96, 97, 98, 99] (by decide +kernel) (by decide +kernel)
set_option maxRecDepth 20000 in
theorem gX5_term_X0_worksBehind : GoodIn wsX5_term (wsV RX5 152 RX0 yX0_worksBehind wsX0_worksBehind) := goodIn_app (goodIn_of _ (by decide +kernel)) ggX5_term_X0_worksBehind
set_option maxRecDepth 20000 in
theorem ggX5_term_X5_whichOrMuch : GoodIn wsX5_term wsX5_whichOrMuch := goodIn_r _ [77] (by decide +kernel) (by decide +kernel)
set_option maxRecDepth 20000 in
theorem gX5_term_X5_whichOrMuch : GoodIn wsX5_term (va_wsS RX5 185 yX5_whichOrMuch wsX5_whichOrMuch) := goodIn_app (goodIn_of _ (by decide +kernel)) ggX5_term_X5_whichOrMuch
theorem dX5_term_0 : decode cX5_term 0 = .ok (.aload_n 0, 1) := by decide +kernel
theorem dX5_term_1 : decode cX5_term 1 = .ok (.aload_n 0, 1) := by decide +kernel
theorem dX5_term_2 : decode cX5_term 2 = .ok (.iload_n 1, 1) := by decide +kernel
theorem dX5_term_3 : decode cX5_term 3 = .ok (.invokevirtual 113, 3) := by decide +kernel
theorem dX5_term_6 : decode cX5_term 6 = .ok (.ifCond .eq 21, 3) := by decide +kernel
theorem dX5_term_9 : decode cX5_term 9 = .ok (.iload_n 2, 1) := by decide +kernel
theorem dX5_term_10 : decode cX5_term 10 = .ok (.invokestatic 155, 3) := by decide +kernel
theorem dX5_term_13 : decode cX5_term 13 = .ok (.ifCond .eq 14, 3) := by decide +kernel
theorem dX5_term_16 : decode cX5_term 16 = .ok (.iload_n 3, 1) := by decide +kernel
theorem dX5_term_17 : decode cX5_term 17 = .ok (.invokestatic 182, 3) := by decide +kernel
theorem dX5_term_20 : decode cX5_term 20 = .ok (.ifCond .eq 7, 3) := by decide +kernel
theorem dX5_term_23 : decode cX5_term 23 = .ok (.iconst 1, 1) := by decide +kernel
theorem dX5_term_24 : decode cX5_term 24 = .ok (.goto 4, 3) := by decide +kernel
theorem dX5_term_27 : decode cX5_term 27 = .ok (.iconst 0, 1) := by decide +kernel
theorem dX5_term_28 : decode cX5_term 28 = .ok (.invokevirtual 148, 3) := by decide +kernel
theorem dX5_term_31 : decode cX5_term 31 = .ok (.istore 4, 2) := by decide +kernel
theorem dX5_term_33 : decode cX5_term 33 = .ok (.iload 4, 2) := by decide +kernel
theorem dX5_term_35 : decode cX5_term 35 = .ok (.ifCond .eq 6, 3) := by decide +kernel
theorem dX5_term_38 : decode cX5_term 38 = .ok (.iload 4, 2) := by decide +kernel
theorem dX5_term_40 : decode cX5_term 40 = .ok (.ireturn, 1) := by decide +kernel
theorem dX5_term_41 : decode cX5_term 41 = .ok (.iconst (-1), 1) := by decide +kernel
theorem dX5_term_42 : decode cX5_term 42 = .ok (.istore 5, 2) := by decide +kernel
theorem dX5_term_44 : decode cX5_term 44 = .ok (.bipush (-4), 2) := by decide +kernel
theorem dX5_term_46 : decode cX5_term 46 = .ok (.istore 6, 2) := by decide +kernel
theorem dX5_term_48 : decode cX5_term 48 = .ok (.iconst 1, 1) := by decide +kernel
theorem dX5_term_49 : decode cX5_term 49 = .ok (.istore 7, 2) := by decide +kernel
theorem dX5_term_51 : decode cX5_term 51 = .ok (.iload 7, 2) := by decide +kernel
theorem dX5_term_53 : decode cX5_term 53 = .ok (.bipush 30, 2) := by decide +kernel
theorem dX5_term_55 : decode cX5_term 55 = .ok (.if_icmp .gt 58, 3) := by decide +kernel
theorem dX5_term_58 : decode cX5_term 58 = .ok (.aload_n 0, 1) := by decide +kernel
theorem dX5_term_59 : decode cX5_term 59 = .ok (.getfield 23, 3) := by decide +kernel
theorem dX5_term_62 : decode cX5_term 62 = .ok (.aload_n 0, 1) := by decide +kernel
theorem dX5_term_63 : decode cX5_term 63 = .ok (.getfield 19, 3) := by decide +kernel
theorem dX5_term_66 : decode cX5_term 66 = .ok (.invokevirtual 81, 3) := by decide +kernel
theorem dX5_term_69 : decode cX5_term 69 = .ok (.aload_n 0, 1) := by decide +kernel
theorem dX5_term_70 : decode cX5_term 70 = .ok (.getfield 23, 3) := by decide +kernel
theorem dX5_term_73 : decode cX5_term 73 = .ok (.getfield 116, 3) := by decide +kernel
theorem dX5_term_76 : decode cX5_term 76 = .ok (.iconst 3, 1) := by decide +kernel
theorem dX5_term_77 : decode cX5_term 77 = .ok (.aaload, 1) := by decide +kernel
theorem dX5_term_78 : decode cX5_term 78 = .ok (.iload_n 1, 1) := by decide +kernel
theorem dX5_term_79 : decode cX5_term 79 = .ok (.iload 7, 2) := by decide +kernel
theorem dX5_term_81 : decode cX5_term 81 = .ok (.iastore, 1) := by decide +kernel
theorem dX5_term_82 : decode cX5_term 82 = .ok (.aload_n 0, 1) := by decide +kernel
theorem dX5_term_83 : decode cX5_term 83 = .ok (.getfield 23, 3) := by decide +kernel
theorem dX5_term_86 : decode cX5_term 86 = .ok (.iload_n 2, 1) := by decide +kernel
theorem dX5_term_87 : decode cX5_term 87 = .ok (.invokevirtual 152, 3) := by decide +kernel
theorem dX5_term_90 : decode cX5_term 90 = .ok (.istore 8, 2) := by decide +kernel
theorem dX5_term_92 : decode cX5_term 92 = .ok (.iload 8, 2) := by decide +kernel
theorem dX5_term_94 : decode cX5_term 94 = .ok (.iload 5, 2) := by decide +kernel
theorem dX5_term_96 : decode cX5_term 96 = .ok (.if_icmp .le 11, 3) := by decide +kernel
theorem dX5_term_99 : decode cX5_term 99 = .ok (.iload 8, 2) := by decide +kernel
theorem dX5_term_101 : decode cX5_term 101 = .ok (.istore 5, 2) := by decide +kernel
theorem dX5_term_103 : decode cX5_term 103 = .ok (.iload 7, 2) := by decide +kernel
theorem dX5_term_105 : decode cX5_term 105 = .ok (.istore 6, 2) := by decide +kernel
theorem dX5_term_107 : decode cX5_term 107 = .ok (.iinc 7 1, 3) := by decide +kernel
theorem dX5_term_110 : decode cX5_term 110 = .ok (.goto (-59), 3) := by decide +kernel
theorem dX5_term_113 : decode cX5_term 113 = .ok (.iload_n 3, 1) := by decide +kernel
theorem dX5_term_114 : decode cX5_term 114 = .ok (.iload 6, 2) := by decide +kernel
theorem dX5_term_116 : decode cX5_term 116 = .ok (.iload 5, 2) := by decide +kernel
theorem dX5_term_118 : decode cX5_term 118 = .ok (.invokestatic 185, 3) := by decide +kernel
theorem dX5_term_121 : decode cX5_term 121 = .ok (.ireturn, 1) := by decide +kernel
set_option maxRecDepth 20000 in
theorem ggX5_ache_X5_isAhead : GoodIn wsX5_ache wsX5_isAhead := goodIn_r _ [7, 8, 9, 6, 10] (by decide +kernel) (by decide +kernel)
set_option maxRecDepth 20000 in
theorem gX5_ache_X5_isAhead : GoodIn wsX5_ache (va_wsS RX5 155 yX5_isAhead wsX5_isAhead) := goodIn_app (goodIn_of _ (by decide +kernel)) ggX5_ache_X5_isAhead
set_option maxRecDepth 20000 in
theorem ggX5_ache_X5_isWhichOrMuch : GoodIn wsX5_ache wsX5_isWhichOrMuch := goodIn_r _ [13, 8, 9, 6, 10] (by decide +kernel) (by decide +kernel)
set_option maxRecDepth 20000 in
theorem gX5_ache_X5_isWhichOrMuch : GoodIn wsX5_ache (va_wsS RX5 182 yX5_isWhichOrMuch wsX5_isWhichOrMuch) := goodIn_app (goodIn_of _ (by decide +kernel)) ggX5_ache_X5_isWhichOrMuch
set_option maxRecDepth 20000 in
theorem ggX5_ache_X5_refusal : GoodIn wsX5_ache wsX5_refusal := goodIn_r _ [17, 2, 18, 74, 75, 76, 77, 78, 79, 80, 81, 82, 83, 84, 85, 86, 87, 88, 89, 90, 91, 92, 93, 94, 95] (by decide +kernel) (by decide +kernel)
set_option maxRecDepth 20000 in
theorem gX5_ache_X5_refusal : GoodIn wsX5_ache (wsV RX5 148 RX5 yX5_refusal wsX5_refusal) := goodIn_app (goodIn_of _ (by decide +kernel)) ggX5_ache_X5_refusal
set_option maxRecDepth 20000 in
theorem ggX5_ache_X0_copyFrom : GoodIn wsX5_ache wsX0_copyFrom := goodIn_r _ [23, 24, 25, 26, 27, 28, 29, 30, 31, 32, 33, 34, 35, 36, 84, 85, 86, 87, 88, 89, 90, 91, 92, 93, 94, 95] (by decide +kernel) (by decide +kernel)
set_option maxRecDepth 20000 in
theorem gX5_ache_X0_copyFrom : GoodIn wsX5_ache (wsV RX5 81 RX0 yX0_copyFrom wsX0_copyFrom) := goodIn_app (goodIn_of _ (by decide +kernel)) ggX5_ache_X0_copyFrom
set_option maxRecDepth 20000 in
theorem ggX5_ache_X0_worksBehind : GoodIn wsX5_ache wsX0_worksBehind := goodIn_r _ [40, 32, 41, 42, 43, 22, 44, 45, 46, 47, 48, 29, 36, 49, 24, 50, 33, 34, 51, 52, 53, 54, 55, 56, 57, 58, 35, 59, 60, 61, 62, 31, 63, 64, 65, 66, 67, 68, 69, 70, 30, 84, 85, 86, 87, 88, 89, 90, 91, 92, 93, 94, 95] (by decide +kernel) (by decide +kernel)
set_option maxRecDepth 20000 in
theorem gX5_ache_X0_worksBehind : GoodIn wsX5_ache (wsV RX5 152 RX0 yX0_worksBehind wsX0_worksBehind) := goodIn_app (goodIn_of _ (by decide +kernel)) ggX5_ache_X0_worksBehind
set_option maxRecDepth 20000 in
theorem ggX5_ache_X5_whichOrMuch : GoodIn wsX5_ache wsX5_whichOrMuch := goodIn_r _ [73] (by decide +kernel) (by decide +kernel)
set_option maxRecDepth 20000 in
theorem gX5_ache_X5_whichOrMuch : GoodIn wsX5_ache (va_wsS RX5 185 yX5_whichOrMuch wsX5_whichOrMuch) := goodIn_app (goodIn_of _ (by decide +kernel)) ggX5_ache_X5_whichOrMuch
theorem dX5_ache_0 : decode cX5_ache 0 = .ok (.aload_n 0, 1) := by decide +kernel
theorem dX5_ache_1 : decode cX5_ache 1 = .ok (.iload_n 1, 1) := by decide +kernel
theorem dX5_ache_2 : decode cX5_ache 2 = .ok (.invokestatic 155, 3) := by decide +kernel
theorem dX5_ache_5 : decode cX5_ache 5 = .ok (.ifCond .eq 14, 3) := by decide +kernel
theorem dX5_ache_8 : decode cX5_ache 8 = .ok (.iload_n 2, 1) := by decide +kernel
theorem dX5_ache_9 : decode cX5_ache 9 = .ok (.invokestatic 182, 3) := by decide +kernel
theorem dX5_ache_12 : decode cX5_ache 12 = .ok (.ifCond .eq 7, 3) := by decide +kernel
theorem dX5_ache_15 : decode cX5_ache 15 = .ok (.iconst 1, 1) := by decide +kernel
theorem dX5_ache_16 : decode cX5_ache 16 = .ok (.goto 4, 3) := by decide +kernel
theorem dX5_ache_19 : decode cX5_ache 19 = .ok (.iconst 0, 1) := by decide +kernel
theorem dX5_ache_20 : decode cX5_ache 20 = .ok (.invokevirtual 148, 3) := by decide +kernel
theorem dX5_ache_23 : decode cX5_ache 23 = .ok (.istore_n 3, 1) := by decide +kernel
theorem dX5_ache_24 : decode cX5_ache 24 = .ok (.iload_n 3, 1) := by decide +kernel
theorem dX5_ache_25 : decode cX5_ache 25 = .ok (.ifCond .eq 5, 3) := by decide +kernel
theorem dX5_ache_28 : decode cX5_ache 28 = .ok (.iload_n 3, 1) := by decide +kernel
theorem dX5_ache_29 : decode cX5_ache 29 = .ok (.ireturn, 1) := by decide +kernel
theorem dX5_ache_30 : decode cX5_ache 30 = .ok (.iconst (-1), 1) := by decide +kernel
theorem dX5_ache_31 : decode cX5_ache 31 = .ok (.istore 4, 2) := by decide +kernel
theorem dX5_ache_33 : decode cX5_ache 33 = .ok (.bipush (-4), 2) := by decide +kernel
theorem dX5_ache_35 : decode cX5_ache 35 = .ok (.istore 5, 2) := by decide +kernel
theorem dX5_ache_37 : decode cX5_ache 37 = .ok (.iconst 0, 1) := by decide +kernel
theorem dX5_ache_38 : decode cX5_ache 38 = .ok (.istore 6, 2) := by decide +kernel
theorem dX5_ache_40 : decode cX5_ache 40 = .ok (.iload 6, 2) := by decide +kernel
theorem dX5_ache_42 : decode cX5_ache 42 = .ok (.bipush 9, 2) := by decide +kernel
theorem dX5_ache_44 : decode cX5_ache 44 = .ok (.if_icmp .gt 54, 3) := by decide +kernel
theorem dX5_ache_47 : decode cX5_ache 47 = .ok (.aload_n 0, 1) := by decide +kernel
theorem dX5_ache_48 : decode cX5_ache 48 = .ok (.getfield 23, 3) := by decide +kernel
theorem dX5_ache_51 : decode cX5_ache 51 = .ok (.aload_n 0, 1) := by decide +kernel
theorem dX5_ache_52 : decode cX5_ache 52 = .ok (.getfield 19, 3) := by decide +kernel
theorem dX5_ache_55 : decode cX5_ache 55 = .ok (.invokevirtual 81, 3) := by decide +kernel
theorem dX5_ache_58 : decode cX5_ache 58 = .ok (.aload_n 0, 1) := by decide +kernel
theorem dX5_ache_59 : decode cX5_ache 59 = .ok (.getfield 23, 3) := by decide +kernel
theorem dX5_ache_62 : decode cX5_ache 62 = .ok (.iload 6, 2) := by decide +kernel
theorem dX5_ache_64 : decode cX5_ache 64 = .ok (.putfield 104, 3) := by decide +kernel
theorem dX5_ache_67 : decode cX5_ache 67 = .ok (.aload_n 0, 1) := by decide +kernel
theorem dX5_ache_68 : decode cX5_ache 68 = .ok (.getfield 23, 3) := by decide +kernel
theorem dX5_ache_71 : decode cX5_ache 71 = .ok (.iload_n 1, 1) := by decide +kernel
theorem dX5_ache_72 : decode cX5_ache 72 = .ok (.invokevirtual 152, 3) := by decide +kernel
theorem dX5_ache_75 : decode cX5_ache 75 = .ok (.istore 7, 2) := by decide +kernel
theorem dX5_ache_77 : decode cX5_ache 77 = .ok (.iload 7, 2) := by decide +kernel
theorem dX5_ache_79 : decode cX5_ache 79 = .ok (.iload 4, 2) := by decide +kernel
theorem dX5_ache_81 : decode cX5_ache 81 = .ok (.if_icmp .le 11, 3) := by decide +kernel
theorem dX5_ache_84 : decode cX5_ache 84 = .ok (.iload 7, 2) := by decide +kernel
theorem dX5_ache_86 : decode cX5_ache 86 = .ok (.istore 4, 2) := by decide +kernel
theorem dX5_ache_88 : decode cX5_ache 88 = .ok (.iload 6, 2) := by decide +kernel
theorem dX5_ache_90 : decode cX5_ache 90 = .ok (.istore 5, 2) := by decide +kernel
theorem dX5_ache_92 : decode cX5_ache 92 = .ok (.iinc 6 1, 3) := by decide +kernel
theorem dX5_ache_95 : decode cX5_ache 95 = .ok (.goto (-55), 3) := by decide +kernel
theorem dX5_ache_98 : decode cX5_ache 98 = .ok (.iload_n 2, 1) := by decide +kernel
theorem dX5_ache_99 : decode cX5_ache 99 = .ok (.iload 5, 2) := by decide +kernel
theorem dX5_ache_101 : decode cX5_ache 101 = .ok (.iload 4, 2) := by decide +kernel
theorem dX5_ache_103 : decode cX5_ache 103 = .ok (.invokestatic 185, 3) := by decide +kernel
theorem dX5_ache_106 : decode cX5_ache 106 = .ok (.ireturn, 1) := by decide +kernel
set_option maxRecDepth 20000 in
theorem ggX5_builder_X5_within : GoodIn wsX5_builder wsX5_within := goodIn_r _ [7] (by decide +kernel) (by decide +kernel)
set_option maxRecDepth 20000 in
theorem gX5_builder_X5_within : GoodIn wsX5_builder (va_wsS RX5 57 yX5_within wsX5_within) := goodIn_app (goodIn_of _ (by decide +kernel)) ggX5_builder_X5_within
set_option maxRecDepth 20000 in
theorem ggX5_builder_X5_isWhichOrMuch : GoodIn wsX5_builder wsX5_isWhichOrMuch := goodIn_r _ [10, 4, 5, 6, 7] (by decide +kernel) (by decide +kernel)
set_option maxRecDepth 20000 in
theorem gX5_builder_X5_isWhichOrMuch : GoodIn wsX5_builder (va_wsS RX5 182 yX5_isWhichOrMuch wsX5_isWhichOrMuch) := goodIn_app (goodIn_of _ (by decide +kernel)) ggX5_builder_X5_isWhichOrMuch
set_option maxRecDepth 20000 in
theorem ggX5_builder_X5_refusal : GoodIn wsX5_builder wsX5_refusal := goodIn_r _ [14, 1, 2, 70, 71, 72, 73, 74, 75, 76, 77, 78, 79, 80, 81, 82, 83, 84, 85, 86, 87, 88, 89, 90, 91] (by decide +kernel) (by decide +kernel)
set_option maxRecDepth 20000 in
theorem gX5_builder_X5_refusal : GoodIn wsX5_builder (wsV RX5 148 RX5 yX5_refusal wsX5_refusal) := goodIn_app (goodIn_of _ (by decide +kernel)) ggX5_builder_X5_refusal
set_option maxRecDepth 20000 in
theorem ggX5_builder_X5_countBuilding : GoodIn wsX5_builder wsX5_countBuilding := goodIn_r _ [18, 19, 1, 3, 20, 21, 22, 23, 24, 25, 26, 27, 28, 29, 30, 31, 32, 33, 34, 35, 36, 37, 38, 39, 40, 41, 42, 43, 44, 45, 46, 47, 48, 49, 50, 51, 52, 53, 54, 55, 56, 57, 58, 59, 60, 61, 62, 63, 64, 65, 66, 70, 71, 72, 73, 74, 75, 76, 77, 78, 79, 80, 81, 82, 83, 84, 85, 86, 87, 88, 89, 90, 91] (by decide +kernel) (by decide +kernel)
set_option maxRecDepth 20000 in
theorem gX5_builder_X5_countBuilding : GoodIn wsX5_builder (wsV RX5 192 RX5 yX5_countBuilding wsX5_countBuilding) := goodIn_app (goodIn_of _ (by decide +kernel)) ggX5_builder_X5_countBuilding
set_option maxRecDepth 20000 in
theorem ggX5_builder_X5_whichOrMuch : GoodIn wsX5_builder wsX5_whichOrMuch := goodIn_r _ [69] (by decide +kernel) (by decide +kernel)
set_option maxRecDepth 20000 in
theorem gX5_builder_X5_whichOrMuch : GoodIn wsX5_builder (va_wsS RX5 185 yX5_whichOrMuch wsX5_whichOrMuch) := goodIn_app (goodIn_of _ (by decide +kernel)) ggX5_builder_X5_whichOrMuch
theorem dX5_builder_0 : decode cX5_builder 0 = .ok (.aload_n 0, 1) := by decide +kernel
theorem dX5_builder_1 : decode cX5_builder 1 = .ok (.iload_n 1, 1) := by decide +kernel
theorem dX5_builder_2 : decode cX5_builder 2 = .ok (.iconst 1, 1) := by decide +kernel
theorem dX5_builder_3 : decode cX5_builder 3 = .ok (.bipush 60, 2) := by decide +kernel
theorem dX5_builder_5 : decode cX5_builder 5 = .ok (.invokestatic 57, 3) := by decide +kernel
theorem dX5_builder_8 : decode cX5_builder 8 = .ok (.ifCond .eq 14, 3) := by decide +kernel
theorem dX5_builder_11 : decode cX5_builder 11 = .ok (.iload_n 2, 1) := by decide +kernel
theorem dX5_builder_12 : decode cX5_builder 12 = .ok (.invokestatic 182, 3) := by decide +kernel
theorem dX5_builder_15 : decode cX5_builder 15 = .ok (.ifCond .eq 7, 3) := by decide +kernel
theorem dX5_builder_18 : decode cX5_builder 18 = .ok (.iconst 1, 1) := by decide +kernel
theorem dX5_builder_19 : decode cX5_builder 19 = .ok (.goto 4, 3) := by decide +kernel
theorem dX5_builder_22 : decode cX5_builder 22 = .ok (.iconst 0, 1) := by decide +kernel
theorem dX5_builder_23 : decode cX5_builder 23 = .ok (.invokevirtual 148, 3) := by decide +kernel
theorem dX5_builder_26 : decode cX5_builder 26 = .ok (.istore_n 3, 1) := by decide +kernel
theorem dX5_builder_27 : decode cX5_builder 27 = .ok (.iload_n 3, 1) := by decide +kernel
theorem dX5_builder_28 : decode cX5_builder 28 = .ok (.ifCond .eq 5, 3) := by decide +kernel
theorem dX5_builder_31 : decode cX5_builder 31 = .ok (.iload_n 3, 1) := by decide +kernel
theorem dX5_builder_32 : decode cX5_builder 32 = .ok (.ireturn, 1) := by decide +kernel
theorem dX5_builder_33 : decode cX5_builder 33 = .ok (.aload_n 0, 1) := by decide +kernel
theorem dX5_builder_34 : decode cX5_builder 34 = .ok (.iload_n 1, 1) := by decide +kernel
theorem dX5_builder_35 : decode cX5_builder 35 = .ok (.invokevirtual 192, 3) := by decide +kernel
theorem dX5_builder_38 : decode cX5_builder 38 = .ok (.iconst 0, 1) := by decide +kernel
theorem dX5_builder_39 : decode cX5_builder 39 = .ok (.istore 4, 2) := by decide +kernel
theorem dX5_builder_41 : decode cX5_builder 41 = .ok (.iconst 1, 1) := by decide +kernel
theorem dX5_builder_42 : decode cX5_builder 42 = .ok (.istore 5, 2) := by decide +kernel
theorem dX5_builder_44 : decode cX5_builder 44 = .ok (.iload 5, 2) := by decide +kernel
theorem dX5_builder_46 : decode cX5_builder 46 = .ok (.aload_n 0, 1) := by decide +kernel
theorem dX5_builder_47 : decode cX5_builder 47 = .ok (.getfield 19, 3) := by decide +kernel
theorem dX5_builder_50 : decode cX5_builder 50 = .ok (.getfield 95, 3) := by decide +kernel
theorem dX5_builder_53 : decode cX5_builder 53 = .ok (.if_icmp .ge 30, 3) := by decide +kernel
theorem dX5_builder_56 : decode cX5_builder 56 = .ok (.aload_n 0, 1) := by decide +kernel
theorem dX5_builder_57 : decode cX5_builder 57 = .ok (.getfield 51, 3) := by decide +kernel
theorem dX5_builder_60 : decode cX5_builder 60 = .ok (.iload 5, 2) := by decide +kernel
theorem dX5_builder_62 : decode cX5_builder 62 = .ok (.iaload, 1) := by decide +kernel
theorem dX5_builder_63 : decode cX5_builder 63 = .ok (.aload_n 0, 1) := by decide +kernel
theorem dX5_builder_64 : decode cX5_builder 64 = .ok (.getfield 51, 3) := by decide +kernel
theorem dX5_builder_67 : decode cX5_builder 67 = .ok (.iload 4, 2) := by decide +kernel
theorem dX5_builder_69 : decode cX5_builder 69 = .ok (.iaload, 1) := by decide +kernel
theorem dX5_builder_70 : decode cX5_builder 70 = .ok (.if_icmp .le 7, 3) := by decide +kernel
theorem dX5_builder_73 : decode cX5_builder 73 = .ok (.iload 5, 2) := by decide +kernel
theorem dX5_builder_75 : decode cX5_builder 75 = .ok (.istore 4, 2) := by decide +kernel
theorem dX5_builder_77 : decode cX5_builder 77 = .ok (.iinc 5 1, 3) := by decide +kernel
theorem dX5_builder_80 : decode cX5_builder 80 = .ok (.goto (-36), 3) := by decide +kernel
theorem dX5_builder_83 : decode cX5_builder 83 = .ok (.iload_n 2, 1) := by decide +kernel
theorem dX5_builder_84 : decode cX5_builder 84 = .ok (.iload 4, 2) := by decide +kernel
theorem dX5_builder_86 : decode cX5_builder 86 = .ok (.aload_n 0, 1) := by decide +kernel
theorem dX5_builder_87 : decode cX5_builder 87 = .ok (.getfield 51, 3) := by decide +kernel
theorem dX5_builder_90 : decode cX5_builder 90 = .ok (.iload 4, 2) := by decide +kernel
theorem dX5_builder_92 : decode cX5_builder 92 = .ok (.iaload, 1) := by decide +kernel
theorem dX5_builder_93 : decode cX5_builder 93 = .ok (.invokestatic 185, 3) := by decide +kernel
theorem dX5_builder_96 : decode cX5_builder 96 = .ok (.ireturn, 1) := by decide +kernel
set_option maxRecDepth 20000 in
theorem ggX5_luck_X5_isOdds : GoodIn wsX5_luck wsX5_isOdds := goodIn_r _ [6, 7, 8, 5, 9, 10, 11, 12] (by decide +kernel) (by decide +kernel)
set_option maxRecDepth 20000 in
theorem gX5_luck_X5_isOdds : GoodIn wsX5_luck (va_wsS RX5 195 yX5_isOdds wsX5_isOdds) := goodIn_app (goodIn_of _ (by decide +kernel)) ggX5_luck_X5_isOdds
set_option maxRecDepth 20000 in
theorem ggX5_luck_X5_isHeir : GoodIn wsX5_luck wsX5_isHeir := goodIn_r _ [16, 17, 18, 7, 8, 5, 9, 78, 79, 80, 81, 82, 83, 84, 85, 86, 87, 88, 89, 90, 91, 92, 93, 94, 95, 96, 97, 98, 99] (by decide +kernel) (by decide +kernel)
set_option maxRecDepth 20000 in
theorem gX5_luck_X5_isHeir : GoodIn wsX5_luck (wsV RX5 113 RX5 yX5_isHeir wsX5_isHeir) := goodIn_app (goodIn_of _ (by decide +kernel)) ggX5_luck_X5_isHeir
set_option maxRecDepth 20000 in
theorem ggX5_luck_X5_refusal : GoodIn wsX5_luck wsX5_refusal := goodIn_r _ [22, 17, 18, 78, 79, 80, 81, 82, 83, 84, 85, 86, 87, 88, 89, 90, 91, 92, 93, 94, 95, 96, 97, 98, 99] (by decide +kernel) (by decide +kernel)
set_option maxRecDepth 20000 in
theorem gX5_luck_X5_refusal : GoodIn wsX5_luck (wsV RX5 148 RX5 yX5_refusal wsX5_refusal) := goodIn_app (goodIn_of _ (by decide +kernel)) ggX5_luck_X5_refusal
set_option maxRecDepth 20000 in
theorem ggX5_luck_X5_weightOf : GoodIn wsX5_luck wsX5_weightOf := goodIn_r _ [26, 1, 17, 27, 28, 29, 30, 31, 32, 33, 34, 35, 36, 37, 38, 39, 40, 41, 42, 43, 44, 45, 46, 47, 48, 49, 50, 51, 52, 53, 54, 55, 56, 57, 58, 59, 60, 61, 62, 63, 64, 65, 66, 67, 68, 69, 70, 78, 79, 80, 81, 82, 83, 84, 85, 86, 87, 88, 89, 90, 91, 92, 93, 94, 95, 96, 97, 98, 99] (by decide +kernel) (by decide +kernel)
set_option maxRecDepth 20000 in
theorem gX5_luck_X5_weightOf : GoodIn wsX5_luck (wsV RX5 198 RX5 yX5_weightOf wsX5_weightOf) := goodIn_app (goodIn_of _ (by decide +kernel)) ggX5_luck_X5_weightOf
set_option maxRecDepth 20000 in
theorem ggX5_luck_X5_tenTo : GoodIn wsX5_luck wsX5_tenTo := goodIn_r _ [73, 74] (by decide +kernel) (by decide +kernel)
set_option maxRecDepth 20000 in
theorem gX5_luck_X5_tenTo : GoodIn wsX5_luck (va_wsS RX5 202 yX5_tenTo wsX5_tenTo) := goodIn_app (goodIn_of _ (by decide +kernel)) ggX5_luck_X5_tenTo
set_option maxRecDepth 20000 in
theorem ggX5_luck_X5_partOfFraction : GoodIn wsX5_luck wsX5_partOfFraction := goodIn_r _ [77] (by decide +kernel) (by decide +kernel)
set_option maxRecDepth 20000 in
theorem gX5_luck_X5_partOfFraction : GoodIn wsX5_luck (va_wsS RX5 206 yX5_partOfFraction wsX5_partOfFraction) := goodIn_app (goodIn_of _ (by decide +kernel)) ggX5_luck_X5_partOfFraction
theorem dX5_luck_0 : decode cX5_luck 0 = .ok (.aload_n 0, 1) := by decide +kernel
theorem dX5_luck_1 : decode cX5_luck 1 = .ok (.iload_n 1, 1) := by decide +kernel
theorem dX5_luck_2 : decode cX5_luck 2 = .ok (.iload_n 3, 1) := by decide +kernel
theorem dX5_luck_3 : decode cX5_luck 3 = .ok (.iload 4, 2) := by decide +kernel
theorem dX5_luck_5 : decode cX5_luck 5 = .ok (.invokestatic 195, 3) := by decide +kernel
theorem dX5_luck_8 : decode cX5_luck 8 = .ok (.ifCond .eq 15, 3) := by decide +kernel
theorem dX5_luck_11 : decode cX5_luck 11 = .ok (.aload_n 0, 1) := by decide +kernel
theorem dX5_luck_12 : decode cX5_luck 12 = .ok (.iload_n 2, 1) := by decide +kernel
theorem dX5_luck_13 : decode cX5_luck 13 = .ok (.invokevirtual 113, 3) := by decide +kernel
theorem dX5_luck_16 : decode cX5_luck 16 = .ok (.ifCond .eq 7, 3) := by decide +kernel
theorem dX5_luck_19 : decode cX5_luck 19 = .ok (.iconst 1, 1) := by decide +kernel
theorem dX5_luck_20 : decode cX5_luck 20 = .ok (.goto 4, 3) := by decide +kernel
theorem dX5_luck_23 : decode cX5_luck 23 = .ok (.iconst 0, 1) := by decide +kernel
theorem dX5_luck_24 : decode cX5_luck 24 = .ok (.invokevirtual 148, 3) := by decide +kernel
theorem dX5_luck_27 : decode cX5_luck 27 = .ok (.istore 5, 2) := by decide +kernel
theorem dX5_luck_29 : decode cX5_luck 29 = .ok (.iload 5, 2) := by decide +kernel
theorem dX5_luck_31 : decode cX5_luck 31 = .ok (.ifCond .eq 7, 3) := by decide +kernel
theorem dX5_luck_34 : decode cX5_luck 34 = .ok (.iload 5, 2) := by decide +kernel
theorem dX5_luck_36 : decode cX5_luck 36 = .ok (.i2l, 1) := by decide +kernel
theorem dX5_luck_37 : decode cX5_luck 37 = .ok (.lreturn, 1) := by decide +kernel
theorem dX5_luck_38 : decode cX5_luck 38 = .ok (.lconst 0, 1) := by decide +kernel
theorem dX5_luck_39 : decode cX5_luck 39 = .ok (.lstore 6, 2) := by decide +kernel
theorem dX5_luck_41 : decode cX5_luck 41 = .ok (.iconst 0, 1) := by decide +kernel
theorem dX5_luck_42 : decode cX5_luck 42 = .ok (.istore 8, 2) := by decide +kernel
theorem dX5_luck_44 : decode cX5_luck 44 = .ok (.iload 8, 2) := by decide +kernel
theorem dX5_luck_46 : decode cX5_luck 46 = .ok (.iconst 1, 1) := by decide +kernel
theorem dX5_luck_47 : decode cX5_luck 47 = .ok (.iload_n 3, 1) := by decide +kernel
theorem dX5_luck_48 : decode cX5_luck 48 = .ok (.ishl, 1) := by decide +kernel
theorem dX5_luck_49 : decode cX5_luck 49 = .ok (.if_icmp .ge 37, 3) := by decide +kernel
theorem dX5_luck_52 : decode cX5_luck 52 = .ok (.aload_n 0, 1) := by decide +kernel
theorem dX5_luck_53 : decode cX5_luck 53 = .ok (.iload 8, 2) := by decide +kernel
theorem dX5_luck_55 : decode cX5_luck 55 = .ok (.iload_n 1, 1) := by decide +kernel
theorem dX5_luck_56 : decode cX5_luck 56 = .ok (.iload_n 3, 1) := by decide +kernel
theorem dX5_luck_57 : decode cX5_luck 57 = .ok (.invokevirtual 198, 3) := by decide +kernel
theorem dX5_luck_60 : decode cX5_luck 60 = .ok (.lstore 9, 2) := by decide +kernel
theorem dX5_luck_62 : decode cX5_luck 62 = .ok (.aload_n 0, 1) := by decide +kernel
theorem dX5_luck_63 : decode cX5_luck 63 = .ok (.getfield 23, 3) := by decide +kernel
theorem dX5_luck_66 : decode cX5_luck 66 = .ok (.getfield 165, 3) := by decide +kernel
theorem dX5_luck_69 : decode cX5_luck 69 = .ok (.iload_n 2, 1) := by decide +kernel
theorem dX5_luck_70 : decode cX5_luck 70 = .ok (.if_icmp .ne 10, 3) := by decide +kernel
theorem dX5_luck_73 : decode cX5_luck 73 = .ok (.lload 6, 2) := by decide +kernel
theorem dX5_luck_75 : decode cX5_luck 75 = .ok (.lload 9, 2) := by decide +kernel
theorem dX5_luck_77 : decode cX5_luck 77 = .ok (.ladd, 1) := by decide +kernel
theorem dX5_luck_78 : decode cX5_luck 78 = .ok (.lstore 6, 2) := by decide +kernel
theorem dX5_luck_80 : decode cX5_luck 80 = .ok (.iinc 8 1, 3) := by decide +kernel
theorem dX5_luck_83 : decode cX5_luck 83 = .ok (.goto (-39), 3) := by decide +kernel
theorem dX5_luck_86 : decode cX5_luck 86 = .ok (.lload 6, 2) := by decide +kernel
theorem dX5_luck_88 : decode cX5_luck 88 = .ok (.iload_n 3, 1) := by decide +kernel
theorem dX5_luck_89 : decode cX5_luck 89 = .ok (.invokestatic 202, 3) := by decide +kernel
theorem dX5_luck_92 : decode cX5_luck 92 = .ok (.iload 4, 2) := by decide +kernel
theorem dX5_luck_94 : decode cX5_luck 94 = .ok (.invokestatic 206, 3) := by decide +kernel
theorem dX5_luck_97 : decode cX5_luck 97 = .ok (.lreturn, 1) := by decide +kernel
set_option maxRecDepth 20000 in
theorem ggX5_mean_X5_isOdds : GoodIn wsX5_mean wsX5_isOdds := goodIn_r _ [6, 7, 8, 5, 9, 10, 11, 12] (by decide +kernel) (by decide +kernel)
set_option maxRecDepth 20000 in
theorem gX5_mean_X5_isOdds : GoodIn wsX5_mean (va_wsS RX5 195 yX5_isOdds wsX5_isOdds) := goodIn_app (goodIn_of _ (by decide +kernel)) ggX5_mean_X5_isOdds
set_option maxRecDepth 20000 in
theorem ggX5_mean_X5_refusal : GoodIn wsX5_mean wsX5_refusal := goodIn_r _ [16, 17, 18, 74, 75, 76, 77, 78, 79, 80, 81, 82, 83, 84, 85, 86, 87, 88, 89, 90, 91, 92, 93, 94, 95] (by decide +kernel) (by decide +kernel)
set_option maxRecDepth 20000 in
theorem gX5_mean_X5_refusal : GoodIn wsX5_mean (wsV RX5 148 RX5 yX5_refusal wsX5_refusal) := goodIn_app (goodIn_of _ (by decide +kernel)) ggX5_mean_X5_refusal
set_option maxRecDepth 20000 in
theorem ggX5_mean_X5_weightOf : GoodIn wsX5_mean wsX5_weightOf := goodIn_r _ [22, 1, 17, 23, 24, 25, 26, 27, 28, 29, 30, 31, 32, 33, 34, 35, 36, 37, 38, 39, 40, 41, 42, 43, 44, 45, 46, 47, 48, 49, 50, 51, 52, 53, 54, 55, 56, 57, 58, 59, 60, 61, 62, 63, 64, 65, 66, 74, 75, 76, 77, 78, 79, 80, 81, 82, 83, 84, 85, 86, 87, 88, 89, 90, 91, 92, 93, 94, 95] (by decide +kernel) (by decide +kernel)
set_option maxRecDepth 20000 in
theorem gX5_mean_X5_weightOf : GoodIn wsX5_mean (wsV RX5 198 RX5 yX5_weightOf wsX5_weightOf) := goodIn_app (goodIn_of _ (by decide +kernel)) ggX5_mean_X5_weightOf
set_option maxRecDepth 20000 in
theorem ggX5_mean_X5_tenTo : GoodIn wsX5_mean wsX5_tenTo := goodIn_r _ [69, 70] (by decide +kernel) (by decide +kernel)
set_option maxRecDepth 20000 in
theorem gX5_mean_X5_tenTo : GoodIn wsX5_mean (va_wsS RX5 202 yX5_tenTo wsX5_tenTo) := goodIn_app (goodIn_of _ (by decide +kernel)) ggX5_mean_X5_tenTo
set_option maxRecDepth 20000 in
theorem ggX5_mean_X5_partOfFraction : GoodIn wsX5_mean wsX5_partOfFraction := goodIn_r _ [73] (by decide +kernel) (by decide +kernel)
set_option maxRecDepth 20000 in
theorem gX5_mean_X5_partOfFraction : GoodIn wsX5_mean (va_wsS RX5 206 yX5_partOfFraction wsX5_partOfFraction) := goodIn_app (goodIn_of _ (by decide +kernel)) ggX5_mean_X5_partOfFraction
theorem dX5_mean_0 : decode cX5_mean 0 = .ok (.aload_n 0, 1) := by decide +kernel
theorem dX5_mean_1 : decode cX5_mean 1 = .ok (.iload_n 1, 1) := by decide +kernel
theorem dX5_mean_2 : decode cX5_mean 2 = .ok (.iload_n 2, 1) := by decide +kernel
theorem dX5_mean_3 : decode cX5_mean 3 = .ok (.iload_n 3, 1) := by decide +kernel
theorem dX5_mean_4 : decode cX5_mean 4 = .ok (.invokestatic 195, 3) := by decide +kernel
theorem dX5_mean_7 : decode cX5_mean 7 = .ok (.invokevirtual 148, 3) := by decide +kernel
theorem dX5_mean_10 : decode cX5_mean 10 = .ok (.istore 4, 2) := by decide +kernel
theorem dX5_mean_12 : decode cX5_mean 12 = .ok (.iload 4, 2) := by decide +kernel
theorem dX5_mean_14 : decode cX5_mean 14 = .ok (.ifCond .eq 7, 3) := by decide +kernel
theorem dX5_mean_17 : decode cX5_mean 17 = .ok (.iload 4, 2) := by decide +kernel
theorem dX5_mean_19 : decode cX5_mean 19 = .ok (.i2l, 1) := by decide +kernel
theorem dX5_mean_20 : decode cX5_mean 20 = .ok (.lreturn, 1) := by decide +kernel
theorem dX5_mean_21 : decode cX5_mean 21 = .ok (.lconst 0, 1) := by decide +kernel
theorem dX5_mean_22 : decode cX5_mean 22 = .ok (.lstore 5, 2) := by decide +kernel
theorem dX5_mean_24 : decode cX5_mean 24 = .ok (.iconst 0, 1) := by decide +kernel
theorem dX5_mean_25 : decode cX5_mean 25 = .ok (.istore 7, 2) := by decide +kernel
theorem dX5_mean_27 : decode cX5_mean 27 = .ok (.iload 7, 2) := by decide +kernel
theorem dX5_mean_29 : decode cX5_mean 29 = .ok (.iconst 1, 1) := by decide +kernel
theorem dX5_mean_30 : decode cX5_mean 30 = .ok (.iload_n 2, 1) := by decide +kernel
theorem dX5_mean_31 : decode cX5_mean 31 = .ok (.ishl, 1) := by decide +kernel
theorem dX5_mean_32 : decode cX5_mean 32 = .ok (.if_icmp .ge 35, 3) := by decide +kernel
theorem dX5_mean_35 : decode cX5_mean 35 = .ok (.aload_n 0, 1) := by decide +kernel
theorem dX5_mean_36 : decode cX5_mean 36 = .ok (.iload 7, 2) := by decide +kernel
theorem dX5_mean_38 : decode cX5_mean 38 = .ok (.iload_n 1, 1) := by decide +kernel
theorem dX5_mean_39 : decode cX5_mean 39 = .ok (.iload_n 2, 1) := by decide +kernel
theorem dX5_mean_40 : decode cX5_mean 40 = .ok (.invokevirtual 198, 3) := by decide +kernel
theorem dX5_mean_43 : decode cX5_mean 43 = .ok (.lstore 8, 2) := by decide +kernel
theorem dX5_mean_45 : decode cX5_mean 45 = .ok (.lload 5, 2) := by decide +kernel
theorem dX5_mean_47 : decode cX5_mean 47 = .ok (.lload 8, 2) := by decide +kernel
theorem dX5_mean_49 : decode cX5_mean 49 = .ok (.aload_n 0, 1) := by decide +kernel
theorem dX5_mean_50 : decode cX5_mean 50 = .ok (.getfield 23, 3) := by decide +kernel
theorem dX5_mean_53 : decode cX5_mean 53 = .ok (.getfield 101, 3) := by decide +kernel
theorem dX5_mean_56 : decode cX5_mean 56 = .ok (.i2l, 1) := by decide +kernel
theorem dX5_mean_57 : decode cX5_mean 57 = .ok (.lmul, 1) := by decide +kernel
theorem dX5_mean_58 : decode cX5_mean 58 = .ok (.ladd, 1) := by decide +kernel
theorem dX5_mean_59 : decode cX5_mean 59 = .ok (.lstore 5, 2) := by decide +kernel
theorem dX5_mean_61 : decode cX5_mean 61 = .ok (.iinc 7 1, 3) := by decide +kernel
theorem dX5_mean_64 : decode cX5_mean 64 = .ok (.goto (-37), 3) := by decide +kernel
theorem dX5_mean_67 : decode cX5_mean 67 = .ok (.lload 5, 2) := by decide +kernel
theorem dX5_mean_69 : decode cX5_mean 69 = .ok (.iload_n 2, 1) := by decide +kernel
theorem dX5_mean_70 : decode cX5_mean 70 = .ok (.invokestatic 202, 3) := by decide +kernel
theorem dX5_mean_73 : decode cX5_mean 73 = .ok (.iload_n 3, 1) := by decide +kernel
theorem dX5_mean_74 : decode cX5_mean 74 = .ok (.invokestatic 206, 3) := by decide +kernel
theorem dX5_mean_77 : decode cX5_mean 77 = .ok (.lreturn, 1) := by decide +kernel
set_option maxRecDepth 20000 in
theorem ggX5_see_X5_within : GoodIn wsX5_see wsX5_within := goodIn_r _ [6] (by decide +kernel) (by decide +kernel)
set_option maxRecDepth 20000 in
theorem gX5_see_X5_within : GoodIn wsX5_see (va_wsS RX5 57 yX5_within wsX5_within) := goodIn_app (goodIn_of _ (by decide +kernel)) ggX5_see_X5_within
set_option maxRecDepth 20000 in
theorem ggX5_see_X5_isHeir : GoodIn wsX5_see wsX5_isHeir := goodIn_r _ [10, 11, 12, 3, 4, 5, 6, 21, 22, 23, 24, 25, 26, 27, 28, 29, 30, 34, 35, 36, 37, 38, 39, 40, 41, 42, 43, 44, 45] (by decide +kernel) (by decide +kernel)
set_option maxRecDepth 20000 in
theorem gX5_see_X5_isHeir : GoodIn wsX5_see (wsV RX5 113 RX5 yX5_isHeir wsX5_isHeir) := goodIn_app (goodIn_of _ (by decide +kernel)) ggX5_see_X5_isHeir
set_option maxRecDepth 20000 in
theorem ggX5_see_X3_add : GoodIn wsX5_see wsX3_add := goodIn_r _ [17, 18, 19, 20, 31, 32, 33] (by decide +kernel) (by decide +kernel)
set_option maxRecDepth 20000 in
theorem gX5_see_X3_add : GoodIn wsX5_see (wsV RX5 210 RX3 yX3_add wsX3_add) := goodIn_app (goodIn_of _ (by decide +kernel)) ggX5_see_X3_add
theorem dX5_see_0 : decode cX5_see 0 = .ok (.iload_n 1, 1) := by decide +kernel
theorem dX5_see_1 : decode cX5_see 1 = .ok (.iconst 1, 1) := by decide +kernel
theorem dX5_see_2 : decode cX5_see 2 = .ok (.bipush 20, 2) := by decide +kernel
theorem dX5_see_4 : decode cX5_see 4 = .ok (.invokestatic 57, 3) := by decide +kernel
theorem dX5_see_7 : decode cX5_see 7 = .ok (.ifCond .eq 11, 3) := by decide +kernel
theorem dX5_see_10 : decode cX5_see 10 = .ok (.aload_n 0, 1) := by decide +kernel
theorem dX5_see_11 : decode cX5_see 11 = .ok (.iload_n 2, 1) := by decide +kernel
theorem dX5_see_12 : decode cX5_see 12 = .ok (.invokevirtual 113, 3) := by decide +kernel
theorem dX5_see_15 : decode cX5_see 15 = .ok (.ifCond .ne 5, 3) := by decide +kernel
theorem dX5_see_18 : decode cX5_see 18 = .ok (.iconst (-1), 1) := by decide +kernel
theorem dX5_see_19 : decode cX5_see 19 = .ok (.ireturn, 1) := by decide +kernel
theorem dX5_see_20 : decode cX5_see 20 = .ok (.aload_n 0, 1) := by decide +kernel
theorem dX5_see_21 : decode cX5_see 21 = .ok (.getfield 29, 3) := by decide +kernel
theorem dX5_see_24 : decode cX5_see 24 = .ok (.iload_n 1, 1) := by decide +kernel
theorem dX5_see_25 : decode cX5_see 25 = .ok (.iload_n 2, 1) := by decide +kernel
theorem dX5_see_26 : decode cX5_see 26 = .ok (.invokevirtual 210, 3) := by decide +kernel
theorem dX5_see_29 : decode cX5_see 29 = .ok (.ifCond .eq 13, 3) := by decide +kernel
theorem dX5_see_32 : decode cX5_see 32 = .ok (.aload_n 0, 1) := by decide +kernel
theorem dX5_see_33 : decode cX5_see 33 = .ok (.getfield 29, 3) := by decide +kernel
theorem dX5_see_36 : decode cX5_see 36 = .ok (.getfield 85, 3) := by decide +kernel
theorem dX5_see_39 : decode cX5_see 39 = .ok (.goto 5, 3) := by decide +kernel
theorem dX5_see_42 : decode cX5_see 42 = .ok (.bipush (-3), 2) := by decide +kernel
theorem dX5_see_44 : decode cX5_see 44 = .ok (.ireturn, 1) := by decide +kernel
set_option maxRecDepth 20000 in
theorem ggX5_forget_X5_within : GoodIn wsX5_forget wsX5_within := goodIn_r _ [6] (by decide +kernel) (by decide +kernel)
set_option maxRecDepth 20000 in
theorem gX5_forget_X5_within : GoodIn wsX5_forget (va_wsS RX5 57 yX5_within wsX5_within) := goodIn_app (goodIn_of _ (by decide +kernel)) ggX5_forget_X5_within
theorem dX5_forget_0 : decode cX5_forget 0 = .ok (.iload_n 1, 1) := by decide +kernel
theorem dX5_forget_1 : decode cX5_forget 1 = .ok (.iconst 0, 1) := by decide +kernel
theorem dX5_forget_2 : decode cX5_forget 2 = .ok (.aload_n 0, 1) := by decide +kernel
theorem dX5_forget_3 : decode cX5_forget 3 = .ok (.getfield 29, 3) := by decide +kernel
theorem dX5_forget_6 : decode cX5_forget 6 = .ok (.getfield 85, 3) := by decide +kernel
theorem dX5_forget_9 : decode cX5_forget 9 = .ok (.invokestatic 57, 3) := by decide +kernel
theorem dX5_forget_12 : decode cX5_forget 12 = .ok (.ifCond .ne 5, 3) := by decide +kernel
theorem dX5_forget_15 : decode cX5_forget 15 = .ok (.iconst (-1), 1) := by decide +kernel
theorem dX5_forget_16 : decode cX5_forget 16 = .ok (.ireturn, 1) := by decide +kernel
theorem dX5_forget_17 : decode cX5_forget 17 = .ok (.aload_n 0, 1) := by decide +kernel
theorem dX5_forget_18 : decode cX5_forget 18 = .ok (.getfield 29, 3) := by decide +kernel
theorem dX5_forget_21 : decode cX5_forget 21 = .ok (.getfield 85, 3) := by decide +kernel
theorem dX5_forget_24 : decode cX5_forget 24 = .ok (.istore_n 2, 1) := by decide +kernel
theorem dX5_forget_25 : decode cX5_forget 25 = .ok (.aload_n 0, 1) := by decide +kernel
theorem dX5_forget_26 : decode cX5_forget 26 = .ok (.getfield 29, 3) := by decide +kernel
theorem dX5_forget_29 : decode cX5_forget 29 = .ok (.iload_n 1, 1) := by decide +kernel
theorem dX5_forget_30 : decode cX5_forget 30 = .ok (.putfield 85, 3) := by decide +kernel
theorem dX5_forget_33 : decode cX5_forget 33 = .ok (.iload_n 2, 1) := by decide +kernel
theorem dX5_forget_34 : decode cX5_forget 34 = .ok (.ireturn, 1) := by decide +kernel
set_option maxRecDepth 20000 in
theorem ggX5_kinds_X5_isHeir : GoodIn wsX5_kinds wsX5_isHeir := goodIn_r _ [5, 6, 7, 8, 9, 4, 10, 81, 82, 83, 84, 85, 86, 87, 88, 89, 90, 91, 92, 93, 94, 95, 96, 97, 98, 99, 100, 101, 102] (by decide +kernel) (by decide +kernel)
set_option maxRecDepth 20000 in
theorem gX5_kinds_X5_isHeir : GoodIn wsX5_kinds (wsV RX5 113 RX5 yX5_isHeir wsX5_isHeir) := goodIn_app (goodIn_of _ (by decide +kernel)) ggX5_kinds_X5_isHeir
set_option maxRecDepth 20000 in
theorem ggX5_kinds_X5_refusal : GoodIn wsX5_kinds wsX5_refusal := goodIn_r _ [14, 6, 7, 81, 82, 83, 84, 85, 86, 87, 88, 89, 90, 91, 92, 93, 94, 95, 96, 97, 98, 99, 100, 101, 102] (by decide +kernel) (by decide +kernel)
set_option maxRecDepth 20000 in
theorem gX5_kinds_X5_refusal : GoodIn wsX5_kinds (wsV RX5 148 RX5 yX5_refusal wsX5_refusal) := goodIn_app (goodIn_of _ (by decide +kernel)) ggX5_kinds_X5_refusal
set_option maxRecDepth 20000 in
theorem ggX5_kinds_X5_fitting : GoodIn wsX5_kinds wsX5_fitting := goodIn_r _ [18, 19, 20, 21, 22, 4, 23, 24, 6, 25, 26, 27, 28, 29, 30, 31, 32, 33, 34, 35, 36, 37, 38, 39, 40, 41, 42, 43, 44, 45, 46, 47, 48, 49, 50, 51, 52, 53, 54, 55, 56, 57, 58, 59, 60, 61, 62, 63, 64, 65, 66, 67, 68, 69, 70, 71, 72, 73, 74, 75, 76, 77, 78, 79, 80, 81, 82, 83, 84, 85, 86, 87, 88, 89, 90, 91, 92, 93, 94, 95, 96, 97, 98, 99, 100, 101, 102, 103, 104, 105] (by decide +kernel) (by decide +kernel)
set_option maxRecDepth 20000 in
theorem gX5_kinds_X5_fitting : GoodIn wsX5_kinds (wsV RX5 212 RX5 yX5_fitting wsX5_fitting) := goodIn_app (goodIn_of _ (by decide +kernel)) ggX5_kinds_X5_fitting
theorem dX5_kinds_0 : decode cX5_kinds 0 = .ok (.aload_n 0, 1) := by decide +kernel
theorem dX5_kinds_1 : decode cX5_kinds 1 = .ok (.aload_n 0, 1) := by decide +kernel
theorem dX5_kinds_2 : decode cX5_kinds 2 = .ok (.iload_n 1, 1) := by decide +kernel
theorem dX5_kinds_3 : decode cX5_kinds 3 = .ok (.invokevirtual 113, 3) := by decide +kernel
theorem dX5_kinds_6 : decode cX5_kinds 6 = .ok (.invokevirtual 148, 3) := by decide +kernel
theorem dX5_kinds_9 : decode cX5_kinds 9 = .ok (.istore_n 2, 1) := by decide +kernel
theorem dX5_kinds_10 : decode cX5_kinds 10 = .ok (.iload_n 2, 1) := by decide +kernel
theorem dX5_kinds_11 : decode cX5_kinds 11 = .ok (.ifCond .eq 7, 3) := by decide +kernel
theorem dX5_kinds_14 : decode cX5_kinds 14 = .ok (.iload_n 2, 1) := by decide +kernel
theorem dX5_kinds_15 : decode cX5_kinds 15 = .ok (.goto 9, 3) := by decide +kernel
theorem dX5_kinds_18 : decode cX5_kinds 18 = .ok (.aload_n 0, 1) := by decide +kernel
theorem dX5_kinds_19 : decode cX5_kinds 19 = .ok (.iload_n 1, 1) := by decide +kernel
theorem dX5_kinds_20 : decode cX5_kinds 20 = .ok (.iconst 0, 1) := by decide +kernel
theorem dX5_kinds_21 : decode cX5_kinds 21 = .ok (.invokevirtual 212, 3) := by decide +kernel
theorem dX5_kinds_24 : decode cX5_kinds 24 = .ok (.ireturn, 1) := by decide +kernel
set_option maxRecDepth 20000 in
theorem ggX5_springs_X5_isHeir : GoodIn wsX5_springs wsX5_isHeir := goodIn_r _ [5, 6, 7, 8, 9, 4, 10, 81, 82, 83, 84, 85, 86, 87, 88, 89, 90, 91, 92, 93, 94, 95, 96, 97, 98, 99, 100, 101, 102] (by decide +kernel) (by decide +kernel)
set_option maxRecDepth 20000 in
theorem gX5_springs_X5_isHeir : GoodIn wsX5_springs (wsV RX5 113 RX5 yX5_isHeir wsX5_isHeir) := goodIn_app (goodIn_of _ (by decide +kernel)) ggX5_springs_X5_isHeir
set_option maxRecDepth 20000 in
theorem ggX5_springs_X5_refusal : GoodIn wsX5_springs wsX5_refusal := goodIn_r _ [14, 6, 7, 81, 82, 83, 84, 85, 86, 87, 88, 89, 90, 91, 92, 93, 94, 95, 96, 97, 98, 99, 100, 101, 102] (by decide +kernel) (by decide +kernel)
set_option maxRecDepth 20000 in
theorem gX5_springs_X5_refusal : GoodIn wsX5_springs (wsV RX5 148 RX5 yX5_refusal wsX5_refusal) := goodIn_app (goodIn_of _ (by decide +kernel)) ggX5_springs_X5_refusal
set_option maxRecDepth 20000 in
theorem ggX5_springs_X5_fitting : GoodIn wsX5_springs wsX5_fitting := goodIn_r _ [18, 19, 20, 21, 22, 4, 23, 24, 6, 25, 26, 27, 28, 29, 30, 31, 32, 33, 34, 35, 36, 37, 38, 39, 40, 41, 42, 43, 44, 45, 46, 47, 48, 49, 50, 51, 52, 53, 54, 55, 56, 57, 58, 59, 60, 61, 62, 63, 64, 65, 66, 67, 68, 69, 70, 71, 72, 73, 74, 75, 76, 77, 78, 79, 80, 81, 82, 83, 84, 85, 86, 87, 88, 89, 90, 91, 92, 93, 94, 95, 96, 97, 98, 99, 100, 101, 102, 103, 104, 105] (by decide +kernel) (by decide +kernel)
set_option maxRecDepth 20000 in
theorem gX5_springs_X5_fitting : GoodIn wsX5_springs (wsV RX5 212 RX5 yX5_fitting wsX5_fitting) := goodIn_app (goodIn_of _ (by decide +kernel)) ggX5_springs_X5_fitting
theorem dX5_springs_0 : decode cX5_springs 0 = .ok (.aload_n 0, 1) := by decide +kernel
theorem dX5_springs_1 : decode cX5_springs 1 = .ok (.aload_n 0, 1) := by decide +kernel
theorem dX5_springs_2 : decode cX5_springs 2 = .ok (.iload_n 1, 1) := by decide +kernel
theorem dX5_springs_3 : decode cX5_springs 3 = .ok (.invokevirtual 113, 3) := by decide +kernel
theorem dX5_springs_6 : decode cX5_springs 6 = .ok (.invokevirtual 148, 3) := by decide +kernel
theorem dX5_springs_9 : decode cX5_springs 9 = .ok (.istore_n 2, 1) := by decide +kernel
theorem dX5_springs_10 : decode cX5_springs 10 = .ok (.iload_n 2, 1) := by decide +kernel
theorem dX5_springs_11 : decode cX5_springs 11 = .ok (.ifCond .eq 7, 3) := by decide +kernel
theorem dX5_springs_14 : decode cX5_springs 14 = .ok (.iload_n 2, 1) := by decide +kernel
theorem dX5_springs_15 : decode cX5_springs 15 = .ok (.goto 9, 3) := by decide +kernel
theorem dX5_springs_18 : decode cX5_springs 18 = .ok (.aload_n 0, 1) := by decide +kernel
theorem dX5_springs_19 : decode cX5_springs 19 = .ok (.iload_n 1, 1) := by decide +kernel
theorem dX5_springs_20 : decode cX5_springs 20 = .ok (.iconst 1, 1) := by decide +kernel
theorem dX5_springs_21 : decode cX5_springs 21 = .ok (.invokevirtual 212, 3) := by decide +kernel
theorem dX5_springs_24 : decode cX5_springs 24 = .ok (.ireturn, 1) := by decide +kernel
set_option maxRecDepth 20000 in
theorem ggX5_ask_X5_isHeir : GoodIn wsX5_ask wsX5_isHeir := goodIn_r _ [5, 6, 7, 8, 9, 4, 10, 92, 93, 94, 95, 96, 97, 98, 99, 100, 101, 102, 103, 104, 105, 106, 107, 108, 109, 110, 111, 112, 113] (by decide +kernel) (by decide +kernel)
set_option maxRecDepth 20000 in
theorem gX5_ask_X5_isHeir : GoodIn wsX5_ask (wsV RX5 113 RX5 yX5_isHeir wsX5_isHeir) := goodIn_app (goodIn_of _ (by decide +kernel)) ggX5_ask_X5_isHeir
set_option maxRecDepth 20000 in
theorem ggX5_ask_X5_isWhichOrMuch : GoodIn wsX5_ask wsX5_isWhichOrMuch := goodIn_r _ [13, 8, 9, 4, 10] (by decide +kernel) (by decide +kernel)
set_option maxRecDepth 20000 in
theorem gX5_ask_X5_isWhichOrMuch : GoodIn wsX5_ask (va_wsS RX5 182 yX5_isWhichOrMuch wsX5_isWhichOrMuch) := goodIn_app (goodIn_of _ (by decide +kernel)) ggX5_ask_X5_isWhichOrMuch
set_option maxRecDepth 20000 in
theorem ggX5_ask_X5_refusal : GoodIn wsX5_ask wsX5_refusal := goodIn_r _ [17, 6, 7, 92, 93, 94, 95, 96, 97, 98, 99, 100, 101, 102, 103, 104, 105, 106, 107, 108, 109, 110, 111, 112, 113] (by decide +kernel) (by decide +kernel)
set_option maxRecDepth 20000 in
theorem gX5_ask_X5_refusal : GoodIn wsX5_ask (wsV RX5 148 RX5 yX5_refusal wsX5_refusal) := goodIn_app (goodIn_of _ (by decide +kernel)) ggX5_ask_X5_refusal
set_option maxRecDepth 20000 in
theorem ggX5_ask_X5_tallyKings : GoodIn wsX5_ask wsX5_tallyKings := goodIn_r _ [21, 22, 23, 24, 25, 26, 4, 27, 28, 6, 29, 30, 31, 32, 33, 34, 35, 36, 37, 38, 39, 40, 41, 42, 43, 44, 45, 46, 47, 48, 49, 50, 51, 52, 53, 54, 55, 56, 57, 58, 59, 60, 61, 62, 63, 64, 65, 66, 67, 68, 69, 70, 71, 72, 73, 74, 75, 76, 77, 78, 79, 80, 81, 82, 83, 92, 93, 94, 95, 96, 97, 98, 99, 100, 101, 102, 103, 104, 105, 106, 107, 108, 109, 110, 111, 112, 113, 114, 115, 116] (by decide +kernel) (by decide +kernel)
set_option maxRecDepth 20000 in
theorem gX5_ask_X5_tallyKings : GoodIn wsX5_ask (wsV RX5 216 RX5 yX5_tallyKings wsX5_tallyKings) := goodIn_app (goodIn_of _ (by decide +kernel)) ggX5_ask_X5_tallyKings
set_option maxRecDepth 20000 in
theorem ggX5_ask_X5_mostTallied : GoodIn wsX5_ask wsX5_mostTallied := goodIn_r _ [87, 22, 88, 62, 59, 63, 92, 93, 94, 95, 96, 97, 98, 99, 100, 101] (by decide +kernel) (by decide +kernel)
set_option maxRecDepth 20000 in
theorem gX5_ask_X5_mostTallied : GoodIn wsX5_ask (wsV RX5 219 RX5 yX5_mostTallied wsX5_mostTallied) := goodIn_app (goodIn_of _ (by decide +kernel)) ggX5_ask_X5_mostTallied
set_option maxRecDepth 20000 in
theorem ggX5_ask_X5_whichOrMuch : GoodIn wsX5_ask wsX5_whichOrMuch := goodIn_r _ [91] (by decide +kernel) (by decide +kernel)
set_option maxRecDepth 20000 in
theorem gX5_ask_X5_whichOrMuch : GoodIn wsX5_ask (va_wsS RX5 185 yX5_whichOrMuch wsX5_whichOrMuch) := goodIn_app (goodIn_of _ (by decide +kernel)) ggX5_ask_X5_whichOrMuch
theorem dX5_ask_0 : decode cX5_ask 0 = .ok (.aload_n 0, 1) := by decide +kernel
theorem dX5_ask_1 : decode cX5_ask 1 = .ok (.aload_n 0, 1) := by decide +kernel
theorem dX5_ask_2 : decode cX5_ask 2 = .ok (.iload_n 1, 1) := by decide +kernel
theorem dX5_ask_3 : decode cX5_ask 3 = .ok (.invokevirtual 113, 3) := by decide +kernel
theorem dX5_ask_6 : decode cX5_ask 6 = .ok (.ifCond .eq 14, 3) := by decide +kernel
theorem dX5_ask_9 : decode cX5_ask 9 = .ok (.iload_n 2, 1) := by decide +kernel
theorem dX5_ask_10 : decode cX5_ask 10 = .ok (.invokestatic 182, 3) := by decide +kernel
theorem dX5_ask_13 : decode cX5_ask 13 = .ok (.ifCond .eq 7, 3) := by decide +kernel
theorem dX5_ask_16 : decode cX5_ask 16 = .ok (.iconst 1, 1) := by decide +kernel
theorem dX5_ask_17 : decode cX5_ask 17 = .ok (.goto 4, 3) := by decide +kernel
theorem dX5_ask_20 : decode cX5_ask 20 = .ok (.iconst 0, 1) := by decide +kernel
theorem dX5_ask_21 : decode cX5_ask 21 = .ok (.invokevirtual 148, 3) := by decide +kernel
theorem dX5_ask_24 : decode cX5_ask 24 = .ok (.istore_n 3, 1) := by decide +kernel
theorem dX5_ask_25 : decode cX5_ask 25 = .ok (.iload_n 3, 1) := by decide +kernel
theorem dX5_ask_26 : decode cX5_ask 26 = .ok (.ifCond .eq 5, 3) := by decide +kernel
theorem dX5_ask_29 : decode cX5_ask 29 = .ok (.iload_n 3, 1) := by decide +kernel
theorem dX5_ask_30 : decode cX5_ask 30 = .ok (.ireturn, 1) := by decide +kernel
theorem dX5_ask_31 : decode cX5_ask 31 = .ok (.aload_n 0, 1) := by decide +kernel
theorem dX5_ask_32 : decode cX5_ask 32 = .ok (.iload_n 1, 1) := by decide +kernel
theorem dX5_ask_33 : decode cX5_ask 33 = .ok (.invokevirtual 216, 3) := by decide +kernel
theorem dX5_ask_36 : decode cX5_ask 36 = .ok (.istore 4, 2) := by decide +kernel
theorem dX5_ask_38 : decode cX5_ask 38 = .ok (.bipush (-4), 2) := by decide +kernel
theorem dX5_ask_40 : decode cX5_ask 40 = .ok (.istore 5, 2) := by decide +kernel
theorem dX5_ask_42 : decode cX5_ask 42 = .ok (.iconst 1, 1) := by decide +kernel
theorem dX5_ask_43 : decode cX5_ask 43 = .ok (.istore 6, 2) := by decide +kernel
theorem dX5_ask_45 : decode cX5_ask 45 = .ok (.iload 6, 2) := by decide +kernel
theorem dX5_ask_47 : decode cX5_ask 47 = .ok (.bipush 20, 2) := by decide +kernel
theorem dX5_ask_49 : decode cX5_ask 49 = .ok (.if_icmp .gt 32, 3) := by decide +kernel
theorem dX5_ask_52 : decode cX5_ask 52 = .ok (.aload_n 0, 1) := by decide +kernel
theorem dX5_ask_53 : decode cX5_ask 53 = .ok (.iload 6, 2) := by decide +kernel
theorem dX5_ask_55 : decode cX5_ask 55 = .ok (.invokevirtual 219, 3) := by decide +kernel
theorem dX5_ask_58 : decode cX5_ask 58 = .ok (.istore 7, 2) := by decide +kernel
theorem dX5_ask_60 : decode cX5_ask 60 = .ok (.iload 7, 2) := by decide +kernel
theorem dX5_ask_62 : decode cX5_ask 62 = .ok (.iload 4, 2) := by decide +kernel
theorem dX5_ask_64 : decode cX5_ask 64 = .ok (.if_icmp .ge 11, 3) := by decide +kernel
theorem dX5_ask_67 : decode cX5_ask 67 = .ok (.iload 7, 2) := by decide +kernel
theorem dX5_ask_69 : decode cX5_ask 69 = .ok (.istore 4, 2) := by decide +kernel
theorem dX5_ask_71 : decode cX5_ask 71 = .ok (.iload 6, 2) := by decide +kernel
theorem dX5_ask_73 : decode cX5_ask 73 = .ok (.istore 5, 2) := by decide +kernel
theorem dX5_ask_75 : decode cX5_ask 75 = .ok (.iinc 6 1, 3) := by decide +kernel
theorem dX5_ask_78 : decode cX5_ask 78 = .ok (.goto (-33), 3) := by decide +kernel
theorem dX5_ask_81 : decode cX5_ask 81 = .ok (.iload_n 2, 1) := by decide +kernel
theorem dX5_ask_82 : decode cX5_ask 82 = .ok (.iload 5, 2) := by decide +kernel
theorem dX5_ask_84 : decode cX5_ask 84 = .ok (.iload 4, 2) := by decide +kernel
theorem dX5_ask_86 : decode cX5_ask 86 = .ok (.invokestatic 185, 3) := by decide +kernel
theorem dX5_ask_89 : decode cX5_ask 89 = .ok (.ireturn, 1) := by decide +kernel
set_option maxRecDepth 20000 in
theorem ggX5_drift_X5_within : GoodIn wsX5_drift wsX5_within := goodIn_r _ [10] (by decide +kernel) (by decide +kernel)
set_option maxRecDepth 20000 in
theorem gX5_drift_X5_within : GoodIn wsX5_drift (va_wsS RX5 57 yX5_within wsX5_within) := goodIn_app (goodIn_of _ (by decide +kernel)) ggX5_drift_X5_within
set_option maxRecDepth 20000 in
theorem ggX5_drift_X5_isWhichOrMuch : GoodIn wsX5_drift wsX5_isWhichOrMuch := goodIn_r _ [13, 7, 8, 9, 10] (by decide +kernel) (by decide +kernel)
set_option maxRecDepth 20000 in
theorem gX5_drift_X5_isWhichOrMuch : GoodIn wsX5_drift (va_wsS RX5 182 yX5_isWhichOrMuch wsX5_isWhichOrMuch) := goodIn_app (goodIn_of _ (by decide +kernel)) ggX5_drift_X5_isWhichOrMuch
set_option maxRecDepth 20000 in
theorem ggX5_drift_X5_refusal : GoodIn wsX5_drift wsX5_refusal := goodIn_r _ [17, 2, 18, 63, 64, 65, 66, 67, 68, 69, 70, 71, 72, 73, 74, 75, 76, 77, 78, 79, 80, 81, 82, 83, 84] (by decide +kernel) (by decide +kernel)
set_option maxRecDepth 20000 in
theorem gX5_drift_X5_refusal : GoodIn wsX5_drift (wsV RX5 148 RX5 yX5_refusal wsX5_refusal) := goodIn_app (goodIn_of _ (by decide +kernel)) ggX5_drift_X5_refusal
set_option maxRecDepth 20000 in
theorem ggX5_drift_X0_copyFrom : GoodIn wsX5_drift wsX0_copyFrom := goodIn_r _ [23, 24, 25, 26, 27, 28, 29, 30, 31, 32, 33, 34, 35, 36, 73, 74, 75, 76, 77, 78, 79, 80, 81, 82, 83, 84] (by decide +kernel) (by decide +kernel)
set_option maxRecDepth 20000 in
theorem gX5_drift_X0_copyFrom : GoodIn wsX5_drift (wsV RX5 81 RX0 yX0_copyFrom wsX0_copyFrom) := goodIn_app (goodIn_of _ (by decide +kernel)) ggX5_drift_X0_copyFrom
set_option maxRecDepth 20000 in
theorem ggX5_drift_X0_crown : GoodIn wsX5_drift wsX0_crown := goodIn_r _ [40, 29, 36, 41, 24, 42, 33, 34, 43, 32, 44, 45, 46, 47, 48, 49, 50, 35, 51, 52, 53, 22, 54, 31, 55, 56, 57, 58, 59, 60, 61, 62, 30, 73, 74, 75, 76, 77, 78, 79, 80, 81, 82, 83, 84] (by decide +kernel) (by decide +kernel)
set_option maxRecDepth 20000 in
theorem gX5_drift_X0_crown : GoodIn wsX5_drift (wsV RX5 158 RX0 yX0_crown wsX0_crown) := goodIn_app (goodIn_of _ (by decide +kernel)) ggX5_drift_X0_crown
theorem dX5_drift_0 : decode cX5_drift 0 = .ok (.aload_n 0, 1) := by decide +kernel
theorem dX5_drift_1 : decode cX5_drift 1 = .ok (.iload_n 2, 1) := by decide +kernel
theorem dX5_drift_2 : decode cX5_drift 2 = .ok (.iconst 1, 1) := by decide +kernel
theorem dX5_drift_3 : decode cX5_drift 3 = .ok (.bipush 60, 2) := by decide +kernel
theorem dX5_drift_5 : decode cX5_drift 5 = .ok (.invokestatic 57, 3) := by decide +kernel
theorem dX5_drift_8 : decode cX5_drift 8 = .ok (.ifCond .eq 14, 3) := by decide +kernel
theorem dX5_drift_11 : decode cX5_drift 11 = .ok (.iload_n 3, 1) := by decide +kernel
theorem dX5_drift_12 : decode cX5_drift 12 = .ok (.invokestatic 182, 3) := by decide +kernel
theorem dX5_drift_15 : decode cX5_drift 15 = .ok (.ifCond .eq 7, 3) := by decide +kernel
theorem dX5_drift_18 : decode cX5_drift 18 = .ok (.iconst 1, 1) := by decide +kernel
theorem dX5_drift_19 : decode cX5_drift 19 = .ok (.goto 4, 3) := by decide +kernel
theorem dX5_drift_22 : decode cX5_drift 22 = .ok (.iconst 0, 1) := by decide +kernel
theorem dX5_drift_23 : decode cX5_drift 23 = .ok (.invokevirtual 148, 3) := by decide +kernel
theorem dX5_drift_26 : decode cX5_drift 26 = .ok (.istore 4, 2) := by decide +kernel
theorem dX5_drift_28 : decode cX5_drift 28 = .ok (.iload 4, 2) := by decide +kernel
theorem dX5_drift_30 : decode cX5_drift 30 = .ok (.ifCond .eq 6, 3) := by decide +kernel
theorem dX5_drift_33 : decode cX5_drift 33 = .ok (.iload 4, 2) := by decide +kernel
theorem dX5_drift_35 : decode cX5_drift 35 = .ok (.ireturn, 1) := by decide +kernel
theorem dX5_drift_36 : decode cX5_drift 36 = .ok (.aload_n 0, 1) := by decide +kernel
theorem dX5_drift_37 : decode cX5_drift 37 = .ok (.getfield 23, 3) := by decide +kernel
theorem dX5_drift_40 : decode cX5_drift 40 = .ok (.aload_n 0, 1) := by decide +kernel
theorem dX5_drift_41 : decode cX5_drift 41 = .ok (.getfield 19, 3) := by decide +kernel
theorem dX5_drift_44 : decode cX5_drift 44 = .ok (.invokevirtual 81, 3) := by decide +kernel
theorem dX5_drift_47 : decode cX5_drift 47 = .ok (.iload_n 1, 1) := by decide +kernel
theorem dX5_drift_48 : decode cX5_drift 48 = .ok (.istore 5, 2) := by decide +kernel
theorem dX5_drift_50 : decode cX5_drift 50 = .ok (.iconst 0, 1) := by decide +kernel
theorem dX5_drift_51 : decode cX5_drift 51 = .ok (.istore 6, 2) := by decide +kernel
theorem dX5_drift_53 : decode cX5_drift 53 = .ok (.iload 6, 2) := by decide +kernel
theorem dX5_drift_55 : decode cX5_drift 55 = .ok (.iload_n 2, 1) := by decide +kernel
theorem dX5_drift_56 : decode cX5_drift 56 = .ok (.if_icmp .ge 47, 3) := by decide +kernel
theorem dX5_drift_59 : decode cX5_drift 59 = .ok (.iload 5, 2) := by decide +kernel
theorem dX5_drift_61 : decode cX5_drift 61 = .ok (.ldc 222, 2) := by decide +kernel
theorem dX5_drift_63 : decode cX5_drift 63 = .ok (.imul, 1) := by decide +kernel
theorem dX5_drift_64 : decode cX5_drift 64 = .ok (.sipush 12345, 3) := by decide +kernel
theorem dX5_drift_67 : decode cX5_drift 67 = .ok (.iadd, 1) := by decide +kernel
theorem dX5_drift_68 : decode cX5_drift 68 = .ok (.istore 5, 2) := by decide +kernel
theorem dX5_drift_70 : decode cX5_drift 70 = .ok (.aload_n 0, 1) := by decide +kernel
theorem dX5_drift_71 : decode cX5_drift 71 = .ok (.getfield 23, 3) := by decide +kernel
theorem dX5_drift_74 : decode cX5_drift 74 = .ok (.iload 5, 2) := by decide +kernel
theorem dX5_drift_76 : decode cX5_drift 76 = .ok (.bipush 16, 2) := by decide +kernel
theorem dX5_drift_78 : decode cX5_drift 78 = .ok (.iushr, 1) := by decide +kernel
theorem dX5_drift_79 : decode cX5_drift 79 = .ok (.sipush 32767, 3) := by decide +kernel
theorem dX5_drift_82 : decode cX5_drift 82 = .ok (.iand, 1) := by decide +kernel
theorem dX5_drift_83 : decode cX5_drift 83 = .ok (.bipush 10, 2) := by decide +kernel
theorem dX5_drift_85 : decode cX5_drift 85 = .ok (.irem, 1) := by decide +kernel
theorem dX5_drift_86 : decode cX5_drift 86 = .ok (.putfield 104, 3) := by decide +kernel
theorem dX5_drift_89 : decode cX5_drift 89 = .ok (.aload_n 0, 1) := by decide +kernel
theorem dX5_drift_90 : decode cX5_drift 90 = .ok (.getfield 23, 3) := by decide +kernel
theorem dX5_drift_93 : decode cX5_drift 93 = .ok (.iconst 0, 1) := by decide +kernel
theorem dX5_drift_94 : decode cX5_drift 94 = .ok (.invokevirtual 158, 3) := by decide +kernel
theorem dX5_drift_97 : decode cX5_drift 97 = .ok (.iinc 6 1, 3) := by decide +kernel
theorem dX5_drift_100 : decode cX5_drift 100 = .ok (.goto (-47), 3) := by decide +kernel
theorem dX5_drift_103 : decode cX5_drift 103 = .ok (.iload_n 3, 1) := by decide +kernel
theorem dX5_drift_104 : decode cX5_drift 104 = .ok (.ifCond .ne 13, 3) := by decide +kernel
theorem dX5_drift_107 : decode cX5_drift 107 = .ok (.aload_n 0, 1) := by decide +kernel
theorem dX5_drift_108 : decode cX5_drift 108 = .ok (.getfield 23, 3) := by decide +kernel
theorem dX5_drift_111 : decode cX5_drift 111 = .ok (.getfield 101, 3) := by decide +kernel
theorem dX5_drift_114 : decode cX5_drift 114 = .ok (.goto 18, 3) := by decide +kernel
theorem dX5_drift_117 : decode cX5_drift 117 = .ok (.aload_n 0, 1) := by decide +kernel
theorem dX5_drift_118 : decode cX5_drift 118 = .ok (.getfield 23, 3) := by decide +kernel
theorem dX5_drift_121 : decode cX5_drift 121 = .ok (.getfield 110, 3) := by decide +kernel
theorem dX5_drift_124 : decode cX5_drift 124 = .ok (.aload_n 0, 1) := by decide +kernel
theorem dX5_drift_125 : decode cX5_drift 125 = .ok (.getfield 19, 3) := by decide +kernel
theorem dX5_drift_128 : decode cX5_drift 128 = .ok (.getfield 110, 3) := by decide +kernel
theorem dX5_drift_131 : decode cX5_drift 131 = .ok (.isub, 1) := by decide +kernel
theorem dX5_drift_132 : decode cX5_drift 132 = .ok (.ireturn, 1) := by decide +kernel
set_option maxRecDepth 20000 in
theorem ggX5_keep_X5_within : GoodIn wsX5_keep wsX5_within := goodIn_r _ [10] (by decide +kernel) (by decide +kernel)
set_option maxRecDepth 20000 in
theorem gX5_keep_X5_within : GoodIn wsX5_keep (va_wsS RX5 57 yX5_within wsX5_within) := goodIn_app (goodIn_of _ (by decide +kernel)) ggX5_keep_X5_within
set_option maxRecDepth 20000 in
theorem ggX5_keep_X0_copyFrom : GoodIn wsX5_keep wsX0_copyFrom := goodIn_r _ [15, 16, 17, 18, 19, 20, 21, 22, 23, 24, 25, 26, 27, 28, 51, 52, 53, 54, 55, 56, 57, 58, 59, 60, 61, 62] (by decide +kernel) (by decide +kernel)
set_option maxRecDepth 20000 in
theorem gX5_keep_X0_copyFrom : GoodIn wsX5_keep (wsV RX5 81 RX0 yX0_copyFrom wsX0_copyFrom) := goodIn_app (goodIn_of _ (by decide +kernel)) ggX5_keep_X0_copyFrom
set_option maxRecDepth 20000 in
theorem ggX5_keep_X3_copyFrom : GoodIn wsX5_keep wsX3_copyFrom := goodIn_r _ [33, 34, 35, 18, 19, 20, 36, 37, 63, 64, 65] (by decide +kernel) (by decide +kernel)
set_option maxRecDepth 20000 in
theorem gX5_keep_X3_copyFrom : GoodIn wsX5_keep (wsV RX5 227 RX3 yX3_copyFrom wsX3_copyFrom) := goodIn_app (goodIn_of _ (by decide +kernel)) ggX5_keep_X3_copyFrom
theorem dX5_keep_0 : decode cX5_keep 0 = .ok (.iload_n 1, 1) := by decide +kernel
theorem dX5_keep_1 : decode cX5_keep 1 = .ok (.iconst 0, 1) := by decide +kernel
theorem dX5_keep_2 : decode cX5_keep 2 = .ok (.iconst 1, 1) := by decide +kernel
theorem dX5_keep_3 : decode cX5_keep 3 = .ok (.invokestatic 57, 3) := by decide +kernel
theorem dX5_keep_6 : decode cX5_keep 6 = .ok (.ifCond .ne 5, 3) := by decide +kernel
theorem dX5_keep_9 : decode cX5_keep 9 = .ok (.iconst (-1), 1) := by decide +kernel
theorem dX5_keep_10 : decode cX5_keep 10 = .ok (.ireturn, 1) := by decide +kernel
theorem dX5_keep_11 : decode cX5_keep 11 = .ok (.aload_n 0, 1) := by decide +kernel
theorem dX5_keep_12 : decode cX5_keep 12 = .ok (.getfield 35, 3) := by decide +kernel
theorem dX5_keep_15 : decode cX5_keep 15 = .ok (.iload_n 1, 1) := by decide +kernel
theorem dX5_keep_16 : decode cX5_keep 16 = .ok (.aaload, 1) := by decide +kernel
theorem dX5_keep_17 : decode cX5_keep 17 = .ok (.astore_n 2, 1) := by decide +kernel
theorem dX5_keep_18 : decode cX5_keep 18 = .ok (.aload_n 2, 1) := by decide +kernel
theorem dX5_keep_19 : decode cX5_keep 19 = .ok (.getfield 88, 3) := by decide +kernel
theorem dX5_keep_22 : decode cX5_keep 22 = .ok (.ifCond .eq 7, 3) := by decide +kernel
theorem dX5_keep_25 : decode cX5_keep 25 = .ok (.iconst 1, 1) := by decide +kernel
theorem dX5_keep_26 : decode cX5_keep 26 = .ok (.goto 4, 3) := by decide +kernel
theorem dX5_keep_29 : decode cX5_keep 29 = .ok (.iconst 0, 1) := by decide +kernel
theorem dX5_keep_30 : decode cX5_keep 30 = .ok (.istore_n 3, 1) := by decide +kernel
theorem dX5_keep_31 : decode cX5_keep 31 = .ok (.aload_n 2, 1) := by decide +kernel
theorem dX5_keep_32 : decode cX5_keep 32 = .ok (.iconst 1, 1) := by decide +kernel
theorem dX5_keep_33 : decode cX5_keep 33 = .ok (.putfield 88, 3) := by decide +kernel
theorem dX5_keep_36 : decode cX5_keep 36 = .ok (.aload_n 2, 1) := by decide +kernel
theorem dX5_keep_37 : decode cX5_keep 37 = .ok (.getfield 223, 3) := by decide +kernel
theorem dX5_keep_40 : decode cX5_keep 40 = .ok (.aload_n 0, 1) := by decide +kernel
theorem dX5_keep_41 : decode cX5_keep 41 = .ok (.getfield 19, 3) := by decide +kernel
theorem dX5_keep_44 : decode cX5_keep 44 = .ok (.invokevirtual 81, 3) := by decide +kernel
theorem dX5_keep_47 : decode cX5_keep 47 = .ok (.aload_n 2, 1) := by decide +kernel
theorem dX5_keep_48 : decode cX5_keep 48 = .ok (.getfield 226, 3) := by decide +kernel
theorem dX5_keep_51 : decode cX5_keep 51 = .ok (.aload_n 0, 1) := by decide +kernel
theorem dX5_keep_52 : decode cX5_keep 52 = .ok (.getfield 29, 3) := by decide +kernel
theorem dX5_keep_55 : decode cX5_keep 55 = .ok (.invokevirtual 227, 3) := by decide +kernel
theorem dX5_keep_58 : decode cX5_keep 58 = .ok (.iload_n 3, 1) := by decide +kernel
theorem dX5_keep_59 : decode cX5_keep 59 = .ok (.ireturn, 1) := by decide +kernel
set_option maxRecDepth 20000 in
theorem ggX5_back_X5_within : GoodIn wsX5_back wsX5_within := goodIn_r _ [11] (by decide +kernel) (by decide +kernel)
set_option maxRecDepth 20000 in
theorem gX5_back_X5_within : GoodIn wsX5_back (va_wsS RX5 57 yX5_within wsX5_within) := goodIn_app (goodIn_of _ (by decide +kernel)) ggX5_back_X5_within
set_option maxRecDepth 20000 in
theorem ggX5_back_X0_copyFrom : GoodIn wsX5_back wsX0_copyFrom := goodIn_r _ [16, 17, 18, 19, 20, 21, 22, 23, 24, 25, 26, 27, 28, 29, 52, 53, 54, 55, 56, 57, 58, 59, 60, 61, 62, 63] (by decide +kernel) (by decide +kernel)
set_option maxRecDepth 20000 in
theorem gX5_back_X0_copyFrom : GoodIn wsX5_back (wsV RX5 81 RX0 yX0_copyFrom wsX0_copyFrom) := goodIn_app (goodIn_of _ (by decide +kernel)) ggX5_back_X0_copyFrom
set_option maxRecDepth 20000 in
theorem ggX5_back_X3_copyFrom : GoodIn wsX5_back wsX3_copyFrom := goodIn_r _ [34, 35, 36, 19, 20, 21, 37, 38, 64, 65, 66] (by decide +kernel) (by decide +kernel)
set_option maxRecDepth 20000 in
theorem gX5_back_X3_copyFrom : GoodIn wsX5_back (wsV RX5 227 RX3 yX3_copyFrom wsX3_copyFrom) := goodIn_app (goodIn_of _ (by decide +kernel)) ggX5_back_X3_copyFrom
theorem dX5_back_0 : decode cX5_back 0 = .ok (.iload_n 1, 1) := by decide +kernel
theorem dX5_back_1 : decode cX5_back 1 = .ok (.iconst 0, 1) := by decide +kernel
theorem dX5_back_2 : decode cX5_back 2 = .ok (.iconst 1, 1) := by decide +kernel
theorem dX5_back_3 : decode cX5_back 3 = .ok (.invokestatic 57, 3) := by decide +kernel
theorem dX5_back_6 : decode cX5_back 6 = .ok (.ifCond .ne 5, 3) := by decide +kernel
theorem dX5_back_9 : decode cX5_back 9 = .ok (.iconst (-1), 1) := by decide +kernel
theorem dX5_back_10 : decode cX5_back 10 = .ok (.ireturn, 1) := by decide +kernel
theorem dX5_back_11 : decode cX5_back 11 = .ok (.aload_n 0, 1) := by decide +kernel
theorem dX5_back_12 : decode cX5_back 12 = .ok (.getfield 35, 3) := by decide +kernel
theorem dX5_back_15 : decode cX5_back 15 = .ok (.iload_n 1, 1) := by decide +kernel
theorem dX5_back_16 : decode cX5_back 16 = .ok (.aaload, 1) := by decide +kernel
theorem dX5_back_17 : decode cX5_back 17 = .ok (.astore_n 2, 1) := by decide +kernel
theorem dX5_back_18 : decode cX5_back 18 = .ok (.aload_n 2, 1) := by decide +kernel
theorem dX5_back_19 : decode cX5_back 19 = .ok (.getfield 88, 3) := by decide +kernel
theorem dX5_back_22 : decode cX5_back 22 = .ok (.ifCond .ne 6, 3) := by decide +kernel
theorem dX5_back_25 : decode cX5_back 25 = .ok (.bipush (-2), 2) := by decide +kernel
theorem dX5_back_27 : decode cX5_back 27 = .ok (.ireturn, 1) := by decide +kernel
theorem dX5_back_28 : decode cX5_back 28 = .ok (.aload_n 0, 1) := by decide +kernel
theorem dX5_back_29 : decode cX5_back 29 = .ok (.getfield 19, 3) := by decide +kernel
theorem dX5_back_32 : decode cX5_back 32 = .ok (.aload_n 2, 1) := by decide +kernel
theorem dX5_back_33 : decode cX5_back 33 = .ok (.getfield 223, 3) := by decide +kernel
theorem dX5_back_36 : decode cX5_back 36 = .ok (.invokevirtual 81, 3) := by decide +kernel
theorem dX5_back_39 : decode cX5_back 39 = .ok (.aload_n 0, 1) := by decide +kernel
theorem dX5_back_40 : decode cX5_back 40 = .ok (.getfield 29, 3) := by decide +kernel
theorem dX5_back_43 : decode cX5_back 43 = .ok (.aload_n 2, 1) := by decide +kernel
theorem dX5_back_44 : decode cX5_back 44 = .ok (.getfield 226, 3) := by decide +kernel
theorem dX5_back_47 : decode cX5_back 47 = .ok (.invokevirtual 227, 3) := by decide +kernel
theorem dX5_back_50 : decode cX5_back 50 = .ok (.aload_n 0, 1) := by decide +kernel
theorem dX5_back_51 : decode cX5_back 51 = .ok (.getfield 19, 3) := by decide +kernel
theorem dX5_back_54 : decode cX5_back 54 = .ok (.getfield 101, 3) := by decide +kernel
theorem dX5_back_57 : decode cX5_back 57 = .ok (.ireturn, 1) := by decide +kernel
set_option maxRecDepth 20000 in
theorem ggX5_sheet_X5_isSheet : GoodIn wsX5_sheet wsX5_isSheet := goodIn_r _ [5, 6, 7, 4, 8] (by decide +kernel) (by decide +kernel)
set_option maxRecDepth 20000 in
theorem gX5_sheet_X5_isSheet : GoodIn wsX5_sheet (va_wsS RX5 230 yX5_isSheet wsX5_isSheet) := goodIn_app (goodIn_of _ (by decide +kernel)) ggX5_sheet_X5_isSheet
set_option maxRecDepth 20000 in
theorem ggX5_sheet_X5_isLane : GoodIn wsX5_sheet wsX5_isLane := goodIn_r _ [11, 6, 7, 4, 8] (by decide +kernel) (by decide +kernel)
set_option maxRecDepth 20000 in
theorem gX5_sheet_X5_isLane : GoodIn wsX5_sheet (va_wsS RX5 233 yX5_isLane wsX5_isLane) := goodIn_app (goodIn_of _ (by decide +kernel)) ggX5_sheet_X5_isLane
set_option maxRecDepth 20000 in
theorem ggX5_sheet_X2_renew : GoodIn wsX5_sheet wsX2_renew := goodIn_r _ [16, 17, 18, 19, 30, 31, 32] (by decide +kernel) (by decide +kernel)
set_option maxRecDepth 20000 in
theorem gX5_sheet_X2_renew : GoodIn wsX5_sheet (wsV RX5 236 RX2 yX2_renew wsX2_renew) := goodIn_app (goodIn_of _ (by decide +kernel)) ggX5_sheet_X2_renew
theorem dX5_sheet_0 : decode cX5_sheet 0 = .ok (.iload_n 1, 1) := by decide +kernel
theorem dX5_sheet_1 : decode cX5_sheet 1 = .ok (.invokestatic 230, 3) := by decide +kernel
theorem dX5_sheet_4 : decode cX5_sheet 4 = .ok (.ifCond .eq 16, 3) := by decide +kernel
theorem dX5_sheet_7 : decode cX5_sheet 7 = .ok (.iload_n 2, 1) := by decide +kernel
theorem dX5_sheet_8 : decode cX5_sheet 8 = .ok (.invokestatic 233, 3) := by decide +kernel
theorem dX5_sheet_11 : decode cX5_sheet 11 = .ok (.ifCond .eq 9, 3) := by decide +kernel
theorem dX5_sheet_14 : decode cX5_sheet 14 = .ok (.iload_n 3, 1) := by decide +kernel
theorem dX5_sheet_15 : decode cX5_sheet 15 = .ok (.bipush 40, 2) := by decide +kernel
theorem dX5_sheet_17 : decode cX5_sheet 17 = .ok (.if_icmp .le 5, 3) := by decide +kernel
theorem dX5_sheet_20 : decode cX5_sheet 20 = .ok (.iconst (-1), 1) := by decide +kernel
theorem dX5_sheet_21 : decode cX5_sheet 21 = .ok (.ireturn, 1) := by decide +kernel
theorem dX5_sheet_22 : decode cX5_sheet 22 = .ok (.iload_n 3, 1) := by decide +kernel
theorem dX5_sheet_23 : decode cX5_sheet 23 = .ok (.ifCond .ge 6, 3) := by decide +kernel
theorem dX5_sheet_26 : decode cX5_sheet 26 = .ok (.bipush (-14), 2) := by decide +kernel
theorem dX5_sheet_28 : decode cX5_sheet 28 = .ok (.ireturn, 1) := by decide +kernel
theorem dX5_sheet_29 : decode cX5_sheet 29 = .ok (.aload_n 0, 1) := by decide +kernel
theorem dX5_sheet_30 : decode cX5_sheet 30 = .ok (.getfield 42, 3) := by decide +kernel
theorem dX5_sheet_33 : decode cX5_sheet 33 = .ok (.iload_n 1, 1) := by decide +kernel
theorem dX5_sheet_34 : decode cX5_sheet 34 = .ok (.aaload, 1) := by decide +kernel
theorem dX5_sheet_35 : decode cX5_sheet 35 = .ok (.iload_n 2, 1) := by decide +kernel
theorem dX5_sheet_36 : decode cX5_sheet 36 = .ok (.iload_n 3, 1) := by decide +kernel
theorem dX5_sheet_37 : decode cX5_sheet 37 = .ok (.invokevirtual 236, 3) := by decide +kernel
theorem dX5_sheet_40 : decode cX5_sheet 40 = .ok (.iconst 1, 1) := by decide +kernel
theorem dX5_sheet_41 : decode cX5_sheet 41 = .ok (.ireturn, 1) := by decide +kernel
set_option maxRecDepth 20000 in
theorem ggX5_lay_X5_isSheet : GoodIn wsX5_lay wsX5_isSheet := goodIn_r _ [7, 8, 9, 6, 10] (by decide +kernel) (by decide +kernel)
set_option maxRecDepth 20000 in
theorem gX5_lay_X5_isSheet : GoodIn wsX5_lay (va_wsS RX5 230 yX5_isSheet wsX5_isSheet) := goodIn_app (goodIn_of _ (by decide +kernel)) ggX5_lay_X5_isSheet
set_option maxRecDepth 20000 in
theorem ggX5_lay_X2_faultAt : GoodIn wsX5_lay wsX2_faultAt := goodIn_r _ [15, 16, 17, 9, 6, 10, 32, 33, 34] (by decide +kernel) (by decide +kernel)
set_option maxRecDepth 20000 in
theorem gX5_lay_X2_faultAt : GoodIn wsX5_lay (wsV RX5 242 RX2 yX2_faultAt wsX2_faultAt) := goodIn_app (goodIn_of _ (by decide +kernel)) ggX5_lay_X2_faultAt
set_option maxRecDepth 20000 in
theorem ggX5_lay_X2_narrowed : GoodIn wsX5_lay wsX2_narrowed := goodIn_r _ [21, 17, 32, 33, 34] (by decide +kernel) (by decide +kernel)
set_option maxRecDepth 20000 in
theorem gX5_lay_X2_narrowed : GoodIn wsX5_lay (wsV RX5 248 RX2 yX2_narrowed wsX2_narrowed) := goodIn_app (goodIn_of _ (by decide +kernel)) ggX5_lay_X2_narrowed
theorem dX5_lay_0 : decode cX5_lay 0 = .ok (.iload_n 1, 1) := by decide +kernel
theorem dX5_lay_1 : decode cX5_lay 1 = .ok (.invokestatic 230, 3) := by decide +kernel
theorem dX5_lay_4 : decode cX5_lay 4 = .ok (.ifCond .ne 5, 3) := by decide +kernel
theorem dX5_lay_7 : decode cX5_lay 7 = .ok (.iconst (-1), 1) := by decide +kernel
theorem dX5_lay_8 : decode cX5_lay 8 = .ok (.ireturn, 1) := by decide +kernel
theorem dX5_lay_9 : decode cX5_lay 9 = .ok (.aload_n 0, 1) := by decide +kernel
theorem dX5_lay_10 : decode cX5_lay 10 = .ok (.getfield 42, 3) := by decide +kernel
theorem dX5_lay_13 : decode cX5_lay 13 = .ok (.iload_n 1, 1) := by decide +kernel
theorem dX5_lay_14 : decode cX5_lay 14 = .ok (.aaload, 1) := by decide +kernel
theorem dX5_lay_15 : decode cX5_lay 15 = .ok (.astore 4, 2) := by decide +kernel
theorem dX5_lay_17 : decode cX5_lay 17 = .ok (.aload 4, 2) := by decide +kernel
theorem dX5_lay_19 : decode cX5_lay 19 = .ok (.aload 4, 2) := by decide +kernel
theorem dX5_lay_21 : decode cX5_lay 21 = .ok (.getfield 239, 3) := by decide +kernel
theorem dX5_lay_24 : decode cX5_lay 24 = .ok (.iload_n 2, 1) := by decide +kernel
theorem dX5_lay_25 : decode cX5_lay 25 = .ok (.invokevirtual 242, 3) := by decide +kernel
theorem dX5_lay_28 : decode cX5_lay 28 = .ok (.istore 5, 2) := by decide +kernel
theorem dX5_lay_30 : decode cX5_lay 30 = .ok (.iload 5, 2) := by decide +kernel
theorem dX5_lay_32 : decode cX5_lay 32 = .ok (.ifCond .eq 9, 3) := by decide +kernel
theorem dX5_lay_35 : decode cX5_lay 35 = .ok (.bipush (-10), 2) := by decide +kernel
theorem dX5_lay_37 : decode cX5_lay 37 = .ok (.iload 5, 2) := by decide +kernel
theorem dX5_lay_39 : decode cX5_lay 39 = .ok (.isub, 1) := by decide +kernel
theorem dX5_lay_40 : decode cX5_lay 40 = .ok (.ireturn, 1) := by decide +kernel
theorem dX5_lay_41 : decode cX5_lay 41 = .ok (.aload 4, 2) := by decide +kernel
theorem dX5_lay_43 : decode cX5_lay 43 = .ok (.getfield 245, 3) := by decide +kernel
theorem dX5_lay_46 : decode cX5_lay 46 = .ok (.iload_n 2, 1) := by decide +kernel
theorem dX5_lay_47 : decode cX5_lay 47 = .ok (.aload 4, 2) := by decide +kernel
theorem dX5_lay_49 : decode cX5_lay 49 = .ok (.iload_n 3, 1) := by decide +kernel
theorem dX5_lay_50 : decode cX5_lay 50 = .ok (.invokevirtual 248, 3) := by decide +kernel
theorem dX5_lay_53 : decode cX5_lay 53 = .ok (.iastore, 1) := by decide +kernel
theorem dX5_lay_54 : decode cX5_lay 54 = .ok (.iconst 1, 1) := by decide +kernel
theorem dX5_lay_55 : decode cX5_lay 55 = .ok (.ireturn, 1) := by decide +kernel
set_option maxRecDepth 20000 in
theorem ggX5_read_X5_isSheet : GoodIn wsX5_read wsX5_isSheet := goodIn_r _ [9, 10, 11, 8, 12] (by decide +kernel) (by decide +kernel)
set_option maxRecDepth 20000 in
theorem gX5_read_X5_isSheet : GoodIn wsX5_read (va_wsS RX5 230 yX5_isSheet wsX5_isSheet) := goodIn_app (goodIn_of _ (by decide +kernel)) ggX5_read_X5_isSheet
set_option maxRecDepth 20000 in
theorem ggX5_read_X5_isLane : GoodIn wsX5_read wsX5_isLane := goodIn_r _ [15, 10, 11, 8, 12] (by decide +kernel) (by decide +kernel)
set_option maxRecDepth 20000 in
theorem gX5_read_X5_isLane : GoodIn wsX5_read (va_wsS RX5 233 yX5_isLane wsX5_isLane) := goodIn_app (goodIn_of _ (by decide +kernel)) ggX5_read_X5_isLane
set_option maxRecDepth 20000 in
theorem ggX5_read_X5_within : GoodIn wsX5_read wsX5_within := goodIn_r _ [12] (by decide +kernel) (by decide +kernel)
set_option maxRecDepth 20000 in
theorem gX5_read_X5_within : GoodIn wsX5_read (va_wsS RX5 57 yX5_within wsX5_within) := goodIn_app (goodIn_of _ (by decide +kernel)) ggX5_read_X5_within
set_option maxRecDepth 20000 in
theorem ggX5_read_X0_copyFrom : GoodIn wsX5_read wsX0_copyFrom := goodIn_r _ [20, 21, 22, 23, 24, 25, 26, 27, 28, 29, 30, 31, 32, 33, 99, 100, 101, 102, 103, 104, 105, 106, 107, 108, 109, 110] (by decide +kernel) (by decide +kernel)
set_option maxRecDepth 20000 in
theorem gX5_read_X0_copyFrom : GoodIn wsX5_read (wsV RX5 81 RX0 yX0_copyFrom wsX0_copyFrom) := goodIn_app (goodIn_of _ (by decide +kernel)) ggX5_read_X0_copyFrom
set_option maxRecDepth 20000 in
theorem ggX5_read_X2_faultOfPair : GoodIn wsX5_read wsX2_faultOfPair := goodIn_r _ [38, 39, 40, 41, 37, 42, 43, 44, 11, 8, 12, 96, 97, 98] (by decide +kernel) (by decide +kernel)
set_option maxRecDepth 20000 in
theorem gX5_read_X2_faultOfPair : GoodIn wsX5_read (wsV RX5 251 RX2 yX2_faultOfPair wsX2_faultOfPair) := goodIn_app (goodIn_of _ (by decide +kernel)) ggX5_read_X2_faultOfPair
set_option maxRecDepth 20000 in
theorem ggX5_read_X5_trains : GoodIn wsX5_read wsX5_trains := goodIn_r _ [48, 2, 49, 50, 51, 52, 53, 54, 19, 55, 27, 11, 8, 12, 56, 57, 58, 59, 10, 60, 61, 62, 63, 26, 33, 64, 21, 65, 30, 31, 66, 29, 67, 68, 69, 70, 71, 72, 73, 32, 74, 75, 76, 77, 28, 78, 79, 80, 81, 82, 83, 84, 85, 86, 87, 88, 89, 90, 91, 92, 93, 94, 95, 99, 100, 101, 102, 103, 104, 105, 106, 107, 108, 109, 110] (by decide +kernel) (by decide +kernel)
set_option maxRecDepth 20000 in
theorem gX5_read_X5_trains : GoodIn wsX5_read (wsV RX5 254 RX5 yX5_trains wsX5_trains) := goodIn_app (goodIn_of _ (by decide +kernel)) ggX5_read_X5_trains
theorem dX5_read_0 : decode cX5_read 0 = .ok (.iload_n 1, 1) := by decide +kernel
theorem dX5_read_1 : decode cX5_read 1 = .ok (.invokestatic 230, 3) := by decide +kernel
theorem dX5_read_4 : decode cX5_read 4 = .ok (.ifCond .eq 21, 3) := by decide +kernel
theorem dX5_read_7 : decode cX5_read 7 = .ok (.iload_n 2, 1) := by decide +kernel
theorem dX5_read_8 : decode cX5_read 8 = .ok (.invokestatic 233, 3) := by decide +kernel
theorem dX5_read_11 : decode cX5_read 11 = .ok (.ifCond .eq 14, 3) := by decide +kernel
theorem dX5_read_14 : decode cX5_read 14 = .ok (.iload 4, 2) := by decide +kernel
theorem dX5_read_16 : decode cX5_read 16 = .ok (.iconst 0, 1) := by decide +kernel
theorem dX5_read_17 : decode cX5_read 17 = .ok (.bipush 20, 2) := by decide +kernel
theorem dX5_read_19 : decode cX5_read 19 = .ok (.invokestatic 57, 3) := by decide +kernel
theorem dX5_read_22 : decode cX5_read 22 = .ok (.ifCond .ne 5, 3) := by decide +kernel
theorem dX5_read_25 : decode cX5_read 25 = .ok (.iconst (-1), 1) := by decide +kernel
theorem dX5_read_26 : decode cX5_read 26 = .ok (.ireturn, 1) := by decide +kernel
theorem dX5_read_27 : decode cX5_read 27 = .ok (.aload_n 0, 1) := by decide +kernel
theorem dX5_read_28 : decode cX5_read 28 = .ok (.getfield 42, 3) := by decide +kernel
theorem dX5_read_31 : decode cX5_read 31 = .ok (.iload_n 1, 1) := by decide +kernel
theorem dX5_read_32 : decode cX5_read 32 = .ok (.aaload, 1) := by decide +kernel
theorem dX5_read_33 : decode cX5_read 33 = .ok (.astore 5, 2) := by decide +kernel
theorem dX5_read_35 : decode cX5_read 35 = .ok (.aload_n 0, 1) := by decide +kernel
theorem dX5_read_36 : decode cX5_read 36 = .ok (.getfield 23, 3) := by decide +kernel
theorem dX5_read_39 : decode cX5_read 39 = .ok (.aload_n 0, 1) := by decide +kernel
theorem dX5_read_40 : decode cX5_read 40 = .ok (.getfield 19, 3) := by decide +kernel
theorem dX5_read_43 : decode cX5_read 43 = .ok (.invokevirtual 81, 3) := by decide +kernel
theorem dX5_read_46 : decode cX5_read 46 = .ok (.iconst 0, 1) := by decide +kernel
theorem dX5_read_47 : decode cX5_read 47 = .ok (.istore 6, 2) := by decide +kernel
theorem dX5_read_49 : decode cX5_read 49 = .ok (.iconst 0, 1) := by decide +kernel
theorem dX5_read_50 : decode cX5_read 50 = .ok (.istore 7, 2) := by decide +kernel
theorem dX5_read_52 : decode cX5_read 52 = .ok (.iconst 0, 1) := by decide +kernel
theorem dX5_read_53 : decode cX5_read 53 = .ok (.istore 8, 2) := by decide +kernel
theorem dX5_read_55 : decode cX5_read 55 = .ok (.iload 8, 2) := by decide +kernel
theorem dX5_read_57 : decode cX5_read 57 = .ok (.iload 4, 2) := by decide +kernel
theorem dX5_read_59 : decode cX5_read 59 = .ok (.if_icmp .ge 71, 3) := by decide +kernel
theorem dX5_read_62 : decode cX5_read 62 = .ok (.iload 7, 2) := by decide +kernel
theorem dX5_read_64 : decode cX5_read 64 = .ok (.ifCond .ne 66, 3) := by decide +kernel
theorem dX5_read_67 : decode cX5_read 67 = .ok (.iload_n 3, 1) := by decide +kernel
theorem dX5_read_68 : decode cX5_read 68 = .ok (.iconst 2, 1) := by decide +kernel
theorem dX5_read_69 : decode cX5_read 69 = .ok (.iload 8, 2) := by decide +kernel
theorem dX5_read_71 : decode cX5_read 71 = .ok (.imul, 1) := by decide +kernel
theorem dX5_read_72 : decode cX5_read 72 = .ok (.iadd, 1) := by decide +kernel
theorem dX5_read_73 : decode cX5_read 73 = .ok (.istore 9, 2) := by decide +kernel
theorem dX5_read_75 : decode cX5_read 75 = .ok (.aload 5, 2) := by decide +kernel
theorem dX5_read_77 : decode cX5_read 77 = .ok (.iload_n 2, 1) := by decide +kernel
theorem dX5_read_78 : decode cX5_read 78 = .ok (.iload 9, 2) := by decide +kernel
theorem dX5_read_80 : decode cX5_read 80 = .ok (.invokevirtual 251, 3) := by decide +kernel
theorem dX5_read_83 : decode cX5_read 83 = .ok (.istore 7, 2) := by decide +kernel
theorem dX5_read_85 : decode cX5_read 85 = .ok (.iload 7, 2) := by decide +kernel
theorem dX5_read_87 : decode cX5_read 87 = .ok (.ifCond .ne 37, 3) := by decide +kernel
theorem dX5_read_90 : decode cX5_read 90 = .ok (.aload_n 0, 1) := by decide +kernel
theorem dX5_read_91 : decode cX5_read 91 = .ok (.aload 5, 2) := by decide +kernel
theorem dX5_read_93 : decode cX5_read 93 = .ok (.getfield 245, 3) := by decide +kernel
theorem dX5_read_96 : decode cX5_read 96 = .ok (.iload 9, 2) := by decide +kernel
theorem dX5_read_98 : decode cX5_read 98 = .ok (.iaload, 1) := by decide +kernel
theorem dX5_read_99 : decode cX5_read 99 = .ok (.aload 5, 2) := by decide +kernel
theorem dX5_read_101 : decode cX5_read 101 = .ok (.getfield 245, 3) := by decide +kernel
theorem dX5_read_104 : decode cX5_read 104 = .ok (.iload 9, 2) := by decide +kernel
theorem dX5_read_106 : decode cX5_read 106 = .ok (.iconst 1, 1) := by decide +kernel
theorem dX5_read_107 : decode cX5_read 107 = .ok (.iadd, 1) := by decide +kernel
theorem dX5_read_108 : decode cX5_read 108 = .ok (.iaload, 1) := by decide +kernel
theorem dX5_read_109 : decode cX5_read 109 = .ok (.invokevirtual 254, 3) := by decide +kernel
theorem dX5_read_112 : decode cX5_read 112 = .ok (.ifCond .ne 9, 3) := by decide +kernel
theorem dX5_read_115 : decode cX5_read 115 = .ok (.bipush (-20), 2) := by decide +kernel
theorem dX5_read_117 : decode cX5_read 117 = .ok (.iload 8, 2) := by decide +kernel
theorem dX5_read_119 : decode cX5_read 119 = .ok (.isub, 1) := by decide +kernel
theorem dX5_read_120 : decode cX5_read 120 = .ok (.ireturn, 1) := by decide +kernel
theorem dX5_read_121 : decode cX5_read 121 = .ok (.iinc 6 1, 3) := by decide +kernel
theorem dX5_read_124 : decode cX5_read 124 = .ok (.iinc 8 1, 3) := by decide +kernel
theorem dX5_read_127 : decode cX5_read 127 = .ok (.goto (-72), 3) := by decide +kernel
theorem dX5_read_130 : decode cX5_read 130 = .ok (.aload_n 0, 1) := by decide +kernel
theorem dX5_read_131 : decode cX5_read 131 = .ok (.getfield 19, 3) := by decide +kernel
theorem dX5_read_134 : decode cX5_read 134 = .ok (.aload_n 0, 1) := by decide +kernel
theorem dX5_read_135 : decode cX5_read 135 = .ok (.getfield 23, 3) := by decide +kernel
theorem dX5_read_138 : decode cX5_read 138 = .ok (.invokevirtual 81, 3) := by decide +kernel
theorem dX5_read_141 : decode cX5_read 141 = .ok (.aload_n 0, 1) := by decide +kernel
theorem dX5_read_142 : decode cX5_read 142 = .ok (.iload 7, 2) := by decide +kernel
theorem dX5_read_144 : decode cX5_read 144 = .ok (.putfield 257, 3) := by decide +kernel
theorem dX5_read_147 : decode cX5_read 147 = .ok (.iload 6, 2) := by decide +kernel
theorem dX5_read_149 : decode cX5_read 149 = .ok (.ireturn, 1) := by decide +kernel
theorem dX5_torn_0 : decode cX5_torn 0 = .ok (.aload_n 0, 1) := by decide +kernel
theorem dX5_torn_1 : decode cX5_torn 1 = .ok (.getfield 257, 3) := by decide +kernel
theorem dX5_torn_4 : decode cX5_torn 4 = .ok (.ireturn, 1) := by decide +kernel
set_option maxRecDepth 20000 in
theorem ggX5_count_X0_sumOf : GoodIn wsX5_count wsX0_sumOf := goodIn_r _ [14, 15, 16, 53, 54, 55, 56, 57, 58, 59, 60, 61, 62, 63, 64] (by decide +kernel) (by decide +kernel)
set_option maxRecDepth 20000 in
theorem gX5_count_X0_sumOf : GoodIn wsX5_count (wsV RX5 261 RX0 yX0_sumOf wsX0_sumOf) := goodIn_app (goodIn_of _ (by decide +kernel)) ggX5_count_X0_sumOf
theorem dX5_count_0 : decode cX5_count 0 = .ok (.iload_n 1, 1) := by decide +kernel
theorem dX5_count_1 : decode cX5_count 1 = .ok (.tableswitch 136 0 5 #[39, 47, 83, 91, 118, 127], 39) := by decide +kernel
theorem dX5_count_40 : decode cX5_count 40 = .ok (.aload_n 0, 1) := by decide +kernel
theorem dX5_count_41 : decode cX5_count 41 = .ok (.getfield 29, 3) := by decide +kernel
theorem dX5_count_44 : decode cX5_count 44 = .ok (.getfield 85, 3) := by decide +kernel
theorem dX5_count_47 : decode cX5_count 47 = .ok (.ireturn, 1) := by decide +kernel
theorem dX5_count_48 : decode cX5_count 48 = .ok (.aload_n 0, 1) := by decide +kernel
theorem dX5_count_49 : decode cX5_count 49 = .ok (.getfield 35, 3) := by decide +kernel
theorem dX5_count_52 : decode cX5_count 52 = .ok (.iconst 0, 1) := by decide +kernel
theorem dX5_count_53 : decode cX5_count 53 = .ok (.aaload, 1) := by decide +kernel
theorem dX5_count_54 : decode cX5_count 54 = .ok (.getfield 88, 3) := by decide +kernel
theorem dX5_count_57 : decode cX5_count 57 = .ok (.ifCond .eq 7, 3) := by decide +kernel
theorem dX5_count_60 : decode cX5_count 60 = .ok (.iconst 1, 1) := by decide +kernel
theorem dX5_count_61 : decode cX5_count 61 = .ok (.goto 4, 3) := by decide +kernel
theorem dX5_count_64 : decode cX5_count 64 = .ok (.iconst 0, 1) := by decide +kernel
theorem dX5_count_65 : decode cX5_count 65 = .ok (.aload_n 0, 1) := by decide +kernel
theorem dX5_count_66 : decode cX5_count 66 = .ok (.getfield 35, 3) := by decide +kernel
theorem dX5_count_69 : decode cX5_count 69 = .ok (.iconst 1, 1) := by decide +kernel
theorem dX5_count_70 : decode cX5_count 70 = .ok (.aaload, 1) := by decide +kernel
theorem dX5_count_71 : decode cX5_count 71 = .ok (.getfield 88, 3) := by decide +kernel
theorem dX5_count_74 : decode cX5_count 74 = .ok (.ifCond .eq 7, 3) := by decide +kernel
theorem dX5_count_77 : decode cX5_count 77 = .ok (.iconst 1, 1) := by decide +kernel
theorem dX5_count_78 : decode cX5_count 78 = .ok (.goto 4, 3) := by decide +kernel
theorem dX5_count_81 : decode cX5_count 81 = .ok (.iconst 0, 1) := by decide +kernel
theorem dX5_count_82 : decode cX5_count 82 = .ok (.iadd, 1) := by decide +kernel
theorem dX5_count_83 : decode cX5_count 83 = .ok (.ireturn, 1) := by decide +kernel
theorem dX5_count_84 : decode cX5_count 84 = .ok (.aload_n 0, 1) := by decide +kernel
theorem dX5_count_85 : decode cX5_count 85 = .ok (.getfield 10, 3) := by decide +kernel
theorem dX5_count_88 : decode cX5_count 88 = .ok (.getfield 65, 3) := by decide +kernel
theorem dX5_count_91 : decode cX5_count 91 = .ok (.ireturn, 1) := by decide +kernel
theorem dX5_count_92 : decode cX5_count 92 = .ok (.aload_n 0, 1) := by decide +kernel
theorem dX5_count_93 : decode cX5_count 93 = .ok (.getfield 42, 3) := by decide +kernel
theorem dX5_count_96 : decode cX5_count 96 = .ok (.iconst 0, 1) := by decide +kernel
theorem dX5_count_97 : decode cX5_count 97 = .ok (.aaload, 1) := by decide +kernel
theorem dX5_count_98 : decode cX5_count 98 = .ok (.getfield 260, 3) := by decide +kernel
theorem dX5_count_101 : decode cX5_count 101 = .ok (.ifCond .ge 8, 3) := by decide +kernel
theorem dX5_count_104 : decode cX5_count 104 = .ok (.bipush (-4), 2) := by decide +kernel
theorem dX5_count_106 : decode cX5_count 106 = .ok (.goto 12, 3) := by decide +kernel
theorem dX5_count_109 : decode cX5_count 109 = .ok (.aload_n 0, 1) := by decide +kernel
theorem dX5_count_110 : decode cX5_count 110 = .ok (.getfield 42, 3) := by decide +kernel
theorem dX5_count_113 : decode cX5_count 113 = .ok (.iconst 0, 1) := by decide +kernel
theorem dX5_count_114 : decode cX5_count 114 = .ok (.aaload, 1) := by decide +kernel
theorem dX5_count_115 : decode cX5_count 115 = .ok (.getfield 260, 3) := by decide +kernel
theorem dX5_count_118 : decode cX5_count 118 = .ok (.ireturn, 1) := by decide +kernel
theorem dX5_count_119 : decode cX5_count 119 = .ok (.aload_n 0, 1) := by decide +kernel
theorem dX5_count_120 : decode cX5_count 120 = .ok (.getfield 19, 3) := by decide +kernel
theorem dX5_count_123 : decode cX5_count 123 = .ok (.iconst 1, 1) := by decide +kernel
theorem dX5_count_124 : decode cX5_count 124 = .ok (.invokevirtual 261, 3) := by decide +kernel
theorem dX5_count_127 : decode cX5_count 127 = .ok (.ireturn, 1) := by decide +kernel
theorem dX5_count_128 : decode cX5_count 128 = .ok (.aload_n 0, 1) := by decide +kernel
theorem dX5_count_129 : decode cX5_count 129 = .ok (.getfield 19, 3) := by decide +kernel
theorem dX5_count_132 : decode cX5_count 132 = .ok (.iconst 3, 1) := by decide +kernel
theorem dX5_count_133 : decode cX5_count 133 = .ok (.invokevirtual 261, 3) := by decide +kernel
theorem dX5_count_136 : decode cX5_count 136 = .ok (.ireturn, 1) := by decide +kernel
theorem dX5_count_137 : decode cX5_count 137 = .ok (.iconst (-1), 1) := by decide +kernel
theorem dX5_count_138 : decode cX5_count 138 = .ok (.ireturn, 1) := by decide +kernel
theorem dX5_within_0 : decode cX5_within 0 = .ok (.iload_n 0, 1) := by decide +kernel
theorem dX5_within_1 : decode cX5_within 1 = .ok (.iload_n 1, 1) := by decide +kernel
theorem dX5_within_2 : decode cX5_within 2 = .ok (.if_icmp .lt 12, 3) := by decide +kernel
theorem dX5_within_5 : decode cX5_within 5 = .ok (.iload_n 0, 1) := by decide +kernel
theorem dX5_within_6 : decode cX5_within 6 = .ok (.iload_n 2, 1) := by decide +kernel
theorem dX5_within_7 : decode cX5_within 7 = .ok (.if_icmp .gt 7, 3) := by decide +kernel
theorem dX5_within_10 : decode cX5_within 10 = .ok (.iconst 1, 1) := by decide +kernel
theorem dX5_within_11 : decode cX5_within 11 = .ok (.goto 4, 3) := by decide +kernel
theorem dX5_within_14 : decode cX5_within 14 = .ok (.iconst 0, 1) := by decide +kernel
theorem dX5_within_15 : decode cX5_within 15 = .ok (.ireturn, 1) := by decide +kernel
set_option maxRecDepth 20000 in
theorem ggX5_isTrait_X5_within : GoodIn wsX5_isTrait wsX5_within := goodIn_r _ [6] (by decide +kernel) (by decide +kernel)
set_option maxRecDepth 20000 in
theorem gX5_isTrait_X5_within : GoodIn wsX5_isTrait (va_wsS RX5 57 yX5_within wsX5_within) := goodIn_app (goodIn_of _ (by decide +kernel)) ggX5_isTrait_X5_within
theorem dX5_isTrait_0 : decode cX5_isTrait 0 = .ok (.iload_n 1, 1) := by decide +kernel
theorem dX5_isTrait_1 : decode cX5_isTrait 1 = .ok (.getstatic 264, 3) := by decide +kernel
theorem dX5_isTrait_4 : decode cX5_isTrait 4 = .ok (.iload_n 0, 1) := by decide +kernel
theorem dX5_isTrait_5 : decode cX5_isTrait 5 = .ok (.iaload, 1) := by decide +kernel
theorem dX5_isTrait_6 : decode cX5_isTrait 6 = .ok (.getstatic 267, 3) := by decide +kernel
theorem dX5_isTrait_9 : decode cX5_isTrait 9 = .ok (.iload_n 0, 1) := by decide +kernel
theorem dX5_isTrait_10 : decode cX5_isTrait 10 = .ok (.iaload, 1) := by decide +kernel
theorem dX5_isTrait_11 : decode cX5_isTrait 11 = .ok (.invokestatic 57, 3) := by decide +kernel
theorem dX5_isTrait_14 : decode cX5_isTrait 14 = .ok (.ireturn, 1) := by decide +kernel
set_option maxRecDepth 20000 in
theorem ggX5_isAhead_X5_within : GoodIn wsX5_isAhead wsX5_within := goodIn_r _ [4] (by decide +kernel) (by decide +kernel)
set_option maxRecDepth 20000 in
theorem gX5_isAhead_X5_within : GoodIn wsX5_isAhead (va_wsS RX5 57 yX5_within wsX5_within) := goodIn_app (goodIn_of _ (by decide +kernel)) ggX5_isAhead_X5_within
theorem dX5_isAhead_0 : decode cX5_isAhead 0 = .ok (.iload_n 0, 1) := by decide +kernel
theorem dX5_isAhead_1 : decode cX5_isAhead 1 = .ok (.iconst 0, 1) := by decide +kernel
theorem dX5_isAhead_2 : decode cX5_isAhead 2 = .ok (.bipush 60, 2) := by decide +kernel
theorem dX5_isAhead_4 : decode cX5_isAhead 4 = .ok (.invokestatic 57, 3) := by decide +kernel
theorem dX5_isAhead_7 : decode cX5_isAhead 7 = .ok (.ireturn, 1) := by decide +kernel
set_option maxRecDepth 20000 in
theorem ggX5_isWhichOrMuch_X5_within : GoodIn wsX5_isWhichOrMuch wsX5_within := goodIn_r _ [4] (by decide +kernel) (by decide +kernel)
set_option maxRecDepth 20000 in
theorem gX5_isWhichOrMuch_X5_within : GoodIn wsX5_isWhichOrMuch (va_wsS RX5 57 yX5_within wsX5_within) := goodIn_app (goodIn_of _ (by decide +kernel)) ggX5_isWhichOrMuch_X5_within
theorem dX5_isWhichOrMuch_0 : decode cX5_isWhichOrMuch 0 = .ok (.iload_n 0, 1) := by decide +kernel
theorem dX5_isWhichOrMuch_1 : decode cX5_isWhichOrMuch 1 = .ok (.iconst 0, 1) := by decide +kernel
theorem dX5_isWhichOrMuch_2 : decode cX5_isWhichOrMuch 2 = .ok (.iconst 1, 1) := by decide +kernel
theorem dX5_isWhichOrMuch_3 : decode cX5_isWhichOrMuch 3 = .ok (.invokestatic 57, 3) := by decide +kernel
theorem dX5_isWhichOrMuch_6 : decode cX5_isWhichOrMuch 6 = .ok (.ireturn, 1) := by decide +kernel
set_option maxRecDepth 20000 in
theorem ggX5_isOdds_X5_within : GoodIn wsX5_isOdds wsX5_within := goodIn_r _ [4] (by decide +kernel) (by decide +kernel)
set_option maxRecDepth 20000 in
theorem gX5_isOdds_X5_within : GoodIn wsX5_isOdds (va_wsS RX5 57 yX5_within wsX5_within) := goodIn_app (goodIn_of _ (by decide +kernel)) ggX5_isOdds_X5_within
set_option maxRecDepth 20000 in
theorem ggX5_isOdds_X5_isWhichOrMuch : GoodIn wsX5_isOdds wsX5_isWhichOrMuch := goodIn_r _ [7, 1, 2, 3, 4] (by decide +kernel) (by decide +kernel)
set_option maxRecDepth 20000 in
theorem gX5_isOdds_X5_isWhichOrMuch : GoodIn wsX5_isOdds (va_wsS RX5 182 yX5_isWhichOrMuch wsX5_isWhichOrMuch) := goodIn_app (goodIn_of _ (by decide +kernel)) ggX5_isOdds_X5_isWhichOrMuch
theorem dX5_isOdds_0 : decode cX5_isOdds 0 = .ok (.iload_n 0, 1) := by decide +kernel
theorem dX5_isOdds_1 : decode cX5_isOdds 1 = .ok (.iconst 0, 1) := by decide +kernel
theorem dX5_isOdds_2 : decode cX5_isOdds 2 = .ok (.bipush 10, 2) := by decide +kernel
theorem dX5_isOdds_4 : decode cX5_isOdds 4 = .ok (.invokestatic 57, 3) := by decide +kernel
theorem dX5_isOdds_7 : decode cX5_isOdds 7 = .ok (.ifCond .eq 24, 3) := by decide +kernel
theorem dX5_isOdds_10 : decode cX5_isOdds 10 = .ok (.iload_n 1, 1) := by decide +kernel
theorem dX5_isOdds_11 : decode cX5_isOdds 11 = .ok (.iconst 0, 1) := by decide +kernel
theorem dX5_isOdds_12 : decode cX5_isOdds 12 = .ok (.bipush 8, 2) := by decide +kernel
theorem dX5_isOdds_14 : decode cX5_isOdds 14 = .ok (.invokestatic 57, 3) := by decide +kernel
theorem dX5_isOdds_17 : decode cX5_isOdds 17 = .ok (.ifCond .eq 14, 3) := by decide +kernel
theorem dX5_isOdds_20 : decode cX5_isOdds 20 = .ok (.iload_n 2, 1) := by decide +kernel
theorem dX5_isOdds_21 : decode cX5_isOdds 21 = .ok (.invokestatic 182, 3) := by decide +kernel
theorem dX5_isOdds_24 : decode cX5_isOdds 24 = .ok (.ifCond .eq 7, 3) := by decide +kernel
theorem dX5_isOdds_27 : decode cX5_isOdds 27 = .ok (.iconst 1, 1) := by decide +kernel
theorem dX5_isOdds_28 : decode cX5_isOdds 28 = .ok (.goto 4, 3) := by decide +kernel
theorem dX5_isOdds_31 : decode cX5_isOdds 31 = .ok (.iconst 0, 1) := by decide +kernel
theorem dX5_isOdds_32 : decode cX5_isOdds 32 = .ok (.ireturn, 1) := by decide +kernel
set_option maxRecDepth 20000 in
theorem ggX5_isSheet_X5_within : GoodIn wsX5_isSheet wsX5_within := goodIn_r _ [4] (by decide +kernel) (by decide +kernel)
set_option maxRecDepth 20000 in
theorem gX5_isSheet_X5_within : GoodIn wsX5_isSheet (va_wsS RX5 57 yX5_within wsX5_within) := goodIn_app (goodIn_of _ (by decide +kernel)) ggX5_isSheet_X5_within
theorem dX5_isSheet_0 : decode cX5_isSheet 0 = .ok (.iload_n 0, 1) := by decide +kernel
theorem dX5_isSheet_1 : decode cX5_isSheet 1 = .ok (.iconst 0, 1) := by decide +kernel
theorem dX5_isSheet_2 : decode cX5_isSheet 2 = .ok (.iconst 3, 1) := by decide +kernel
theorem dX5_isSheet_3 : decode cX5_isSheet 3 = .ok (.invokestatic 57, 3) := by decide +kernel
theorem dX5_isSheet_6 : decode cX5_isSheet 6 = .ok (.ireturn, 1) := by decide +kernel
set_option maxRecDepth 20000 in
theorem ggX5_isLane_X5_within : GoodIn wsX5_isLane wsX5_within := goodIn_r _ [4] (by decide +kernel) (by decide +kernel)
set_option maxRecDepth 20000 in
theorem gX5_isLane_X5_within : GoodIn wsX5_isLane (va_wsS RX5 57 yX5_within wsX5_within) := goodIn_app (goodIn_of _ (by decide +kernel)) ggX5_isLane_X5_within
theorem dX5_isLane_0 : decode cX5_isLane 0 = .ok (.iload_n 0, 1) := by decide +kernel
theorem dX5_isLane_1 : decode cX5_isLane 1 = .ok (.iconst 0, 1) := by decide +kernel
theorem dX5_isLane_2 : decode cX5_isLane 2 = .ok (.iconst 2, 1) := by decide +kernel
theorem dX5_isLane_3 : decode cX5_isLane 3 = .ok (.invokestatic 57, 3) := by decide +kernel
theorem dX5_isLane_6 : decode cX5_isLane 6 = .ok (.ireturn, 1) := by decide +kernel
set_option maxRecDepth 20000 in
theorem ggX5_isHeir_X5_within : GoodIn wsX5_isHeir wsX5_within := goodIn_r _ [6] (by decide +kernel) (by decide +kernel)
set_option maxRecDepth 20000 in
theorem gX5_isHeir_X5_within : GoodIn wsX5_isHeir (va_wsS RX5 57 yX5_within wsX5_within) := goodIn_app (goodIn_of _ (by decide +kernel)) ggX5_isHeir_X5_within
theorem dX5_isHeir_0 : decode cX5_isHeir 0 = .ok (.iload_n 1, 1) := by decide +kernel
theorem dX5_isHeir_1 : decode cX5_isHeir 1 = .ok (.iconst 0, 1) := by decide +kernel
theorem dX5_isHeir_2 : decode cX5_isHeir 2 = .ok (.aload_n 0, 1) := by decide +kernel
theorem dX5_isHeir_3 : decode cX5_isHeir 3 = .ok (.getfield 19, 3) := by decide +kernel
theorem dX5_isHeir_6 : decode cX5_isHeir 6 = .ok (.getfield 95, 3) := by decide +kernel
theorem dX5_isHeir_9 : decode cX5_isHeir 9 = .ok (.iconst 1, 1) := by decide +kernel
theorem dX5_isHeir_10 : decode cX5_isHeir 10 = .ok (.isub, 1) := by decide +kernel
theorem dX5_isHeir_11 : decode cX5_isHeir 11 = .ok (.invokestatic 57, 3) := by decide +kernel
theorem dX5_isHeir_14 : decode cX5_isHeir 14 = .ok (.ireturn, 1) := by decide +kernel
set_option maxRecDepth 20000 in
theorem ggX5_isPlace_X5_within : GoodIn wsX5_isPlace wsX5_within := goodIn_r _ [6] (by decide +kernel) (by decide +kernel)
set_option maxRecDepth 20000 in
theorem gX5_isPlace_X5_within : GoodIn wsX5_isPlace (va_wsS RX5 57 yX5_within wsX5_within) := goodIn_app (goodIn_of _ (by decide +kernel)) ggX5_isPlace_X5_within
theorem dX5_isPlace_0 : decode cX5_isPlace 0 = .ok (.iload_n 1, 1) := by decide +kernel
theorem dX5_isPlace_1 : decode cX5_isPlace 1 = .ok (.iconst 0, 1) := by decide +kernel
theorem dX5_isPlace_2 : decode cX5_isPlace 2 = .ok (.aload_n 0, 1) := by decide +kernel
theorem dX5_isPlace_3 : decode cX5_isPlace 3 = .ok (.getfield 19, 3) := by decide +kernel
theorem dX5_isPlace_6 : decode cX5_isPlace 6 = .ok (.getfield 95, 3) := by decide +kernel
theorem dX5_isPlace_9 : decode cX5_isPlace 9 = .ok (.iconst 1, 1) := by decide +kernel
theorem dX5_isPlace_10 : decode cX5_isPlace 10 = .ok (.isub, 1) := by decide +kernel
theorem dX5_isPlace_11 : decode cX5_isPlace 11 = .ok (.invokestatic 57, 3) := by decide +kernel
theorem dX5_isPlace_14 : decode cX5_isPlace 14 = .ok (.ireturn, 1) := by decide +kernel
theorem dX5_refusal_0 : decode cX5_refusal 0 = .ok (.iload_n 1, 1) := by decide +kernel
theorem dX5_refusal_1 : decode cX5_refusal 1 = .ok (.ifCond .ne 5, 3) := by decide +kernel
theorem dX5_refusal_4 : decode cX5_refusal 4 = .ok (.iconst (-1), 1) := by decide +kernel
theorem dX5_refusal_5 : decode cX5_refusal 5 = .ok (.ireturn, 1) := by decide +kernel
theorem dX5_refusal_6 : decode cX5_refusal 6 = .ok (.aload_n 0, 1) := by decide +kernel
theorem dX5_refusal_7 : decode cX5_refusal 7 = .ok (.getfield 19, 3) := by decide +kernel
theorem dX5_refusal_10 : decode cX5_refusal 10 = .ok (.getfield 95, 3) := by decide +kernel
theorem dX5_refusal_13 : decode cX5_refusal 13 = .ok (.iconst 2, 1) := by decide +kernel
theorem dX5_refusal_14 : decode cX5_refusal 14 = .ok (.if_icmp .ge 8, 3) := by decide +kernel
theorem dX5_refusal_17 : decode cX5_refusal 17 = .ok (.bipush (-2), 2) := by decide +kernel
theorem dX5_refusal_19 : decode cX5_refusal 19 = .ok (.goto 4, 3) := by decide +kernel
theorem dX5_refusal_22 : decode cX5_refusal 22 = .ok (.iconst 0, 1) := by decide +kernel
theorem dX5_refusal_23 : decode cX5_refusal 23 = .ok (.ireturn, 1) := by decide +kernel
theorem dX5_whichOrMuch_0 : decode cX5_whichOrMuch 0 = .ok (.iload_n 1, 1) := by decide +kernel
theorem dX5_whichOrMuch_1 : decode cX5_whichOrMuch 1 = .ok (.bipush (-4), 2) := by decide +kernel
theorem dX5_whichOrMuch_3 : decode cX5_whichOrMuch 3 = .ok (.if_icmp .ne 6, 3) := by decide +kernel
theorem dX5_whichOrMuch_6 : decode cX5_whichOrMuch 6 = .ok (.bipush (-4), 2) := by decide +kernel
theorem dX5_whichOrMuch_8 : decode cX5_whichOrMuch 8 = .ok (.ireturn, 1) := by decide +kernel
theorem dX5_whichOrMuch_9 : decode cX5_whichOrMuch 9 = .ok (.iload_n 0, 1) := by decide +kernel
theorem dX5_whichOrMuch_10 : decode cX5_whichOrMuch 10 = .ok (.ifCond .ne 7, 3) := by decide +kernel
theorem dX5_whichOrMuch_13 : decode cX5_whichOrMuch 13 = .ok (.iload_n 1, 1) := by decide +kernel
theorem dX5_whichOrMuch_14 : decode cX5_whichOrMuch 14 = .ok (.goto 4, 3) := by decide +kernel
theorem dX5_whichOrMuch_17 : decode cX5_whichOrMuch 17 = .ok (.iload_n 2, 1) := by decide +kernel
theorem dX5_whichOrMuch_18 : decode cX5_whichOrMuch 18 = .ok (.ireturn, 1) := by decide +kernel
set_option maxRecDepth 20000 in
theorem ggX5_firstReignOf_X0_copyFrom : GoodIn wsX5_firstReignOf wsX0_copyFrom := goodIn_r _ [8, 9, 10, 11, 12, 13, 14, 15, 16, 17, 18, 19, 20, 21, 58, 59, 60, 61, 62, 63, 64, 65, 66, 67, 68, 69] (by decide +kernel) (by decide +kernel)
set_option maxRecDepth 20000 in
theorem gX5_firstReignOf_X0_copyFrom : GoodIn wsX5_firstReignOf (wsV RX5 81 RX0 yX0_copyFrom wsX0_copyFrom) := goodIn_app (goodIn_of _ (by decide +kernel)) ggX5_firstReignOf_X0_copyFrom
set_option maxRecDepth 20000 in
theorem ggX5_firstReignOf_X0_crown : GoodIn wsX5_firstReignOf wsX0_crown := goodIn_r _ [25, 14, 21, 26, 9, 27, 18, 19, 28, 17, 29, 30, 31, 32, 33, 34, 35, 20, 36, 37, 38, 7, 39, 16, 40, 41, 42, 43, 44, 45, 46, 47, 15, 58, 59, 60, 61, 62, 63, 64, 65, 66, 67, 68, 69] (by decide +kernel) (by decide +kernel)
set_option maxRecDepth 20000 in
theorem gX5_firstReignOf_X0_crown : GoodIn wsX5_firstReignOf (wsV RX5 158 RX0 yX0_crown wsX0_crown) := goodIn_app (goodIn_of _ (by decide +kernel)) ggX5_firstReignOf_X0_crown
theorem dX5_firstReignOf_0 : decode cX5_firstReignOf 0 = .ok (.aload_n 0, 1) := by decide +kernel
theorem dX5_firstReignOf_1 : decode cX5_firstReignOf 1 = .ok (.getfield 23, 3) := by decide +kernel
theorem dX5_firstReignOf_4 : decode cX5_firstReignOf 4 = .ok (.aload_n 0, 1) := by decide +kernel
theorem dX5_firstReignOf_5 : decode cX5_firstReignOf 5 = .ok (.getfield 19, 3) := by decide +kernel
theorem dX5_firstReignOf_8 : decode cX5_firstReignOf 8 = .ok (.invokevirtual 81, 3) := by decide +kernel
theorem dX5_firstReignOf_11 : decode cX5_firstReignOf 11 = .ok (.iconst 1, 1) := by decide +kernel
theorem dX5_firstReignOf_12 : decode cX5_firstReignOf 12 = .ok (.istore_n 2, 1) := by decide +kernel
theorem dX5_firstReignOf_13 : decode cX5_firstReignOf 13 = .ok (.iload_n 2, 1) := by decide +kernel
theorem dX5_firstReignOf_14 : decode cX5_firstReignOf 14 = .ok (.bipush 60, 2) := by decide +kernel
theorem dX5_firstReignOf_16 : decode cX5_firstReignOf 16 = .ok (.if_icmp .gt 30, 3) := by decide +kernel
theorem dX5_firstReignOf_19 : decode cX5_firstReignOf 19 = .ok (.aload_n 0, 1) := by decide +kernel
theorem dX5_firstReignOf_20 : decode cX5_firstReignOf 20 = .ok (.getfield 23, 3) := by decide +kernel
theorem dX5_firstReignOf_23 : decode cX5_firstReignOf 23 = .ok (.iconst 0, 1) := by decide +kernel
theorem dX5_firstReignOf_24 : decode cX5_firstReignOf 24 = .ok (.invokevirtual 158, 3) := by decide +kernel
theorem dX5_firstReignOf_27 : decode cX5_firstReignOf 27 = .ok (.aload_n 0, 1) := by decide +kernel
theorem dX5_firstReignOf_28 : decode cX5_firstReignOf 28 = .ok (.getfield 23, 3) := by decide +kernel
theorem dX5_firstReignOf_31 : decode cX5_firstReignOf 31 = .ok (.getfield 165, 3) := by decide +kernel
theorem dX5_firstReignOf_34 : decode cX5_firstReignOf 34 = .ok (.iload_n 1, 1) := by decide +kernel
theorem dX5_firstReignOf_35 : decode cX5_firstReignOf 35 = .ok (.if_icmp .ne 5, 3) := by decide +kernel
theorem dX5_firstReignOf_38 : decode cX5_firstReignOf 38 = .ok (.iload_n 2, 1) := by decide +kernel
theorem dX5_firstReignOf_39 : decode cX5_firstReignOf 39 = .ok (.ireturn, 1) := by decide +kernel
theorem dX5_firstReignOf_40 : decode cX5_firstReignOf 40 = .ok (.iinc 2 1, 3) := by decide +kernel
theorem dX5_firstReignOf_43 : decode cX5_firstReignOf 43 = .ok (.goto (-30), 3) := by decide +kernel
theorem dX5_firstReignOf_46 : decode cX5_firstReignOf 46 = .ok (.bipush (-4), 2) := by decide +kernel
theorem dX5_firstReignOf_48 : decode cX5_firstReignOf 48 = .ok (.ireturn, 1) := by decide +kernel
set_option maxRecDepth 20000 in
theorem ggX5_countBuilding_X0_copyFrom : GoodIn wsX5_countBuilding wsX0_copyFrom := goodIn_r _ [11, 12, 13, 14, 15, 16, 17, 18, 19, 20, 21, 22, 23, 24, 61, 62, 63, 64, 65, 66, 67, 68, 69, 70, 71, 72] (by decide +kernel) (by decide +kernel)
set_option maxRecDepth 20000 in
theorem gX5_countBuilding_X0_copyFrom : GoodIn wsX5_countBuilding (wsV RX5 81 RX0 yX0_copyFrom wsX0_copyFrom) := goodIn_app (goodIn_of _ (by decide +kernel)) ggX5_countBuilding_X0_copyFrom
set_option maxRecDepth 20000 in
theorem ggX5_countBuilding_X0_crown : GoodIn wsX5_countBuilding wsX0_crown := goodIn_r _ [28, 17, 24, 29, 12, 30, 21, 22, 31, 20, 32, 33, 34, 35, 36, 37, 38, 23, 39, 40, 41, 10, 42, 19, 43, 44, 45, 46, 47, 48, 49, 50, 18, 61, 62, 63, 64, 65, 66, 67, 68, 69, 70, 71, 72] (by decide +kernel) (by decide +kernel)
set_option maxRecDepth 20000 in
theorem gX5_countBuilding_X0_crown : GoodIn wsX5_countBuilding (wsV RX5 158 RX0 yX0_crown wsX0_crown) := goodIn_app (goodIn_of _ (by decide +kernel)) ggX5_countBuilding_X0_crown
theorem dX5_countBuilding_0 : decode cX5_countBuilding 0 = .ok (.aload_n 0, 1) := by decide +kernel
theorem dX5_countBuilding_1 : decode cX5_countBuilding 1 = .ok (.getfield 23, 3) := by decide +kernel
theorem dX5_countBuilding_4 : decode cX5_countBuilding 4 = .ok (.aload_n 0, 1) := by decide +kernel
theorem dX5_countBuilding_5 : decode cX5_countBuilding 5 = .ok (.getfield 19, 3) := by decide +kernel
theorem dX5_countBuilding_8 : decode cX5_countBuilding 8 = .ok (.invokevirtual 81, 3) := by decide +kernel
theorem dX5_countBuilding_11 : decode cX5_countBuilding 11 = .ok (.iconst 0, 1) := by decide +kernel
theorem dX5_countBuilding_12 : decode cX5_countBuilding 12 = .ok (.istore_n 2, 1) := by decide +kernel
theorem dX5_countBuilding_13 : decode cX5_countBuilding 13 = .ok (.iload_n 2, 1) := by decide +kernel
theorem dX5_countBuilding_14 : decode cX5_countBuilding 14 = .ok (.bipush 6, 2) := by decide +kernel
theorem dX5_countBuilding_16 : decode cX5_countBuilding 16 = .ok (.if_icmp .ge 16, 3) := by decide +kernel
theorem dX5_countBuilding_19 : decode cX5_countBuilding 19 = .ok (.aload_n 0, 1) := by decide +kernel
theorem dX5_countBuilding_20 : decode cX5_countBuilding 20 = .ok (.getfield 51, 3) := by decide +kernel
theorem dX5_countBuilding_23 : decode cX5_countBuilding 23 = .ok (.iload_n 2, 1) := by decide +kernel
theorem dX5_countBuilding_24 : decode cX5_countBuilding 24 = .ok (.iconst 0, 1) := by decide +kernel
theorem dX5_countBuilding_25 : decode cX5_countBuilding 25 = .ok (.iastore, 1) := by decide +kernel
theorem dX5_countBuilding_26 : decode cX5_countBuilding 26 = .ok (.iinc 2 1, 3) := by decide +kernel
theorem dX5_countBuilding_29 : decode cX5_countBuilding 29 = .ok (.goto (-16), 3) := by decide +kernel
theorem dX5_countBuilding_32 : decode cX5_countBuilding 32 = .ok (.iconst 0, 1) := by decide +kernel
theorem dX5_countBuilding_33 : decode cX5_countBuilding 33 = .ok (.istore_n 2, 1) := by decide +kernel
theorem dX5_countBuilding_34 : decode cX5_countBuilding 34 = .ok (.iload_n 2, 1) := by decide +kernel
theorem dX5_countBuilding_35 : decode cX5_countBuilding 35 = .ok (.iload_n 1, 1) := by decide +kernel
theorem dX5_countBuilding_36 : decode cX5_countBuilding 36 = .ok (.if_icmp .ge 49, 3) := by decide +kernel
theorem dX5_countBuilding_39 : decode cX5_countBuilding 39 = .ok (.aload_n 0, 1) := by decide +kernel
theorem dX5_countBuilding_40 : decode cX5_countBuilding 40 = .ok (.getfield 23, 3) := by decide +kernel
theorem dX5_countBuilding_43 : decode cX5_countBuilding 43 = .ok (.iconst 0, 1) := by decide +kernel
theorem dX5_countBuilding_44 : decode cX5_countBuilding 44 = .ok (.invokevirtual 158, 3) := by decide +kernel
theorem dX5_countBuilding_47 : decode cX5_countBuilding 47 = .ok (.aload_n 0, 1) := by decide +kernel
theorem dX5_countBuilding_48 : decode cX5_countBuilding 48 = .ok (.getfield 23, 3) := by decide +kernel
theorem dX5_countBuilding_51 : decode cX5_countBuilding 51 = .ok (.getfield 270, 3) := by decide +kernel
theorem dX5_countBuilding_54 : decode cX5_countBuilding 54 = .ok (.ifCond .eq 25, 3) := by decide +kernel
theorem dX5_countBuilding_57 : decode cX5_countBuilding 57 = .ok (.aload_n 0, 1) := by decide +kernel
theorem dX5_countBuilding_58 : decode cX5_countBuilding 58 = .ok (.getfield 51, 3) := by decide +kernel
theorem dX5_countBuilding_61 : decode cX5_countBuilding 61 = .ok (.aload_n 0, 1) := by decide +kernel
theorem dX5_countBuilding_62 : decode cX5_countBuilding 62 = .ok (.getfield 23, 3) := by decide +kernel
theorem dX5_countBuilding_65 : decode cX5_countBuilding 65 = .ok (.getfield 165, 3) := by decide +kernel
theorem dX5_countBuilding_68 : decode cX5_countBuilding 68 = .ok (.dup2, 1) := by decide +kernel
theorem dX5_countBuilding_69 : decode cX5_countBuilding 69 = .ok (.iaload, 1) := by decide +kernel
theorem dX5_countBuilding_70 : decode cX5_countBuilding 70 = .ok (.aload_n 0, 1) := by decide +kernel
theorem dX5_countBuilding_71 : decode cX5_countBuilding 71 = .ok (.getfield 23, 3) := by decide +kernel
theorem dX5_countBuilding_74 : decode cX5_countBuilding 74 = .ok (.getfield 168, 3) := by decide +kernel
theorem dX5_countBuilding_77 : decode cX5_countBuilding 77 = .ok (.iadd, 1) := by decide +kernel
theorem dX5_countBuilding_78 : decode cX5_countBuilding 78 = .ok (.iastore, 1) := by decide +kernel
theorem dX5_countBuilding_79 : decode cX5_countBuilding 79 = .ok (.iinc 2 1, 3) := by decide +kernel
theorem dX5_countBuilding_82 : decode cX5_countBuilding 82 = .ok (.goto (-48), 3) := by decide +kernel
theorem dX5_countBuilding_85 : decode cX5_countBuilding 85 = .ok (.return_, 1) := by decide +kernel
set_option maxRecDepth 20000 in
theorem ggX5_weightOf_X0_copyFrom : GoodIn wsX5_weightOf wsX0_copyFrom := goodIn_r _ [7, 8, 9, 10, 11, 12, 13, 14, 15, 16, 17, 18, 19, 20, 57, 58, 59, 60, 61, 62, 63, 64, 65, 66, 67, 68] (by decide +kernel) (by decide +kernel)
set_option maxRecDepth 20000 in
theorem gX5_weightOf_X0_copyFrom : GoodIn wsX5_weightOf (wsV RX5 81 RX0 yX0_copyFrom wsX0_copyFrom) := goodIn_app (goodIn_of _ (by decide +kernel)) ggX5_weightOf_X0_copyFrom
set_option maxRecDepth 20000 in
theorem ggX5_weightOf_X0_crown : GoodIn wsX5_weightOf wsX0_crown := goodIn_r _ [24, 13, 20, 25, 8, 26, 17, 18, 27, 16, 28, 29, 30, 31, 32, 33, 34, 19, 35, 36, 37, 6, 38, 15, 39, 40, 41, 42, 43, 44, 45, 46, 14, 57, 58, 59, 60, 61, 62, 63, 64, 65, 66, 67, 68] (by decide +kernel) (by decide +kernel)
set_option maxRecDepth 20000 in
theorem gX5_weightOf_X0_crown : GoodIn wsX5_weightOf (wsV RX5 158 RX0 yX0_crown wsX0_crown) := goodIn_app (goodIn_of _ (by decide +kernel)) ggX5_weightOf_X0_crown
theorem dX5_weightOf_0 : decode cX5_weightOf 0 = .ok (.aload_n 0, 1) := by decide +kernel
theorem dX5_weightOf_1 : decode cX5_weightOf 1 = .ok (.getfield 23, 3) := by decide +kernel
theorem dX5_weightOf_4 : decode cX5_weightOf 4 = .ok (.aload_n 0, 1) := by decide +kernel
theorem dX5_weightOf_5 : decode cX5_weightOf 5 = .ok (.getfield 19, 3) := by decide +kernel
theorem dX5_weightOf_8 : decode cX5_weightOf 8 = .ok (.invokevirtual 81, 3) := by decide +kernel
theorem dX5_weightOf_11 : decode cX5_weightOf 11 = .ok (.lconst 1, 1) := by decide +kernel
theorem dX5_weightOf_12 : decode cX5_weightOf 12 = .ok (.lstore 4, 2) := by decide +kernel
theorem dX5_weightOf_14 : decode cX5_weightOf 14 = .ok (.iconst 0, 1) := by decide +kernel
theorem dX5_weightOf_15 : decode cX5_weightOf 15 = .ok (.istore 6, 2) := by decide +kernel
theorem dX5_weightOf_17 : decode cX5_weightOf 17 = .ok (.iload 6, 2) := by decide +kernel
theorem dX5_weightOf_19 : decode cX5_weightOf 19 = .ok (.iload_n 3, 1) := by decide +kernel
theorem dX5_weightOf_20 : decode cX5_weightOf 20 = .ok (.if_icmp .ge 64, 3) := by decide +kernel
theorem dX5_weightOf_23 : decode cX5_weightOf 23 = .ok (.iload_n 1, 1) := by decide +kernel
theorem dX5_weightOf_24 : decode cX5_weightOf 24 = .ok (.iload 6, 2) := by decide +kernel
theorem dX5_weightOf_26 : decode cX5_weightOf 26 = .ok (.ishr, 1) := by decide +kernel
theorem dX5_weightOf_27 : decode cX5_weightOf 27 = .ok (.iconst 1, 1) := by decide +kernel
theorem dX5_weightOf_28 : decode cX5_weightOf 28 = .ok (.iand, 1) := by decide +kernel
theorem dX5_weightOf_29 : decode cX5_weightOf 29 = .ok (.iconst 1, 1) := by decide +kernel
theorem dX5_weightOf_30 : decode cX5_weightOf 30 = .ok (.if_icmp .ne 7, 3) := by decide +kernel
theorem dX5_weightOf_33 : decode cX5_weightOf 33 = .ok (.iconst 1, 1) := by decide +kernel
theorem dX5_weightOf_34 : decode cX5_weightOf 34 = .ok (.goto 4, 3) := by decide +kernel
theorem dX5_weightOf_37 : decode cX5_weightOf 37 = .ok (.iconst 0, 1) := by decide +kernel
theorem dX5_weightOf_38 : decode cX5_weightOf 38 = .ok (.istore 7, 2) := by decide +kernel
theorem dX5_weightOf_40 : decode cX5_weightOf 40 = .ok (.lload 4, 2) := by decide +kernel
theorem dX5_weightOf_42 : decode cX5_weightOf 42 = .ok (.iload 7, 2) := by decide +kernel
theorem dX5_weightOf_44 : decode cX5_weightOf 44 = .ok (.ifCond .eq 8, 3) := by decide +kernel
theorem dX5_weightOf_47 : decode cX5_weightOf 47 = .ok (.iload_n 2, 1) := by decide +kernel
theorem dX5_weightOf_48 : decode cX5_weightOf 48 = .ok (.i2l, 1) := by decide +kernel
theorem dX5_weightOf_49 : decode cX5_weightOf 49 = .ok (.goto 8, 3) := by decide +kernel
theorem dX5_weightOf_52 : decode cX5_weightOf 52 = .ok (.bipush 10, 2) := by decide +kernel
theorem dX5_weightOf_54 : decode cX5_weightOf 54 = .ok (.iload_n 2, 1) := by decide +kernel
theorem dX5_weightOf_55 : decode cX5_weightOf 55 = .ok (.isub, 1) := by decide +kernel
theorem dX5_weightOf_56 : decode cX5_weightOf 56 = .ok (.i2l, 1) := by decide +kernel
theorem dX5_weightOf_57 : decode cX5_weightOf 57 = .ok (.lmul, 1) := by decide +kernel
theorem dX5_weightOf_58 : decode cX5_weightOf 58 = .ok (.lstore 4, 2) := by decide +kernel
theorem dX5_weightOf_60 : decode cX5_weightOf 60 = .ok (.lload 4, 2) := by decide +kernel
theorem dX5_weightOf_62 : decode cX5_weightOf 62 = .ok (.lconst 0, 1) := by decide +kernel
theorem dX5_weightOf_63 : decode cX5_weightOf 63 = .ok (.lcmp, 1) := by decide +kernel
theorem dX5_weightOf_64 : decode cX5_weightOf 64 = .ok (.ifCond .ne 5, 3) := by decide +kernel
theorem dX5_weightOf_67 : decode cX5_weightOf 67 = .ok (.lconst 0, 1) := by decide +kernel
theorem dX5_weightOf_68 : decode cX5_weightOf 68 = .ok (.lreturn, 1) := by decide +kernel
theorem dX5_weightOf_69 : decode cX5_weightOf 69 = .ok (.aload_n 0, 1) := by decide +kernel
theorem dX5_weightOf_70 : decode cX5_weightOf 70 = .ok (.getfield 23, 3) := by decide +kernel
theorem dX5_weightOf_73 : decode cX5_weightOf 73 = .ok (.iload 7, 2) := by decide +kernel
theorem dX5_weightOf_75 : decode cX5_weightOf 75 = .ok (.invokevirtual 158, 3) := by decide +kernel
theorem dX5_weightOf_78 : decode cX5_weightOf 78 = .ok (.iinc 6 1, 3) := by decide +kernel
theorem dX5_weightOf_81 : decode cX5_weightOf 81 = .ok (.goto (-64), 3) := by decide +kernel
theorem dX5_weightOf_84 : decode cX5_weightOf 84 = .ok (.lload 4, 2) := by decide +kernel
theorem dX5_weightOf_86 : decode cX5_weightOf 86 = .ok (.lreturn, 1) := by decide +kernel
theorem dX5_tenTo_0 : decode cX5_tenTo 0 = .ok (.lconst 1, 1) := by decide +kernel
theorem dX5_tenTo_1 : decode cX5_tenTo 1 = .ok (.lstore_n 1, 1) := by decide +kernel
theorem dX5_tenTo_2 : decode cX5_tenTo 2 = .ok (.iconst 0, 1) := by decide +kernel
theorem dX5_tenTo_3 : decode cX5_tenTo 3 = .ok (.istore_n 3, 1) := by decide +kernel
theorem dX5_tenTo_4 : decode cX5_tenTo 4 = .ok (.iload_n 3, 1) := by decide +kernel
theorem dX5_tenTo_5 : decode cX5_tenTo 5 = .ok (.iload_n 0, 1) := by decide +kernel
theorem dX5_tenTo_6 : decode cX5_tenTo 6 = .ok (.if_icmp .ge 15, 3) := by decide +kernel
theorem dX5_tenTo_9 : decode cX5_tenTo 9 = .ok (.lload_n 1, 1) := by decide +kernel
theorem dX5_tenTo_10 : decode cX5_tenTo 10 = .ok (.ldc2_w 273, 3) := by decide +kernel
theorem dX5_tenTo_13 : decode cX5_tenTo 13 = .ok (.lmul, 1) := by decide +kernel
theorem dX5_tenTo_14 : decode cX5_tenTo 14 = .ok (.lstore_n 1, 1) := by decide +kernel
theorem dX5_tenTo_15 : decode cX5_tenTo 15 = .ok (.iinc 3 1, 3) := by decide +kernel
theorem dX5_tenTo_18 : decode cX5_tenTo 18 = .ok (.goto (-14), 3) := by decide +kernel
theorem dX5_tenTo_21 : decode cX5_tenTo 21 = .ok (.lload_n 1, 1) := by decide +kernel
theorem dX5_tenTo_22 : decode cX5_tenTo 22 = .ok (.lreturn, 1) := by decide +kernel
theorem dX5_partOfFraction_0 : decode cX5_partOfFraction 0 = .ok (.lload_n 2, 1) := by decide +kernel
theorem dX5_partOfFraction_1 : decode cX5_partOfFraction 1 = .ok (.lstore 5, 2) := by decide +kernel
theorem dX5_partOfFraction_3 : decode cX5_partOfFraction 3 = .ok (.lload_n 0, 1) := by decide +kernel
theorem dX5_partOfFraction_4 : decode cX5_partOfFraction 4 = .ok (.lstore 7, 2) := by decide +kernel
theorem dX5_partOfFraction_6 : decode cX5_partOfFraction 6 = .ok (.iconst 0, 1) := by decide +kernel
theorem dX5_partOfFraction_7 : decode cX5_partOfFraction 7 = .ok (.istore 9, 2) := by decide +kernel
theorem dX5_partOfFraction_9 : decode cX5_partOfFraction 9 = .ok (.iload 9, 2) := by decide +kernel
theorem dX5_partOfFraction_11 : decode cX5_partOfFraction 11 = .ok (.bipush 100, 2) := by decide +kernel
theorem dX5_partOfFraction_13 : decode cX5_partOfFraction 13 = .ok (.if_icmp .ge 31, 3) := by decide +kernel
theorem dX5_partOfFraction_16 : decode cX5_partOfFraction 16 = .ok (.lload 7, 2) := by decide +kernel
theorem dX5_partOfFraction_18 : decode cX5_partOfFraction 18 = .ok (.lconst 0, 1) := by decide +kernel
theorem dX5_partOfFraction_19 : decode cX5_partOfFraction 19 = .ok (.lcmp, 1) := by decide +kernel
theorem dX5_partOfFraction_20 : decode cX5_partOfFraction 20 = .ok (.ifCond .eq 24, 3) := by decide +kernel
theorem dX5_partOfFraction_23 : decode cX5_partOfFraction 23 = .ok (.lload 5, 2) := by decide +kernel
theorem dX5_partOfFraction_25 : decode cX5_partOfFraction 25 = .ok (.lload 7, 2) := by decide +kernel
theorem dX5_partOfFraction_27 : decode cX5_partOfFraction 27 = .ok (.lrem, 1) := by decide +kernel
theorem dX5_partOfFraction_28 : decode cX5_partOfFraction 28 = .ok (.lstore 10, 2) := by decide +kernel
theorem dX5_partOfFraction_30 : decode cX5_partOfFraction 30 = .ok (.lload 7, 2) := by decide +kernel
theorem dX5_partOfFraction_32 : decode cX5_partOfFraction 32 = .ok (.lstore 5, 2) := by decide +kernel
theorem dX5_partOfFraction_34 : decode cX5_partOfFraction 34 = .ok (.lload 10, 2) := by decide +kernel
theorem dX5_partOfFraction_36 : decode cX5_partOfFraction 36 = .ok (.lstore 7, 2) := by decide +kernel
theorem dX5_partOfFraction_38 : decode cX5_partOfFraction 38 = .ok (.iinc 9 1, 3) := by decide +kernel
theorem dX5_partOfFraction_41 : decode cX5_partOfFraction 41 = .ok (.goto (-32), 3) := by decide +kernel
theorem dX5_partOfFraction_44 : decode cX5_partOfFraction 44 = .ok (.lload 5, 2) := by decide +kernel
theorem dX5_partOfFraction_46 : decode cX5_partOfFraction 46 = .ok (.lconst 0, 1) := by decide +kernel
theorem dX5_partOfFraction_47 : decode cX5_partOfFraction 47 = .ok (.lcmp, 1) := by decide +kernel
theorem dX5_partOfFraction_48 : decode cX5_partOfFraction 48 = .ok (.ifCond .ne 5, 3) := by decide +kernel
theorem dX5_partOfFraction_51 : decode cX5_partOfFraction 51 = .ok (.lconst 0, 1) := by decide +kernel
theorem dX5_partOfFraction_52 : decode cX5_partOfFraction 52 = .ok (.lreturn, 1) := by decide +kernel
theorem dX5_partOfFraction_53 : decode cX5_partOfFraction 53 = .ok (.iload 4, 2) := by decide +kernel
theorem dX5_partOfFraction_55 : decode cX5_partOfFraction 55 = .ok (.ifCond .ne 10, 3) := by decide +kernel
theorem dX5_partOfFraction_58 : decode cX5_partOfFraction 58 = .ok (.lload_n 0, 1) := by decide +kernel
theorem dX5_partOfFraction_59 : decode cX5_partOfFraction 59 = .ok (.lload 5, 2) := by decide +kernel
theorem dX5_partOfFraction_61 : decode cX5_partOfFraction 61 = .ok (.ldiv, 1) := by decide +kernel
theorem dX5_partOfFraction_62 : decode cX5_partOfFraction 62 = .ok (.goto 7, 3) := by decide +kernel
theorem dX5_partOfFraction_65 : decode cX5_partOfFraction 65 = .ok (.lload_n 2, 1) := by decide +kernel
theorem dX5_partOfFraction_66 : decode cX5_partOfFraction 66 = .ok (.lload 5, 2) := by decide +kernel
theorem dX5_partOfFraction_68 : decode cX5_partOfFraction 68 = .ok (.ldiv, 1) := by decide +kernel
theorem dX5_partOfFraction_69 : decode cX5_partOfFraction 69 = .ok (.lreturn, 1) := by decide +kernel
set_option maxRecDepth 20000 in
theorem ggX5_fitting_X5_isAsSeen : GoodIn wsX5_fitting wsX5_isAsSeen := goodIn_r _ [6, 7, 8, 9, 10, 11, 12, 13, 14, 15, 16, 17, 18, 19, 20, 21, 22, 23, 24, 25, 26, 27, 28, 29, 30, 31, 32, 33, 34, 35, 36, 37, 38, 39, 40, 41, 42, 43, 44, 45, 46, 47, 48, 49, 50, 51, 52, 53, 54, 55, 56, 57, 58, 59, 60, 61, 62, 63, 64, 65, 66, 67, 68, 69, 70, 71, 72, 73, 74, 75, 76, 77, 78, 79, 80, 81, 82, 83, 84, 85, 86, 87, 88, 89] (by decide +kernel) (by decide +kernel)
set_option maxRecDepth 20000 in
theorem gX5_fitting_X5_isAsSeen : GoodIn wsX5_fitting (wsV RX5 275 RX5 yX5_isAsSeen wsX5_isAsSeen) := goodIn_app (goodIn_of _ (by decide +kernel)) ggX5_fitting_X5_isAsSeen
theorem dX5_fitting_0 : decode cX5_fitting 0 = .ok (.iconst 0, 1) := by decide +kernel
theorem dX5_fitting_1 : decode cX5_fitting 1 = .ok (.istore_n 3, 1) := by decide +kernel
theorem dX5_fitting_2 : decode cX5_fitting 2 = .ok (.iconst 0, 1) := by decide +kernel
theorem dX5_fitting_3 : decode cX5_fitting 3 = .ok (.istore 4, 2) := by decide +kernel
theorem dX5_fitting_5 : decode cX5_fitting 5 = .ok (.iload 4, 2) := by decide +kernel
theorem dX5_fitting_7 : decode cX5_fitting 7 = .ok (.getstatic 267, 3) := by decide +kernel
theorem dX5_fitting_10 : decode cX5_fitting 10 = .ok (.iload_n 2, 1) := by decide +kernel
theorem dX5_fitting_11 : decode cX5_fitting 11 = .ok (.iaload, 1) := by decide +kernel
theorem dX5_fitting_12 : decode cX5_fitting 12 = .ok (.if_icmp .gt 27, 3) := by decide +kernel
theorem dX5_fitting_15 : decode cX5_fitting 15 = .ok (.aload_n 0, 1) := by decide +kernel
theorem dX5_fitting_16 : decode cX5_fitting 16 = .ok (.iload_n 1, 1) := by decide +kernel
theorem dX5_fitting_17 : decode cX5_fitting 17 = .ok (.iload_n 2, 1) := by decide +kernel
theorem dX5_fitting_18 : decode cX5_fitting 18 = .ok (.iload 4, 2) := by decide +kernel
theorem dX5_fitting_20 : decode cX5_fitting 20 = .ok (.invokevirtual 275, 3) := by decide +kernel
theorem dX5_fitting_23 : decode cX5_fitting 23 = .ok (.ifCond .eq 10, 3) := by decide +kernel
theorem dX5_fitting_26 : decode cX5_fitting 26 = .ok (.iload_n 3, 1) := by decide +kernel
theorem dX5_fitting_27 : decode cX5_fitting 27 = .ok (.iconst 1, 1) := by decide +kernel
theorem dX5_fitting_28 : decode cX5_fitting 28 = .ok (.iload 4, 2) := by decide +kernel
theorem dX5_fitting_30 : decode cX5_fitting 30 = .ok (.ishl, 1) := by decide +kernel
theorem dX5_fitting_31 : decode cX5_fitting 31 = .ok (.ior, 1) := by decide +kernel
theorem dX5_fitting_32 : decode cX5_fitting 32 = .ok (.istore_n 3, 1) := by decide +kernel
theorem dX5_fitting_33 : decode cX5_fitting 33 = .ok (.iinc 4 1, 3) := by decide +kernel
theorem dX5_fitting_36 : decode cX5_fitting 36 = .ok (.goto (-31), 3) := by decide +kernel
theorem dX5_fitting_39 : decode cX5_fitting 39 = .ok (.iload_n 3, 1) := by decide +kernel
theorem dX5_fitting_40 : decode cX5_fitting 40 = .ok (.ireturn, 1) := by decide +kernel
set_option maxRecDepth 20000 in
theorem ggX5_isAsSeen_X0_copyFrom : GoodIn wsX5_isAsSeen wsX0_copyFrom := goodIn_r _ [11, 12, 13, 14, 15, 16, 17, 18, 19, 20, 21, 22, 23, 24, 69, 70, 71, 72, 73, 74, 75, 76, 77, 78, 79, 80] (by decide +kernel) (by decide +kernel)
set_option maxRecDepth 20000 in
theorem gX5_isAsSeen_X0_copyFrom : GoodIn wsX5_isAsSeen (wsV RX5 81 RX0 yX0_copyFrom wsX0_copyFrom) := goodIn_app (goodIn_of _ (by decide +kernel)) ggX5_isAsSeen_X0_copyFrom
set_option maxRecDepth 20000 in
theorem ggX5_isAsSeen_X0_crown : GoodIn wsX5_isAsSeen wsX0_crown := goodIn_r _ [28, 17, 24, 29, 12, 30, 21, 22, 31, 20, 32, 33, 34, 35, 36, 37, 38, 23, 39, 40, 41, 10, 42, 19, 43, 44, 45, 46, 47, 48, 49, 50, 18, 69, 70, 71, 72, 73, 74, 75, 76, 77, 78, 79, 80] (by decide +kernel) (by decide +kernel)
set_option maxRecDepth 20000 in
theorem gX5_isAsSeen_X0_crown : GoodIn wsX5_isAsSeen (wsV RX5 158 RX0 yX0_crown wsX0_crown) := goodIn_app (goodIn_of _ (by decide +kernel)) ggX5_isAsSeen_X0_crown
set_option maxRecDepth 20000 in
theorem ggX5_isAsSeen_X3_fits : GoodIn wsX5_isAsSeen wsX3_fits := goodIn_r _ [55, 56, 57, 58, 81, 82, 83] (by decide +kernel) (by decide +kernel)
set_option maxRecDepth 20000 in
theorem gX5_isAsSeen_X3_fits : GoodIn wsX5_isAsSeen (wsV RX5 278 RX3 yX3_fits wsX3_fits) := goodIn_app (goodIn_of _ (by decide +kernel)) ggX5_isAsSeen_X3_fits
theorem dX5_isAsSeen_0 : decode cX5_isAsSeen 0 = .ok (.aload_n 0, 1) := by decide +kernel
theorem dX5_isAsSeen_1 : decode cX5_isAsSeen 1 = .ok (.getfield 23, 3) := by decide +kernel
theorem dX5_isAsSeen_4 : decode cX5_isAsSeen 4 = .ok (.aload_n 0, 1) := by decide +kernel
theorem dX5_isAsSeen_5 : decode cX5_isAsSeen 5 = .ok (.getfield 19, 3) := by decide +kernel
theorem dX5_isAsSeen_8 : decode cX5_isAsSeen 8 = .ok (.invokevirtual 81, 3) := by decide +kernel
theorem dX5_isAsSeen_11 : decode cX5_isAsSeen 11 = .ok (.aload_n 0, 1) := by decide +kernel
theorem dX5_isAsSeen_12 : decode cX5_isAsSeen 12 = .ok (.getfield 23, 3) := by decide +kernel
theorem dX5_isAsSeen_15 : decode cX5_isAsSeen 15 = .ok (.getfield 116, 3) := by decide +kernel
theorem dX5_isAsSeen_18 : decode cX5_isAsSeen 18 = .ok (.iload_n 2, 1) := by decide +kernel
theorem dX5_isAsSeen_19 : decode cX5_isAsSeen 19 = .ok (.aaload, 1) := by decide +kernel
theorem dX5_isAsSeen_20 : decode cX5_isAsSeen 20 = .ok (.iload_n 1, 1) := by decide +kernel
theorem dX5_isAsSeen_21 : decode cX5_isAsSeen 21 = .ok (.iload_n 3, 1) := by decide +kernel
theorem dX5_isAsSeen_22 : decode cX5_isAsSeen 22 = .ok (.iastore, 1) := by decide +kernel
theorem dX5_isAsSeen_23 : decode cX5_isAsSeen 23 = .ok (.iconst 0, 1) := by decide +kernel
theorem dX5_isAsSeen_24 : decode cX5_isAsSeen 24 = .ok (.istore 4, 2) := by decide +kernel
theorem dX5_isAsSeen_26 : decode cX5_isAsSeen 26 = .ok (.iload 4, 2) := by decide +kernel
theorem dX5_isAsSeen_28 : decode cX5_isAsSeen 28 = .ok (.bipush 20, 2) := by decide +kernel
theorem dX5_isAsSeen_30 : decode cX5_isAsSeen 30 = .ok (.if_icmp .ge 31, 3) := by decide +kernel
theorem dX5_isAsSeen_33 : decode cX5_isAsSeen 33 = .ok (.aload_n 0, 1) := by decide +kernel
theorem dX5_isAsSeen_34 : decode cX5_isAsSeen 34 = .ok (.getfield 23, 3) := by decide +kernel
theorem dX5_isAsSeen_37 : decode cX5_isAsSeen 37 = .ok (.iconst 0, 1) := by decide +kernel
theorem dX5_isAsSeen_38 : decode cX5_isAsSeen 38 = .ok (.invokevirtual 158, 3) := by decide +kernel
theorem dX5_isAsSeen_41 : decode cX5_isAsSeen 41 = .ok (.aload_n 0, 1) := by decide +kernel
theorem dX5_isAsSeen_42 : decode cX5_isAsSeen 42 = .ok (.getfield 47, 3) := by decide +kernel
theorem dX5_isAsSeen_45 : decode cX5_isAsSeen 45 = .ok (.iload 4, 2) := by decide +kernel
theorem dX5_isAsSeen_47 : decode cX5_isAsSeen 47 = .ok (.aload_n 0, 1) := by decide +kernel
theorem dX5_isAsSeen_48 : decode cX5_isAsSeen 48 = .ok (.getfield 23, 3) := by decide +kernel
theorem dX5_isAsSeen_51 : decode cX5_isAsSeen 51 = .ok (.getfield 165, 3) := by decide +kernel
theorem dX5_isAsSeen_54 : decode cX5_isAsSeen 54 = .ok (.iastore, 1) := by decide +kernel
theorem dX5_isAsSeen_55 : decode cX5_isAsSeen 55 = .ok (.iinc 4 1, 3) := by decide +kernel
theorem dX5_isAsSeen_58 : decode cX5_isAsSeen 58 = .ok (.goto (-32), 3) := by decide +kernel
theorem dX5_isAsSeen_61 : decode cX5_isAsSeen 61 = .ok (.aload_n 0, 1) := by decide +kernel
theorem dX5_isAsSeen_62 : decode cX5_isAsSeen 62 = .ok (.getfield 29, 3) := by decide +kernel
theorem dX5_isAsSeen_65 : decode cX5_isAsSeen 65 = .ok (.aload_n 0, 1) := by decide +kernel
theorem dX5_isAsSeen_66 : decode cX5_isAsSeen 66 = .ok (.getfield 47, 3) := by decide +kernel
theorem dX5_isAsSeen_69 : decode cX5_isAsSeen 69 = .ok (.invokevirtual 278, 3) := by decide +kernel
theorem dX5_isAsSeen_72 : decode cX5_isAsSeen 72 = .ok (.ireturn, 1) := by decide +kernel
set_option maxRecDepth 20000 in
theorem ggX5_tallyKings_X5_isAsSeen : GoodIn wsX5_tallyKings wsX5_isAsSeen := goodIn_r _ [7, 8, 9, 10, 2, 11, 12, 13, 14, 15, 16, 17, 18, 19, 20, 21, 22, 23, 24, 25, 26, 27, 28, 29, 30, 31, 32, 33, 34, 35, 36, 37, 38, 39, 40, 41, 42, 43, 44, 45, 46, 47, 48, 49, 50, 51, 52, 53, 54, 55, 56, 57, 58, 59, 60, 61, 62, 63, 64, 65, 66, 67, 68, 69, 70, 71, 72, 73, 74, 75, 76, 77, 78, 79, 80, 81, 82, 83, 84, 85, 86, 87, 88, 89] (by decide +kernel) (by decide +kernel)
set_option maxRecDepth 20000 in
theorem gX5_tallyKings_X5_isAsSeen : GoodIn wsX5_tallyKings (wsV RX5 275 RX5 yX5_isAsSeen wsX5_isAsSeen) := goodIn_app (goodIn_of _ (by decide +kernel)) ggX5_tallyKings_X5_isAsSeen
theorem dX5_tallyKings_0 : decode cX5_tallyKings 0 = .ok (.iconst 0, 1) := by decide +kernel
theorem dX5_tallyKings_1 : decode cX5_tallyKings 1 = .ok (.istore_n 2, 1) := by decide +kernel
theorem dX5_tallyKings_2 : decode cX5_tallyKings 2 = .ok (.iload_n 2, 1) := by decide +kernel
theorem dX5_tallyKings_3 : decode cX5_tallyKings 3 = .ok (.aload_n 0, 1) := by decide +kernel
theorem dX5_tallyKings_4 : decode cX5_tallyKings 4 = .ok (.getfield 54, 3) := by decide +kernel
theorem dX5_tallyKings_7 : decode cX5_tallyKings 7 = .ok (.arraylength, 1) := by decide +kernel
theorem dX5_tallyKings_8 : decode cX5_tallyKings 8 = .ok (.if_icmp .ge 16, 3) := by decide +kernel
theorem dX5_tallyKings_11 : decode cX5_tallyKings 11 = .ok (.aload_n 0, 1) := by decide +kernel
theorem dX5_tallyKings_12 : decode cX5_tallyKings 12 = .ok (.getfield 54, 3) := by decide +kernel
theorem dX5_tallyKings_15 : decode cX5_tallyKings 15 = .ok (.iload_n 2, 1) := by decide +kernel
theorem dX5_tallyKings_16 : decode cX5_tallyKings 16 = .ok (.iconst 0, 1) := by decide +kernel
theorem dX5_tallyKings_17 : decode cX5_tallyKings 17 = .ok (.iastore, 1) := by decide +kernel
theorem dX5_tallyKings_18 : decode cX5_tallyKings 18 = .ok (.iinc 2 1, 3) := by decide +kernel
theorem dX5_tallyKings_21 : decode cX5_tallyKings 21 = .ok (.goto (-19), 3) := by decide +kernel
theorem dX5_tallyKings_24 : decode cX5_tallyKings 24 = .ok (.iconst 0, 1) := by decide +kernel
theorem dX5_tallyKings_25 : decode cX5_tallyKings 25 = .ok (.istore_n 2, 1) := by decide +kernel
theorem dX5_tallyKings_26 : decode cX5_tallyKings 26 = .ok (.iconst 0, 1) := by decide +kernel
theorem dX5_tallyKings_27 : decode cX5_tallyKings 27 = .ok (.istore_n 3, 1) := by decide +kernel
theorem dX5_tallyKings_28 : decode cX5_tallyKings 28 = .ok (.iload_n 3, 1) := by decide +kernel
theorem dX5_tallyKings_29 : decode cX5_tallyKings 29 = .ok (.bipush 20, 2) := by decide +kernel
theorem dX5_tallyKings_31 : decode cX5_tallyKings 31 = .ok (.if_icmp .gt 60, 3) := by decide +kernel
theorem dX5_tallyKings_34 : decode cX5_tallyKings 34 = .ok (.aload_n 0, 1) := by decide +kernel
theorem dX5_tallyKings_35 : decode cX5_tallyKings 35 = .ok (.iload_n 1, 1) := by decide +kernel
theorem dX5_tallyKings_36 : decode cX5_tallyKings 36 = .ok (.iconst 1, 1) := by decide +kernel
theorem dX5_tallyKings_37 : decode cX5_tallyKings 37 = .ok (.iload_n 3, 1) := by decide +kernel
theorem dX5_tallyKings_38 : decode cX5_tallyKings 38 = .ok (.invokevirtual 275, 3) := by decide +kernel
theorem dX5_tallyKings_41 : decode cX5_tallyKings 41 = .ok (.ifCond .eq 44, 3) := by decide +kernel
theorem dX5_tallyKings_44 : decode cX5_tallyKings 44 = .ok (.iinc 2 1, 3) := by decide +kernel
theorem dX5_tallyKings_47 : decode cX5_tallyKings 47 = .ok (.iconst 0, 1) := by decide +kernel
theorem dX5_tallyKings_48 : decode cX5_tallyKings 48 = .ok (.istore 4, 2) := by decide +kernel
theorem dX5_tallyKings_50 : decode cX5_tallyKings 50 = .ok (.iload 4, 2) := by decide +kernel
theorem dX5_tallyKings_52 : decode cX5_tallyKings 52 = .ok (.bipush 20, 2) := by decide +kernel
theorem dX5_tallyKings_54 : decode cX5_tallyKings 54 = .ok (.if_icmp .ge 31, 3) := by decide +kernel
theorem dX5_tallyKings_57 : decode cX5_tallyKings 57 = .ok (.aload_n 0, 1) := by decide +kernel
theorem dX5_tallyKings_58 : decode cX5_tallyKings 58 = .ok (.getfield 54, 3) := by decide +kernel
theorem dX5_tallyKings_61 : decode cX5_tallyKings 61 = .ok (.iload 4, 2) := by decide +kernel
theorem dX5_tallyKings_63 : decode cX5_tallyKings 63 = .ok (.bipush 6, 2) := by decide +kernel
theorem dX5_tallyKings_65 : decode cX5_tallyKings 65 = .ok (.imul, 1) := by decide +kernel
theorem dX5_tallyKings_66 : decode cX5_tallyKings 66 = .ok (.aload_n 0, 1) := by decide +kernel
theorem dX5_tallyKings_67 : decode cX5_tallyKings 67 = .ok (.getfield 47, 3) := by decide +kernel
theorem dX5_tallyKings_70 : decode cX5_tallyKings 70 = .ok (.iload 4, 2) := by decide +kernel
theorem dX5_tallyKings_72 : decode cX5_tallyKings 72 = .ok (.iaload, 1) := by decide +kernel
theorem dX5_tallyKings_73 : decode cX5_tallyKings 73 = .ok (.iadd, 1) := by decide +kernel
theorem dX5_tallyKings_74 : decode cX5_tallyKings 74 = .ok (.dup2, 1) := by decide +kernel
theorem dX5_tallyKings_75 : decode cX5_tallyKings 75 = .ok (.iaload, 1) := by decide +kernel
theorem dX5_tallyKings_76 : decode cX5_tallyKings 76 = .ok (.iconst 1, 1) := by decide +kernel
theorem dX5_tallyKings_77 : decode cX5_tallyKings 77 = .ok (.iadd, 1) := by decide +kernel
theorem dX5_tallyKings_78 : decode cX5_tallyKings 78 = .ok (.iastore, 1) := by decide +kernel
theorem dX5_tallyKings_79 : decode cX5_tallyKings 79 = .ok (.iinc 4 1, 3) := by decide +kernel
theorem dX5_tallyKings_82 : decode cX5_tallyKings 82 = .ok (.goto (-32), 3) := by decide +kernel
theorem dX5_tallyKings_85 : decode cX5_tallyKings 85 = .ok (.iinc 3 1, 3) := by decide +kernel
theorem dX5_tallyKings_88 : decode cX5_tallyKings 88 = .ok (.goto (-60), 3) := by decide +kernel
theorem dX5_tallyKings_91 : decode cX5_tallyKings 91 = .ok (.iload_n 2, 1) := by decide +kernel
theorem dX5_tallyKings_92 : decode cX5_tallyKings 92 = .ok (.ireturn, 1) := by decide +kernel
theorem dX5_mostTallied_0 : decode cX5_mostTallied 0 = .ok (.iconst 0, 1) := by decide +kernel
theorem dX5_mostTallied_1 : decode cX5_mostTallied 1 = .ok (.istore_n 2, 1) := by decide +kernel
theorem dX5_mostTallied_2 : decode cX5_mostTallied 2 = .ok (.iconst 0, 1) := by decide +kernel
theorem dX5_mostTallied_3 : decode cX5_mostTallied 3 = .ok (.istore_n 3, 1) := by decide +kernel
theorem dX5_mostTallied_4 : decode cX5_mostTallied 4 = .ok (.iload_n 3, 1) := by decide +kernel
theorem dX5_mostTallied_5 : decode cX5_mostTallied 5 = .ok (.bipush 6, 2) := by decide +kernel
theorem dX5_mostTallied_7 : decode cX5_mostTallied 7 = .ok (.if_icmp .ge 27, 3) := by decide +kernel
theorem dX5_mostTallied_10 : decode cX5_mostTallied 10 = .ok (.iload_n 2, 1) := by decide +kernel
theorem dX5_mostTallied_11 : decode cX5_mostTallied 11 = .ok (.aload_n 0, 1) := by decide +kernel
theorem dX5_mostTallied_12 : decode cX5_mostTallied 12 = .ok (.getfield 54, 3) := by decide +kernel
theorem dX5_mostTallied_15 : decode cX5_mostTallied 15 = .ok (.iload_n 1, 1) := by decide +kernel
theorem dX5_mostTallied_16 : decode cX5_mostTallied 16 = .ok (.iconst 1, 1) := by decide +kernel
theorem dX5_mostTallied_17 : decode cX5_mostTallied 17 = .ok (.isub, 1) := by decide +kernel
theorem dX5_mostTallied_18 : decode cX5_mostTallied 18 = .ok (.bipush 6, 2) := by decide +kernel
theorem dX5_mostTallied_20 : decode cX5_mostTallied 20 = .ok (.imul, 1) := by decide +kernel
theorem dX5_mostTallied_21 : decode cX5_mostTallied 21 = .ok (.iload_n 3, 1) := by decide +kernel
theorem dX5_mostTallied_22 : decode cX5_mostTallied 22 = .ok (.iadd, 1) := by decide +kernel
theorem dX5_mostTallied_23 : decode cX5_mostTallied 23 = .ok (.iaload, 1) := by decide +kernel
theorem dX5_mostTallied_24 : decode cX5_mostTallied 24 = .ok (.invokestatic 282, 3) := by decide +kernel
theorem dX5_mostTallied_27 : decode cX5_mostTallied 27 = .ok (.istore_n 2, 1) := by decide +kernel
theorem dX5_mostTallied_28 : decode cX5_mostTallied 28 = .ok (.iinc 3 1, 3) := by decide +kernel
theorem dX5_mostTallied_31 : decode cX5_mostTallied 31 = .ok (.goto (-27), 3) := by decide +kernel
theorem dX5_mostTallied_34 : decode cX5_mostTallied 34 = .ok (.iload_n 2, 1) := by decide +kernel
theorem dX5_mostTallied_35 : decode cX5_mostTallied 35 = .ok (.ireturn, 1) := by decide +kernel
set_option maxRecDepth 20000 in
theorem ggX5_trains_X0_takes : GoodIn wsX5_trains wsX0_takes := goodIn_r _ [9, 10, 11, 12, 13, 14, 15, 16, 17, 18, 63, 64, 65, 66, 67, 68, 69, 70, 71, 72, 73, 74] (by decide +kernel) (by decide +kernel)
set_option maxRecDepth 20000 in
theorem gX5_trains_X0_takes : GoodIn wsX5_trains (wsV RX5 133 RX0 yX0_takes wsX0_takes) := goodIn_app (goodIn_of _ (by decide +kernel)) ggX5_trains_X0_takes
set_option maxRecDepth 20000 in
theorem ggX5_trains_X0_crown : GoodIn wsX5_trains wsX0_crown := goodIn_r _ [22, 23, 24, 25, 26, 27, 28, 29, 30, 31, 32, 33, 34, 35, 36, 37, 38, 39, 40, 41, 42, 8, 43, 44, 45, 46, 47, 48, 49, 50, 51, 52, 10, 63, 64, 65, 66, 67, 68, 69, 70, 71, 72, 73, 74] (by decide +kernel) (by decide +kernel)
set_option maxRecDepth 20000 in
theorem gX5_trains_X0_crown : GoodIn wsX5_trains (wsV RX5 158 RX0 yX0_crown wsX0_crown) := goodIn_app (goodIn_of _ (by decide +kernel)) ggX5_trains_X0_crown
theorem dX5_trains_0 : decode cX5_trains 0 = .ok (.aload_n 0, 1) := by decide +kernel
theorem dX5_trains_1 : decode cX5_trains 1 = .ok (.getfield 23, 3) := by decide +kernel
theorem dX5_trains_4 : decode cX5_trains 4 = .ok (.iload_n 1, 1) := by decide +kernel
theorem dX5_trains_5 : decode cX5_trains 5 = .ok (.iconst 1, 1) := by decide +kernel
theorem dX5_trains_6 : decode cX5_trains 6 = .ok (.iload_n 2, 1) := by decide +kernel
theorem dX5_trains_7 : decode cX5_trains 7 = .ok (.invokevirtual 133, 3) := by decide +kernel
theorem dX5_trains_10 : decode cX5_trains 10 = .ok (.ifCond .eq 27, 3) := by decide +kernel
theorem dX5_trains_13 : decode cX5_trains 13 = .ok (.aload_n 0, 1) := by decide +kernel
theorem dX5_trains_14 : decode cX5_trains 14 = .ok (.getfield 23, 3) := by decide +kernel
theorem dX5_trains_17 : decode cX5_trains 17 = .ok (.getfield 95, 3) := by decide +kernel
theorem dX5_trains_20 : decode cX5_trains 20 = .ok (.iconst 2, 1) := by decide +kernel
theorem dX5_trains_21 : decode cX5_trains 21 = .ok (.if_icmp .lt 16, 3) := by decide +kernel
theorem dX5_trains_24 : decode cX5_trains 24 = .ok (.aload_n 0, 1) := by decide +kernel
theorem dX5_trains_25 : decode cX5_trains 25 = .ok (.getfield 23, 3) := by decide +kernel
theorem dX5_trains_28 : decode cX5_trains 28 = .ok (.getfield 98, 3) := by decide +kernel
theorem dX5_trains_31 : decode cX5_trains 31 = .ok (.sipush 999, 3) := by decide +kernel
theorem dX5_trains_34 : decode cX5_trains 34 = .ok (.if_icmp .lt 5, 3) := by decide +kernel
theorem dX5_trains_37 : decode cX5_trains 37 = .ok (.iconst 0, 1) := by decide +kernel
theorem dX5_trains_38 : decode cX5_trains 38 = .ok (.ireturn, 1) := by decide +kernel
theorem dX5_trains_39 : decode cX5_trains 39 = .ok (.aload_n 0, 1) := by decide +kernel
theorem dX5_trains_40 : decode cX5_trains 40 = .ok (.getfield 23, 3) := by decide +kernel
theorem dX5_trains_43 : decode cX5_trains 43 = .ok (.getfield 116, 3) := by decide +kernel
theorem dX5_trains_46 : decode cX5_trains 46 = .ok (.iconst 1, 1) := by decide +kernel
theorem dX5_trains_47 : decode cX5_trains 47 = .ok (.aaload, 1) := by decide +kernel
theorem dX5_trains_48 : decode cX5_trains 48 = .ok (.iload_n 1, 1) := by decide +kernel
theorem dX5_trains_49 : decode cX5_trains 49 = .ok (.iload_n 2, 1) := by decide +kernel
theorem dX5_trains_50 : decode cX5_trains 50 = .ok (.iastore, 1) := by decide +kernel
theorem dX5_trains_51 : decode cX5_trains 51 = .ok (.aload_n 0, 1) := by decide +kernel
theorem dX5_trains_52 : decode cX5_trains 52 = .ok (.getfield 23, 3) := by decide +kernel
theorem dX5_trains_55 : decode cX5_trains 55 = .ok (.iconst 0, 1) := by decide +kernel
theorem dX5_trains_56 : decode cX5_trains 56 = .ok (.invokevirtual 158, 3) := by decide +kernel
theorem dX5_trains_59 : decode cX5_trains 59 = .ok (.iconst 1, 1) := by decide +kernel
theorem dX5_trains_60 : decode cX5_trains 60 = .ok (.ireturn, 1) := by decide +kernel
