set_option maxRecDepth 20000 in
theorem ggX4_init_X0_init : GoodIn wsX4_init wsX0_init := goodIn_r _ [16, 17, 2, 3, 18, 10, 19, 20, 21, 39, 40, 41, 42, 43, 44, 45, 46, 47, 48, 49, 50] (by decide +kernel) (by decide +kernel)
set_option maxRecDepth 20000 in
theorem gX4_init_X0_init_n17 : GoodIn wsX4_init (wsX0_init) := ggX4_init_X0_init
theorem dX4_init_0 : decode cX4_init 0 = .ok (.aload_n 0, 1) := by decide +kernel
theorem dX4_init_1 : decode cX4_init 1 = .ok (.invokespecial 3, 3) := by decide +kernel
theorem dX4_init_4 : decode cX4_init 4 = .ok (.aload_n 0, 1) := by decide +kernel
theorem dX4_init_5 : decode cX4_init 5 = .ok (.sipush 160, 3) := by decide +kernel
theorem dX4_init_8 : decode cX4_init 8 = .ok (.newarray .byte, 2) := by decide +kernel
theorem dX4_init_10 : decode cX4_init 10 = .ok (.putfield 9, 3) := by decide +kernel
theorem dX4_init_13 : decode cX4_init 13 = .ok (.aload_n 0, 1) := by decide +kernel
theorem dX4_init_14 : decode cX4_init 14 = .ok (.new 15, 3) := by decide +kernel
theorem dX4_init_17 : decode cX4_init 17 = .ok (.dup, 1) := by decide +kernel
theorem dX4_init_18 : decode cX4_init 18 = .ok (.invokespecial 17, 3) := by decide +kernel
theorem dX4_init_21 : decode cX4_init 21 = .ok (.putfield 18, 3) := by decide +kernel
theorem dX4_init_24 : decode cX4_init 24 = .ok (.aload_n 0, 1) := by decide +kernel
theorem dX4_init_25 : decode cX4_init 25 = .ok (.iconst 4, 1) := by decide +kernel
theorem dX4_init_26 : decode cX4_init 26 = .ok (.newarray .int, 2) := by decide +kernel
theorem dX4_init_28 : decode cX4_init 28 = .ok (.putfield 22, 3) := by decide +kernel
theorem dX4_init_31 : decode cX4_init 31 = .ok (.aload_n 0, 1) := by decide +kernel
theorem dX4_init_32 : decode cX4_init 32 = .ok (.bipush 6, 2) := by decide +kernel
theorem dX4_init_34 : decode cX4_init 34 = .ok (.newarray .int, 2) := by decide +kernel
theorem dX4_init_36 : decode cX4_init 36 = .ok (.putfield 26, 3) := by decide +kernel
theorem dX4_init_39 : decode cX4_init 39 = .ok (.aload_n 0, 1) := by decide +kernel
theorem dX4_init_40 : decode cX4_init 40 = .ok (.bipush 6, 2) := by decide +kernel
theorem dX4_init_42 : decode cX4_init 42 = .ok (.newarray .boolean, 2) := by decide +kernel
theorem dX4_init_44 : decode cX4_init 44 = .ok (.putfield 29, 3) := by decide +kernel
theorem dX4_init_47 : decode cX4_init 47 = .ok (.return_, 1) := by decide +kernel
theorem dX4_push_0 : decode cX4_push 0 = .ok (.aload_n 0, 1) := by decide +kernel
theorem dX4_push_1 : decode cX4_push 1 = .ok (.getfield 33, 3) := by decide +kernel
theorem dX4_push_4 : decode cX4_push 4 = .ok (.sipush 160, 3) := by decide +kernel
theorem dX4_push_7 : decode cX4_push 7 = .ok (.if_icmp .lt 5, 3) := by decide +kernel
theorem dX4_push_10 : decode cX4_push 10 = .ok (.iconst 0, 1) := by decide +kernel
theorem dX4_push_11 : decode cX4_push 11 = .ok (.ireturn, 1) := by decide +kernel
theorem dX4_push_12 : decode cX4_push 12 = .ok (.aload_n 0, 1) := by decide +kernel
theorem dX4_push_13 : decode cX4_push 13 = .ok (.getfield 9, 3) := by decide +kernel
theorem dX4_push_16 : decode cX4_push 16 = .ok (.aload_n 0, 1) := by decide +kernel
theorem dX4_push_17 : decode cX4_push 17 = .ok (.getfield 33, 3) := by decide +kernel
theorem dX4_push_20 : decode cX4_push 20 = .ok (.iload_n 1, 1) := by decide +kernel
theorem dX4_push_21 : decode cX4_push 21 = .ok (.i2b, 1) := by decide +kernel
theorem dX4_push_22 : decode cX4_push 22 = .ok (.bastore, 1) := by decide +kernel
theorem dX4_push_23 : decode cX4_push 23 = .ok (.aload_n 0, 1) := by decide +kernel
theorem dX4_push_24 : decode cX4_push 24 = .ok (.dup, 1) := by decide +kernel
theorem dX4_push_25 : decode cX4_push 25 = .ok (.getfield 33, 3) := by decide +kernel
theorem dX4_push_28 : decode cX4_push 28 = .ok (.iconst 1, 1) := by decide +kernel
theorem dX4_push_29 : decode cX4_push 29 = .ok (.iadd, 1) := by decide +kernel
theorem dX4_push_30 : decode cX4_push 30 = .ok (.putfield 33, 3) := by decide +kernel
theorem dX4_push_33 : decode cX4_push 33 = .ok (.iconst 1, 1) := by decide +kernel
theorem dX4_push_34 : decode cX4_push 34 = .ok (.ireturn, 1) := by decide +kernel
set_option maxRecDepth 20000 in
theorem ggX4_readAll_X4_startAnew : GoodIn wsX4_readAll wsX4_startAnew := goodIn_r _ [8, 9, 3, 10, 11, 12, 13, 14, 15, 16, 17, 18, 19, 20, 21, 22, 23, 24, 25, 26, 27, 28, 154, 155, 156, 157, 158, 159, 160, 161, 162, 163, 164, 165, 166, 167, 168, 169, 170, 171, 172, 173, 174, 175, 176, 177, 178, 179, 180, 181, 182] (by decide +kernel) (by decide +kernel)
set_option maxRecDepth 20000 in
theorem gX4_readAll_X4_startAnew : GoodIn wsX4_readAll (wsV RX4 37 RX4 yX4_startAnew wsX4_startAnew) := goodIn_app (goodIn_of _ (by decide +kernel)) ggX4_readAll_X4_startAnew
set_option maxRecDepth 20000 in
theorem ggX4_readAll_X4_take : GoodIn wsX4_readAll wsX4_take := goodIn_r _ [32, 12, 1, 33, 34, 2, 35, 36, 7, 37, 38, 39, 40, 41, 42, 43, 44, 45, 46, 47, 48, 49, 10, 11, 154, 155, 156, 157, 158, 159, 160, 161, 162, 163, 164, 165, 166, 167, 168, 169, 170] (by decide +kernel) (by decide +kernel)
set_option maxRecDepth 20000 in
theorem gX4_readAll_X4_take : GoodIn wsX4_readAll (wsV RX4 40 RX4 yX4_take wsX4_take) := goodIn_app (goodIn_of _ (by decide +kernel)) ggX4_readAll_X4_take
set_option maxRecDepth 20000 in
theorem ggX4_readAll_X4_readLine : GoodIn wsX4_readAll wsX4_readLine := goodIn_r _ [53, 2, 34, 46, 47, 48, 7, 49, 10, 11, 54, 55, 56, 57, 58, 59, 60, 61, 12, 33, 62, 63, 64, 65, 66, 67, 68, 69, 70, 71, 72, 73, 74, 75, 76, 77, 78, 79, 80, 81, 82, 83, 84, 85, 86, 87, 88, 89, 90, 91, 92, 93, 94, 95, 96, 97, 98, 99, 100, 101, 102, 103, 104, 105, 106, 107, 108, 109, 110, 111, 112, 113, 114, 9, 115, 116, 45, 29, 30, 31, 32, 1, 35, 36, 37, 38, 39, 40, 41, 42, 43, 44, 117, 118, 119, 120, 121, 122, 123, 124, 125, 126, 21, 127, 23, 128, 129, 130, 131, 132, 133, 134, 135, 136, 137, 14, 17, 13, 138, 139, 140, 141, 142, 15, 143, 144, 145, 146, 147, 16, 148, 154, 155, 156, 157, 158, 159, 160, 161, 162, 163, 164, 165, 166, 167, 168, 169, 170, 171, 172, 173, 174, 175, 176, 177, 178, 179, 180, 181, 182] (by decide +kernel) (by decide +kernel)
set_option maxRecDepth 20000 in
theorem gX4_readAll_X4_readLine : GoodIn wsX4_readAll (wsV RX4 47 RX4 yX4_readLine wsX4_readLine) := goodIn_app (goodIn_of _ (by decide +kernel)) ggX4_readAll_X4_readLine
set_option maxRecDepth 20000 in
theorem ggX4_readAll_X4_formRow : GoodIn wsX4_readAll wsX4_formRow := goodIn_r _ [152, 13, 138, 9, 115, 1, 153, 17, 46, 47, 48, 7, 49, 10, 11, 154, 155, 156, 157, 158, 159, 160, 161, 162, 163, 164, 165, 166, 167, 168, 169, 170, 171, 172, 173, 174, 175, 176, 177, 178, 179, 180, 181, 182] (by decide +kernel) (by decide +kernel)
set_option maxRecDepth 20000 in
theorem gX4_readAll_X4_formRow : GoodIn wsX4_readAll (wsV RX4 53 RX4 yX4_formRow wsX4_formRow) := goodIn_app (goodIn_of _ (by decide +kernel)) ggX4_readAll_X4_formRow
theorem dX4_readAll_0 : decode cX4_readAll 0 = .ok (.aload_n 0, 1) := by decide +kernel
theorem dX4_readAll_1 : decode cX4_readAll 1 = .ok (.invokevirtual 37, 3) := by decide +kernel
theorem dX4_readAll_4 : decode cX4_readAll 4 = .ok (.iconst 0, 1) := by decide +kernel
theorem dX4_readAll_5 : decode cX4_readAll 5 = .ok (.istore_n 1, 1) := by decide +kernel
theorem dX4_readAll_6 : decode cX4_readAll 6 = .ok (.iload_n 1, 1) := by decide +kernel
theorem dX4_readAll_7 : decode cX4_readAll 7 = .ok (.aload_n 0, 1) := by decide +kernel
theorem dX4_readAll_8 : decode cX4_readAll 8 = .ok (.getfield 33, 3) := by decide +kernel
theorem dX4_readAll_11 : decode cX4_readAll 11 = .ok (.if_icmp .gt 45, 3) := by decide +kernel
theorem dX4_readAll_14 : decode cX4_readAll 14 = .ok (.aload_n 0, 1) := by decide +kernel
theorem dX4_readAll_15 : decode cX4_readAll 15 = .ok (.invokevirtual 40, 3) := by decide +kernel
theorem dX4_readAll_18 : decode cX4_readAll 18 = .ok (.ifCond .ne 4, 3) := by decide +kernel
theorem dX4_readAll_21 : decode cX4_readAll 21 = .ok (.return_, 1) := by decide +kernel
theorem dX4_readAll_22 : decode cX4_readAll 22 = .ok (.aload_n 0, 1) := by decide +kernel
theorem dX4_readAll_23 : decode cX4_readAll 23 = .ok (.getfield 44, 3) := by decide +kernel
theorem dX4_readAll_26 : decode cX4_readAll 26 = .ok (.ifCond .ne 6, 3) := by decide +kernel
theorem dX4_readAll_29 : decode cX4_readAll 29 = .ok (.goto 27, 3) := by decide +kernel
theorem dX4_readAll_32 : decode cX4_readAll 32 = .ok (.aload_n 0, 1) := by decide +kernel
theorem dX4_readAll_33 : decode cX4_readAll 33 = .ok (.invokevirtual 47, 3) := by decide +kernel
theorem dX4_readAll_36 : decode cX4_readAll 36 = .ok (.ifCond .ne 4, 3) := by decide +kernel
theorem dX4_readAll_39 : decode cX4_readAll 39 = .ok (.return_, 1) := by decide +kernel
theorem dX4_readAll_40 : decode cX4_readAll 40 = .ok (.aload_n 0, 1) := by decide +kernel
theorem dX4_readAll_41 : decode cX4_readAll 41 = .ok (.dup, 1) := by decide +kernel
theorem dX4_readAll_42 : decode cX4_readAll 42 = .ok (.getfield 50, 3) := by decide +kernel
theorem dX4_readAll_45 : decode cX4_readAll 45 = .ok (.iconst 1, 1) := by decide +kernel
theorem dX4_readAll_46 : decode cX4_readAll 46 = .ok (.iadd, 1) := by decide +kernel
theorem dX4_readAll_47 : decode cX4_readAll 47 = .ok (.putfield 50, 3) := by decide +kernel
theorem dX4_readAll_50 : decode cX4_readAll 50 = .ok (.iinc 1 1, 3) := by decide +kernel
theorem dX4_readAll_53 : decode cX4_readAll 53 = .ok (.goto (-47), 3) := by decide +kernel
theorem dX4_readAll_56 : decode cX4_readAll 56 = .ok (.aload_n 0, 1) := by decide +kernel
theorem dX4_readAll_57 : decode cX4_readAll 57 = .ok (.invokevirtual 53, 3) := by decide +kernel
theorem dX4_readAll_60 : decode cX4_readAll 60 = .ok (.return_, 1) := by decide +kernel
set_option maxRecDepth 20000 in
theorem ggX4_startAnew_X0_empty : GoodIn wsX4_startAnew wsX0_empty := goodIn_r _ [15, 16, 17, 18, 19, 20, 21, 39, 40, 41, 42, 43, 44, 45, 46, 47, 48, 49, 50] (by decide +kernel) (by decide +kernel)
set_option maxRecDepth 20000 in
theorem gX4_startAnew_X0_empty : GoodIn wsX4_startAnew (wsV RX4 56 RX0 yX0_empty wsX0_empty) := goodIn_app (goodIn_of _ (by decide +kernel)) ggX4_startAnew_X0_empty
theorem dX4_startAnew_0 : decode cX4_startAnew 0 = .ok (.aload_n 0, 1) := by decide +kernel
theorem dX4_startAnew_1 : decode cX4_startAnew 1 = .ok (.getfield 18, 3) := by decide +kernel
theorem dX4_startAnew_4 : decode cX4_startAnew 4 = .ok (.invokevirtual 56, 3) := by decide +kernel
theorem dX4_startAnew_7 : decode cX4_startAnew 7 = .ok (.aload_n 0, 1) := by decide +kernel
theorem dX4_startAnew_8 : decode cX4_startAnew 8 = .ok (.iconst 0, 1) := by decide +kernel
theorem dX4_startAnew_9 : decode cX4_startAnew 9 = .ok (.putfield 50, 3) := by decide +kernel
theorem dX4_startAnew_12 : decode cX4_startAnew 12 = .ok (.aload_n 0, 1) := by decide +kernel
theorem dX4_startAnew_13 : decode cX4_startAnew 13 = .ok (.iconst 0, 1) := by decide +kernel
theorem dX4_startAnew_14 : decode cX4_startAnew 14 = .ok (.putfield 59, 3) := by decide +kernel
theorem dX4_startAnew_17 : decode cX4_startAnew 17 = .ok (.aload_n 0, 1) := by decide +kernel
theorem dX4_startAnew_18 : decode cX4_startAnew 18 = .ok (.iconst 0, 1) := by decide +kernel
theorem dX4_startAnew_19 : decode cX4_startAnew 19 = .ok (.putfield 62, 3) := by decide +kernel
theorem dX4_startAnew_22 : decode cX4_startAnew 22 = .ok (.aload_n 0, 1) := by decide +kernel
theorem dX4_startAnew_23 : decode cX4_startAnew 23 = .ok (.iconst 0, 1) := by decide +kernel
theorem dX4_startAnew_24 : decode cX4_startAnew 24 = .ok (.putfield 65, 3) := by decide +kernel
theorem dX4_startAnew_27 : decode cX4_startAnew 27 = .ok (.aload_n 0, 1) := by decide +kernel
theorem dX4_startAnew_28 : decode cX4_startAnew 28 = .ok (.iconst 0, 1) := by decide +kernel
theorem dX4_startAnew_29 : decode cX4_startAnew 29 = .ok (.putfield 68, 3) := by decide +kernel
theorem dX4_startAnew_32 : decode cX4_startAnew 32 = .ok (.aload_n 0, 1) := by decide +kernel
theorem dX4_startAnew_33 : decode cX4_startAnew 33 = .ok (.iconst 0, 1) := by decide +kernel
theorem dX4_startAnew_34 : decode cX4_startAnew 34 = .ok (.putfield 71, 3) := by decide +kernel
theorem dX4_startAnew_37 : decode cX4_startAnew 37 = .ok (.aload_n 0, 1) := by decide +kernel
theorem dX4_startAnew_38 : decode cX4_startAnew 38 = .ok (.iconst 0, 1) := by decide +kernel
theorem dX4_startAnew_39 : decode cX4_startAnew 39 = .ok (.putfield 75, 3) := by decide +kernel
theorem dX4_startAnew_42 : decode cX4_startAnew 42 = .ok (.aload_n 0, 1) := by decide +kernel
theorem dX4_startAnew_43 : decode cX4_startAnew 43 = .ok (.iconst 0, 1) := by decide +kernel
theorem dX4_startAnew_44 : decode cX4_startAnew 44 = .ok (.putfield 78, 3) := by decide +kernel
theorem dX4_startAnew_47 : decode cX4_startAnew 47 = .ok (.iconst 0, 1) := by decide +kernel
theorem dX4_startAnew_48 : decode cX4_startAnew 48 = .ok (.istore_n 1, 1) := by decide +kernel
theorem dX4_startAnew_49 : decode cX4_startAnew 49 = .ok (.iload_n 1, 1) := by decide +kernel
theorem dX4_startAnew_50 : decode cX4_startAnew 50 = .ok (.bipush 6, 2) := by decide +kernel
theorem dX4_startAnew_52 : decode cX4_startAnew 52 = .ok (.if_icmp .ge 16, 3) := by decide +kernel
theorem dX4_startAnew_55 : decode cX4_startAnew 55 = .ok (.aload_n 0, 1) := by decide +kernel
theorem dX4_startAnew_56 : decode cX4_startAnew 56 = .ok (.getfield 29, 3) := by decide +kernel
theorem dX4_startAnew_59 : decode cX4_startAnew 59 = .ok (.iload_n 1, 1) := by decide +kernel
theorem dX4_startAnew_60 : decode cX4_startAnew 60 = .ok (.iconst 0, 1) := by decide +kernel
theorem dX4_startAnew_61 : decode cX4_startAnew 61 = .ok (.bastore, 1) := by decide +kernel
theorem dX4_startAnew_62 : decode cX4_startAnew 62 = .ok (.iinc 1 1, 3) := by decide +kernel
theorem dX4_startAnew_65 : decode cX4_startAnew 65 = .ok (.goto (-16), 3) := by decide +kernel
theorem dX4_startAnew_68 : decode cX4_startAnew 68 = .ok (.return_, 1) := by decide +kernel
theorem dX4_fail_0 : decode cX4_fail 0 = .ok (.aload_n 0, 1) := by decide +kernel
theorem dX4_fail_1 : decode cX4_fail 1 = .ok (.iload_n 1, 1) := by decide +kernel
theorem dX4_fail_2 : decode cX4_fail 2 = .ok (.putfield 59, 3) := by decide +kernel
theorem dX4_fail_5 : decode cX4_fail 5 = .ok (.aload_n 0, 1) := by decide +kernel
theorem dX4_fail_6 : decode cX4_fail 6 = .ok (.iload_n 2, 1) := by decide +kernel
theorem dX4_fail_7 : decode cX4_fail 7 = .ok (.putfield 62, 3) := by decide +kernel
theorem dX4_fail_10 : decode cX4_fail 10 = .ok (.iconst 0, 1) := by decide +kernel
theorem dX4_fail_11 : decode cX4_fail 11 = .ok (.ireturn, 1) := by decide +kernel
theorem dX4_isLetter_0 : decode cX4_isLetter 0 = .ok (.iload_n 0, 1) := by decide +kernel
theorem dX4_isLetter_1 : decode cX4_isLetter 1 = .ok (.bipush 97, 2) := by decide +kernel
theorem dX4_isLetter_3 : decode cX4_isLetter 3 = .ok (.if_icmp .lt 13, 3) := by decide +kernel
theorem dX4_isLetter_6 : decode cX4_isLetter 6 = .ok (.iload_n 0, 1) := by decide +kernel
theorem dX4_isLetter_7 : decode cX4_isLetter 7 = .ok (.bipush 122, 2) := by decide +kernel
theorem dX4_isLetter_9 : decode cX4_isLetter 9 = .ok (.if_icmp .gt 7, 3) := by decide +kernel
theorem dX4_isLetter_12 : decode cX4_isLetter 12 = .ok (.iconst 1, 1) := by decide +kernel
theorem dX4_isLetter_13 : decode cX4_isLetter 13 = .ok (.goto 4, 3) := by decide +kernel
theorem dX4_isLetter_16 : decode cX4_isLetter 16 = .ok (.iconst 0, 1) := by decide +kernel
theorem dX4_isLetter_17 : decode cX4_isLetter 17 = .ok (.ireturn, 1) := by decide +kernel
theorem dX4_isFigure_0 : decode cX4_isFigure 0 = .ok (.iload_n 0, 1) := by decide +kernel
theorem dX4_isFigure_1 : decode cX4_isFigure 1 = .ok (.bipush 48, 2) := by decide +kernel
theorem dX4_isFigure_3 : decode cX4_isFigure 3 = .ok (.if_icmp .lt 13, 3) := by decide +kernel
theorem dX4_isFigure_6 : decode cX4_isFigure 6 = .ok (.iload_n 0, 1) := by decide +kernel
theorem dX4_isFigure_7 : decode cX4_isFigure 7 = .ok (.bipush 57, 2) := by decide +kernel
theorem dX4_isFigure_9 : decode cX4_isFigure 9 = .ok (.if_icmp .gt 7, 3) := by decide +kernel
theorem dX4_isFigure_12 : decode cX4_isFigure 12 = .ok (.iconst 1, 1) := by decide +kernel
theorem dX4_isFigure_13 : decode cX4_isFigure 13 = .ok (.goto 4, 3) := by decide +kernel
theorem dX4_isFigure_16 : decode cX4_isFigure 16 = .ok (.iconst 0, 1) := by decide +kernel
theorem dX4_isFigure_17 : decode cX4_isFigure 17 = .ok (.ireturn, 1) := by decide +kernel
set_option maxRecDepth 20000 in
theorem ggX4_take_X4_isLetter : GoodIn wsX4_take wsX4_isLetter := goodIn_r _ [9] (by decide +kernel) (by decide +kernel)
set_option maxRecDepth 20000 in
theorem gX4_take_X4_isLetter : GoodIn wsX4_take (va_wsS RX4 84 yX4_isLetter wsX4_isLetter) := goodIn_app (goodIn_of _ (by decide +kernel)) ggX4_take_X4_isLetter
set_option maxRecDepth 20000 in
theorem ggX4_take_X4_isFigure : GoodIn wsX4_take wsX4_isFigure := goodIn_r _ [12] (by decide +kernel) (by decide +kernel)
set_option maxRecDepth 20000 in
theorem gX4_take_X4_isFigure : GoodIn wsX4_take (va_wsS RX4 88 yX4_isFigure wsX4_isFigure) := goodIn_app (goodIn_of _ (by decide +kernel)) ggX4_take_X4_isFigure
set_option maxRecDepth 20000 in
theorem ggX4_take_X4_takeNumber : GoodIn wsX4_take wsX4_takeNumber := goodIn_r _ [16, 5, 17, 1, 2, 3, 4, 10, 11, 8, 12, 18, 19, 20, 21, 22, 23, 24, 25, 26, 27, 28, 29, 30, 31, 32, 33, 34, 35, 36, 37, 38, 39, 40] (by decide +kernel) (by decide +kernel)
set_option maxRecDepth 20000 in
theorem gX4_take_X4_takeNumber : GoodIn wsX4_take (wsV RX4 91 RX4 yX4_takeNumber wsX4_takeNumber) := goodIn_app (goodIn_of _ (by decide +kernel)) ggX4_take_X4_takeNumber
set_option maxRecDepth 20000 in
theorem ggX4_take_X4_fail : GoodIn wsX4_take wsX4_fail := goodIn_r _ [21, 22, 23, 24, 25, 26, 27, 28, 29, 30, 31, 32, 33, 34, 35, 36, 37, 38, 39, 40] (by decide +kernel) (by decide +kernel)
set_option maxRecDepth 20000 in
theorem gX4_take_X4_fail : GoodIn wsX4_take (wsV RX4 94 RX4 yX4_fail wsX4_fail) := goodIn_app (goodIn_of _ (by decide +kernel)) ggX4_take_X4_fail
theorem dX4_take_0 : decode cX4_take 0 = .ok (.aload_n 0, 1) := by decide +kernel
theorem dX4_take_1 : decode cX4_take 1 = .ok (.getfield 65, 3) := by decide +kernel
theorem dX4_take_4 : decode cX4_take 4 = .ok (.aload_n 0, 1) := by decide +kernel
theorem dX4_take_5 : decode cX4_take 5 = .ok (.getfield 33, 3) := by decide +kernel
theorem dX4_take_8 : decode cX4_take 8 = .ok (.if_icmp .ge 30, 3) := by decide +kernel
theorem dX4_take_11 : decode cX4_take 11 = .ok (.aload_n 0, 1) := by decide +kernel
theorem dX4_take_12 : decode cX4_take 12 = .ok (.getfield 9, 3) := by decide +kernel
theorem dX4_take_15 : decode cX4_take 15 = .ok (.aload_n 0, 1) := by decide +kernel
theorem dX4_take_16 : decode cX4_take 16 = .ok (.getfield 65, 3) := by decide +kernel
theorem dX4_take_19 : decode cX4_take 19 = .ok (.baload, 1) := by decide +kernel
theorem dX4_take_20 : decode cX4_take 20 = .ok (.bipush 32, 2) := by decide +kernel
theorem dX4_take_22 : decode cX4_take 22 = .ok (.if_icmp .ne 16, 3) := by decide +kernel
theorem dX4_take_25 : decode cX4_take 25 = .ok (.aload_n 0, 1) := by decide +kernel
theorem dX4_take_26 : decode cX4_take 26 = .ok (.dup, 1) := by decide +kernel
theorem dX4_take_27 : decode cX4_take 27 = .ok (.getfield 65, 3) := by decide +kernel
theorem dX4_take_30 : decode cX4_take 30 = .ok (.iconst 1, 1) := by decide +kernel
theorem dX4_take_31 : decode cX4_take 31 = .ok (.iadd, 1) := by decide +kernel
theorem dX4_take_32 : decode cX4_take 32 = .ok (.putfield 65, 3) := by decide +kernel
theorem dX4_take_35 : decode cX4_take 35 = .ok (.goto (-35), 3) := by decide +kernel
theorem dX4_take_38 : decode cX4_take 38 = .ok (.aload_n 0, 1) := by decide +kernel
theorem dX4_take_39 : decode cX4_take 39 = .ok (.aload_n 0, 1) := by decide +kernel
theorem dX4_take_40 : decode cX4_take 40 = .ok (.getfield 65, 3) := by decide +kernel
theorem dX4_take_43 : decode cX4_take 43 = .ok (.putfield 81, 3) := by decide +kernel
theorem dX4_take_46 : decode cX4_take 46 = .ok (.aload_n 0, 1) := by decide +kernel
theorem dX4_take_47 : decode cX4_take 47 = .ok (.getfield 65, 3) := by decide +kernel
theorem dX4_take_50 : decode cX4_take 50 = .ok (.aload_n 0, 1) := by decide +kernel
theorem dX4_take_51 : decode cX4_take 51 = .ok (.getfield 33, 3) := by decide +kernel
theorem dX4_take_54 : decode cX4_take 54 = .ok (.if_icmp .lt 10, 3) := by decide +kernel
theorem dX4_take_57 : decode cX4_take 57 = .ok (.aload_n 0, 1) := by decide +kernel
theorem dX4_take_58 : decode cX4_take 58 = .ok (.iconst 0, 1) := by decide +kernel
theorem dX4_take_59 : decode cX4_take 59 = .ok (.putfield 44, 3) := by decide +kernel
theorem dX4_take_62 : decode cX4_take 62 = .ok (.iconst 1, 1) := by decide +kernel
theorem dX4_take_63 : decode cX4_take 63 = .ok (.ireturn, 1) := by decide +kernel
theorem dX4_take_64 : decode cX4_take 64 = .ok (.aload_n 0, 1) := by decide +kernel
theorem dX4_take_65 : decode cX4_take 65 = .ok (.getfield 9, 3) := by decide +kernel
theorem dX4_take_68 : decode cX4_take 68 = .ok (.aload_n 0, 1) := by decide +kernel
theorem dX4_take_69 : decode cX4_take 69 = .ok (.getfield 65, 3) := by decide +kernel
theorem dX4_take_72 : decode cX4_take 72 = .ok (.baload, 1) := by decide +kernel
theorem dX4_take_73 : decode cX4_take 73 = .ok (.istore_n 1, 1) := by decide +kernel
theorem dX4_take_74 : decode cX4_take 74 = .ok (.iload_n 1, 1) := by decide +kernel
theorem dX4_take_75 : decode cX4_take 75 = .ok (.bipush 59, 2) := by decide +kernel
theorem dX4_take_77 : decode cX4_take 77 = .ok (.if_icmp .ne 20, 3) := by decide +kernel
theorem dX4_take_80 : decode cX4_take 80 = .ok (.aload_n 0, 1) := by decide +kernel
theorem dX4_take_81 : decode cX4_take 81 = .ok (.iconst 3, 1) := by decide +kernel
theorem dX4_take_82 : decode cX4_take 82 = .ok (.putfield 44, 3) := by decide +kernel
theorem dX4_take_85 : decode cX4_take 85 = .ok (.aload_n 0, 1) := by decide +kernel
theorem dX4_take_86 : decode cX4_take 86 = .ok (.dup, 1) := by decide +kernel
theorem dX4_take_87 : decode cX4_take 87 = .ok (.getfield 65, 3) := by decide +kernel
theorem dX4_take_90 : decode cX4_take 90 = .ok (.iconst 1, 1) := by decide +kernel
theorem dX4_take_91 : decode cX4_take 91 = .ok (.iadd, 1) := by decide +kernel
theorem dX4_take_92 : decode cX4_take 92 = .ok (.putfield 65, 3) := by decide +kernel
theorem dX4_take_95 : decode cX4_take 95 = .ok (.iconst 1, 1) := by decide +kernel
theorem dX4_take_96 : decode cX4_take 96 = .ok (.ireturn, 1) := by decide +kernel
theorem dX4_take_97 : decode cX4_take 97 = .ok (.iload_n 1, 1) := by decide +kernel
theorem dX4_take_98 : decode cX4_take 98 = .ok (.invokestatic 84, 3) := by decide +kernel
theorem dX4_take_101 : decode cX4_take 101 = .ok (.ifCond .eq 49, 3) := by decide +kernel
theorem dX4_take_104 : decode cX4_take 104 = .ok (.aload_n 0, 1) := by decide +kernel
theorem dX4_take_105 : decode cX4_take 105 = .ok (.iconst 1, 1) := by decide +kernel
theorem dX4_take_106 : decode cX4_take 106 = .ok (.putfield 44, 3) := by decide +kernel
theorem dX4_take_109 : decode cX4_take 109 = .ok (.aload_n 0, 1) := by decide +kernel
theorem dX4_take_110 : decode cX4_take 110 = .ok (.getfield 65, 3) := by decide +kernel
theorem dX4_take_113 : decode cX4_take 113 = .ok (.aload_n 0, 1) := by decide +kernel
theorem dX4_take_114 : decode cX4_take 114 = .ok (.getfield 33, 3) := by decide +kernel
theorem dX4_take_117 : decode cX4_take 117 = .ok (.if_icmp .ge 31, 3) := by decide +kernel
theorem dX4_take_120 : decode cX4_take 120 = .ok (.aload_n 0, 1) := by decide +kernel
theorem dX4_take_121 : decode cX4_take 121 = .ok (.getfield 9, 3) := by decide +kernel
theorem dX4_take_124 : decode cX4_take 124 = .ok (.aload_n 0, 1) := by decide +kernel
theorem dX4_take_125 : decode cX4_take 125 = .ok (.getfield 65, 3) := by decide +kernel
theorem dX4_take_128 : decode cX4_take 128 = .ok (.baload, 1) := by decide +kernel
theorem dX4_take_129 : decode cX4_take 129 = .ok (.invokestatic 84, 3) := by decide +kernel
theorem dX4_take_132 : decode cX4_take 132 = .ok (.ifCond .eq 16, 3) := by decide +kernel
theorem dX4_take_135 : decode cX4_take 135 = .ok (.aload_n 0, 1) := by decide +kernel
theorem dX4_take_136 : decode cX4_take 136 = .ok (.dup, 1) := by decide +kernel
theorem dX4_take_137 : decode cX4_take 137 = .ok (.getfield 65, 3) := by decide +kernel
theorem dX4_take_140 : decode cX4_take 140 = .ok (.iconst 1, 1) := by decide +kernel
theorem dX4_take_141 : decode cX4_take 141 = .ok (.iadd, 1) := by decide +kernel
theorem dX4_take_142 : decode cX4_take 142 = .ok (.putfield 65, 3) := by decide +kernel
theorem dX4_take_145 : decode cX4_take 145 = .ok (.goto (-36), 3) := by decide +kernel
theorem dX4_take_148 : decode cX4_take 148 = .ok (.iconst 1, 1) := by decide +kernel
theorem dX4_take_149 : decode cX4_take 149 = .ok (.ireturn, 1) := by decide +kernel
theorem dX4_take_150 : decode cX4_take 150 = .ok (.iload_n 1, 1) := by decide +kernel
theorem dX4_take_151 : decode cX4_take 151 = .ok (.invokestatic 88, 3) := by decide +kernel
theorem dX4_take_154 : decode cX4_take 154 = .ok (.ifCond .eq 10, 3) := by decide +kernel
theorem dX4_take_157 : decode cX4_take 157 = .ok (.aload_n 0, 1) := by decide +kernel
theorem dX4_take_158 : decode cX4_take 158 = .ok (.invokevirtual 91, 3) := by decide +kernel
theorem dX4_take_161 : decode cX4_take 161 = .ok (.goto 12, 3) := by decide +kernel
theorem dX4_take_164 : decode cX4_take 164 = .ok (.aload_n 0, 1) := by decide +kernel
theorem dX4_take_165 : decode cX4_take 165 = .ok (.iconst 1, 1) := by decide +kernel
theorem dX4_take_166 : decode cX4_take 166 = .ok (.aload_n 0, 1) := by decide +kernel
theorem dX4_take_167 : decode cX4_take 167 = .ok (.getfield 81, 3) := by decide +kernel
theorem dX4_take_170 : decode cX4_take 170 = .ok (.invokevirtual 94, 3) := by decide +kernel
theorem dX4_take_173 : decode cX4_take 173 = .ok (.ireturn, 1) := by decide +kernel
set_option maxRecDepth 20000 in
theorem ggX4_takeNumber_X4_isFigure : GoodIn wsX4_takeNumber wsX4_isFigure := goodIn_r _ [10] (by decide +kernel) (by decide +kernel)
set_option maxRecDepth 20000 in
theorem gX4_takeNumber_X4_isFigure : GoodIn wsX4_takeNumber (va_wsS RX4 88 yX4_isFigure wsX4_isFigure) := goodIn_app (goodIn_of _ (by decide +kernel)) ggX4_takeNumber_X4_isFigure
set_option maxRecDepth 20000 in
theorem ggX4_takeNumber_X4_fail : GoodIn wsX4_takeNumber wsX4_fail := goodIn_r _ [14, 15, 16, 17, 18, 19, 20, 21, 22, 23, 24, 25, 26, 27, 28, 29, 30, 31, 32, 33] (by decide +kernel) (by decide +kernel)
set_option maxRecDepth 20000 in
theorem gX4_takeNumber_X4_fail : GoodIn wsX4_takeNumber (wsV RX4 94 RX4 yX4_fail wsX4_fail) := goodIn_app (goodIn_of _ (by decide +kernel)) ggX4_takeNumber_X4_fail
theorem dX4_takeNumber_0 : decode cX4_takeNumber 0 = .ok (.aload_n 0, 1) := by decide +kernel
theorem dX4_takeNumber_1 : decode cX4_takeNumber 1 = .ok (.iconst 2, 1) := by decide +kernel
theorem dX4_takeNumber_2 : decode cX4_takeNumber 2 = .ok (.putfield 44, 3) := by decide +kernel
theorem dX4_takeNumber_5 : decode cX4_takeNumber 5 = .ok (.aload_n 0, 1) := by decide +kernel
theorem dX4_takeNumber_6 : decode cX4_takeNumber 6 = .ok (.iconst 0, 1) := by decide +kernel
theorem dX4_takeNumber_7 : decode cX4_takeNumber 7 = .ok (.putfield 98, 3) := by decide +kernel
theorem dX4_takeNumber_10 : decode cX4_takeNumber 10 = .ok (.aload_n 0, 1) := by decide +kernel
theorem dX4_takeNumber_11 : decode cX4_takeNumber 11 = .ok (.getfield 65, 3) := by decide +kernel
theorem dX4_takeNumber_14 : decode cX4_takeNumber 14 = .ok (.aload_n 0, 1) := by decide +kernel
theorem dX4_takeNumber_15 : decode cX4_takeNumber 15 = .ok (.getfield 33, 3) := by decide +kernel
theorem dX4_takeNumber_18 : decode cX4_takeNumber 18 = .ok (.if_icmp .ge 78, 3) := by decide +kernel
theorem dX4_takeNumber_21 : decode cX4_takeNumber 21 = .ok (.aload_n 0, 1) := by decide +kernel
theorem dX4_takeNumber_22 : decode cX4_takeNumber 22 = .ok (.getfield 9, 3) := by decide +kernel
theorem dX4_takeNumber_25 : decode cX4_takeNumber 25 = .ok (.aload_n 0, 1) := by decide +kernel
theorem dX4_takeNumber_26 : decode cX4_takeNumber 26 = .ok (.getfield 65, 3) := by decide +kernel
theorem dX4_takeNumber_29 : decode cX4_takeNumber 29 = .ok (.baload, 1) := by decide +kernel
theorem dX4_takeNumber_30 : decode cX4_takeNumber 30 = .ok (.invokestatic 88, 3) := by decide +kernel
theorem dX4_takeNumber_33 : decode cX4_takeNumber 33 = .ok (.ifCond .eq 63, 3) := by decide +kernel
theorem dX4_takeNumber_36 : decode cX4_takeNumber 36 = .ok (.aload_n 0, 1) := by decide +kernel
theorem dX4_takeNumber_37 : decode cX4_takeNumber 37 = .ok (.getfield 65, 3) := by decide +kernel
theorem dX4_takeNumber_40 : decode cX4_takeNumber 40 = .ok (.aload_n 0, 1) := by decide +kernel
theorem dX4_takeNumber_41 : decode cX4_takeNumber 41 = .ok (.getfield 81, 3) := by decide +kernel
theorem dX4_takeNumber_44 : decode cX4_takeNumber 44 = .ok (.isub, 1) := by decide +kernel
theorem dX4_takeNumber_45 : decode cX4_takeNumber 45 = .ok (.iconst 2, 1) := by decide +kernel
theorem dX4_takeNumber_46 : decode cX4_takeNumber 46 = .ok (.if_icmp .lt 13, 3) := by decide +kernel
theorem dX4_takeNumber_49 : decode cX4_takeNumber 49 = .ok (.aload_n 0, 1) := by decide +kernel
theorem dX4_takeNumber_50 : decode cX4_takeNumber 50 = .ok (.iconst 1, 1) := by decide +kernel
theorem dX4_takeNumber_51 : decode cX4_takeNumber 51 = .ok (.aload_n 0, 1) := by decide +kernel
theorem dX4_takeNumber_52 : decode cX4_takeNumber 52 = .ok (.getfield 81, 3) := by decide +kernel
theorem dX4_takeNumber_55 : decode cX4_takeNumber 55 = .ok (.invokevirtual 94, 3) := by decide +kernel
theorem dX4_takeNumber_58 : decode cX4_takeNumber 58 = .ok (.ireturn, 1) := by decide +kernel
theorem dX4_takeNumber_59 : decode cX4_takeNumber 59 = .ok (.aload_n 0, 1) := by decide +kernel
theorem dX4_takeNumber_60 : decode cX4_takeNumber 60 = .ok (.aload_n 0, 1) := by decide +kernel
theorem dX4_takeNumber_61 : decode cX4_takeNumber 61 = .ok (.getfield 98, 3) := by decide +kernel
theorem dX4_takeNumber_64 : decode cX4_takeNumber 64 = .ok (.bipush 10, 2) := by decide +kernel
theorem dX4_takeNumber_66 : decode cX4_takeNumber 66 = .ok (.imul, 1) := by decide +kernel
theorem dX4_takeNumber_67 : decode cX4_takeNumber 67 = .ok (.aload_n 0, 1) := by decide +kernel
theorem dX4_takeNumber_68 : decode cX4_takeNumber 68 = .ok (.getfield 9, 3) := by decide +kernel
theorem dX4_takeNumber_71 : decode cX4_takeNumber 71 = .ok (.aload_n 0, 1) := by decide +kernel
theorem dX4_takeNumber_72 : decode cX4_takeNumber 72 = .ok (.getfield 65, 3) := by decide +kernel
theorem dX4_takeNumber_75 : decode cX4_takeNumber 75 = .ok (.baload, 1) := by decide +kernel
theorem dX4_takeNumber_76 : decode cX4_takeNumber 76 = .ok (.bipush 48, 2) := by decide +kernel
theorem dX4_takeNumber_78 : decode cX4_takeNumber 78 = .ok (.isub, 1) := by decide +kernel
theorem dX4_takeNumber_79 : decode cX4_takeNumber 79 = .ok (.iadd, 1) := by decide +kernel
theorem dX4_takeNumber_80 : decode cX4_takeNumber 80 = .ok (.putfield 98, 3) := by decide +kernel
theorem dX4_takeNumber_83 : decode cX4_takeNumber 83 = .ok (.aload_n 0, 1) := by decide +kernel
theorem dX4_takeNumber_84 : decode cX4_takeNumber 84 = .ok (.dup, 1) := by decide +kernel
theorem dX4_takeNumber_85 : decode cX4_takeNumber 85 = .ok (.getfield 65, 3) := by decide +kernel
theorem dX4_takeNumber_88 : decode cX4_takeNumber 88 = .ok (.iconst 1, 1) := by decide +kernel
theorem dX4_takeNumber_89 : decode cX4_takeNumber 89 = .ok (.iadd, 1) := by decide +kernel
theorem dX4_takeNumber_90 : decode cX4_takeNumber 90 = .ok (.putfield 65, 3) := by decide +kernel
theorem dX4_takeNumber_93 : decode cX4_takeNumber 93 = .ok (.goto (-83), 3) := by decide +kernel
theorem dX4_takeNumber_96 : decode cX4_takeNumber 96 = .ok (.iconst 1, 1) := by decide +kernel
theorem dX4_takeNumber_97 : decode cX4_takeNumber 97 = .ok (.ireturn, 1) := by decide +kernel
set_option maxRecDepth 20000 in
theorem ggX4_isNamed_J0_length_8abf5 : GoodIn wsX4_isNamed wsJ0_length_8abf5 := goodIn_r _ [8, 9, 10, 11, 12, 7, 13, 14, 15] (by decide +kernel) (by decide +kernel)
set_option maxRecDepth 20000 in
theorem gX4_isNamed_J0_length_8abf5 : GoodIn wsX4_isNamed (wsV RX4 101 RJ0 yJ0_length_8abf5 wsJ0_length_8abf5) := goodIn_app (goodIn_of _ (by decide +kernel)) ggX4_isNamed_J0_length_8abf5
set_option maxRecDepth 20000 in
theorem ggX4_isNamed_J0_charAt_5068e : GoodIn wsX4_isNamed wsJ0_charAt_5068e := goodIn_r _ [19, 9, 20, 21, 22, 7, 23, 14, 15, 24, 25, 26, 27, 28, 29, 30, 31, 32, 33, 34, 35, 36, 37, 38, 39, 40, 41, 42, 43, 44, 45, 46, 47, 48, 49, 50, 51, 52] (by decide +kernel) (by decide +kernel)
set_option maxRecDepth 20000 in
theorem gX4_isNamed_J0_charAt_5068e : GoodIn wsX4_isNamed (wsV RX4 106 RJ0 yJ0_charAt_5068e wsJ0_charAt_5068e) := goodIn_app (goodIn_of _ (by decide +kernel)) ggX4_isNamed_J0_charAt_5068e
theorem dX4_isNamed_0 : decode cX4_isNamed 0 = .ok (.aload_n 0, 1) := by decide +kernel
theorem dX4_isNamed_1 : decode cX4_isNamed 1 = .ok (.getfield 65, 3) := by decide +kernel
theorem dX4_isNamed_4 : decode cX4_isNamed 4 = .ok (.aload_n 0, 1) := by decide +kernel
theorem dX4_isNamed_5 : decode cX4_isNamed 5 = .ok (.getfield 81, 3) := by decide +kernel
theorem dX4_isNamed_8 : decode cX4_isNamed 8 = .ok (.isub, 1) := by decide +kernel
theorem dX4_isNamed_9 : decode cX4_isNamed 9 = .ok (.aload_n 1, 1) := by decide +kernel
theorem dX4_isNamed_10 : decode cX4_isNamed 10 = .ok (.invokevirtual 101, 3) := by decide +kernel
theorem dX4_isNamed_13 : decode cX4_isNamed 13 = .ok (.if_icmp .eq 5, 3) := by decide +kernel
theorem dX4_isNamed_16 : decode cX4_isNamed 16 = .ok (.iconst 0, 1) := by decide +kernel
theorem dX4_isNamed_17 : decode cX4_isNamed 17 = .ok (.ireturn, 1) := by decide +kernel
theorem dX4_isNamed_18 : decode cX4_isNamed 18 = .ok (.iconst 0, 1) := by decide +kernel
theorem dX4_isNamed_19 : decode cX4_isNamed 19 = .ok (.istore_n 2, 1) := by decide +kernel
theorem dX4_isNamed_20 : decode cX4_isNamed 20 = .ok (.iload_n 2, 1) := by decide +kernel
theorem dX4_isNamed_21 : decode cX4_isNamed 21 = .ok (.aload_n 1, 1) := by decide +kernel
theorem dX4_isNamed_22 : decode cX4_isNamed 22 = .ok (.invokevirtual 101, 3) := by decide +kernel
theorem dX4_isNamed_25 : decode cX4_isNamed 25 = .ok (.if_icmp .ge 30, 3) := by decide +kernel
theorem dX4_isNamed_28 : decode cX4_isNamed 28 = .ok (.aload_n 0, 1) := by decide +kernel
theorem dX4_isNamed_29 : decode cX4_isNamed 29 = .ok (.getfield 9, 3) := by decide +kernel
theorem dX4_isNamed_32 : decode cX4_isNamed 32 = .ok (.aload_n 0, 1) := by decide +kernel
theorem dX4_isNamed_33 : decode cX4_isNamed 33 = .ok (.getfield 81, 3) := by decide +kernel
theorem dX4_isNamed_36 : decode cX4_isNamed 36 = .ok (.iload_n 2, 1) := by decide +kernel
theorem dX4_isNamed_37 : decode cX4_isNamed 37 = .ok (.iadd, 1) := by decide +kernel
theorem dX4_isNamed_38 : decode cX4_isNamed 38 = .ok (.baload, 1) := by decide +kernel
theorem dX4_isNamed_39 : decode cX4_isNamed 39 = .ok (.aload_n 1, 1) := by decide +kernel
theorem dX4_isNamed_40 : decode cX4_isNamed 40 = .ok (.iload_n 2, 1) := by decide +kernel
theorem dX4_isNamed_41 : decode cX4_isNamed 41 = .ok (.invokevirtual 106, 3) := by decide +kernel
theorem dX4_isNamed_44 : decode cX4_isNamed 44 = .ok (.if_icmp .eq 5, 3) := by decide +kernel
theorem dX4_isNamed_47 : decode cX4_isNamed 47 = .ok (.iconst 0, 1) := by decide +kernel
theorem dX4_isNamed_48 : decode cX4_isNamed 48 = .ok (.ireturn, 1) := by decide +kernel
theorem dX4_isNamed_49 : decode cX4_isNamed 49 = .ok (.iinc 2 1, 3) := by decide +kernel
theorem dX4_isNamed_52 : decode cX4_isNamed 52 = .ok (.goto (-32), 3) := by decide +kernel
theorem dX4_isNamed_55 : decode cX4_isNamed 55 = .ok (.iconst 1, 1) := by decide +kernel
theorem dX4_isNamed_56 : decode cX4_isNamed 56 = .ok (.ireturn, 1) := by decide +kernel
set_option maxRecDepth 20000 in
theorem ggX4_readLine_X4_fail : GoodIn wsX4_readLine wsX4_fail := goodIn_r _ [7, 8, 9, 131, 132, 133, 134, 135, 136, 137, 138, 139, 140, 141, 142, 143, 144, 145, 146, 147] (by decide +kernel) (by decide +kernel)
set_option maxRecDepth 20000 in
theorem gX4_readLine_X4_fail : GoodIn wsX4_readLine (wsV RX4 94 RX4 yX4_fail wsX4_fail) := goodIn_app (goodIn_of _ (by decide +kernel)) ggX4_readLine_X4_fail
set_option maxRecDepth 20000 in
theorem ggX4_readLine_X4_kindNamed : GoodIn wsX4_readLine wsX4_kindNamed := goodIn_r _ [13, 14, 15, 16, 6, 17, 18, 2, 19, 20, 21, 22, 23, 24, 25, 26, 27, 28, 29, 30, 31, 32, 33, 34, 35, 36, 37, 38, 39, 40, 41, 42, 43, 44, 45, 46, 47, 48, 49, 50, 51, 52, 53, 54, 55, 56, 57, 58, 59, 60, 61, 62, 63, 64, 65, 66, 67, 68, 131, 132, 133, 134, 135, 136, 137, 138, 139, 140, 141, 142, 143, 144, 145, 146, 147] (by decide +kernel) (by decide +kernel)
set_option maxRecDepth 20000 in
theorem gX4_readLine_X4_kindNamed : GoodIn wsX4_readLine (wsV RX4 110 RX4 yX4_kindNamed wsX4_kindNamed) := goodIn_app (goodIn_of _ (by decide +kernel)) ggX4_readLine_X4_kindNamed
set_option maxRecDepth 20000 in
theorem ggX4_readLine_X4_readHeir : GoodIn wsX4_readLine wsX4_readHeir := goodIn_r _ [72, 73, 74, 2, 75, 76, 3, 4, 5, 6, 7, 8, 9, 77, 78, 79, 80, 18, 81, 19, 1, 82, 83, 84, 85, 86, 87, 88, 89, 90, 91, 92, 93, 94, 95, 96, 97, 98, 99, 100, 101, 102, 103, 104, 105, 106, 131, 132, 133, 134, 135, 136, 137, 138, 139, 140, 141, 142, 143, 144, 145, 146, 147, 148, 149, 150, 151, 152, 153, 154, 155, 156, 157, 158, 159] (by decide +kernel) (by decide +kernel)
set_option maxRecDepth 20000 in
theorem gX4_readLine_X4_readHeir : GoodIn wsX4_readLine (wsV RX4 113 RX4 yX4_readHeir wsX4_readHeir) := goodIn_app (goodIn_of _ (by decide +kernel)) ggX4_readLine_X4_readHeir
set_option maxRecDepth 20000 in
theorem ggX4_readLine_X4_takeStop : GoodIn wsX4_readLine wsX4_takeStop := goodIn_r _ [110, 1, 2, 77, 78, 79, 6, 80, 18, 81, 19, 82, 83, 84, 85, 86, 87, 88, 89, 90, 91, 76, 3, 4, 5, 7, 8, 9, 131, 132, 133, 134, 135, 136, 137, 138, 139, 140, 141, 142, 143, 144, 145, 146, 147] (by decide +kernel) (by decide +kernel)
set_option maxRecDepth 20000 in
theorem gX4_readLine_X4_takeStop : GoodIn wsX4_readLine (wsV RX4 116 RX4 yX4_takeStop wsX4_takeStop) := goodIn_app (goodIn_of _ (by decide +kernel)) ggX4_readLine_X4_takeStop
set_option maxRecDepth 20000 in
theorem ggX4_readLine_X4_isNamed : GoodIn wsX4_readLine wsX4_isNamed := goodIn_r _ [17, 18, 2, 19, 20, 21, 22, 23, 24, 25, 26, 27, 28, 29, 30, 31, 32, 33, 34, 35, 36, 37, 38, 39, 40, 41, 42, 43, 44, 45, 46, 47, 48, 49, 50, 51, 52, 53, 54, 55, 56, 57, 58, 59, 60, 61, 62, 63, 64, 65, 66, 67, 68, 131, 132, 133, 134, 135, 136, 137, 138, 139, 140, 141, 142, 143, 144, 145, 146, 147] (by decide +kernel) (by decide +kernel)
set_option maxRecDepth 20000 in
theorem gX4_readLine_X4_isNamed : GoodIn wsX4_readLine (wsV RX4 121 RX4 yX4_isNamed wsX4_isNamed) := goodIn_app (goodIn_of _ (by decide +kernel)) ggX4_readLine_X4_isNamed
set_option maxRecDepth 20000 in
theorem ggX4_readLine_X4_readFirsts : GoodIn wsX4_readLine wsX4_readFirsts := goodIn_r _ [114, 115, 2, 1, 116, 76, 117, 118, 3, 4, 5, 6, 7, 8, 9, 77, 78, 79, 80, 18, 81, 19, 82, 83, 84, 85, 86, 87, 88, 89, 90, 91, 92, 93, 94, 95, 96, 97, 98, 131, 132, 133, 134, 135, 136, 137, 138, 139, 140, 141, 142, 143, 144, 145, 146, 147] (by decide +kernel) (by decide +kernel)
set_option maxRecDepth 20000 in
theorem gX4_readLine_X4_readFirsts : GoodIn wsX4_readLine (wsV RX4 125 RX4 yX4_readFirsts wsX4_readFirsts) := goodIn_app (goodIn_of _ (by decide +kernel)) ggX4_readLine_X4_readFirsts
set_option maxRecDepth 20000 in
theorem ggX4_readLine_X4_readLumbago : GoodIn wsX4_readLine wsX4_readLumbago := goodIn_r _ [122, 123, 2, 73, 76, 124, 3, 4, 5, 6, 7, 8, 9, 77, 78, 79, 80, 18, 81, 19, 1, 82, 83, 84, 85, 86, 87, 88, 89, 90, 91, 92, 93, 94, 95, 96, 97, 98, 131, 132, 133, 134, 135, 136, 137, 138, 139, 140, 141, 142, 143, 144, 145, 146, 147, 148, 149, 150, 151, 152, 153, 154, 155, 156, 157, 158, 159] (by decide +kernel) (by decide +kernel)
set_option maxRecDepth 20000 in
theorem gX4_readLine_X4_readLumbago : GoodIn wsX4_readLine (wsV RX4 130 RX4 yX4_readLumbago wsX4_readLumbago) := goodIn_app (goodIn_of _ (by decide +kernel)) ggX4_readLine_X4_readLumbago
set_option maxRecDepth 20000 in
theorem ggX4_readLine_X4_readWorks : GoodIn wsX4_readLine wsX4_readWorks := goodIn_r _ [128, 129, 2, 73, 76, 130, 3, 4, 5, 6, 7, 8, 9, 77, 78, 79, 80, 18, 81, 19, 1, 82, 83, 84, 85, 86, 87, 88, 89, 90, 91, 92, 93, 94, 95, 96, 97, 98, 131, 132, 133, 134, 135, 136, 137, 138, 139, 140, 141, 142, 143, 144, 145, 146, 147, 148, 149, 150, 151, 152, 153, 154, 155, 156, 157, 158, 159] (by decide +kernel) (by decide +kernel)
set_option maxRecDepth 20000 in
theorem gX4_readLine_X4_readWorks : GoodIn wsX4_readLine (wsV RX4 135 RX4 yX4_readWorks wsX4_readWorks) := goodIn_app (goodIn_of _ (by decide +kernel)) ggX4_readLine_X4_readWorks
theorem dX4_readLine_0 : decode cX4_readLine 0 = .ok (.aload_n 0, 1) := by decide +kernel
theorem dX4_readLine_1 : decode cX4_readLine 1 = .ok (.getfield 44, 3) := by decide +kernel
theorem dX4_readLine_4 : decode cX4_readLine 4 = .ok (.iconst 1, 1) := by decide +kernel
theorem dX4_readLine_5 : decode cX4_readLine 5 = .ok (.if_icmp .eq 13, 3) := by decide +kernel
theorem dX4_readLine_8 : decode cX4_readLine 8 = .ok (.aload_n 0, 1) := by decide +kernel
theorem dX4_readLine_9 : decode cX4_readLine 9 = .ok (.iconst 2, 1) := by decide +kernel
theorem dX4_readLine_10 : decode cX4_readLine 10 = .ok (.aload_n 0, 1) := by decide +kernel
theorem dX4_readLine_11 : decode cX4_readLine 11 = .ok (.getfield 81, 3) := by decide +kernel
theorem dX4_readLine_14 : decode cX4_readLine 14 = .ok (.invokevirtual 94, 3) := by decide +kernel
theorem dX4_readLine_17 : decode cX4_readLine 17 = .ok (.ireturn, 1) := by decide +kernel
theorem dX4_readLine_18 : decode cX4_readLine 18 = .ok (.aload_n 0, 1) := by decide +kernel
theorem dX4_readLine_19 : decode cX4_readLine 19 = .ok (.invokevirtual 110, 3) := by decide +kernel
theorem dX4_readLine_22 : decode cX4_readLine 22 = .ok (.istore_n 1, 1) := by decide +kernel
theorem dX4_readLine_23 : decode cX4_readLine 23 = .ok (.iload_n 1, 1) := by decide +kernel
theorem dX4_readLine_24 : decode cX4_readLine 24 = .ok (.bipush (-4), 2) := by decide +kernel
theorem dX4_readLine_26 : decode cX4_readLine 26 = .ok (.if_icmp .eq 24, 3) := by decide +kernel
theorem dX4_readLine_29 : decode cX4_readLine 29 = .ok (.aload_n 0, 1) := by decide +kernel
theorem dX4_readLine_30 : decode cX4_readLine 30 = .ok (.iload_n 1, 1) := by decide +kernel
theorem dX4_readLine_31 : decode cX4_readLine 31 = .ok (.invokevirtual 113, 3) := by decide +kernel
theorem dX4_readLine_34 : decode cX4_readLine 34 = .ok (.ifCond .eq 14, 3) := by decide +kernel
theorem dX4_readLine_37 : decode cX4_readLine 37 = .ok (.aload_n 0, 1) := by decide +kernel
theorem dX4_readLine_38 : decode cX4_readLine 38 = .ok (.invokevirtual 116, 3) := by decide +kernel
theorem dX4_readLine_41 : decode cX4_readLine 41 = .ok (.ifCond .eq 7, 3) := by decide +kernel
theorem dX4_readLine_44 : decode cX4_readLine 44 = .ok (.iconst 1, 1) := by decide +kernel
theorem dX4_readLine_45 : decode cX4_readLine 45 = .ok (.goto 4, 3) := by decide +kernel
theorem dX4_readLine_48 : decode cX4_readLine 48 = .ok (.iconst 0, 1) := by decide +kernel
theorem dX4_readLine_49 : decode cX4_readLine 49 = .ok (.ireturn, 1) := by decide +kernel
theorem dX4_readLine_50 : decode cX4_readLine 50 = .ok (.aload_n 0, 1) := by decide +kernel
theorem dX4_readLine_51 : decode cX4_readLine 51 = .ok (.ldc 119, 2) := by decide +kernel
theorem dX4_readLine_53 : decode cX4_readLine 53 = .ok (.invokevirtual 121, 3) := by decide +kernel
theorem dX4_readLine_56 : decode cX4_readLine 56 = .ok (.ifCond .eq 8, 3) := by decide +kernel
theorem dX4_readLine_59 : decode cX4_readLine 59 = .ok (.aload_n 0, 1) := by decide +kernel
theorem dX4_readLine_60 : decode cX4_readLine 60 = .ok (.invokevirtual 125, 3) := by decide +kernel
theorem dX4_readLine_63 : decode cX4_readLine 63 = .ok (.ireturn, 1) := by decide +kernel
theorem dX4_readLine_64 : decode cX4_readLine 64 = .ok (.aload_n 0, 1) := by decide +kernel
theorem dX4_readLine_65 : decode cX4_readLine 65 = .ok (.ldc 128, 2) := by decide +kernel
theorem dX4_readLine_67 : decode cX4_readLine 67 = .ok (.invokevirtual 121, 3) := by decide +kernel
theorem dX4_readLine_70 : decode cX4_readLine 70 = .ok (.ifCond .eq 23, 3) := by decide +kernel
theorem dX4_readLine_73 : decode cX4_readLine 73 = .ok (.aload_n 0, 1) := by decide +kernel
theorem dX4_readLine_74 : decode cX4_readLine 74 = .ok (.invokevirtual 130, 3) := by decide +kernel
theorem dX4_readLine_77 : decode cX4_readLine 77 = .ok (.ifCond .eq 14, 3) := by decide +kernel
theorem dX4_readLine_80 : decode cX4_readLine 80 = .ok (.aload_n 0, 1) := by decide +kernel
theorem dX4_readLine_81 : decode cX4_readLine 81 = .ok (.invokevirtual 116, 3) := by decide +kernel
theorem dX4_readLine_84 : decode cX4_readLine 84 = .ok (.ifCond .eq 7, 3) := by decide +kernel
theorem dX4_readLine_87 : decode cX4_readLine 87 = .ok (.iconst 1, 1) := by decide +kernel
theorem dX4_readLine_88 : decode cX4_readLine 88 = .ok (.goto 4, 3) := by decide +kernel
theorem dX4_readLine_91 : decode cX4_readLine 91 = .ok (.iconst 0, 1) := by decide +kernel
theorem dX4_readLine_92 : decode cX4_readLine 92 = .ok (.ireturn, 1) := by decide +kernel
theorem dX4_readLine_93 : decode cX4_readLine 93 = .ok (.aload_n 0, 1) := by decide +kernel
theorem dX4_readLine_94 : decode cX4_readLine 94 = .ok (.ldc 133, 2) := by decide +kernel
theorem dX4_readLine_96 : decode cX4_readLine 96 = .ok (.invokevirtual 121, 3) := by decide +kernel
theorem dX4_readLine_99 : decode cX4_readLine 99 = .ok (.ifCond .eq 25, 3) := by decide +kernel
theorem dX4_readLine_102 : decode cX4_readLine 102 = .ok (.aload_n 0, 1) := by decide +kernel
theorem dX4_readLine_103 : decode cX4_readLine 103 = .ok (.invokevirtual 135, 3) := by decide +kernel
theorem dX4_readLine_106 : decode cX4_readLine 106 = .ok (.ifCond .eq 14, 3) := by decide +kernel
theorem dX4_readLine_109 : decode cX4_readLine 109 = .ok (.aload_n 0, 1) := by decide +kernel
theorem dX4_readLine_110 : decode cX4_readLine 110 = .ok (.invokevirtual 116, 3) := by decide +kernel
theorem dX4_readLine_113 : decode cX4_readLine 113 = .ok (.ifCond .eq 7, 3) := by decide +kernel
theorem dX4_readLine_116 : decode cX4_readLine 116 = .ok (.iconst 1, 1) := by decide +kernel
theorem dX4_readLine_117 : decode cX4_readLine 117 = .ok (.goto 16, 3) := by decide +kernel
theorem dX4_readLine_120 : decode cX4_readLine 120 = .ok (.iconst 0, 1) := by decide +kernel
theorem dX4_readLine_121 : decode cX4_readLine 121 = .ok (.goto 12, 3) := by decide +kernel
theorem dX4_readLine_124 : decode cX4_readLine 124 = .ok (.aload_n 0, 1) := by decide +kernel
theorem dX4_readLine_125 : decode cX4_readLine 125 = .ok (.iconst 2, 1) := by decide +kernel
theorem dX4_readLine_126 : decode cX4_readLine 126 = .ok (.aload_n 0, 1) := by decide +kernel
theorem dX4_readLine_127 : decode cX4_readLine 127 = .ok (.getfield 81, 3) := by decide +kernel
theorem dX4_readLine_130 : decode cX4_readLine 130 = .ok (.invokevirtual 94, 3) := by decide +kernel
theorem dX4_readLine_133 : decode cX4_readLine 133 = .ok (.ireturn, 1) := by decide +kernel
set_option maxRecDepth 20000 in
theorem ggX4_kindNamed_X4_isNamed : GoodIn wsX4_kindNamed wsX4_isNamed := goodIn_r _ [5, 6, 7, 8, 9, 10, 11, 12, 13, 14, 15, 16, 17, 18, 19, 20, 21, 22, 23, 24, 25, 26, 27, 28, 29, 30, 31, 32, 33, 34, 35, 36, 37, 38, 39, 40, 41, 42, 43, 44, 45, 46, 47, 48, 49, 50, 51, 52, 53, 54, 55, 56, 57, 58, 59, 60, 61, 62, 63, 64, 65, 66, 67, 68, 69, 70, 71, 72, 73, 74] (by decide +kernel) (by decide +kernel)
set_option maxRecDepth 20000 in
theorem gX4_kindNamed_X4_isNamed : GoodIn wsX4_kindNamed (wsV RX4 121 RX4 yX4_isNamed wsX4_isNamed) := goodIn_app (goodIn_of _ (by decide +kernel)) ggX4_kindNamed_X4_isNamed
theorem dX4_kindNamed_0 : decode cX4_kindNamed 0 = .ok (.aload_n 0, 1) := by decide +kernel
theorem dX4_kindNamed_1 : decode cX4_kindNamed 1 = .ok (.ldc 138, 2) := by decide +kernel
theorem dX4_kindNamed_3 : decode cX4_kindNamed 3 = .ok (.invokevirtual 121, 3) := by decide +kernel
theorem dX4_kindNamed_6 : decode cX4_kindNamed 6 = .ok (.ifCond .eq 5, 3) := by decide +kernel
theorem dX4_kindNamed_9 : decode cX4_kindNamed 9 = .ok (.iconst 0, 1) := by decide +kernel
theorem dX4_kindNamed_10 : decode cX4_kindNamed 10 = .ok (.ireturn, 1) := by decide +kernel
theorem dX4_kindNamed_11 : decode cX4_kindNamed 11 = .ok (.aload_n 0, 1) := by decide +kernel
theorem dX4_kindNamed_12 : decode cX4_kindNamed 12 = .ok (.ldc 140, 2) := by decide +kernel
theorem dX4_kindNamed_14 : decode cX4_kindNamed 14 = .ok (.invokevirtual 121, 3) := by decide +kernel
theorem dX4_kindNamed_17 : decode cX4_kindNamed 17 = .ok (.ifCond .eq 5, 3) := by decide +kernel
theorem dX4_kindNamed_20 : decode cX4_kindNamed 20 = .ok (.iconst 1, 1) := by decide +kernel
theorem dX4_kindNamed_21 : decode cX4_kindNamed 21 = .ok (.ireturn, 1) := by decide +kernel
theorem dX4_kindNamed_22 : decode cX4_kindNamed 22 = .ok (.aload_n 0, 1) := by decide +kernel
theorem dX4_kindNamed_23 : decode cX4_kindNamed 23 = .ok (.ldc 142, 2) := by decide +kernel
theorem dX4_kindNamed_25 : decode cX4_kindNamed 25 = .ok (.invokevirtual 121, 3) := by decide +kernel
theorem dX4_kindNamed_28 : decode cX4_kindNamed 28 = .ok (.ifCond .eq 5, 3) := by decide +kernel
theorem dX4_kindNamed_31 : decode cX4_kindNamed 31 = .ok (.iconst 2, 1) := by decide +kernel
theorem dX4_kindNamed_32 : decode cX4_kindNamed 32 = .ok (.ireturn, 1) := by decide +kernel
theorem dX4_kindNamed_33 : decode cX4_kindNamed 33 = .ok (.aload_n 0, 1) := by decide +kernel
theorem dX4_kindNamed_34 : decode cX4_kindNamed 34 = .ok (.ldc 144, 2) := by decide +kernel
theorem dX4_kindNamed_36 : decode cX4_kindNamed 36 = .ok (.invokevirtual 121, 3) := by decide +kernel
theorem dX4_kindNamed_39 : decode cX4_kindNamed 39 = .ok (.ifCond .eq 7, 3) := by decide +kernel
theorem dX4_kindNamed_42 : decode cX4_kindNamed 42 = .ok (.iconst 3, 1) := by decide +kernel
theorem dX4_kindNamed_43 : decode cX4_kindNamed 43 = .ok (.goto 5, 3) := by decide +kernel
theorem dX4_kindNamed_46 : decode cX4_kindNamed 46 = .ok (.bipush (-4), 2) := by decide +kernel
theorem dX4_kindNamed_48 : decode cX4_kindNamed 48 = .ok (.ireturn, 1) := by decide +kernel
set_option maxRecDepth 20000 in
theorem ggX4_readHeir_X4_fail : GoodIn wsX4_readHeir wsX4_fail := goodIn_r _ [10, 11, 12, 46, 47, 48, 49, 50, 51, 52, 53, 54, 55, 56, 57, 58, 59, 60, 61, 62] (by decide +kernel) (by decide +kernel)
set_option maxRecDepth 20000 in
theorem gX4_readHeir_X4_fail : GoodIn wsX4_readHeir (wsV RX4 94 RX4 yX4_fail wsX4_fail) := goodIn_app (goodIn_of _ (by decide +kernel)) ggX4_readHeir_X4_fail
set_option maxRecDepth 20000 in
theorem ggX4_readHeir_X4_take : GoodIn wsX4_readHeir wsX4_take := goodIn_r _ [16, 17, 18, 19, 3, 20, 21, 22, 9, 23, 24, 25, 26, 27, 28, 29, 30, 5, 6, 7, 8, 10, 11, 12, 46, 47, 48, 49, 50, 51, 52, 53, 54, 55, 56, 57, 58, 59, 60, 61, 62] (by decide +kernel) (by decide +kernel)
set_option maxRecDepth 20000 in
theorem gX4_readHeir_X4_take : GoodIn wsX4_readHeir (wsV RX4 40 RX4 yX4_take wsX4_take) := goodIn_app (goodIn_of _ (by decide +kernel)) ggX4_readHeir_X4_take
set_option maxRecDepth 20000 in
theorem ggX4_readHeir_X4_isNumberWithin : GoodIn wsX4_readHeir wsX4_isNumberWithin := goodIn_r _ [34, 20, 3, 5, 6, 7, 8, 9, 10, 11, 12, 35, 36, 37, 46, 47, 48, 49, 50, 51, 52, 53, 54, 55, 56, 57, 58, 59, 60, 61, 62] (by decide +kernel) (by decide +kernel)
set_option maxRecDepth 20000 in
theorem gX4_readHeir_X4_isNumberWithin : GoodIn wsX4_readHeir (wsV RX4 155 RX4 yX4_isNumberWithin wsX4_isNumberWithin) := goodIn_app (goodIn_of _ (by decide +kernel)) ggX4_readHeir_X4_isNumberWithin
set_option maxRecDepth 20000 in
theorem ggX4_readHeir_X0_add : GoodIn wsX4_readHeir wsX0_add := goodIn_r _ [42, 43, 44, 45, 63, 64, 65, 66, 67, 68, 69, 70, 71, 72, 73, 74] (by decide +kernel) (by decide +kernel)
set_option maxRecDepth 20000 in
theorem gX4_readHeir_X0_add : GoodIn wsX4_readHeir (wsV RX4 158 RX0 yX0_add wsX0_add) := goodIn_app (goodIn_of _ (by decide +kernel)) ggX4_readHeir_X0_add
theorem dX4_readHeir_0 : decode cX4_readHeir 0 = .ok (.aload_n 0, 1) := by decide +kernel
theorem dX4_readHeir_1 : decode cX4_readHeir 1 = .ok (.getfield 18, 3) := by decide +kernel
theorem dX4_readHeir_4 : decode cX4_readHeir 4 = .ok (.getfield 146, 3) := by decide +kernel
theorem dX4_readHeir_7 : decode cX4_readHeir 7 = .ok (.bipush 6, 2) := by decide +kernel
theorem dX4_readHeir_9 : decode cX4_readHeir 9 = .ok (.if_icmp .lt 13, 3) := by decide +kernel
theorem dX4_readHeir_12 : decode cX4_readHeir 12 = .ok (.aload_n 0, 1) := by decide +kernel
theorem dX4_readHeir_13 : decode cX4_readHeir 13 = .ok (.iconst 5, 1) := by decide +kernel
theorem dX4_readHeir_14 : decode cX4_readHeir 14 = .ok (.aload_n 0, 1) := by decide +kernel
theorem dX4_readHeir_15 : decode cX4_readHeir 15 = .ok (.getfield 81, 3) := by decide +kernel
theorem dX4_readHeir_18 : decode cX4_readHeir 18 = .ok (.invokevirtual 94, 3) := by decide +kernel
theorem dX4_readHeir_21 : decode cX4_readHeir 21 = .ok (.ireturn, 1) := by decide +kernel
theorem dX4_readHeir_22 : decode cX4_readHeir 22 = .ok (.iconst 1, 1) := by decide +kernel
theorem dX4_readHeir_23 : decode cX4_readHeir 23 = .ok (.istore_n 2, 1) := by decide +kernel
theorem dX4_readHeir_24 : decode cX4_readHeir 24 = .ok (.iload_n 2, 1) := by decide +kernel
theorem dX4_readHeir_25 : decode cX4_readHeir 25 = .ok (.iconst 3, 1) := by decide +kernel
theorem dX4_readHeir_26 : decode cX4_readHeir 26 = .ok (.if_icmp .gt 45, 3) := by decide +kernel
theorem dX4_readHeir_29 : decode cX4_readHeir 29 = .ok (.aload_n 0, 1) := by decide +kernel
theorem dX4_readHeir_30 : decode cX4_readHeir 30 = .ok (.invokevirtual 40, 3) := by decide +kernel
theorem dX4_readHeir_33 : decode cX4_readHeir 33 = .ok (.ifCond .eq 20, 3) := by decide +kernel
theorem dX4_readHeir_36 : decode cX4_readHeir 36 = .ok (.aload_n 0, 1) := by decide +kernel
theorem dX4_readHeir_37 : decode cX4_readHeir 37 = .ok (.getstatic 149, 3) := by decide +kernel
theorem dX4_readHeir_40 : decode cX4_readHeir 40 = .ok (.iload_n 2, 1) := by decide +kernel
theorem dX4_readHeir_41 : decode cX4_readHeir 41 = .ok (.iaload, 1) := by decide +kernel
theorem dX4_readHeir_42 : decode cX4_readHeir 42 = .ok (.getstatic 152, 3) := by decide +kernel
theorem dX4_readHeir_45 : decode cX4_readHeir 45 = .ok (.iload_n 2, 1) := by decide +kernel
theorem dX4_readHeir_46 : decode cX4_readHeir 46 = .ok (.iaload, 1) := by decide +kernel
theorem dX4_readHeir_47 : decode cX4_readHeir 47 = .ok (.invokevirtual 155, 3) := by decide +kernel
theorem dX4_readHeir_50 : decode cX4_readHeir 50 = .ok (.ifCond .ne 5, 3) := by decide +kernel
theorem dX4_readHeir_53 : decode cX4_readHeir 53 = .ok (.iconst 0, 1) := by decide +kernel
theorem dX4_readHeir_54 : decode cX4_readHeir 54 = .ok (.ireturn, 1) := by decide +kernel
theorem dX4_readHeir_55 : decode cX4_readHeir 55 = .ok (.aload_n 0, 1) := by decide +kernel
theorem dX4_readHeir_56 : decode cX4_readHeir 56 = .ok (.getfield 22, 3) := by decide +kernel
theorem dX4_readHeir_59 : decode cX4_readHeir 59 = .ok (.iload_n 2, 1) := by decide +kernel
theorem dX4_readHeir_60 : decode cX4_readHeir 60 = .ok (.aload_n 0, 1) := by decide +kernel
theorem dX4_readHeir_61 : decode cX4_readHeir 61 = .ok (.getfield 98, 3) := by decide +kernel
theorem dX4_readHeir_64 : decode cX4_readHeir 64 = .ok (.iastore, 1) := by decide +kernel
theorem dX4_readHeir_65 : decode cX4_readHeir 65 = .ok (.iinc 2 1, 3) := by decide +kernel
theorem dX4_readHeir_68 : decode cX4_readHeir 68 = .ok (.goto (-44), 3) := by decide +kernel
theorem dX4_readHeir_71 : decode cX4_readHeir 71 = .ok (.aload_n 0, 1) := by decide +kernel
theorem dX4_readHeir_72 : decode cX4_readHeir 72 = .ok (.getfield 18, 3) := by decide +kernel
theorem dX4_readHeir_75 : decode cX4_readHeir 75 = .ok (.iload_n 1, 1) := by decide +kernel
theorem dX4_readHeir_76 : decode cX4_readHeir 76 = .ok (.aload_n 0, 1) := by decide +kernel
theorem dX4_readHeir_77 : decode cX4_readHeir 77 = .ok (.getfield 22, 3) := by decide +kernel
theorem dX4_readHeir_80 : decode cX4_readHeir 80 = .ok (.iconst 1, 1) := by decide +kernel
theorem dX4_readHeir_81 : decode cX4_readHeir 81 = .ok (.iaload, 1) := by decide +kernel
theorem dX4_readHeir_82 : decode cX4_readHeir 82 = .ok (.aload_n 0, 1) := by decide +kernel
theorem dX4_readHeir_83 : decode cX4_readHeir 83 = .ok (.getfield 22, 3) := by decide +kernel
theorem dX4_readHeir_86 : decode cX4_readHeir 86 = .ok (.iconst 2, 1) := by decide +kernel
theorem dX4_readHeir_87 : decode cX4_readHeir 87 = .ok (.iaload, 1) := by decide +kernel
theorem dX4_readHeir_88 : decode cX4_readHeir 88 = .ok (.aload_n 0, 1) := by decide +kernel
theorem dX4_readHeir_89 : decode cX4_readHeir 89 = .ok (.getfield 22, 3) := by decide +kernel
theorem dX4_readHeir_92 : decode cX4_readHeir 92 = .ok (.iconst 3, 1) := by decide +kernel
theorem dX4_readHeir_93 : decode cX4_readHeir 93 = .ok (.iaload, 1) := by decide +kernel
theorem dX4_readHeir_94 : decode cX4_readHeir 94 = .ok (.invokevirtual 158, 3) := by decide +kernel
theorem dX4_readHeir_97 : decode cX4_readHeir 97 = .ok (.ireturn, 1) := by decide +kernel
set_option maxRecDepth 20000 in
theorem ggX4_readLumbago_X4_fail : GoodIn wsX4_readLumbago wsX4_fail := goodIn_r _ [10, 11, 12, 38, 39, 40, 41, 42, 43, 44, 45, 46, 47, 48, 49, 50, 51, 52, 53, 54] (by decide +kernel) (by decide +kernel)
set_option maxRecDepth 20000 in
theorem gX4_readLumbago_X4_fail : GoodIn wsX4_readLumbago (wsV RX4 94 RX4 yX4_fail wsX4_fail) := goodIn_app (goodIn_of _ (by decide +kernel)) ggX4_readLumbago_X4_fail
set_option maxRecDepth 20000 in
theorem ggX4_readLumbago_X4_take : GoodIn wsX4_readLumbago wsX4_take := goodIn_r _ [16, 17, 18, 19, 2, 20, 21, 22, 9, 23, 24, 25, 26, 27, 28, 29, 30, 4, 6, 7, 8, 10, 11, 12, 38, 39, 40, 41, 42, 43, 44, 45, 46, 47, 48, 49, 50, 51, 52, 53, 54] (by decide +kernel) (by decide +kernel)
set_option maxRecDepth 20000 in
theorem gX4_readLumbago_X4_take : GoodIn wsX4_readLumbago (wsV RX4 40 RX4 yX4_take wsX4_take) := goodIn_app (goodIn_of _ (by decide +kernel)) ggX4_readLumbago_X4_take
set_option maxRecDepth 20000 in
theorem ggX4_readLumbago_X4_isNumberWithin : GoodIn wsX4_readLumbago wsX4_isNumberWithin := goodIn_r _ [34, 20, 2, 4, 6, 7, 8, 9, 10, 11, 12, 35, 36, 37, 38, 39, 40, 41, 42, 43, 44, 45, 46, 47, 48, 49, 50, 51, 52, 53, 54] (by decide +kernel) (by decide +kernel)
set_option maxRecDepth 20000 in
theorem gX4_readLumbago_X4_isNumberWithin : GoodIn wsX4_readLumbago (wsV RX4 155 RX4 yX4_isNumberWithin wsX4_isNumberWithin) := goodIn_app (goodIn_of _ (by decide +kernel)) ggX4_readLumbago_X4_isNumberWithin
theorem dX4_readLumbago_0 : decode cX4_readLumbago 0 = .ok (.aload_n 0, 1) := by decide +kernel
theorem dX4_readLumbago_1 : decode cX4_readLumbago 1 = .ok (.getfield 75, 3) := by decide +kernel
theorem dX4_readLumbago_4 : decode cX4_readLumbago 4 = .ok (.ifCond .eq 13, 3) := by decide +kernel
theorem dX4_readLumbago_7 : decode cX4_readLumbago 7 = .ok (.aload_n 0, 1) := by decide +kernel
theorem dX4_readLumbago_8 : decode cX4_readLumbago 8 = .ok (.iconst 4, 1) := by decide +kernel
theorem dX4_readLumbago_9 : decode cX4_readLumbago 9 = .ok (.aload_n 0, 1) := by decide +kernel
theorem dX4_readLumbago_10 : decode cX4_readLumbago 10 = .ok (.getfield 81, 3) := by decide +kernel
theorem dX4_readLumbago_13 : decode cX4_readLumbago 13 = .ok (.invokevirtual 94, 3) := by decide +kernel
theorem dX4_readLumbago_16 : decode cX4_readLumbago 16 = .ok (.ireturn, 1) := by decide +kernel
theorem dX4_readLumbago_17 : decode cX4_readLumbago 17 = .ok (.aload_n 0, 1) := by decide +kernel
theorem dX4_readLumbago_18 : decode cX4_readLumbago 18 = .ok (.iconst 1, 1) := by decide +kernel
theorem dX4_readLumbago_19 : decode cX4_readLumbago 19 = .ok (.putfield 75, 3) := by decide +kernel
theorem dX4_readLumbago_22 : decode cX4_readLumbago 22 = .ok (.aload_n 0, 1) := by decide +kernel
theorem dX4_readLumbago_23 : decode cX4_readLumbago 23 = .ok (.invokevirtual 40, 3) := by decide +kernel
theorem dX4_readLumbago_26 : decode cX4_readLumbago 26 = .ok (.ifCond .eq 13, 3) := by decide +kernel
theorem dX4_readLumbago_29 : decode cX4_readLumbago 29 = .ok (.aload_n 0, 1) := by decide +kernel
theorem dX4_readLumbago_30 : decode cX4_readLumbago 30 = .ok (.iconst 0, 1) := by decide +kernel
theorem dX4_readLumbago_31 : decode cX4_readLumbago 31 = .ok (.bipush 9, 2) := by decide +kernel
theorem dX4_readLumbago_33 : decode cX4_readLumbago 33 = .ok (.invokevirtual 155, 3) := by decide +kernel
theorem dX4_readLumbago_36 : decode cX4_readLumbago 36 = .ok (.ifCond .ne 5, 3) := by decide +kernel
theorem dX4_readLumbago_39 : decode cX4_readLumbago 39 = .ok (.iconst 0, 1) := by decide +kernel
theorem dX4_readLumbago_40 : decode cX4_readLumbago 40 = .ok (.ireturn, 1) := by decide +kernel
theorem dX4_readLumbago_41 : decode cX4_readLumbago 41 = .ok (.aload_n 0, 1) := by decide +kernel
theorem dX4_readLumbago_42 : decode cX4_readLumbago 42 = .ok (.getfield 18, 3) := by decide +kernel
theorem dX4_readLumbago_45 : decode cX4_readLumbago 45 = .ok (.aload_n 0, 1) := by decide +kernel
theorem dX4_readLumbago_46 : decode cX4_readLumbago 46 = .ok (.getfield 98, 3) := by decide +kernel
theorem dX4_readLumbago_49 : decode cX4_readLumbago 49 = .ok (.putfield 162, 3) := by decide +kernel
theorem dX4_readLumbago_52 : decode cX4_readLumbago 52 = .ok (.iconst 1, 1) := by decide +kernel
theorem dX4_readLumbago_53 : decode cX4_readLumbago 53 = .ok (.ireturn, 1) := by decide +kernel
set_option maxRecDepth 20000 in
theorem ggX4_readWorks_X4_fail : GoodIn wsX4_readWorks wsX4_fail := goodIn_r _ [10, 11, 12, 38, 39, 40, 41, 42, 43, 44, 45, 46, 47, 48, 49, 50, 51, 52, 53, 54] (by decide +kernel) (by decide +kernel)
set_option maxRecDepth 20000 in
theorem gX4_readWorks_X4_fail : GoodIn wsX4_readWorks (wsV RX4 94 RX4 yX4_fail wsX4_fail) := goodIn_app (goodIn_of _ (by decide +kernel)) ggX4_readWorks_X4_fail
set_option maxRecDepth 20000 in
theorem ggX4_readWorks_X4_take : GoodIn wsX4_readWorks wsX4_take := goodIn_r _ [16, 17, 18, 19, 2, 20, 21, 22, 9, 23, 24, 25, 26, 27, 28, 29, 30, 4, 6, 7, 8, 10, 11, 12, 38, 39, 40, 41, 42, 43, 44, 45, 46, 47, 48, 49, 50, 51, 52, 53, 54] (by decide +kernel) (by decide +kernel)
set_option maxRecDepth 20000 in
theorem gX4_readWorks_X4_take : GoodIn wsX4_readWorks (wsV RX4 40 RX4 yX4_take wsX4_take) := goodIn_app (goodIn_of _ (by decide +kernel)) ggX4_readWorks_X4_take
set_option maxRecDepth 20000 in
theorem ggX4_readWorks_X4_isNumberWithin : GoodIn wsX4_readWorks wsX4_isNumberWithin := goodIn_r _ [34, 20, 2, 4, 6, 7, 8, 9, 10, 11, 12, 35, 36, 37, 38, 39, 40, 41, 42, 43, 44, 45, 46, 47, 48, 49, 50, 51, 52, 53, 54] (by decide +kernel) (by decide +kernel)
set_option maxRecDepth 20000 in
theorem gX4_readWorks_X4_isNumberWithin : GoodIn wsX4_readWorks (wsV RX4 155 RX4 yX4_isNumberWithin wsX4_isNumberWithin) := goodIn_app (goodIn_of _ (by decide +kernel)) ggX4_readWorks_X4_isNumberWithin
theorem dX4_readWorks_0 : decode cX4_readWorks 0 = .ok (.aload_n 0, 1) := by decide +kernel
theorem dX4_readWorks_1 : decode cX4_readWorks 1 = .ok (.getfield 78, 3) := by decide +kernel
theorem dX4_readWorks_4 : decode cX4_readWorks 4 = .ok (.ifCond .eq 13, 3) := by decide +kernel
theorem dX4_readWorks_7 : decode cX4_readWorks 7 = .ok (.aload_n 0, 1) := by decide +kernel
theorem dX4_readWorks_8 : decode cX4_readWorks 8 = .ok (.iconst 4, 1) := by decide +kernel
theorem dX4_readWorks_9 : decode cX4_readWorks 9 = .ok (.aload_n 0, 1) := by decide +kernel
theorem dX4_readWorks_10 : decode cX4_readWorks 10 = .ok (.getfield 81, 3) := by decide +kernel
theorem dX4_readWorks_13 : decode cX4_readWorks 13 = .ok (.invokevirtual 94, 3) := by decide +kernel
theorem dX4_readWorks_16 : decode cX4_readWorks 16 = .ok (.ireturn, 1) := by decide +kernel
theorem dX4_readWorks_17 : decode cX4_readWorks 17 = .ok (.aload_n 0, 1) := by decide +kernel
theorem dX4_readWorks_18 : decode cX4_readWorks 18 = .ok (.iconst 1, 1) := by decide +kernel
theorem dX4_readWorks_19 : decode cX4_readWorks 19 = .ok (.putfield 78, 3) := by decide +kernel
theorem dX4_readWorks_22 : decode cX4_readWorks 22 = .ok (.aload_n 0, 1) := by decide +kernel
theorem dX4_readWorks_23 : decode cX4_readWorks 23 = .ok (.invokevirtual 40, 3) := by decide +kernel
theorem dX4_readWorks_26 : decode cX4_readWorks 26 = .ok (.ifCond .eq 13, 3) := by decide +kernel
theorem dX4_readWorks_29 : decode cX4_readWorks 29 = .ok (.aload_n 0, 1) := by decide +kernel
theorem dX4_readWorks_30 : decode cX4_readWorks 30 = .ok (.iconst 0, 1) := by decide +kernel
theorem dX4_readWorks_31 : decode cX4_readWorks 31 = .ok (.bipush 99, 2) := by decide +kernel
theorem dX4_readWorks_33 : decode cX4_readWorks 33 = .ok (.invokevirtual 155, 3) := by decide +kernel
theorem dX4_readWorks_36 : decode cX4_readWorks 36 = .ok (.ifCond .ne 5, 3) := by decide +kernel
theorem dX4_readWorks_39 : decode cX4_readWorks 39 = .ok (.iconst 0, 1) := by decide +kernel
theorem dX4_readWorks_40 : decode cX4_readWorks 40 = .ok (.ireturn, 1) := by decide +kernel
theorem dX4_readWorks_41 : decode cX4_readWorks 41 = .ok (.aload_n 0, 1) := by decide +kernel
theorem dX4_readWorks_42 : decode cX4_readWorks 42 = .ok (.getfield 18, 3) := by decide +kernel
theorem dX4_readWorks_45 : decode cX4_readWorks 45 = .ok (.aload_n 0, 1) := by decide +kernel
theorem dX4_readWorks_46 : decode cX4_readWorks 46 = .ok (.getfield 98, 3) := by decide +kernel
theorem dX4_readWorks_49 : decode cX4_readWorks 49 = .ok (.putfield 164, 3) := by decide +kernel
theorem dX4_readWorks_52 : decode cX4_readWorks 52 = .ok (.iconst 1, 1) := by decide +kernel
theorem dX4_readWorks_53 : decode cX4_readWorks 53 = .ok (.ireturn, 1) := by decide +kernel
set_option maxRecDepth 20000 in
theorem ggX4_readFirsts_X4_fail : GoodIn wsX4_readFirsts wsX4_fail := goodIn_r _ [12, 13, 14, 39, 40, 41, 42, 43, 44, 45, 46, 47, 48, 49, 50, 51, 52, 53, 54, 55] (by decide +kernel) (by decide +kernel)
set_option maxRecDepth 20000 in
theorem gX4_readFirsts_X4_fail : GoodIn wsX4_readFirsts (wsV RX4 94 RX4 yX4_fail wsX4_fail) := goodIn_app (goodIn_of _ (by decide +kernel)) ggX4_readFirsts_X4_fail
set_option maxRecDepth 20000 in
theorem ggX4_readFirsts_X4_take : GoodIn wsX4_readFirsts wsX4_take := goodIn_r _ [18, 19, 20, 21, 2, 3, 22, 23, 11, 24, 25, 26, 27, 28, 29, 30, 31, 5, 8, 9, 10, 12, 13, 14, 39, 40, 41, 42, 43, 44, 45, 46, 47, 48, 49, 50, 51, 52, 53, 54, 55] (by decide +kernel) (by decide +kernel)
set_option maxRecDepth 20000 in
theorem gX4_readFirsts_X4_take : GoodIn wsX4_readFirsts (wsV RX4 40 RX4 yX4_take wsX4_take) := goodIn_app (goodIn_of _ (by decide +kernel)) ggX4_readFirsts_X4_take
set_option maxRecDepth 20000 in
theorem ggX4_readFirsts_X4_isNumberWithin : GoodIn wsX4_readFirsts wsX4_isNumberWithin := goodIn_r _ [35, 3, 2, 5, 8, 9, 10, 11, 12, 13, 14, 36, 37, 38, 39, 40, 41, 42, 43, 44, 45, 46, 47, 48, 49, 50, 51, 52, 53, 54, 55] (by decide +kernel) (by decide +kernel)
set_option maxRecDepth 20000 in
theorem gX4_readFirsts_X4_isNumberWithin : GoodIn wsX4_readFirsts (wsV RX4 155 RX4 yX4_isNumberWithin wsX4_isNumberWithin) := goodIn_app (goodIn_of _ (by decide +kernel)) ggX4_readFirsts_X4_isNumberWithin
theorem dX4_readFirsts_0 : decode cX4_readFirsts 0 = .ok (.aload_n 0, 1) := by decide +kernel
theorem dX4_readFirsts_1 : decode cX4_readFirsts 1 = .ok (.getfield 71, 3) := by decide +kernel
theorem dX4_readFirsts_4 : decode cX4_readFirsts 4 = .ok (.ifCond .eq 13, 3) := by decide +kernel
theorem dX4_readFirsts_7 : decode cX4_readFirsts 7 = .ok (.aload_n 0, 1) := by decide +kernel
theorem dX4_readFirsts_8 : decode cX4_readFirsts 8 = .ok (.iconst 4, 1) := by decide +kernel
theorem dX4_readFirsts_9 : decode cX4_readFirsts 9 = .ok (.aload_n 0, 1) := by decide +kernel
theorem dX4_readFirsts_10 : decode cX4_readFirsts 10 = .ok (.getfield 81, 3) := by decide +kernel
theorem dX4_readFirsts_13 : decode cX4_readFirsts 13 = .ok (.invokevirtual 94, 3) := by decide +kernel
theorem dX4_readFirsts_16 : decode cX4_readFirsts 16 = .ok (.ireturn, 1) := by decide +kernel
theorem dX4_readFirsts_17 : decode cX4_readFirsts 17 = .ok (.aload_n 0, 1) := by decide +kernel
theorem dX4_readFirsts_18 : decode cX4_readFirsts 18 = .ok (.iconst 1, 1) := by decide +kernel
theorem dX4_readFirsts_19 : decode cX4_readFirsts 19 = .ok (.putfield 71, 3) := by decide +kernel
theorem dX4_readFirsts_22 : decode cX4_readFirsts 22 = .ok (.iconst 0, 1) := by decide +kernel
theorem dX4_readFirsts_23 : decode cX4_readFirsts 23 = .ok (.istore_n 1, 1) := by decide +kernel
theorem dX4_readFirsts_24 : decode cX4_readFirsts 24 = .ok (.iload_n 1, 1) := by decide +kernel
theorem dX4_readFirsts_25 : decode cX4_readFirsts 25 = .ok (.bipush 6, 2) := by decide +kernel
theorem dX4_readFirsts_27 : decode cX4_readFirsts 27 = .ok (.if_icmp .gt 103, 3) := by decide +kernel
theorem dX4_readFirsts_30 : decode cX4_readFirsts 30 = .ok (.aload_n 0, 1) := by decide +kernel
theorem dX4_readFirsts_31 : decode cX4_readFirsts 31 = .ok (.invokevirtual 40, 3) := by decide +kernel
theorem dX4_readFirsts_34 : decode cX4_readFirsts 34 = .ok (.ifCond .ne 5, 3) := by decide +kernel
theorem dX4_readFirsts_37 : decode cX4_readFirsts 37 = .ok (.iconst 0, 1) := by decide +kernel
theorem dX4_readFirsts_38 : decode cX4_readFirsts 38 = .ok (.ireturn, 1) := by decide +kernel
theorem dX4_readFirsts_39 : decode cX4_readFirsts 39 = .ok (.aload_n 0, 1) := by decide +kernel
theorem dX4_readFirsts_40 : decode cX4_readFirsts 40 = .ok (.getfield 44, 3) := by decide +kernel
theorem dX4_readFirsts_43 : decode cX4_readFirsts 43 = .ok (.iconst 3, 1) := by decide +kernel
theorem dX4_readFirsts_44 : decode cX4_readFirsts 44 = .ok (.if_icmp .ne 5, 3) := by decide +kernel
theorem dX4_readFirsts_47 : decode cX4_readFirsts 47 = .ok (.iconst 1, 1) := by decide +kernel
theorem dX4_readFirsts_48 : decode cX4_readFirsts 48 = .ok (.ireturn, 1) := by decide +kernel
theorem dX4_readFirsts_49 : decode cX4_readFirsts 49 = .ok (.aload_n 0, 1) := by decide +kernel
theorem dX4_readFirsts_50 : decode cX4_readFirsts 50 = .ok (.iconst 0, 1) := by decide +kernel
theorem dX4_readFirsts_51 : decode cX4_readFirsts 51 = .ok (.iconst 5, 1) := by decide +kernel
theorem dX4_readFirsts_52 : decode cX4_readFirsts 52 = .ok (.invokevirtual 155, 3) := by decide +kernel
theorem dX4_readFirsts_55 : decode cX4_readFirsts 55 = .ok (.ifCond .ne 5, 3) := by decide +kernel
theorem dX4_readFirsts_58 : decode cX4_readFirsts 58 = .ok (.iconst 0, 1) := by decide +kernel
theorem dX4_readFirsts_59 : decode cX4_readFirsts 59 = .ok (.ireturn, 1) := by decide +kernel
theorem dX4_readFirsts_60 : decode cX4_readFirsts 60 = .ok (.aload_n 0, 1) := by decide +kernel
theorem dX4_readFirsts_61 : decode cX4_readFirsts 61 = .ok (.getfield 29, 3) := by decide +kernel
theorem dX4_readFirsts_64 : decode cX4_readFirsts 64 = .ok (.aload_n 0, 1) := by decide +kernel
theorem dX4_readFirsts_65 : decode cX4_readFirsts 65 = .ok (.getfield 98, 3) := by decide +kernel
theorem dX4_readFirsts_68 : decode cX4_readFirsts 68 = .ok (.baload, 1) := by decide +kernel
theorem dX4_readFirsts_69 : decode cX4_readFirsts 69 = .ok (.ifCond .ne 12, 3) := by decide +kernel
theorem dX4_readFirsts_72 : decode cX4_readFirsts 72 = .ok (.aload_n 0, 1) := by decide +kernel
theorem dX4_readFirsts_73 : decode cX4_readFirsts 73 = .ok (.getfield 68, 3) := by decide +kernel
theorem dX4_readFirsts_76 : decode cX4_readFirsts 76 = .ok (.bipush 6, 2) := by decide +kernel
theorem dX4_readFirsts_78 : decode cX4_readFirsts 78 = .ok (.if_icmp .lt 13, 3) := by decide +kernel
theorem dX4_readFirsts_81 : decode cX4_readFirsts 81 = .ok (.aload_n 0, 1) := by decide +kernel
theorem dX4_readFirsts_82 : decode cX4_readFirsts 82 = .ok (.iconst 4, 1) := by decide +kernel
theorem dX4_readFirsts_83 : decode cX4_readFirsts 83 = .ok (.aload_n 0, 1) := by decide +kernel
theorem dX4_readFirsts_84 : decode cX4_readFirsts 84 = .ok (.getfield 81, 3) := by decide +kernel
theorem dX4_readFirsts_87 : decode cX4_readFirsts 87 = .ok (.invokevirtual 94, 3) := by decide +kernel
theorem dX4_readFirsts_90 : decode cX4_readFirsts 90 = .ok (.ireturn, 1) := by decide +kernel
theorem dX4_readFirsts_91 : decode cX4_readFirsts 91 = .ok (.aload_n 0, 1) := by decide +kernel
theorem dX4_readFirsts_92 : decode cX4_readFirsts 92 = .ok (.getfield 29, 3) := by decide +kernel
theorem dX4_readFirsts_95 : decode cX4_readFirsts 95 = .ok (.aload_n 0, 1) := by decide +kernel
theorem dX4_readFirsts_96 : decode cX4_readFirsts 96 = .ok (.getfield 98, 3) := by decide +kernel
theorem dX4_readFirsts_99 : decode cX4_readFirsts 99 = .ok (.iconst 1, 1) := by decide +kernel
theorem dX4_readFirsts_100 : decode cX4_readFirsts 100 = .ok (.bastore, 1) := by decide +kernel
theorem dX4_readFirsts_101 : decode cX4_readFirsts 101 = .ok (.aload_n 0, 1) := by decide +kernel
theorem dX4_readFirsts_102 : decode cX4_readFirsts 102 = .ok (.getfield 26, 3) := by decide +kernel
theorem dX4_readFirsts_105 : decode cX4_readFirsts 105 = .ok (.aload_n 0, 1) := by decide +kernel
theorem dX4_readFirsts_106 : decode cX4_readFirsts 106 = .ok (.getfield 68, 3) := by decide +kernel
theorem dX4_readFirsts_109 : decode cX4_readFirsts 109 = .ok (.aload_n 0, 1) := by decide +kernel
theorem dX4_readFirsts_110 : decode cX4_readFirsts 110 = .ok (.getfield 98, 3) := by decide +kernel
theorem dX4_readFirsts_113 : decode cX4_readFirsts 113 = .ok (.iastore, 1) := by decide +kernel
theorem dX4_readFirsts_114 : decode cX4_readFirsts 114 = .ok (.aload_n 0, 1) := by decide +kernel
theorem dX4_readFirsts_115 : decode cX4_readFirsts 115 = .ok (.dup, 1) := by decide +kernel
theorem dX4_readFirsts_116 : decode cX4_readFirsts 116 = .ok (.getfield 68, 3) := by decide +kernel
theorem dX4_readFirsts_119 : decode cX4_readFirsts 119 = .ok (.iconst 1, 1) := by decide +kernel
theorem dX4_readFirsts_120 : decode cX4_readFirsts 120 = .ok (.iadd, 1) := by decide +kernel
theorem dX4_readFirsts_121 : decode cX4_readFirsts 121 = .ok (.putfield 68, 3) := by decide +kernel
theorem dX4_readFirsts_124 : decode cX4_readFirsts 124 = .ok (.iinc 1 1, 3) := by decide +kernel
theorem dX4_readFirsts_127 : decode cX4_readFirsts 127 = .ok (.goto (-103), 3) := by decide +kernel
theorem dX4_readFirsts_130 : decode cX4_readFirsts 130 = .ok (.aload_n 0, 1) := by decide +kernel
theorem dX4_readFirsts_131 : decode cX4_readFirsts 131 = .ok (.iconst 4, 1) := by decide +kernel
theorem dX4_readFirsts_132 : decode cX4_readFirsts 132 = .ok (.aload_n 0, 1) := by decide +kernel
theorem dX4_readFirsts_133 : decode cX4_readFirsts 133 = .ok (.getfield 81, 3) := by decide +kernel
theorem dX4_readFirsts_136 : decode cX4_readFirsts 136 = .ok (.invokevirtual 94, 3) := by decide +kernel
theorem dX4_readFirsts_139 : decode cX4_readFirsts 139 = .ok (.ireturn, 1) := by decide +kernel
set_option maxRecDepth 20000 in
theorem ggX4_isNumberWithin_X4_fail : GoodIn wsX4_isNumberWithin wsX4_fail := goodIn_r _ [8, 9, 10, 14, 15, 16, 17, 18, 19, 20, 21, 22, 23, 24, 25, 26, 27, 28, 29, 30] (by decide +kernel) (by decide +kernel)
set_option maxRecDepth 20000 in
theorem gX4_isNumberWithin_X4_fail : GoodIn wsX4_isNumberWithin (wsV RX4 94 RX4 yX4_fail wsX4_fail) := goodIn_app (goodIn_of _ (by decide +kernel)) ggX4_isNumberWithin_X4_fail
set_option maxRecDepth 20000 in
theorem ggX4_isNumberWithin_X5_within : GoodIn wsX4_isNumberWithin wsX5_within := goodIn_r _ [13] (by decide +kernel) (by decide +kernel)
set_option maxRecDepth 20000 in
theorem gX4_isNumberWithin_X5_within_n166 : GoodIn wsX4_isNumberWithin (wsX5_within) := ggX4_isNumberWithin_X5_within
theorem dX4_isNumberWithin_0 : decode cX4_isNumberWithin 0 = .ok (.aload_n 0, 1) := by decide +kernel
theorem dX4_isNumberWithin_1 : decode cX4_isNumberWithin 1 = .ok (.getfield 44, 3) := by decide +kernel
theorem dX4_isNumberWithin_4 : decode cX4_isNumberWithin 4 = .ok (.iconst 2, 1) := by decide +kernel
theorem dX4_isNumberWithin_5 : decode cX4_isNumberWithin 5 = .ok (.if_icmp .eq 13, 3) := by decide +kernel
theorem dX4_isNumberWithin_8 : decode cX4_isNumberWithin 8 = .ok (.aload_n 0, 1) := by decide +kernel
theorem dX4_isNumberWithin_9 : decode cX4_isNumberWithin 9 = .ok (.iconst 2, 1) := by decide +kernel
theorem dX4_isNumberWithin_10 : decode cX4_isNumberWithin 10 = .ok (.aload_n 0, 1) := by decide +kernel
theorem dX4_isNumberWithin_11 : decode cX4_isNumberWithin 11 = .ok (.getfield 81, 3) := by decide +kernel
theorem dX4_isNumberWithin_14 : decode cX4_isNumberWithin 14 = .ok (.invokevirtual 94, 3) := by decide +kernel
theorem dX4_isNumberWithin_17 : decode cX4_isNumberWithin 17 = .ok (.ireturn, 1) := by decide +kernel
theorem dX4_isNumberWithin_18 : decode cX4_isNumberWithin 18 = .ok (.aload_n 0, 1) := by decide +kernel
theorem dX4_isNumberWithin_19 : decode cX4_isNumberWithin 19 = .ok (.getfield 98, 3) := by decide +kernel
theorem dX4_isNumberWithin_22 : decode cX4_isNumberWithin 22 = .ok (.iload_n 1, 1) := by decide +kernel
theorem dX4_isNumberWithin_23 : decode cX4_isNumberWithin 23 = .ok (.iload_n 2, 1) := by decide +kernel
theorem dX4_isNumberWithin_24 : decode cX4_isNumberWithin 24 = .ok (.invokestatic 166, 3) := by decide +kernel
theorem dX4_isNumberWithin_27 : decode cX4_isNumberWithin 27 = .ok (.ifCond .ne 15, 3) := by decide +kernel
theorem dX4_isNumberWithin_30 : decode cX4_isNumberWithin 30 = .ok (.aload_n 0, 1) := by decide +kernel
theorem dX4_isNumberWithin_31 : decode cX4_isNumberWithin 31 = .ok (.iconst 3, 1) := by decide +kernel
theorem dX4_isNumberWithin_32 : decode cX4_isNumberWithin 32 = .ok (.aload_n 0, 1) := by decide +kernel
theorem dX4_isNumberWithin_33 : decode cX4_isNumberWithin 33 = .ok (.getfield 81, 3) := by decide +kernel
theorem dX4_isNumberWithin_36 : decode cX4_isNumberWithin 36 = .ok (.invokevirtual 94, 3) := by decide +kernel
theorem dX4_isNumberWithin_39 : decode cX4_isNumberWithin 39 = .ok (.ifCond .eq 7, 3) := by decide +kernel
theorem dX4_isNumberWithin_42 : decode cX4_isNumberWithin 42 = .ok (.iconst 1, 1) := by decide +kernel
theorem dX4_isNumberWithin_43 : decode cX4_isNumberWithin 43 = .ok (.goto 4, 3) := by decide +kernel
theorem dX4_isNumberWithin_46 : decode cX4_isNumberWithin 46 = .ok (.iconst 0, 1) := by decide +kernel
theorem dX4_isNumberWithin_47 : decode cX4_isNumberWithin 47 = .ok (.ireturn, 1) := by decide +kernel
set_option maxRecDepth 20000 in
theorem ggX4_takeStop_X4_take : GoodIn wsX4_takeStop wsX4_take := goodIn_r _ [7, 8, 9, 10, 2, 1, 11, 12, 6, 13, 14, 15, 16, 17, 18, 19, 20, 21, 22, 23, 24, 25, 26, 27, 28, 29, 30, 31, 32, 33, 34, 35, 36, 37, 38, 39, 40, 41, 42, 43, 44] (by decide +kernel) (by decide +kernel)
set_option maxRecDepth 20000 in
theorem gX4_takeStop_X4_take : GoodIn wsX4_takeStop (wsV RX4 40 RX4 yX4_take wsX4_take) := goodIn_app (goodIn_of _ (by decide +kernel)) ggX4_takeStop_X4_take
set_option maxRecDepth 20000 in
theorem ggX4_takeStop_X4_fail : GoodIn wsX4_takeStop wsX4_fail := goodIn_r _ [25, 26, 27, 28, 29, 30, 31, 32, 33, 34, 35, 36, 37, 38, 39, 40, 41, 42, 43, 44] (by decide +kernel) (by decide +kernel)
set_option maxRecDepth 20000 in
theorem gX4_takeStop_X4_fail : GoodIn wsX4_takeStop (wsV RX4 94 RX4 yX4_fail wsX4_fail) := goodIn_app (goodIn_of _ (by decide +kernel)) ggX4_takeStop_X4_fail
theorem dX4_takeStop_0 : decode cX4_takeStop 0 = .ok (.aload_n 0, 1) := by decide +kernel
theorem dX4_takeStop_1 : decode cX4_takeStop 1 = .ok (.invokevirtual 40, 3) := by decide +kernel
theorem dX4_takeStop_4 : decode cX4_takeStop 4 = .ok (.ifCond .eq 27, 3) := by decide +kernel
theorem dX4_takeStop_7 : decode cX4_takeStop 7 = .ok (.aload_n 0, 1) := by decide +kernel
theorem dX4_takeStop_8 : decode cX4_takeStop 8 = .ok (.getfield 44, 3) := by decide +kernel
theorem dX4_takeStop_11 : decode cX4_takeStop 11 = .ok (.iconst 3, 1) := by decide +kernel
theorem dX4_takeStop_12 : decode cX4_takeStop 12 = .ok (.if_icmp .eq 15, 3) := by decide +kernel
theorem dX4_takeStop_15 : decode cX4_takeStop 15 = .ok (.aload_n 0, 1) := by decide +kernel
theorem dX4_takeStop_16 : decode cX4_takeStop 16 = .ok (.iconst 2, 1) := by decide +kernel
theorem dX4_takeStop_17 : decode cX4_takeStop 17 = .ok (.aload_n 0, 1) := by decide +kernel
theorem dX4_takeStop_18 : decode cX4_takeStop 18 = .ok (.getfield 81, 3) := by decide +kernel
theorem dX4_takeStop_21 : decode cX4_takeStop 21 = .ok (.invokevirtual 94, 3) := by decide +kernel
theorem dX4_takeStop_24 : decode cX4_takeStop 24 = .ok (.ifCond .eq 7, 3) := by decide +kernel
theorem dX4_takeStop_27 : decode cX4_takeStop 27 = .ok (.iconst 1, 1) := by decide +kernel
theorem dX4_takeStop_28 : decode cX4_takeStop 28 = .ok (.goto 4, 3) := by decide +kernel
theorem dX4_takeStop_31 : decode cX4_takeStop 31 = .ok (.iconst 0, 1) := by decide +kernel
theorem dX4_takeStop_32 : decode cX4_takeStop 32 = .ok (.ireturn, 1) := by decide +kernel
set_option maxRecDepth 20000 in
theorem ggX4_formRow_X4_fail : GoodIn wsX4_formRow wsX4_fail := goodIn_r _ [12, 13, 14, 15, 16, 17, 18, 19, 20, 21, 22, 23, 24, 25, 26, 27, 28, 29, 30, 31] (by decide +kernel) (by decide +kernel)
set_option maxRecDepth 20000 in
theorem gX4_formRow_X4_fail : GoodIn wsX4_formRow (wsV RX4 94 RX4 yX4_fail wsX4_fail) := goodIn_app (goodIn_of _ (by decide +kernel)) ggX4_formRow_X4_fail
theorem dX4_formRow_0 : decode cX4_formRow 0 = .ok (.iconst 0, 1) := by decide +kernel
theorem dX4_formRow_1 : decode cX4_formRow 1 = .ok (.istore_n 1, 1) := by decide +kernel
theorem dX4_formRow_2 : decode cX4_formRow 2 = .ok (.iload_n 1, 1) := by decide +kernel
theorem dX4_formRow_3 : decode cX4_formRow 3 = .ok (.aload_n 0, 1) := by decide +kernel
theorem dX4_formRow_4 : decode cX4_formRow 4 = .ok (.getfield 68, 3) := by decide +kernel
theorem dX4_formRow_7 : decode cX4_formRow 7 = .ok (.if_icmp .ge 37, 3) := by decide +kernel
theorem dX4_formRow_10 : decode cX4_formRow 10 = .ok (.aload_n 0, 1) := by decide +kernel
theorem dX4_formRow_11 : decode cX4_formRow 11 = .ok (.getfield 26, 3) := by decide +kernel
theorem dX4_formRow_14 : decode cX4_formRow 14 = .ok (.iload_n 1, 1) := by decide +kernel
theorem dX4_formRow_15 : decode cX4_formRow 15 = .ok (.iaload, 1) := by decide +kernel
theorem dX4_formRow_16 : decode cX4_formRow 16 = .ok (.aload_n 0, 1) := by decide +kernel
theorem dX4_formRow_17 : decode cX4_formRow 17 = .ok (.getfield 18, 3) := by decide +kernel
theorem dX4_formRow_20 : decode cX4_formRow 20 = .ok (.getfield 146, 3) := by decide +kernel
theorem dX4_formRow_23 : decode cX4_formRow 23 = .ok (.if_icmp .lt 15, 3) := by decide +kernel
theorem dX4_formRow_26 : decode cX4_formRow 26 = .ok (.aload_n 0, 1) := by decide +kernel
theorem dX4_formRow_27 : decode cX4_formRow 27 = .ok (.bipush 6, 2) := by decide +kernel
theorem dX4_formRow_29 : decode cX4_formRow 29 = .ok (.aload_n 0, 1) := by decide +kernel
theorem dX4_formRow_30 : decode cX4_formRow 30 = .ok (.getfield 33, 3) := by decide +kernel
theorem dX4_formRow_33 : decode cX4_formRow 33 = .ok (.invokevirtual 94, 3) := by decide +kernel
theorem dX4_formRow_36 : decode cX4_formRow 36 = .ok (.pop, 1) := by decide +kernel
theorem dX4_formRow_37 : decode cX4_formRow 37 = .ok (.return_, 1) := by decide +kernel
theorem dX4_formRow_38 : decode cX4_formRow 38 = .ok (.iinc 1 1, 3) := by decide +kernel
theorem dX4_formRow_41 : decode cX4_formRow 41 = .ok (.goto (-39), 3) := by decide +kernel
theorem dX4_formRow_44 : decode cX4_formRow 44 = .ok (.iconst 0, 1) := by decide +kernel
theorem dX4_formRow_45 : decode cX4_formRow 45 = .ok (.istore_n 1, 1) := by decide +kernel
theorem dX4_formRow_46 : decode cX4_formRow 46 = .ok (.iload_n 1, 1) := by decide +kernel
theorem dX4_formRow_47 : decode cX4_formRow 47 = .ok (.aload_n 0, 1) := by decide +kernel
theorem dX4_formRow_48 : decode cX4_formRow 48 = .ok (.getfield 68, 3) := by decide +kernel
theorem dX4_formRow_51 : decode cX4_formRow 51 = .ok (.if_icmp .ge 24, 3) := by decide +kernel
theorem dX4_formRow_54 : decode cX4_formRow 54 = .ok (.aload_n 0, 1) := by decide +kernel
theorem dX4_formRow_55 : decode cX4_formRow 55 = .ok (.getfield 18, 3) := by decide +kernel
theorem dX4_formRow_58 : decode cX4_formRow 58 = .ok (.getfield 170, 3) := by decide +kernel
theorem dX4_formRow_61 : decode cX4_formRow 61 = .ok (.iload_n 1, 1) := by decide +kernel
theorem dX4_formRow_62 : decode cX4_formRow 62 = .ok (.aload_n 0, 1) := by decide +kernel
theorem dX4_formRow_63 : decode cX4_formRow 63 = .ok (.getfield 26, 3) := by decide +kernel
theorem dX4_formRow_66 : decode cX4_formRow 66 = .ok (.iload_n 1, 1) := by decide +kernel
theorem dX4_formRow_67 : decode cX4_formRow 67 = .ok (.iaload, 1) := by decide +kernel
theorem dX4_formRow_68 : decode cX4_formRow 68 = .ok (.iastore, 1) := by decide +kernel
theorem dX4_formRow_69 : decode cX4_formRow 69 = .ok (.iinc 1 1, 3) := by decide +kernel
theorem dX4_formRow_72 : decode cX4_formRow 72 = .ok (.goto (-26), 3) := by decide +kernel
theorem dX4_formRow_75 : decode cX4_formRow 75 = .ok (.aload_n 0, 1) := by decide +kernel
theorem dX4_formRow_76 : decode cX4_formRow 76 = .ok (.getfield 68, 3) := by decide +kernel
theorem dX4_formRow_79 : decode cX4_formRow 79 = .ok (.istore_n 1, 1) := by decide +kernel
theorem dX4_formRow_80 : decode cX4_formRow 80 = .ok (.iconst 0, 1) := by decide +kernel
theorem dX4_formRow_81 : decode cX4_formRow 81 = .ok (.istore_n 2, 1) := by decide +kernel
theorem dX4_formRow_82 : decode cX4_formRow 82 = .ok (.iload_n 2, 1) := by decide +kernel
theorem dX4_formRow_83 : decode cX4_formRow 83 = .ok (.aload_n 0, 1) := by decide +kernel
theorem dX4_formRow_84 : decode cX4_formRow 84 = .ok (.getfield 18, 3) := by decide +kernel
theorem dX4_formRow_87 : decode cX4_formRow 87 = .ok (.getfield 146, 3) := by decide +kernel
theorem dX4_formRow_90 : decode cX4_formRow 90 = .ok (.if_icmp .ge 37, 3) := by decide +kernel
theorem dX4_formRow_93 : decode cX4_formRow 93 = .ok (.aload_n 0, 1) := by decide +kernel
theorem dX4_formRow_94 : decode cX4_formRow 94 = .ok (.getfield 29, 3) := by decide +kernel
theorem dX4_formRow_97 : decode cX4_formRow 97 = .ok (.iload_n 2, 1) := by decide +kernel
theorem dX4_formRow_98 : decode cX4_formRow 98 = .ok (.baload, 1) := by decide +kernel
theorem dX4_formRow_99 : decode cX4_formRow 99 = .ok (.ifCond .ne 22, 3) := by decide +kernel
theorem dX4_formRow_102 : decode cX4_formRow 102 = .ok (.iload_n 1, 1) := by decide +kernel
theorem dX4_formRow_103 : decode cX4_formRow 103 = .ok (.bipush 6, 2) := by decide +kernel
theorem dX4_formRow_105 : decode cX4_formRow 105 = .ok (.if_icmp .ge 16, 3) := by decide +kernel
theorem dX4_formRow_108 : decode cX4_formRow 108 = .ok (.aload_n 0, 1) := by decide +kernel
theorem dX4_formRow_109 : decode cX4_formRow 109 = .ok (.getfield 18, 3) := by decide +kernel
theorem dX4_formRow_112 : decode cX4_formRow 112 = .ok (.getfield 170, 3) := by decide +kernel
theorem dX4_formRow_115 : decode cX4_formRow 115 = .ok (.iload_n 1, 1) := by decide +kernel
theorem dX4_formRow_116 : decode cX4_formRow 116 = .ok (.iload_n 2, 1) := by decide +kernel
theorem dX4_formRow_117 : decode cX4_formRow 117 = .ok (.iastore, 1) := by decide +kernel
theorem dX4_formRow_118 : decode cX4_formRow 118 = .ok (.iinc 1 1, 3) := by decide +kernel
theorem dX4_formRow_121 : decode cX4_formRow 121 = .ok (.iinc 2 1, 3) := by decide +kernel
theorem dX4_formRow_124 : decode cX4_formRow 124 = .ok (.goto (-42), 3) := by decide +kernel
theorem dX4_formRow_127 : decode cX4_formRow 127 = .ok (.return_, 1) := by decide +kernel
