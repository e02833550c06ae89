theorem dX0_init_0 : decode cX0_init 0 = .ok (.aload_n 0, 1) := by decide +kernel
theorem dX0_init_1 : decode cX0_init 1 = .ok (.invokespecial 3, 3) := by decide +kernel
theorem dX0_init_4 : decode cX0_init 4 = .ok (.aload_n 0, 1) := by decide +kernel
theorem dX0_init_5 : decode cX0_init 5 = .ok (.iconst 4, 1) := by decide +kernel
theorem dX0_init_6 : decode cX0_init 6 = .ok (.bipush 6, 2) := by decide +kernel
theorem dX0_init_8 : decode cX0_init 8 = .ok (.multianewarray 9 2, 4) := by decide +kernel
theorem dX0_init_12 : decode cX0_init 12 = .ok (.putfield 11, 3) := by decide +kernel
theorem dX0_init_15 : decode cX0_init 15 = .ok (.aload_n 0, 1) := by decide +kernel
theorem dX0_init_16 : decode cX0_init 16 = .ok (.bipush 6, 2) := by decide +kernel
theorem dX0_init_18 : decode cX0_init 18 = .ok (.newarray .int, 2) := by decide +kernel
theorem dX0_init_20 : decode cX0_init 20 = .ok (.putfield 16, 3) := by decide +kernel
theorem dX0_init_23 : decode cX0_init 23 = .ok (.aload_n 0, 1) := by decide +kernel
theorem dX0_init_24 : decode cX0_init 24 = .ok (.bipush (-4), 2) := by decide +kernel
theorem dX0_init_26 : decode cX0_init 26 = .ok (.putfield 20, 3) := by decide +kernel
theorem dX0_init_29 : decode cX0_init 29 = .ok (.return_, 1) := by decide +kernel
theorem dX0_copyFrom_0 : decode cX0_copyFrom 0 = .ok (.iconst 0, 1) := by decide +kernel
theorem dX0_copyFrom_1 : decode cX0_copyFrom 1 = .ok (.istore_n 2, 1) := by decide +kernel
theorem dX0_copyFrom_2 : decode cX0_copyFrom 2 = .ok (.iload_n 2, 1) := by decide +kernel
theorem dX0_copyFrom_3 : decode cX0_copyFrom 3 = .ok (.iconst 4, 1) := by decide +kernel
theorem dX0_copyFrom_4 : decode cX0_copyFrom 4 = .ok (.if_icmp .ge 28, 3) := by decide +kernel
theorem dX0_copyFrom_7 : decode cX0_copyFrom 7 = .ok (.aload_n 1, 1) := by decide +kernel
theorem dX0_copyFrom_8 : decode cX0_copyFrom 8 = .ok (.getfield 11, 3) := by decide +kernel
theorem dX0_copyFrom_11 : decode cX0_copyFrom 11 = .ok (.iload_n 2, 1) := by decide +kernel
theorem dX0_copyFrom_12 : decode cX0_copyFrom 12 = .ok (.aaload, 1) := by decide +kernel
theorem dX0_copyFrom_13 : decode cX0_copyFrom 13 = .ok (.iconst 0, 1) := by decide +kernel
theorem dX0_copyFrom_14 : decode cX0_copyFrom 14 = .ok (.aload_n 0, 1) := by decide +kernel
theorem dX0_copyFrom_15 : decode cX0_copyFrom 15 = .ok (.getfield 11, 3) := by decide +kernel
theorem dX0_copyFrom_18 : decode cX0_copyFrom 18 = .ok (.iload_n 2, 1) := by decide +kernel
theorem dX0_copyFrom_19 : decode cX0_copyFrom 19 = .ok (.aaload, 1) := by decide +kernel
theorem dX0_copyFrom_20 : decode cX0_copyFrom 20 = .ok (.iconst 0, 1) := by decide +kernel
theorem dX0_copyFrom_21 : decode cX0_copyFrom 21 = .ok (.bipush 6, 2) := by decide +kernel
theorem dX0_copyFrom_23 : decode cX0_copyFrom 23 = .ok (.invokestatic 24, 3) := by decide +kernel
theorem dX0_copyFrom_26 : decode cX0_copyFrom 26 = .ok (.iinc 2 1, 3) := by decide +kernel
theorem dX0_copyFrom_29 : decode cX0_copyFrom 29 = .ok (.goto (-27), 3) := by decide +kernel
theorem dX0_copyFrom_32 : decode cX0_copyFrom 32 = .ok (.aload_n 1, 1) := by decide +kernel
theorem dX0_copyFrom_33 : decode cX0_copyFrom 33 = .ok (.getfield 16, 3) := by decide +kernel
theorem dX0_copyFrom_36 : decode cX0_copyFrom 36 = .ok (.iconst 0, 1) := by decide +kernel
theorem dX0_copyFrom_37 : decode cX0_copyFrom 37 = .ok (.aload_n 0, 1) := by decide +kernel
theorem dX0_copyFrom_38 : decode cX0_copyFrom 38 = .ok (.getfield 16, 3) := by decide +kernel
theorem dX0_copyFrom_41 : decode cX0_copyFrom 41 = .ok (.iconst 0, 1) := by decide +kernel
theorem dX0_copyFrom_42 : decode cX0_copyFrom 42 = .ok (.bipush 6, 2) := by decide +kernel
theorem dX0_copyFrom_44 : decode cX0_copyFrom 44 = .ok (.invokestatic 24, 3) := by decide +kernel
theorem dX0_copyFrom_47 : decode cX0_copyFrom 47 = .ok (.aload_n 0, 1) := by decide +kernel
theorem dX0_copyFrom_48 : decode cX0_copyFrom 48 = .ok (.aload_n 1, 1) := by decide +kernel
theorem dX0_copyFrom_49 : decode cX0_copyFrom 49 = .ok (.getfield 30, 3) := by decide +kernel
theorem dX0_copyFrom_52 : decode cX0_copyFrom 52 = .ok (.putfield 30, 3) := by decide +kernel
theorem dX0_copyFrom_55 : decode cX0_copyFrom 55 = .ok (.aload_n 0, 1) := by decide +kernel
theorem dX0_copyFrom_56 : decode cX0_copyFrom 56 = .ok (.aload_n 1, 1) := by decide +kernel
theorem dX0_copyFrom_57 : decode cX0_copyFrom 57 = .ok (.getfield 33, 3) := by decide +kernel
theorem dX0_copyFrom_60 : decode cX0_copyFrom 60 = .ok (.putfield 33, 3) := by decide +kernel
theorem dX0_copyFrom_63 : decode cX0_copyFrom 63 = .ok (.aload_n 0, 1) := by decide +kernel
theorem dX0_copyFrom_64 : decode cX0_copyFrom 64 = .ok (.aload_n 1, 1) := by decide +kernel
theorem dX0_copyFrom_65 : decode cX0_copyFrom 65 = .ok (.getfield 36, 3) := by decide +kernel
theorem dX0_copyFrom_68 : decode cX0_copyFrom 68 = .ok (.putfield 36, 3) := by decide +kernel
theorem dX0_copyFrom_71 : decode cX0_copyFrom 71 = .ok (.aload_n 0, 1) := by decide +kernel
theorem dX0_copyFrom_72 : decode cX0_copyFrom 72 = .ok (.aload_n 1, 1) := by decide +kernel
theorem dX0_copyFrom_73 : decode cX0_copyFrom 73 = .ok (.getfield 39, 3) := by decide +kernel
theorem dX0_copyFrom_76 : decode cX0_copyFrom 76 = .ok (.putfield 39, 3) := by decide +kernel
theorem dX0_copyFrom_79 : decode cX0_copyFrom 79 = .ok (.aload_n 0, 1) := by decide +kernel
theorem dX0_copyFrom_80 : decode cX0_copyFrom 80 = .ok (.aload_n 1, 1) := by decide +kernel
theorem dX0_copyFrom_81 : decode cX0_copyFrom 81 = .ok (.getfield 42, 3) := by decide +kernel
theorem dX0_copyFrom_84 : decode cX0_copyFrom 84 = .ok (.putfield 42, 3) := by decide +kernel
theorem dX0_copyFrom_87 : decode cX0_copyFrom 87 = .ok (.aload_n 0, 1) := by decide +kernel
theorem dX0_copyFrom_88 : decode cX0_copyFrom 88 = .ok (.aload_n 1, 1) := by decide +kernel
theorem dX0_copyFrom_89 : decode cX0_copyFrom 89 = .ok (.getfield 45, 3) := by decide +kernel
theorem dX0_copyFrom_92 : decode cX0_copyFrom 92 = .ok (.putfield 45, 3) := by decide +kernel
theorem dX0_copyFrom_95 : decode cX0_copyFrom 95 = .ok (.aload_n 0, 1) := by decide +kernel
theorem dX0_copyFrom_96 : decode cX0_copyFrom 96 = .ok (.bipush (-4), 2) := by decide +kernel
theorem dX0_copyFrom_98 : decode cX0_copyFrom 98 = .ok (.putfield 20, 3) := by decide +kernel
theorem dX0_copyFrom_101 : decode cX0_copyFrom 101 = .ok (.return_, 1) := by decide +kernel
theorem dX0_empty_0 : decode cX0_empty 0 = .ok (.aload_n 0, 1) := by decide +kernel
theorem dX0_empty_1 : decode cX0_empty 1 = .ok (.iconst 0, 1) := by decide +kernel
theorem dX0_empty_2 : decode cX0_empty 2 = .ok (.putfield 30, 3) := by decide +kernel
theorem dX0_empty_5 : decode cX0_empty 5 = .ok (.aload_n 0, 1) := by decide +kernel
theorem dX0_empty_6 : decode cX0_empty 6 = .ok (.iconst 0, 1) := by decide +kernel
theorem dX0_empty_7 : decode cX0_empty 7 = .ok (.putfield 33, 3) := by decide +kernel
theorem dX0_empty_10 : decode cX0_empty 10 = .ok (.aload_n 0, 1) := by decide +kernel
theorem dX0_empty_11 : decode cX0_empty 11 = .ok (.iconst 0, 1) := by decide +kernel
theorem dX0_empty_12 : decode cX0_empty 12 = .ok (.putfield 36, 3) := by decide +kernel
theorem dX0_empty_15 : decode cX0_empty 15 = .ok (.aload_n 0, 1) := by decide +kernel
theorem dX0_empty_16 : decode cX0_empty 16 = .ok (.iconst 0, 1) := by decide +kernel
theorem dX0_empty_17 : decode cX0_empty 17 = .ok (.putfield 39, 3) := by decide +kernel
theorem dX0_empty_20 : decode cX0_empty 20 = .ok (.aload_n 0, 1) := by decide +kernel
theorem dX0_empty_21 : decode cX0_empty 21 = .ok (.iconst 0, 1) := by decide +kernel
theorem dX0_empty_22 : decode cX0_empty 22 = .ok (.putfield 42, 3) := by decide +kernel
theorem dX0_empty_25 : decode cX0_empty 25 = .ok (.aload_n 0, 1) := by decide +kernel
theorem dX0_empty_26 : decode cX0_empty 26 = .ok (.iconst 0, 1) := by decide +kernel
theorem dX0_empty_27 : decode cX0_empty 27 = .ok (.putfield 45, 3) := by decide +kernel
theorem dX0_empty_30 : decode cX0_empty 30 = .ok (.return_, 1) := by decide +kernel
theorem dX0_add_0 : decode cX0_add 0 = .ok (.aload_n 0, 1) := by decide +kernel
theorem dX0_add_1 : decode cX0_add 1 = .ok (.getfield 30, 3) := by decide +kernel
theorem dX0_add_4 : decode cX0_add 4 = .ok (.bipush 6, 2) := by decide +kernel
theorem dX0_add_6 : decode cX0_add 6 = .ok (.if_icmp .lt 5, 3) := by decide +kernel
theorem dX0_add_9 : decode cX0_add 9 = .ok (.iconst 0, 1) := by decide +kernel
theorem dX0_add_10 : decode cX0_add 10 = .ok (.ireturn, 1) := by decide +kernel
theorem dX0_add_11 : decode cX0_add 11 = .ok (.aload_n 0, 1) := by decide +kernel
theorem dX0_add_12 : decode cX0_add 12 = .ok (.getfield 11, 3) := by decide +kernel
theorem dX0_add_15 : decode cX0_add 15 = .ok (.iconst 0, 1) := by decide +kernel
theorem dX0_add_16 : decode cX0_add 16 = .ok (.aaload, 1) := by decide +kernel
theorem dX0_add_17 : decode cX0_add 17 = .ok (.aload_n 0, 1) := by decide +kernel
theorem dX0_add_18 : decode cX0_add 18 = .ok (.getfield 30, 3) := by decide +kernel
theorem dX0_add_21 : decode cX0_add 21 = .ok (.iload_n 1, 1) := by decide +kernel
theorem dX0_add_22 : decode cX0_add 22 = .ok (.iastore, 1) := by decide +kernel
theorem dX0_add_23 : decode cX0_add 23 = .ok (.aload_n 0, 1) := by decide +kernel
theorem dX0_add_24 : decode cX0_add 24 = .ok (.getfield 11, 3) := by decide +kernel
theorem dX0_add_27 : decode cX0_add 27 = .ok (.iconst 1, 1) := by decide +kernel
theorem dX0_add_28 : decode cX0_add 28 = .ok (.aaload, 1) := by decide +kernel
theorem dX0_add_29 : decode cX0_add 29 = .ok (.aload_n 0, 1) := by decide +kernel
theorem dX0_add_30 : decode cX0_add 30 = .ok (.getfield 30, 3) := by decide +kernel
theorem dX0_add_33 : decode cX0_add 33 = .ok (.iload_n 2, 1) := by decide +kernel
theorem dX0_add_34 : decode cX0_add 34 = .ok (.iastore, 1) := by decide +kernel
theorem dX0_add_35 : decode cX0_add 35 = .ok (.aload_n 0, 1) := by decide +kernel
theorem dX0_add_36 : decode cX0_add 36 = .ok (.getfield 11, 3) := by decide +kernel
theorem dX0_add_39 : decode cX0_add 39 = .ok (.iconst 2, 1) := by decide +kernel
theorem dX0_add_40 : decode cX0_add 40 = .ok (.aaload, 1) := by decide +kernel
theorem dX0_add_41 : decode cX0_add 41 = .ok (.aload_n 0, 1) := by decide +kernel
theorem dX0_add_42 : decode cX0_add 42 = .ok (.getfield 30, 3) := by decide +kernel
theorem dX0_add_45 : decode cX0_add 45 = .ok (.iload_n 3, 1) := by decide +kernel
theorem dX0_add_46 : decode cX0_add 46 = .ok (.iastore, 1) := by decide +kernel
theorem dX0_add_47 : decode cX0_add 47 = .ok (.aload_n 0, 1) := by decide +kernel
theorem dX0_add_48 : decode cX0_add 48 = .ok (.getfield 11, 3) := by decide +kernel
theorem dX0_add_51 : decode cX0_add 51 = .ok (.iconst 3, 1) := by decide +kernel
theorem dX0_add_52 : decode cX0_add 52 = .ok (.aaload, 1) := by decide +kernel
theorem dX0_add_53 : decode cX0_add 53 = .ok (.aload_n 0, 1) := by decide +kernel
theorem dX0_add_54 : decode cX0_add 54 = .ok (.getfield 30, 3) := by decide +kernel
theorem dX0_add_57 : decode cX0_add 57 = .ok (.iload 4, 2) := by decide +kernel
theorem dX0_add_59 : decode cX0_add 59 = .ok (.iastore, 1) := by decide +kernel
theorem dX0_add_60 : decode cX0_add 60 = .ok (.aload_n 0, 1) := by decide +kernel
theorem dX0_add_61 : decode cX0_add 61 = .ok (.getfield 16, 3) := by decide +kernel
theorem dX0_add_64 : decode cX0_add 64 = .ok (.aload_n 0, 1) := by decide +kernel
theorem dX0_add_65 : decode cX0_add 65 = .ok (.getfield 30, 3) := by decide +kernel
theorem dX0_add_68 : decode cX0_add 68 = .ok (.aload_n 0, 1) := by decide +kernel
theorem dX0_add_69 : decode cX0_add 69 = .ok (.getfield 30, 3) := by decide +kernel
theorem dX0_add_72 : decode cX0_add 72 = .ok (.iastore, 1) := by decide +kernel
theorem dX0_add_73 : decode cX0_add 73 = .ok (.aload_n 0, 1) := by decide +kernel
theorem dX0_add_74 : decode cX0_add 74 = .ok (.dup, 1) := by decide +kernel
theorem dX0_add_75 : decode cX0_add 75 = .ok (.getfield 30, 3) := by decide +kernel
theorem dX0_add_78 : decode cX0_add 78 = .ok (.iconst 1, 1) := by decide +kernel
theorem dX0_add_79 : decode cX0_add 79 = .ok (.iadd, 1) := by decide +kernel
theorem dX0_add_80 : decode cX0_add 80 = .ok (.putfield 30, 3) := by decide +kernel
theorem dX0_add_83 : decode cX0_add 83 = .ok (.iconst 1, 1) := by decide +kernel
theorem dX0_add_84 : decode cX0_add 84 = .ok (.ireturn, 1) := by decide +kernel
set_option maxRecDepth 20000 in
theorem ggX0_takes_X5_within : GoodIn wsX0_takes wsX5_within := goodIn_r _ [4] (by decide +kernel) (by decide +kernel)
set_option maxRecDepth 20000 in
theorem gX0_takes_X5_within_n48 : GoodIn wsX0_takes (wsX5_within) := ggX0_takes_X5_within
set_option maxRecDepth 20000 in
theorem ggX0_takes_X5_isTrait : GoodIn wsX0_takes wsX5_isTrait := goodIn_r _ [6, 7, 8, 9, 2, 3, 4] (by decide +kernel) (by decide +kernel)
set_option maxRecDepth 20000 in
theorem gX0_takes_X5_isTrait_n52 : GoodIn wsX0_takes (wsX5_isTrait) := ggX0_takes_X5_isTrait
theorem dX0_takes_0 : decode cX0_takes 0 = .ok (.iload_n 1, 1) := by decide +kernel
theorem dX0_takes_1 : decode cX0_takes 1 = .ok (.iconst 0, 1) := by decide +kernel
theorem dX0_takes_2 : decode cX0_takes 2 = .ok (.aload_n 0, 1) := by decide +kernel
theorem dX0_takes_3 : decode cX0_takes 3 = .ok (.getfield 30, 3) := by decide +kernel
theorem dX0_takes_6 : decode cX0_takes 6 = .ok (.iconst 1, 1) := by decide +kernel
theorem dX0_takes_7 : decode cX0_takes 7 = .ok (.isub, 1) := by decide +kernel
theorem dX0_takes_8 : decode cX0_takes 8 = .ok (.invokestatic 48, 3) := by decide +kernel
theorem dX0_takes_11 : decode cX0_takes 11 = .ok (.ifCond .eq 24, 3) := by decide +kernel
theorem dX0_takes_14 : decode cX0_takes 14 = .ok (.iload_n 2, 1) := by decide +kernel
theorem dX0_takes_15 : decode cX0_takes 15 = .ok (.iconst 0, 1) := by decide +kernel
theorem dX0_takes_16 : decode cX0_takes 16 = .ok (.iconst 3, 1) := by decide +kernel
theorem dX0_takes_17 : decode cX0_takes 17 = .ok (.invokestatic 48, 3) := by decide +kernel
theorem dX0_takes_20 : decode cX0_takes 20 = .ok (.ifCond .eq 15, 3) := by decide +kernel
theorem dX0_takes_23 : decode cX0_takes 23 = .ok (.iload_n 2, 1) := by decide +kernel
theorem dX0_takes_24 : decode cX0_takes 24 = .ok (.iload_n 3, 1) := by decide +kernel
theorem dX0_takes_25 : decode cX0_takes 25 = .ok (.invokestatic 52, 3) := by decide +kernel
theorem dX0_takes_28 : decode cX0_takes 28 = .ok (.ifCond .eq 7, 3) := by decide +kernel
theorem dX0_takes_31 : decode cX0_takes 31 = .ok (.iconst 1, 1) := by decide +kernel
theorem dX0_takes_32 : decode cX0_takes 32 = .ok (.goto 4, 3) := by decide +kernel
theorem dX0_takes_35 : decode cX0_takes 35 = .ok (.iconst 0, 1) := by decide +kernel
theorem dX0_takes_36 : decode cX0_takes 36 = .ok (.ireturn, 1) := by decide +kernel
theorem dX0_sumOf_0 : decode cX0_sumOf 0 = .ok (.iconst 0, 1) := by decide +kernel
theorem dX0_sumOf_1 : decode cX0_sumOf 1 = .ok (.istore_n 2, 1) := by decide +kernel
theorem dX0_sumOf_2 : decode cX0_sumOf 2 = .ok (.iconst 0, 1) := by decide +kernel
theorem dX0_sumOf_3 : decode cX0_sumOf 3 = .ok (.istore_n 3, 1) := by decide +kernel
theorem dX0_sumOf_4 : decode cX0_sumOf 4 = .ok (.iload_n 3, 1) := by decide +kernel
theorem dX0_sumOf_5 : decode cX0_sumOf 5 = .ok (.aload_n 0, 1) := by decide +kernel
theorem dX0_sumOf_6 : decode cX0_sumOf 6 = .ok (.getfield 30, 3) := by decide +kernel
theorem dX0_sumOf_9 : decode cX0_sumOf 9 = .ok (.if_icmp .ge 20, 3) := by decide +kernel
theorem dX0_sumOf_12 : decode cX0_sumOf 12 = .ok (.iload_n 2, 1) := by decide +kernel
theorem dX0_sumOf_13 : decode cX0_sumOf 13 = .ok (.aload_n 0, 1) := by decide +kernel
theorem dX0_sumOf_14 : decode cX0_sumOf 14 = .ok (.getfield 11, 3) := by decide +kernel
theorem dX0_sumOf_17 : decode cX0_sumOf 17 = .ok (.iload_n 1, 1) := by decide +kernel
theorem dX0_sumOf_18 : decode cX0_sumOf 18 = .ok (.aaload, 1) := by decide +kernel
theorem dX0_sumOf_19 : decode cX0_sumOf 19 = .ok (.iload_n 3, 1) := by decide +kernel
theorem dX0_sumOf_20 : decode cX0_sumOf 20 = .ok (.iaload, 1) := by decide +kernel
theorem dX0_sumOf_21 : decode cX0_sumOf 21 = .ok (.iadd, 1) := by decide +kernel
theorem dX0_sumOf_22 : decode cX0_sumOf 22 = .ok (.istore_n 2, 1) := by decide +kernel
theorem dX0_sumOf_23 : decode cX0_sumOf 23 = .ok (.iinc 3 1, 3) := by decide +kernel
theorem dX0_sumOf_26 : decode cX0_sumOf 26 = .ok (.goto (-22), 3) := by decide +kernel
theorem dX0_sumOf_29 : decode cX0_sumOf 29 = .ok (.iload_n 2, 1) := by decide +kernel
theorem dX0_sumOf_30 : decode cX0_sumOf 30 = .ok (.ireturn, 1) := by decide +kernel
theorem dX0_heightOf_0 : decode cX0_heightOf 0 = .ok (.aload_n 0, 1) := by decide +kernel
theorem dX0_heightOf_1 : decode cX0_heightOf 1 = .ok (.getfield 11, 3) := by decide +kernel
theorem dX0_heightOf_4 : decode cX0_heightOf 4 = .ok (.iconst 2, 1) := by decide +kernel
theorem dX0_heightOf_5 : decode cX0_heightOf 5 = .ok (.aaload, 1) := by decide +kernel
theorem dX0_heightOf_6 : decode cX0_heightOf 6 = .ok (.iload_n 1, 1) := by decide +kernel
theorem dX0_heightOf_7 : decode cX0_heightOf 7 = .ok (.iaload, 1) := by decide +kernel
theorem dX0_heightOf_8 : decode cX0_heightOf 8 = .ok (.istore_n 2, 1) := by decide +kernel
theorem dX0_heightOf_9 : decode cX0_heightOf 9 = .ok (.iload_n 2, 1) := by decide +kernel
theorem dX0_heightOf_10 : decode cX0_heightOf 10 = .ok (.iload_n 2, 1) := by decide +kernel
theorem dX0_heightOf_11 : decode cX0_heightOf 11 = .ok (.iconst 1, 1) := by decide +kernel
theorem dX0_heightOf_12 : decode cX0_heightOf 12 = .ok (.iadd, 1) := by decide +kernel
theorem dX0_heightOf_13 : decode cX0_heightOf 13 = .ok (.iconst 2, 1) := by decide +kernel
theorem dX0_heightOf_14 : decode cX0_heightOf 14 = .ok (.idiv, 1) := by decide +kernel
theorem dX0_heightOf_15 : decode cX0_heightOf 15 = .ok (.iadd, 1) := by decide +kernel
theorem dX0_heightOf_16 : decode cX0_heightOf 16 = .ok (.istore_n 3, 1) := by decide +kernel
theorem dX0_heightOf_17 : decode cX0_heightOf 17 = .ok (.iload_n 3, 1) := by decide +kernel
theorem dX0_heightOf_18 : decode cX0_heightOf 18 = .ok (.iconst 2, 1) := by decide +kernel
theorem dX0_heightOf_19 : decode cX0_heightOf 19 = .ok (.idiv, 1) := by decide +kernel
theorem dX0_heightOf_20 : decode cX0_heightOf 20 = .ok (.istore 4, 2) := by decide +kernel
theorem dX0_heightOf_22 : decode cX0_heightOf 22 = .ok (.aload_n 0, 1) := by decide +kernel
theorem dX0_heightOf_23 : decode cX0_heightOf 23 = .ok (.getfield 11, 3) := by decide +kernel
theorem dX0_heightOf_26 : decode cX0_heightOf 26 = .ok (.iconst 0, 1) := by decide +kernel
theorem dX0_heightOf_27 : decode cX0_heightOf 27 = .ok (.aaload, 1) := by decide +kernel
theorem dX0_heightOf_28 : decode cX0_heightOf 28 = .ok (.iload_n 1, 1) := by decide +kernel
theorem dX0_heightOf_29 : decode cX0_heightOf 29 = .ok (.iaload, 1) := by decide +kernel
theorem dX0_heightOf_30 : decode cX0_heightOf 30 = .ok (.tableswitch 40 1 3 #[26, 28, 31], 26) := by decide +kernel
theorem dX0_heightOf_56 : decode cX0_heightOf 56 = .ok (.iload_n 3, 1) := by decide +kernel
theorem dX0_heightOf_57 : decode cX0_heightOf 57 = .ok (.ireturn, 1) := by decide +kernel
theorem dX0_heightOf_58 : decode cX0_heightOf 58 = .ok (.iload 4, 2) := by decide +kernel
theorem dX0_heightOf_60 : decode cX0_heightOf 60 = .ok (.ireturn, 1) := by decide +kernel
theorem dX0_heightOf_61 : decode cX0_heightOf 61 = .ok (.iconst 0, 1) := by decide +kernel
theorem dX0_heightOf_62 : decode cX0_heightOf 62 = .ok (.iload 4, 2) := by decide +kernel
theorem dX0_heightOf_64 : decode cX0_heightOf 64 = .ok (.iconst 1, 1) := by decide +kernel
theorem dX0_heightOf_65 : decode cX0_heightOf 65 = .ok (.isub, 1) := by decide +kernel
theorem dX0_heightOf_66 : decode cX0_heightOf 66 = .ok (.invokestatic 56, 3) := by decide +kernel
theorem dX0_heightOf_69 : decode cX0_heightOf 69 = .ok (.ireturn, 1) := by decide +kernel
theorem dX0_heightOf_70 : decode cX0_heightOf 70 = .ok (.iload_n 2, 1) := by decide +kernel
theorem dX0_heightOf_71 : decode cX0_heightOf 71 = .ok (.ireturn, 1) := by decide +kernel
theorem dX0_placeOf_0 : decode cX0_placeOf 0 = .ok (.iconst 0, 1) := by decide +kernel
theorem dX0_placeOf_1 : decode cX0_placeOf 1 = .ok (.istore_n 2, 1) := by decide +kernel
theorem dX0_placeOf_2 : decode cX0_placeOf 2 = .ok (.iload_n 2, 1) := by decide +kernel
theorem dX0_placeOf_3 : decode cX0_placeOf 3 = .ok (.aload_n 0, 1) := by decide +kernel
theorem dX0_placeOf_4 : decode cX0_placeOf 4 = .ok (.getfield 30, 3) := by decide +kernel
theorem dX0_placeOf_7 : decode cX0_placeOf 7 = .ok (.if_icmp .ge 21, 3) := by decide +kernel
theorem dX0_placeOf_10 : decode cX0_placeOf 10 = .ok (.aload_n 0, 1) := by decide +kernel
theorem dX0_placeOf_11 : decode cX0_placeOf 11 = .ok (.getfield 16, 3) := by decide +kernel
theorem dX0_placeOf_14 : decode cX0_placeOf 14 = .ok (.iload_n 2, 1) := by decide +kernel
theorem dX0_placeOf_15 : decode cX0_placeOf 15 = .ok (.iaload, 1) := by decide +kernel
theorem dX0_placeOf_16 : decode cX0_placeOf 16 = .ok (.iload_n 1, 1) := by decide +kernel
theorem dX0_placeOf_17 : decode cX0_placeOf 17 = .ok (.if_icmp .ne 5, 3) := by decide +kernel
theorem dX0_placeOf_20 : decode cX0_placeOf 20 = .ok (.iload_n 2, 1) := by decide +kernel
theorem dX0_placeOf_21 : decode cX0_placeOf 21 = .ok (.ireturn, 1) := by decide +kernel
theorem dX0_placeOf_22 : decode cX0_placeOf 22 = .ok (.iinc 2 1, 3) := by decide +kernel
theorem dX0_placeOf_25 : decode cX0_placeOf 25 = .ok (.goto (-23), 3) := by decide +kernel
theorem dX0_placeOf_28 : decode cX0_placeOf 28 = .ok (.iconst (-1), 1) := by decide +kernel
theorem dX0_placeOf_29 : decode cX0_placeOf 29 = .ok (.ireturn, 1) := by decide +kernel
theorem dX0_standsAs_0 : decode cX0_standsAs 0 = .ok (.iconst 0, 1) := by decide +kernel
theorem dX0_standsAs_1 : decode cX0_standsAs 1 = .ok (.istore_n 2, 1) := by decide +kernel
theorem dX0_standsAs_2 : decode cX0_standsAs 2 = .ok (.iload_n 2, 1) := by decide +kernel
theorem dX0_standsAs_3 : decode cX0_standsAs 3 = .ok (.aload_n 0, 1) := by decide +kernel
theorem dX0_standsAs_4 : decode cX0_standsAs 4 = .ok (.getfield 30, 3) := by decide +kernel
theorem dX0_standsAs_7 : decode cX0_standsAs 7 = .ok (.if_icmp .ge 26, 3) := by decide +kernel
theorem dX0_standsAs_10 : decode cX0_standsAs 10 = .ok (.aload_n 0, 1) := by decide +kernel
theorem dX0_standsAs_11 : decode cX0_standsAs 11 = .ok (.getfield 16, 3) := by decide +kernel
theorem dX0_standsAs_14 : decode cX0_standsAs 14 = .ok (.iload_n 2, 1) := by decide +kernel
theorem dX0_standsAs_15 : decode cX0_standsAs 15 = .ok (.iaload, 1) := by decide +kernel
theorem dX0_standsAs_16 : decode cX0_standsAs 16 = .ok (.aload_n 1, 1) := by decide +kernel
theorem dX0_standsAs_17 : decode cX0_standsAs 17 = .ok (.getfield 16, 3) := by decide +kernel
theorem dX0_standsAs_20 : decode cX0_standsAs 20 = .ok (.iload_n 2, 1) := by decide +kernel
theorem dX0_standsAs_21 : decode cX0_standsAs 21 = .ok (.iaload, 1) := by decide +kernel
theorem dX0_standsAs_22 : decode cX0_standsAs 22 = .ok (.if_icmp .eq 5, 3) := by decide +kernel
theorem dX0_standsAs_25 : decode cX0_standsAs 25 = .ok (.iconst 0, 1) := by decide +kernel
theorem dX0_standsAs_26 : decode cX0_standsAs 26 = .ok (.ireturn, 1) := by decide +kernel
theorem dX0_standsAs_27 : decode cX0_standsAs 27 = .ok (.iinc 2 1, 3) := by decide +kernel
theorem dX0_standsAs_30 : decode cX0_standsAs 30 = .ok (.goto (-28), 3) := by decide +kernel
theorem dX0_standsAs_33 : decode cX0_standsAs 33 = .ok (.iconst 1, 1) := by decide +kernel
theorem dX0_standsAs_34 : decode cX0_standsAs 34 = .ok (.ireturn, 1) := by decide +kernel
theorem dX0_swap_0 : decode cX0_swap 0 = .ok (.aload_n 0, 1) := by decide +kernel
theorem dX0_swap_1 : decode cX0_swap 1 = .ok (.getfield 16, 3) := by decide +kernel
theorem dX0_swap_4 : decode cX0_swap 4 = .ok (.iload_n 1, 1) := by decide +kernel
theorem dX0_swap_5 : decode cX0_swap 5 = .ok (.iaload, 1) := by decide +kernel
theorem dX0_swap_6 : decode cX0_swap 6 = .ok (.istore_n 3, 1) := by decide +kernel
theorem dX0_swap_7 : decode cX0_swap 7 = .ok (.aload_n 0, 1) := by decide +kernel
theorem dX0_swap_8 : decode cX0_swap 8 = .ok (.getfield 16, 3) := by decide +kernel
theorem dX0_swap_11 : decode cX0_swap 11 = .ok (.iload_n 1, 1) := by decide +kernel
theorem dX0_swap_12 : decode cX0_swap 12 = .ok (.aload_n 0, 1) := by decide +kernel
theorem dX0_swap_13 : decode cX0_swap 13 = .ok (.getfield 16, 3) := by decide +kernel
theorem dX0_swap_16 : decode cX0_swap 16 = .ok (.iload_n 2, 1) := by decide +kernel
theorem dX0_swap_17 : decode cX0_swap 17 = .ok (.iaload, 1) := by decide +kernel
theorem dX0_swap_18 : decode cX0_swap 18 = .ok (.iastore, 1) := by decide +kernel
theorem dX0_swap_19 : decode cX0_swap 19 = .ok (.aload_n 0, 1) := by decide +kernel
theorem dX0_swap_20 : decode cX0_swap 20 = .ok (.getfield 16, 3) := by decide +kernel
theorem dX0_swap_23 : decode cX0_swap 23 = .ok (.iload_n 2, 1) := by decide +kernel
theorem dX0_swap_24 : decode cX0_swap 24 = .ok (.iload_n 3, 1) := by decide +kernel
theorem dX0_swap_25 : decode cX0_swap 25 = .ok (.iastore, 1) := by decide +kernel
theorem dX0_swap_26 : decode cX0_swap 26 = .ok (.return_, 1) := by decide +kernel
set_option maxRecDepth 20000 in
theorem ggX0_clears_X0_heightOf : GoodIn wsX0_clears wsX0_heightOf := goodIn_r _ [8, 1, 9, 10, 11, 12, 13, 14, 15, 16, 17, 18, 19, 20, 21, 22, 23, 24] (by decide +kernel) (by decide +kernel)
set_option maxRecDepth 20000 in
theorem gX0_clears_X0_heightOf : GoodIn wsX0_clears (wsV RX0 62 RX0 yX0_heightOf wsX0_heightOf) := goodIn_app (goodIn_of _ (by decide +kernel)) ggX0_clears_X0_heightOf
theorem dX0_clears_0 : decode cX0_clears 0 = .ok (.aload_n 0, 1) := by decide +kernel
theorem dX0_clears_1 : decode cX0_clears 1 = .ok (.getfield 11, 3) := by decide +kernel
theorem dX0_clears_4 : decode cX0_clears 4 = .ok (.iconst 1, 1) := by decide +kernel
theorem dX0_clears_5 : decode cX0_clears 5 = .ok (.aaload, 1) := by decide +kernel
theorem dX0_clears_6 : decode cX0_clears 6 = .ok (.aload_n 0, 1) := by decide +kernel
theorem dX0_clears_7 : decode cX0_clears 7 = .ok (.getfield 16, 3) := by decide +kernel
theorem dX0_clears_10 : decode cX0_clears 10 = .ok (.iconst 1, 1) := by decide +kernel
theorem dX0_clears_11 : decode cX0_clears 11 = .ok (.iaload, 1) := by decide +kernel
theorem dX0_clears_12 : decode cX0_clears 12 = .ok (.iaload, 1) := by decide +kernel
theorem dX0_clears_13 : decode cX0_clears 13 = .ok (.aload_n 0, 1) := by decide +kernel
theorem dX0_clears_14 : decode cX0_clears 14 = .ok (.getfield 33, 3) := by decide +kernel
theorem dX0_clears_17 : decode cX0_clears 17 = .ok (.isub, 1) := by decide +kernel
theorem dX0_clears_18 : decode cX0_clears 18 = .ok (.aload_n 0, 1) := by decide +kernel
theorem dX0_clears_19 : decode cX0_clears 19 = .ok (.aload_n 0, 1) := by decide +kernel
theorem dX0_clears_20 : decode cX0_clears 20 = .ok (.getfield 16, 3) := by decide +kernel
theorem dX0_clears_23 : decode cX0_clears 23 = .ok (.iconst 0, 1) := by decide +kernel
theorem dX0_clears_24 : decode cX0_clears 24 = .ok (.iaload, 1) := by decide +kernel
theorem dX0_clears_25 : decode cX0_clears 25 = .ok (.invokevirtual 62, 3) := by decide +kernel
theorem dX0_clears_28 : decode cX0_clears 28 = .ok (.if_icmp .lt 7, 3) := by decide +kernel
theorem dX0_clears_31 : decode cX0_clears 31 = .ok (.iconst 1, 1) := by decide +kernel
theorem dX0_clears_32 : decode cX0_clears 32 = .ok (.goto 4, 3) := by decide +kernel
theorem dX0_clears_35 : decode cX0_clears 35 = .ok (.iconst 0, 1) := by decide +kernel
theorem dX0_clears_36 : decode cX0_clears 36 = .ok (.ireturn, 1) := by decide +kernel
set_option maxRecDepth 20000 in
theorem ggX0_crown_X0_clears : GoodIn wsX0_crown wsX0_clears := goodIn_r _ [22, 4, 1, 23, 24, 25, 26, 21, 27, 14, 15, 12, 16, 33, 34, 35, 36, 37, 38, 39, 40, 41, 42, 43, 44] (by decide +kernel) (by decide +kernel)
set_option maxRecDepth 20000 in
theorem gX0_crown_X0_clears : GoodIn wsX0_crown (wsV RX0 66 RX0 yX0_clears wsX0_clears) := goodIn_app (goodIn_of _ (by decide +kernel)) ggX0_crown_X0_clears
set_option maxRecDepth 20000 in
theorem ggX0_crown_X0_sendBehind : GoodIn wsX0_crown wsX0_sendBehind := goodIn_r _ [31, 1, 32, 33, 34, 35, 36, 37, 38, 39, 40, 41, 42, 43, 44] (by decide +kernel) (by decide +kernel)
set_option maxRecDepth 20000 in
theorem gX0_crown_X0_sendBehind : GoodIn wsX0_crown (wsV RX0 83 RX0 yX0_sendBehind wsX0_sendBehind) := goodIn_app (goodIn_of _ (by decide +kernel)) ggX0_crown_X0_sendBehind
theorem dX0_crown_0 : decode cX0_crown 0 = .ok (.aload_n 0, 1) := by decide +kernel
theorem dX0_crown_1 : decode cX0_crown 1 = .ok (.aload_n 0, 1) := by decide +kernel
theorem dX0_crown_2 : decode cX0_crown 2 = .ok (.getfield 16, 3) := by decide +kernel
theorem dX0_crown_5 : decode cX0_crown 5 = .ok (.iconst 1, 1) := by decide +kernel
theorem dX0_crown_6 : decode cX0_crown 6 = .ok (.iaload, 1) := by decide +kernel
theorem dX0_crown_7 : decode cX0_crown 7 = .ok (.putfield 20, 3) := by decide +kernel
theorem dX0_crown_10 : decode cX0_crown 10 = .ok (.aload_n 0, 1) := by decide +kernel
theorem dX0_crown_11 : decode cX0_crown 11 = .ok (.aload_n 0, 1) := by decide +kernel
theorem dX0_crown_12 : decode cX0_crown 12 = .ok (.invokevirtual 66, 3) := by decide +kernel
theorem dX0_crown_15 : decode cX0_crown 15 = .ok (.ifCond .eq 11, 3) := by decide +kernel
theorem dX0_crown_18 : decode cX0_crown 18 = .ok (.iload_n 1, 1) := by decide +kernel
theorem dX0_crown_19 : decode cX0_crown 19 = .ok (.ifCond .ne 7, 3) := by decide +kernel
theorem dX0_crown_22 : decode cX0_crown 22 = .ok (.iconst 1, 1) := by decide +kernel
theorem dX0_crown_23 : decode cX0_crown 23 = .ok (.goto 4, 3) := by decide +kernel
theorem dX0_crown_26 : decode cX0_crown 26 = .ok (.iconst 0, 1) := by decide +kernel
theorem dX0_crown_27 : decode cX0_crown 27 = .ok (.putfield 70, 3) := by decide +kernel
theorem dX0_crown_30 : decode cX0_crown 30 = .ok (.aload_n 0, 1) := by decide +kernel
theorem dX0_crown_31 : decode cX0_crown 31 = .ok (.aload_n 0, 1) := by decide +kernel
theorem dX0_crown_32 : decode cX0_crown 32 = .ok (.getfield 70, 3) := by decide +kernel
theorem dX0_crown_35 : decode cX0_crown 35 = .ok (.ifCond .eq 17, 3) := by decide +kernel
theorem dX0_crown_38 : decode cX0_crown 38 = .ok (.aload_n 0, 1) := by decide +kernel
theorem dX0_crown_39 : decode cX0_crown 39 = .ok (.getfield 11, 3) := by decide +kernel
theorem dX0_crown_42 : decode cX0_crown 42 = .ok (.iconst 3, 1) := by decide +kernel
theorem dX0_crown_43 : decode cX0_crown 43 = .ok (.aaload, 1) := by decide +kernel
theorem dX0_crown_44 : decode cX0_crown 44 = .ok (.aload_n 0, 1) := by decide +kernel
theorem dX0_crown_45 : decode cX0_crown 45 = .ok (.getfield 20, 3) := by decide +kernel
theorem dX0_crown_48 : decode cX0_crown 48 = .ok (.iaload, 1) := by decide +kernel
theorem dX0_crown_49 : decode cX0_crown 49 = .ok (.goto 18, 3) := by decide +kernel
theorem dX0_crown_52 : decode cX0_crown 52 = .ok (.aload_n 0, 1) := by decide +kernel
theorem dX0_crown_53 : decode cX0_crown 53 = .ok (.getfield 11, 3) := by decide +kernel
theorem dX0_crown_56 : decode cX0_crown 56 = .ok (.iconst 3, 1) := by decide +kernel
theorem dX0_crown_57 : decode cX0_crown 57 = .ok (.aaload, 1) := by decide +kernel
theorem dX0_crown_58 : decode cX0_crown 58 = .ok (.aload_n 0, 1) := by decide +kernel
theorem dX0_crown_59 : decode cX0_crown 59 = .ok (.getfield 20, 3) := by decide +kernel
theorem dX0_crown_62 : decode cX0_crown 62 = .ok (.iaload, 1) := by decide +kernel
theorem dX0_crown_63 : decode cX0_crown 63 = .ok (.iconst 1, 1) := by decide +kernel
theorem dX0_crown_64 : decode cX0_crown 64 = .ok (.iadd, 1) := by decide +kernel
theorem dX0_crown_65 : decode cX0_crown 65 = .ok (.iconst 2, 1) := by decide +kernel
theorem dX0_crown_66 : decode cX0_crown 66 = .ok (.idiv, 1) := by decide +kernel
theorem dX0_crown_67 : decode cX0_crown 67 = .ok (.putfield 74, 3) := by decide +kernel
theorem dX0_crown_70 : decode cX0_crown 70 = .ok (.aload_n 0, 1) := by decide +kernel
theorem dX0_crown_71 : decode cX0_crown 71 = .ok (.dup, 1) := by decide +kernel
theorem dX0_crown_72 : decode cX0_crown 72 = .ok (.getfield 39, 3) := by decide +kernel
theorem dX0_crown_75 : decode cX0_crown 75 = .ok (.iconst 1, 1) := by decide +kernel
theorem dX0_crown_76 : decode cX0_crown 76 = .ok (.iadd, 1) := by decide +kernel
theorem dX0_crown_77 : decode cX0_crown 77 = .ok (.putfield 39, 3) := by decide +kernel
theorem dX0_crown_80 : decode cX0_crown 80 = .ok (.aload_n 0, 1) := by decide +kernel
theorem dX0_crown_81 : decode cX0_crown 81 = .ok (.dup, 1) := by decide +kernel
theorem dX0_crown_82 : decode cX0_crown 82 = .ok (.getfield 42, 3) := by decide +kernel
theorem dX0_crown_85 : decode cX0_crown 85 = .ok (.aload_n 0, 1) := by decide +kernel
theorem dX0_crown_86 : decode cX0_crown 86 = .ok (.getfield 74, 3) := by decide +kernel
theorem dX0_crown_89 : decode cX0_crown 89 = .ok (.iadd, 1) := by decide +kernel
theorem dX0_crown_90 : decode cX0_crown 90 = .ok (.putfield 42, 3) := by decide +kernel
theorem dX0_crown_93 : decode cX0_crown 93 = .ok (.aload_n 0, 1) := by decide +kernel
theorem dX0_crown_94 : decode cX0_crown 94 = .ok (.aload_n 0, 1) := by decide +kernel
theorem dX0_crown_95 : decode cX0_crown 95 = .ok (.getfield 39, 3) := by decide +kernel
theorem dX0_crown_98 : decode cX0_crown 98 = .ok (.iconst 2, 1) := by decide +kernel
theorem dX0_crown_99 : decode cX0_crown 99 = .ok (.irem, 1) := by decide +kernel
theorem dX0_crown_100 : decode cX0_crown 100 = .ok (.iconst 1, 1) := by decide +kernel
theorem dX0_crown_101 : decode cX0_crown 101 = .ok (.if_icmp .ne 7, 3) := by decide +kernel
theorem dX0_crown_104 : decode cX0_crown 104 = .ok (.iconst 1, 1) := by decide +kernel
theorem dX0_crown_105 : decode cX0_crown 105 = .ok (.goto 4, 3) := by decide +kernel
theorem dX0_crown_108 : decode cX0_crown 108 = .ok (.iconst 0, 1) := by decide +kernel
theorem dX0_crown_109 : decode cX0_crown 109 = .ok (.putfield 77, 3) := by decide +kernel
theorem dX0_crown_112 : decode cX0_crown 112 = .ok (.aload_n 0, 1) := by decide +kernel
theorem dX0_crown_113 : decode cX0_crown 113 = .ok (.aload_n 0, 1) := by decide +kernel
theorem dX0_crown_114 : decode cX0_crown 114 = .ok (.getfield 77, 3) := by decide +kernel
theorem dX0_crown_117 : decode cX0_crown 117 = .ok (.ifCond .eq 21, 3) := by decide +kernel
theorem dX0_crown_120 : decode cX0_crown 120 = .ok (.sipush 999, 3) := by decide +kernel
theorem dX0_crown_123 : decode cX0_crown 123 = .ok (.aload_n 0, 1) := by decide +kernel
theorem dX0_crown_124 : decode cX0_crown 124 = .ok (.getfield 36, 3) := by decide +kernel
theorem dX0_crown_127 : decode cX0_crown 127 = .ok (.aload_n 0, 1) := by decide +kernel
theorem dX0_crown_128 : decode cX0_crown 128 = .ok (.getfield 74, 3) := by decide +kernel
theorem dX0_crown_131 : decode cX0_crown 131 = .ok (.iadd, 1) := by decide +kernel
theorem dX0_crown_132 : decode cX0_crown 132 = .ok (.invokestatic 80, 3) := by decide +kernel
theorem dX0_crown_135 : decode cX0_crown 135 = .ok (.goto 16, 3) := by decide +kernel
theorem dX0_crown_138 : decode cX0_crown 138 = .ok (.iconst 0, 1) := by decide +kernel
theorem dX0_crown_139 : decode cX0_crown 139 = .ok (.aload_n 0, 1) := by decide +kernel
theorem dX0_crown_140 : decode cX0_crown 140 = .ok (.getfield 36, 3) := by decide +kernel
theorem dX0_crown_143 : decode cX0_crown 143 = .ok (.aload_n 0, 1) := by decide +kernel
theorem dX0_crown_144 : decode cX0_crown 144 = .ok (.getfield 74, 3) := by decide +kernel
theorem dX0_crown_147 : decode cX0_crown 147 = .ok (.isub, 1) := by decide +kernel
theorem dX0_crown_148 : decode cX0_crown 148 = .ok (.invokestatic 56, 3) := by decide +kernel
theorem dX0_crown_151 : decode cX0_crown 151 = .ok (.putfield 36, 3) := by decide +kernel
theorem dX0_crown_154 : decode cX0_crown 154 = .ok (.aload_n 0, 1) := by decide +kernel
theorem dX0_crown_155 : decode cX0_crown 155 = .ok (.getfield 70, 3) := by decide +kernel
theorem dX0_crown_158 : decode cX0_crown 158 = .ok (.ifCond .eq 16, 3) := by decide +kernel
theorem dX0_crown_161 : decode cX0_crown 161 = .ok (.aload_n 0, 1) := by decide +kernel
theorem dX0_crown_162 : decode cX0_crown 162 = .ok (.iconst 0, 1) := by decide +kernel
theorem dX0_crown_163 : decode cX0_crown 163 = .ok (.invokevirtual 83, 3) := by decide +kernel
theorem dX0_crown_166 : decode cX0_crown 166 = .ok (.aload_n 0, 1) := by decide +kernel
theorem dX0_crown_167 : decode cX0_crown 167 = .ok (.iconst 0, 1) := by decide +kernel
theorem dX0_crown_168 : decode cX0_crown 168 = .ok (.invokevirtual 83, 3) := by decide +kernel
theorem dX0_crown_171 : decode cX0_crown 171 = .ok (.goto 46, 3) := by decide +kernel
theorem dX0_crown_174 : decode cX0_crown 174 = .ok (.aload_n 0, 1) := by decide +kernel
theorem dX0_crown_175 : decode cX0_crown 175 = .ok (.dup, 1) := by decide +kernel
theorem dX0_crown_176 : decode cX0_crown 176 = .ok (.getfield 45, 3) := by decide +kernel
theorem dX0_crown_179 : decode cX0_crown 179 = .ok (.iconst 1, 1) := by decide +kernel
theorem dX0_crown_180 : decode cX0_crown 180 = .ok (.iadd, 1) := by decide +kernel
theorem dX0_crown_181 : decode cX0_crown 181 = .ok (.putfield 45, 3) := by decide +kernel
theorem dX0_crown_184 : decode cX0_crown 184 = .ok (.aload_n 0, 1) := by decide +kernel
theorem dX0_crown_185 : decode cX0_crown 185 = .ok (.iconst 1, 1) := by decide +kernel
theorem dX0_crown_186 : decode cX0_crown 186 = .ok (.invokevirtual 83, 3) := by decide +kernel
theorem dX0_crown_189 : decode cX0_crown 189 = .ok (.aload_n 0, 1) := by decide +kernel
theorem dX0_crown_190 : decode cX0_crown 190 = .ok (.getfield 11, 3) := by decide +kernel
theorem dX0_crown_193 : decode cX0_crown 193 = .ok (.iconst 1, 1) := by decide +kernel
theorem dX0_crown_194 : decode cX0_crown 194 = .ok (.aaload, 1) := by decide +kernel
theorem dX0_crown_195 : decode cX0_crown 195 = .ok (.aload_n 0, 1) := by decide +kernel
theorem dX0_crown_196 : decode cX0_crown 196 = .ok (.getfield 20, 3) := by decide +kernel
theorem dX0_crown_199 : decode cX0_crown 199 = .ok (.iconst 0, 1) := by decide +kernel
theorem dX0_crown_200 : decode cX0_crown 200 = .ok (.aload_n 0, 1) := by decide +kernel
theorem dX0_crown_201 : decode cX0_crown 201 = .ok (.getfield 11, 3) := by decide +kernel
theorem dX0_crown_204 : decode cX0_crown 204 = .ok (.iconst 1, 1) := by decide +kernel
theorem dX0_crown_205 : decode cX0_crown 205 = .ok (.aaload, 1) := by decide +kernel
theorem dX0_crown_206 : decode cX0_crown 206 = .ok (.aload_n 0, 1) := by decide +kernel
theorem dX0_crown_207 : decode cX0_crown 207 = .ok (.getfield 20, 3) := by decide +kernel
theorem dX0_crown_210 : decode cX0_crown 210 = .ok (.iaload, 1) := by decide +kernel
theorem dX0_crown_211 : decode cX0_crown 211 = .ok (.iconst 1, 1) := by decide +kernel
theorem dX0_crown_212 : decode cX0_crown 212 = .ok (.isub, 1) := by decide +kernel
theorem dX0_crown_213 : decode cX0_crown 213 = .ok (.invokestatic 56, 3) := by decide +kernel
theorem dX0_crown_216 : decode cX0_crown 216 = .ok (.iastore, 1) := by decide +kernel
theorem dX0_crown_217 : decode cX0_crown 217 = .ok (.return_, 1) := by decide +kernel
theorem dX0_sendBehind_0 : decode cX0_sendBehind 0 = .ok (.aload_n 0, 1) := by decide +kernel
theorem dX0_sendBehind_1 : decode cX0_sendBehind 1 = .ok (.getfield 16, 3) := by decide +kernel
theorem dX0_sendBehind_4 : decode cX0_sendBehind 4 = .ok (.iload_n 1, 1) := by decide +kernel
theorem dX0_sendBehind_5 : decode cX0_sendBehind 5 = .ok (.iaload, 1) := by decide +kernel
theorem dX0_sendBehind_6 : decode cX0_sendBehind 6 = .ok (.istore_n 2, 1) := by decide +kernel
theorem dX0_sendBehind_7 : decode cX0_sendBehind 7 = .ok (.iload_n 1, 1) := by decide +kernel
theorem dX0_sendBehind_8 : decode cX0_sendBehind 8 = .ok (.iconst 1, 1) := by decide +kernel
theorem dX0_sendBehind_9 : decode cX0_sendBehind 9 = .ok (.iadd, 1) := by decide +kernel
theorem dX0_sendBehind_10 : decode cX0_sendBehind 10 = .ok (.istore_n 3, 1) := by decide +kernel
theorem dX0_sendBehind_11 : decode cX0_sendBehind 11 = .ok (.iload_n 3, 1) := by decide +kernel
theorem dX0_sendBehind_12 : decode cX0_sendBehind 12 = .ok (.aload_n 0, 1) := by decide +kernel
theorem dX0_sendBehind_13 : decode cX0_sendBehind 13 = .ok (.getfield 30, 3) := by decide +kernel
theorem dX0_sendBehind_16 : decode cX0_sendBehind 16 = .ok (.if_icmp .ge 23, 3) := by decide +kernel
theorem dX0_sendBehind_19 : decode cX0_sendBehind 19 = .ok (.aload_n 0, 1) := by decide +kernel
theorem dX0_sendBehind_20 : decode cX0_sendBehind 20 = .ok (.getfield 16, 3) := by decide +kernel
theorem dX0_sendBehind_23 : decode cX0_sendBehind 23 = .ok (.iload_n 3, 1) := by decide +kernel
theorem dX0_sendBehind_24 : decode cX0_sendBehind 24 = .ok (.iconst 1, 1) := by decide +kernel
theorem dX0_sendBehind_25 : decode cX0_sendBehind 25 = .ok (.isub, 1) := by decide +kernel
theorem dX0_sendBehind_26 : decode cX0_sendBehind 26 = .ok (.aload_n 0, 1) := by decide +kernel
theorem dX0_sendBehind_27 : decode cX0_sendBehind 27 = .ok (.getfield 16, 3) := by decide +kernel
theorem dX0_sendBehind_30 : decode cX0_sendBehind 30 = .ok (.iload_n 3, 1) := by decide +kernel
theorem dX0_sendBehind_31 : decode cX0_sendBehind 31 = .ok (.iaload, 1) := by decide +kernel
theorem dX0_sendBehind_32 : decode cX0_sendBehind 32 = .ok (.iastore, 1) := by decide +kernel
theorem dX0_sendBehind_33 : decode cX0_sendBehind 33 = .ok (.iinc 3 1, 3) := by decide +kernel
theorem dX0_sendBehind_36 : decode cX0_sendBehind 36 = .ok (.goto (-25), 3) := by decide +kernel
theorem dX0_sendBehind_39 : decode cX0_sendBehind 39 = .ok (.aload_n 0, 1) := by decide +kernel
theorem dX0_sendBehind_40 : decode cX0_sendBehind 40 = .ok (.getfield 16, 3) := by decide +kernel
theorem dX0_sendBehind_43 : decode cX0_sendBehind 43 = .ok (.aload_n 0, 1) := by decide +kernel
theorem dX0_sendBehind_44 : decode cX0_sendBehind 44 = .ok (.getfield 30, 3) := by decide +kernel
theorem dX0_sendBehind_47 : decode cX0_sendBehind 47 = .ok (.iconst 1, 1) := by decide +kernel
theorem dX0_sendBehind_48 : decode cX0_sendBehind 48 = .ok (.isub, 1) := by decide +kernel
theorem dX0_sendBehind_49 : decode cX0_sendBehind 49 = .ok (.iload_n 2, 1) := by decide +kernel
theorem dX0_sendBehind_50 : decode cX0_sendBehind 50 = .ok (.iastore, 1) := by decide +kernel
theorem dX0_sendBehind_51 : decode cX0_sendBehind 51 = .ok (.return_, 1) := by decide +kernel
set_option maxRecDepth 20000 in
theorem ggX0_pass_X0_crown : GoodIn wsX0_pass wsX0_crown := goodIn_r _ [5, 6, 7, 8, 9, 10, 11, 12, 13, 14, 15, 16, 17, 18, 19, 20, 21, 22, 23, 24, 25, 4, 26, 27, 28, 29, 30, 31, 32, 33, 34, 35, 36, 37, 38, 39, 40, 41, 42, 43, 44, 45, 46, 47, 48] (by decide +kernel) (by decide +kernel)
set_option maxRecDepth 20000 in
theorem gX0_pass_X0_crown : GoodIn wsX0_pass (wsV RX0 87 RX0 yX0_crown wsX0_crown) := goodIn_app (goodIn_of _ (by decide +kernel)) ggX0_pass_X0_crown
theorem dX0_pass_0 : decode cX0_pass 0 = .ok (.iconst 0, 1) := by decide +kernel
theorem dX0_pass_1 : decode cX0_pass 1 = .ok (.istore_n 2, 1) := by decide +kernel
theorem dX0_pass_2 : decode cX0_pass 2 = .ok (.iload_n 2, 1) := by decide +kernel
theorem dX0_pass_3 : decode cX0_pass 3 = .ok (.iload_n 1, 1) := by decide +kernel
theorem dX0_pass_4 : decode cX0_pass 4 = .ok (.if_icmp .ge 14, 3) := by decide +kernel
theorem dX0_pass_7 : decode cX0_pass 7 = .ok (.aload_n 0, 1) := by decide +kernel
theorem dX0_pass_8 : decode cX0_pass 8 = .ok (.iconst 0, 1) := by decide +kernel
theorem dX0_pass_9 : decode cX0_pass 9 = .ok (.invokevirtual 87, 3) := by decide +kernel
theorem dX0_pass_12 : decode cX0_pass 12 = .ok (.iinc 2 1, 3) := by decide +kernel
theorem dX0_pass_15 : decode cX0_pass 15 = .ok (.goto (-13), 3) := by decide +kernel
theorem dX0_pass_18 : decode cX0_pass 18 = .ok (.return_, 1) := by decide +kernel
set_option maxRecDepth 20000 in
theorem ggX0_worksBehind_X0_pass : GoodIn wsX0_worksBehind wsX0_pass := goodIn_r _ [6, 7, 8, 9, 5, 10, 11, 12, 13, 14, 15, 16, 17, 18, 1, 19, 20, 21, 22, 23, 24, 25, 26, 27, 28, 29, 30, 31, 32, 33, 34, 35, 36, 37, 38, 39, 40, 41, 42, 43, 44, 45, 46, 47, 48, 49, 50, 51, 52] (by decide +kernel) (by decide +kernel)
set_option maxRecDepth 20000 in
theorem gX0_worksBehind_X0_pass : GoodIn wsX0_worksBehind (wsV RX0 91 RX0 yX0_pass wsX0_pass) := goodIn_app (goodIn_of _ (by decide +kernel)) ggX0_worksBehind_X0_pass
theorem dX0_worksBehind_0 : decode cX0_worksBehind 0 = .ok (.aload_n 0, 1) := by decide +kernel
theorem dX0_worksBehind_1 : decode cX0_worksBehind 1 = .ok (.iload_n 1, 1) := by decide +kernel
theorem dX0_worksBehind_2 : decode cX0_worksBehind 2 = .ok (.invokevirtual 91, 3) := by decide +kernel
theorem dX0_worksBehind_5 : decode cX0_worksBehind 5 = .ok (.aload_n 0, 1) := by decide +kernel
theorem dX0_worksBehind_6 : decode cX0_worksBehind 6 = .ok (.getfield 36, 3) := by decide +kernel
theorem dX0_worksBehind_9 : decode cX0_worksBehind 9 = .ok (.ireturn, 1) := by decide +kernel
set_option maxRecDepth 20000 in
theorem ggX0_fallsIn_X0_pass : GoodIn wsX0_fallsIn wsX0_pass := goodIn_r _ [6, 7, 8, 9, 5, 10, 11, 12, 13, 14, 15, 16, 17, 18, 19, 20, 21, 22, 23, 24, 25, 26, 1, 27, 28, 29, 30, 31, 32, 33, 34, 35, 36, 37, 38, 39, 40, 41, 42, 43, 44, 45, 46, 47, 48, 49, 50, 51, 52] (by decide +kernel) (by decide +kernel)
set_option maxRecDepth 20000 in
theorem gX0_fallsIn_X0_pass : GoodIn wsX0_fallsIn (wsV RX0 91 RX0 yX0_pass wsX0_pass) := goodIn_app (goodIn_of _ (by decide +kernel)) ggX0_fallsIn_X0_pass
theorem dX0_fallsIn_0 : decode cX0_fallsIn 0 = .ok (.aload_n 0, 1) := by decide +kernel
theorem dX0_fallsIn_1 : decode cX0_fallsIn 1 = .ok (.getfield 45, 3) := by decide +kernel
theorem dX0_fallsIn_4 : decode cX0_fallsIn 4 = .ok (.istore_n 2, 1) := by decide +kernel
theorem dX0_fallsIn_5 : decode cX0_fallsIn 5 = .ok (.aload_n 0, 1) := by decide +kernel
theorem dX0_fallsIn_6 : decode cX0_fallsIn 6 = .ok (.iload_n 1, 1) := by decide +kernel
theorem dX0_fallsIn_7 : decode cX0_fallsIn 7 = .ok (.invokevirtual 91, 3) := by decide +kernel
theorem dX0_fallsIn_10 : decode cX0_fallsIn 10 = .ok (.aload_n 0, 1) := by decide +kernel
theorem dX0_fallsIn_11 : decode cX0_fallsIn 11 = .ok (.getfield 45, 3) := by decide +kernel
theorem dX0_fallsIn_14 : decode cX0_fallsIn 14 = .ok (.iload_n 2, 1) := by decide +kernel
theorem dX0_fallsIn_15 : decode cX0_fallsIn 15 = .ok (.isub, 1) := by decide +kernel
theorem dX0_fallsIn_16 : decode cX0_fallsIn 16 = .ok (.ireturn, 1) := by decide +kernel
set_option maxRecDepth 20000 in
theorem ggX1_init_X0_init : GoodIn wsX1_init wsX0_init := goodIn_r _ [13, 14, 2, 3, 15, 16, 17, 18, 19, 25, 26, 27, 28, 29, 30, 31, 32, 33, 34, 35, 36] (by decide +kernel) (by decide +kernel)
set_option maxRecDepth 20000 in
theorem gX1_init_X0_init_n9 : GoodIn wsX1_init (wsX0_init) := ggX1_init_X0_init
set_option maxRecDepth 20000 in
theorem ggX1_init_X3_init : GoodIn wsX1_init wsX3_init := goodIn_r _ [21, 22, 2, 3, 16, 23, 24, 40, 41, 42] (by decide +kernel) (by decide +kernel)
set_option maxRecDepth 20000 in
theorem gX1_init_X3_init_n18 : GoodIn wsX1_init (wsX3_init) := ggX1_init_X3_init
theorem dX1_init_0 : decode cX1_init 0 = .ok (.aload_n 0, 1) := by decide +kernel
theorem dX1_init_1 : decode cX1_init 1 = .ok (.invokespecial 1, 3) := by decide +kernel
theorem dX1_init_4 : decode cX1_init 4 = .ok (.aload_n 0, 1) := by decide +kernel
theorem dX1_init_5 : decode cX1_init 5 = .ok (.new 7, 3) := by decide +kernel
theorem dX1_init_8 : decode cX1_init 8 = .ok (.dup, 1) := by decide +kernel
theorem dX1_init_9 : decode cX1_init 9 = .ok (.invokespecial 9, 3) := by decide +kernel
theorem dX1_init_12 : decode cX1_init 12 = .ok (.putfield 10, 3) := by decide +kernel
theorem dX1_init_15 : decode cX1_init 15 = .ok (.aload_n 0, 1) := by decide +kernel
theorem dX1_init_16 : decode cX1_init 16 = .ok (.new 16, 3) := by decide +kernel
theorem dX1_init_19 : decode cX1_init 19 = .ok (.dup, 1) := by decide +kernel
theorem dX1_init_20 : decode cX1_init 20 = .ok (.invokespecial 18, 3) := by decide +kernel
theorem dX1_init_23 : decode cX1_init 23 = .ok (.putfield 19, 3) := by decide +kernel
theorem dX1_init_26 : decode cX1_init 26 = .ok (.return_, 1) := by decide +kernel
theorem dX2_init_0 : decode cX2_init 0 = .ok (.aload_n 0, 1) := by decide +kernel
theorem dX2_init_1 : decode cX2_init 1 = .ok (.invokespecial 3, 3) := by decide +kernel
theorem dX2_init_4 : decode cX2_init 4 = .ok (.aload_n 0, 1) := by decide +kernel
theorem dX2_init_5 : decode cX2_init 5 = .ok (.bipush 40, 2) := by decide +kernel
theorem dX2_init_7 : decode cX2_init 7 = .ok (.newarray .int, 2) := by decide +kernel
theorem dX2_init_9 : decode cX2_init 9 = .ok (.putfield 9, 3) := by decide +kernel
theorem dX2_init_12 : decode cX2_init 12 = .ok (.aload_n 0, 1) := by decide +kernel
theorem dX2_init_13 : decode cX2_init 13 = .ok (.iconst (-1), 1) := by decide +kernel
theorem dX2_init_14 : decode cX2_init 14 = .ok (.putfield 15, 3) := by decide +kernel
theorem dX2_init_17 : decode cX2_init 17 = .ok (.return_, 1) := by decide +kernel
theorem dX2_renew_0 : decode cX2_renew 0 = .ok (.aload_n 0, 1) := by decide +kernel
theorem dX2_renew_1 : decode cX2_renew 1 = .ok (.iload_n 1, 1) := by decide +kernel
theorem dX2_renew_2 : decode cX2_renew 2 = .ok (.putfield 19, 3) := by decide +kernel
theorem dX2_renew_5 : decode cX2_renew 5 = .ok (.aload_n 0, 1) := by decide +kernel
theorem dX2_renew_6 : decode cX2_renew 6 = .ok (.iload_n 2, 1) := by decide +kernel
theorem dX2_renew_7 : decode cX2_renew 7 = .ok (.putfield 15, 3) := by decide +kernel
theorem dX2_renew_10 : decode cX2_renew 10 = .ok (.iconst 0, 1) := by decide +kernel
theorem dX2_renew_11 : decode cX2_renew 11 = .ok (.istore_n 3, 1) := by decide +kernel
theorem dX2_renew_12 : decode cX2_renew 12 = .ok (.iload_n 3, 1) := by decide +kernel
theorem dX2_renew_13 : decode cX2_renew 13 = .ok (.bipush 40, 2) := by decide +kernel
theorem dX2_renew_15 : decode cX2_renew 15 = .ok (.if_icmp .ge 16, 3) := by decide +kernel
theorem dX2_renew_18 : decode cX2_renew 18 = .ok (.aload_n 0, 1) := by decide +kernel
theorem dX2_renew_19 : decode cX2_renew 19 = .ok (.getfield 9, 3) := by decide +kernel
theorem dX2_renew_22 : decode cX2_renew 22 = .ok (.iload_n 3, 1) := by decide +kernel
theorem dX2_renew_23 : decode cX2_renew 23 = .ok (.iconst 0, 1) := by decide +kernel
theorem dX2_renew_24 : decode cX2_renew 24 = .ok (.iastore, 1) := by decide +kernel
theorem dX2_renew_25 : decode cX2_renew 25 = .ok (.iinc 3 1, 3) := by decide +kernel
theorem dX2_renew_28 : decode cX2_renew 28 = .ok (.goto (-16), 3) := by decide +kernel
theorem dX2_renew_31 : decode cX2_renew 31 = .ok (.return_, 1) := by decide +kernel
theorem dX2_narrowed_0 : decode cX2_narrowed 0 = .ok (.aload_n 0, 1) := by decide +kernel
theorem dX2_narrowed_1 : decode cX2_narrowed 1 = .ok (.getfield 19, 3) := by decide +kernel
theorem dX2_narrowed_4 : decode cX2_narrowed 4 = .ok (.lookupswitch 34 #[(0, 28), (1, 31)], 28) := by decide +kernel
theorem dX2_narrowed_32 : decode cX2_narrowed 32 = .ok (.iload_n 1, 1) := by decide +kernel
theorem dX2_narrowed_33 : decode cX2_narrowed 33 = .ok (.i2b, 1) := by decide +kernel
theorem dX2_narrowed_34 : decode cX2_narrowed 34 = .ok (.ireturn, 1) := by decide +kernel
theorem dX2_narrowed_35 : decode cX2_narrowed 35 = .ok (.iload_n 1, 1) := by decide +kernel
theorem dX2_narrowed_36 : decode cX2_narrowed 36 = .ok (.i2s, 1) := by decide +kernel
theorem dX2_narrowed_37 : decode cX2_narrowed 37 = .ok (.ireturn, 1) := by decide +kernel
theorem dX2_narrowed_38 : decode cX2_narrowed 38 = .ok (.iload_n 1, 1) := by decide +kernel
theorem dX2_narrowed_39 : decode cX2_narrowed 39 = .ok (.ireturn, 1) := by decide +kernel
set_option maxRecDepth 20000 in
theorem ggX2_faultAt_X5_within : GoodIn wsX2_faultAt wsX5_within := goodIn_r _ [5] (by decide +kernel) (by decide +kernel)
set_option maxRecDepth 20000 in
theorem gX2_faultAt_X5_within_n22 : GoodIn wsX2_faultAt (wsX5_within) := ggX2_faultAt_X5_within
theorem dX2_faultAt_0 : decode cX2_faultAt 0 = .ok (.aload_n 0, 1) := by decide +kernel
theorem dX2_faultAt_1 : decode cX2_faultAt 1 = .ok (.getfield 15, 3) := by decide +kernel
theorem dX2_faultAt_4 : decode cX2_faultAt 4 = .ok (.ifCond .ge 5, 3) := by decide +kernel
theorem dX2_faultAt_7 : decode cX2_faultAt 7 = .ok (.iconst 1, 1) := by decide +kernel
theorem dX2_faultAt_8 : decode cX2_faultAt 8 = .ok (.ireturn, 1) := by decide +kernel
theorem dX2_faultAt_9 : decode cX2_faultAt 9 = .ok (.iload_n 1, 1) := by decide +kernel
theorem dX2_faultAt_10 : decode cX2_faultAt 10 = .ok (.aload_n 0, 1) := by decide +kernel
theorem dX2_faultAt_11 : decode cX2_faultAt 11 = .ok (.getfield 19, 3) := by decide +kernel
theorem dX2_faultAt_14 : decode cX2_faultAt 14 = .ok (.if_icmp .eq 5, 3) := by decide +kernel
theorem dX2_faultAt_17 : decode cX2_faultAt 17 = .ok (.iconst 3, 1) := by decide +kernel
theorem dX2_faultAt_18 : decode cX2_faultAt 18 = .ok (.ireturn, 1) := by decide +kernel
theorem dX2_faultAt_19 : decode cX2_faultAt 19 = .ok (.iload_n 2, 1) := by decide +kernel
theorem dX2_faultAt_20 : decode cX2_faultAt 20 = .ok (.iconst 0, 1) := by decide +kernel
theorem dX2_faultAt_21 : decode cX2_faultAt 21 = .ok (.aload_n 0, 1) := by decide +kernel
theorem dX2_faultAt_22 : decode cX2_faultAt 22 = .ok (.getfield 15, 3) := by decide +kernel
theorem dX2_faultAt_25 : decode cX2_faultAt 25 = .ok (.iconst 1, 1) := by decide +kernel
theorem dX2_faultAt_26 : decode cX2_faultAt 26 = .ok (.isub, 1) := by decide +kernel
theorem dX2_faultAt_27 : decode cX2_faultAt 27 = .ok (.invokestatic 22, 3) := by decide +kernel
theorem dX2_faultAt_30 : decode cX2_faultAt 30 = .ok (.ifCond .eq 7, 3) := by decide +kernel
theorem dX2_faultAt_33 : decode cX2_faultAt 33 = .ok (.iconst 0, 1) := by decide +kernel
theorem dX2_faultAt_34 : decode cX2_faultAt 34 = .ok (.goto 4, 3) := by decide +kernel
theorem dX2_faultAt_37 : decode cX2_faultAt 37 = .ok (.iconst 2, 1) := by decide +kernel
theorem dX2_faultAt_38 : decode cX2_faultAt 38 = .ok (.ireturn, 1) := by decide +kernel
set_option maxRecDepth 20000 in
theorem ggX2_faultOfPair_X2_faultAt : GoodIn wsX2_faultOfPair wsX2_faultAt := goodIn_r _ [5, 6, 7, 8, 9, 10, 11, 12, 13] (by decide +kernel) (by decide +kernel)
set_option maxRecDepth 20000 in
theorem gX2_faultOfPair_X2_faultAt : GoodIn wsX2_faultOfPair (wsV RX2 26 RX2 yX2_faultAt wsX2_faultAt) := goodIn_app (goodIn_of _ (by decide +kernel)) ggX2_faultOfPair_X2_faultAt
theorem dX2_faultOfPair_0 : decode cX2_faultOfPair 0 = .ok (.aload_n 0, 1) := by decide +kernel
theorem dX2_faultOfPair_1 : decode cX2_faultOfPair 1 = .ok (.iload_n 1, 1) := by decide +kernel
theorem dX2_faultOfPair_2 : decode cX2_faultOfPair 2 = .ok (.iload_n 2, 1) := by decide +kernel
theorem dX2_faultOfPair_3 : decode cX2_faultOfPair 3 = .ok (.invokevirtual 26, 3) := by decide +kernel
theorem dX2_faultOfPair_6 : decode cX2_faultOfPair 6 = .ok (.istore_n 3, 1) := by decide +kernel
theorem dX2_faultOfPair_7 : decode cX2_faultOfPair 7 = .ok (.iload_n 3, 1) := by decide +kernel
theorem dX2_faultOfPair_8 : decode cX2_faultOfPair 8 = .ok (.ifCond .eq 7, 3) := by decide +kernel
theorem dX2_faultOfPair_11 : decode cX2_faultOfPair 11 = .ok (.iload_n 3, 1) := by decide +kernel
theorem dX2_faultOfPair_12 : decode cX2_faultOfPair 12 = .ok (.goto 11, 3) := by decide +kernel
theorem dX2_faultOfPair_15 : decode cX2_faultOfPair 15 = .ok (.aload_n 0, 1) := by decide +kernel
theorem dX2_faultOfPair_16 : decode cX2_faultOfPair 16 = .ok (.iload_n 1, 1) := by decide +kernel
theorem dX2_faultOfPair_17 : decode cX2_faultOfPair 17 = .ok (.iload_n 2, 1) := by decide +kernel
theorem dX2_faultOfPair_18 : decode cX2_faultOfPair 18 = .ok (.iconst 1, 1) := by decide +kernel
theorem dX2_faultOfPair_19 : decode cX2_faultOfPair 19 = .ok (.iadd, 1) := by decide +kernel
theorem dX2_faultOfPair_20 : decode cX2_faultOfPair 20 = .ok (.invokevirtual 26, 3) := by decide +kernel
theorem dX2_faultOfPair_23 : decode cX2_faultOfPair 23 = .ok (.ireturn, 1) := by decide +kernel
theorem dX3_init_0 : decode cX3_init 0 = .ok (.aload_n 0, 1) := by decide +kernel
theorem dX3_init_1 : decode cX3_init 1 = .ok (.invokespecial 3, 3) := by decide +kernel
theorem dX3_init_4 : decode cX3_init 4 = .ok (.aload_n 0, 1) := by decide +kernel
theorem dX3_init_5 : decode cX3_init 5 = .ok (.bipush 6, 2) := by decide +kernel
theorem dX3_init_7 : decode cX3_init 7 = .ok (.newarray .int, 2) := by decide +kernel
theorem dX3_init_9 : decode cX3_init 9 = .ok (.putfield 9, 3) := by decide +kernel
theorem dX3_init_12 : decode cX3_init 12 = .ok (.aload_n 0, 1) := by decide +kernel
theorem dX3_init_13 : decode cX3_init 13 = .ok (.bipush 6, 2) := by decide +kernel
theorem dX3_init_15 : decode cX3_init 15 = .ok (.newarray .int, 2) := by decide +kernel
theorem dX3_init_17 : decode cX3_init 17 = .ok (.putfield 15, 3) := by decide +kernel
theorem dX3_init_20 : decode cX3_init 20 = .ok (.return_, 1) := by decide +kernel
theorem dX3_copyFrom_0 : decode cX3_copyFrom 0 = .ok (.aload_n 1, 1) := by decide +kernel
theorem dX3_copyFrom_1 : decode cX3_copyFrom 1 = .ok (.getfield 9, 3) := by decide +kernel
theorem dX3_copyFrom_4 : decode cX3_copyFrom 4 = .ok (.iconst 0, 1) := by decide +kernel
theorem dX3_copyFrom_5 : decode cX3_copyFrom 5 = .ok (.aload_n 0, 1) := by decide +kernel
theorem dX3_copyFrom_6 : decode cX3_copyFrom 6 = .ok (.getfield 9, 3) := by decide +kernel
theorem dX3_copyFrom_9 : decode cX3_copyFrom 9 = .ok (.iconst 0, 1) := by decide +kernel
theorem dX3_copyFrom_10 : decode cX3_copyFrom 10 = .ok (.bipush 6, 2) := by decide +kernel
theorem dX3_copyFrom_12 : decode cX3_copyFrom 12 = .ok (.invokestatic 18, 3) := by decide +kernel
theorem dX3_copyFrom_15 : decode cX3_copyFrom 15 = .ok (.aload_n 1, 1) := by decide +kernel
theorem dX3_copyFrom_16 : decode cX3_copyFrom 16 = .ok (.getfield 15, 3) := by decide +kernel
theorem dX3_copyFrom_19 : decode cX3_copyFrom 19 = .ok (.iconst 0, 1) := by decide +kernel
theorem dX3_copyFrom_20 : decode cX3_copyFrom 20 = .ok (.aload_n 0, 1) := by decide +kernel
theorem dX3_copyFrom_21 : decode cX3_copyFrom 21 = .ok (.getfield 15, 3) := by decide +kernel
theorem dX3_copyFrom_24 : decode cX3_copyFrom 24 = .ok (.iconst 0, 1) := by decide +kernel
theorem dX3_copyFrom_25 : decode cX3_copyFrom 25 = .ok (.bipush 6, 2) := by decide +kernel
theorem dX3_copyFrom_27 : decode cX3_copyFrom 27 = .ok (.invokestatic 18, 3) := by decide +kernel
theorem dX3_copyFrom_30 : decode cX3_copyFrom 30 = .ok (.aload_n 0, 1) := by decide +kernel
theorem dX3_copyFrom_31 : decode cX3_copyFrom 31 = .ok (.aload_n 1, 1) := by decide +kernel
theorem dX3_copyFrom_32 : decode cX3_copyFrom 32 = .ok (.getfield 24, 3) := by decide +kernel
theorem dX3_copyFrom_35 : decode cX3_copyFrom 35 = .ok (.putfield 24, 3) := by decide +kernel
theorem dX3_copyFrom_38 : decode cX3_copyFrom 38 = .ok (.return_, 1) := by decide +kernel
theorem dX3_add_0 : decode cX3_add 0 = .ok (.aload_n 0, 1) := by decide +kernel
theorem dX3_add_1 : decode cX3_add 1 = .ok (.getfield 24, 3) := by decide +kernel
theorem dX3_add_4 : decode cX3_add 4 = .ok (.bipush 6, 2) := by decide +kernel
theorem dX3_add_6 : decode cX3_add 6 = .ok (.if_icmp .lt 5, 3) := by decide +kernel
theorem dX3_add_9 : decode cX3_add 9 = .ok (.iconst 0, 1) := by decide +kernel
theorem dX3_add_10 : decode cX3_add 10 = .ok (.ireturn, 1) := by decide +kernel
theorem dX3_add_11 : decode cX3_add 11 = .ok (.aload_n 0, 1) := by decide +kernel
theorem dX3_add_12 : decode cX3_add 12 = .ok (.getfield 9, 3) := by decide +kernel
theorem dX3_add_15 : decode cX3_add 15 = .ok (.aload_n 0, 1) := by decide +kernel
theorem dX3_add_16 : decode cX3_add 16 = .ok (.getfield 24, 3) := by decide +kernel
theorem dX3_add_19 : decode cX3_add 19 = .ok (.iload_n 1, 1) := by decide +kernel
theorem dX3_add_20 : decode cX3_add 20 = .ok (.iastore, 1) := by decide +kernel
theorem dX3_add_21 : decode cX3_add 21 = .ok (.aload_n 0, 1) := by decide +kernel
theorem dX3_add_22 : decode cX3_add 22 = .ok (.getfield 15, 3) := by decide +kernel
theorem dX3_add_25 : decode cX3_add 25 = .ok (.aload_n 0, 1) := by decide +kernel
theorem dX3_add_26 : decode cX3_add 26 = .ok (.getfield 24, 3) := by decide +kernel
theorem dX3_add_29 : decode cX3_add 29 = .ok (.iload_n 2, 1) := by decide +kernel
theorem dX3_add_30 : decode cX3_add 30 = .ok (.iastore, 1) := by decide +kernel
theorem dX3_add_31 : decode cX3_add 31 = .ok (.aload_n 0, 1) := by decide +kernel
theorem dX3_add_32 : decode cX3_add 32 = .ok (.dup, 1) := by decide +kernel
theorem dX3_add_33 : decode cX3_add 33 = .ok (.getfield 24, 3) := by decide +kernel
theorem dX3_add_36 : decode cX3_add 36 = .ok (.iconst 1, 1) := by decide +kernel
theorem dX3_add_37 : decode cX3_add 37 = .ok (.iadd, 1) := by decide +kernel
theorem dX3_add_38 : decode cX3_add 38 = .ok (.putfield 24, 3) := by decide +kernel
theorem dX3_add_41 : decode cX3_add 41 = .ok (.iconst 1, 1) := by decide +kernel
theorem dX3_add_42 : decode cX3_add 42 = .ok (.ireturn, 1) := by decide +kernel
theorem dX3_fits_0 : decode cX3_fits 0 = .ok (.iconst 0, 1) := by decide +kernel
theorem dX3_fits_1 : decode cX3_fits 1 = .ok (.istore_n 2, 1) := by decide +kernel
theorem dX3_fits_2 : decode cX3_fits 2 = .ok (.iload_n 2, 1) := by decide +kernel
theorem dX3_fits_3 : decode cX3_fits 3 = .ok (.aload_n 0, 1) := by decide +kernel
theorem dX3_fits_4 : decode cX3_fits 4 = .ok (.getfield 24, 3) := by decide +kernel
theorem dX3_fits_7 : decode cX3_fits 7 = .ok (.if_icmp .ge 30, 3) := by decide +kernel
theorem dX3_fits_10 : decode cX3_fits 10 = .ok (.aload_n 1, 1) := by decide +kernel
theorem dX3_fits_11 : decode cX3_fits 11 = .ok (.aload_n 0, 1) := by decide +kernel
theorem dX3_fits_12 : decode cX3_fits 12 = .ok (.getfield 9, 3) := by decide +kernel
theorem dX3_fits_15 : decode cX3_fits 15 = .ok (.iload_n 2, 1) := by decide +kernel
theorem dX3_fits_16 : decode cX3_fits 16 = .ok (.iaload, 1) := by decide +kernel
theorem dX3_fits_17 : decode cX3_fits 17 = .ok (.iconst 1, 1) := by decide +kernel
theorem dX3_fits_18 : decode cX3_fits 18 = .ok (.isub, 1) := by decide +kernel
theorem dX3_fits_19 : decode cX3_fits 19 = .ok (.iaload, 1) := by decide +kernel
theorem dX3_fits_20 : decode cX3_fits 20 = .ok (.aload_n 0, 1) := by decide +kernel
theorem dX3_fits_21 : decode cX3_fits 21 = .ok (.getfield 15, 3) := by decide +kernel
theorem dX3_fits_24 : decode cX3_fits 24 = .ok (.iload_n 2, 1) := by decide +kernel
theorem dX3_fits_25 : decode cX3_fits 25 = .ok (.iaload, 1) := by decide +kernel
theorem dX3_fits_26 : decode cX3_fits 26 = .ok (.if_icmp .eq 5, 3) := by decide +kernel
theorem dX3_fits_29 : decode cX3_fits 29 = .ok (.iconst 0, 1) := by decide +kernel
theorem dX3_fits_30 : decode cX3_fits 30 = .ok (.ireturn, 1) := by decide +kernel
theorem dX3_fits_31 : decode cX3_fits 31 = .ok (.iinc 2 1, 3) := by decide +kernel
theorem dX3_fits_34 : decode cX3_fits 34 = .ok (.goto (-32), 3) := by decide +kernel
theorem dX3_fits_37 : decode cX3_fits 37 = .ok (.iconst 1, 1) := by decide +kernel
theorem dX3_fits_38 : decode cX3_fits 38 = .ok (.ireturn, 1) := by decide +kernel
theorem dJ9_max_7cf53_0 : decode cJ9_max_7cf53 0 = .ok (.iload_n 0, 1) := by decide +kernel
theorem dJ9_max_7cf53_1 : decode cJ9_max_7cf53 1 = .ok (.iload_n 1, 1) := by decide +kernel
theorem dJ9_max_7cf53_2 : decode cJ9_max_7cf53 2 = .ok (.if_icmp .lt 7, 3) := by decide +kernel
theorem dJ9_max_7cf53_5 : decode cJ9_max_7cf53 5 = .ok (.iload_n 0, 1) := by decide +kernel
theorem dJ9_max_7cf53_6 : decode cJ9_max_7cf53 6 = .ok (.goto 4, 3) := by decide +kernel
theorem dJ9_max_7cf53_9 : decode cJ9_max_7cf53 9 = .ok (.iload_n 1, 1) := by decide +kernel
theorem dJ9_max_7cf53_10 : decode cJ9_max_7cf53 10 = .ok (.ireturn, 1) := by decide +kernel
theorem dJ9_min_7cf53_0 : decode cJ9_min_7cf53 0 = .ok (.iload_n 0, 1) := by decide +kernel
theorem dJ9_min_7cf53_1 : decode cJ9_min_7cf53 1 = .ok (.iload_n 1, 1) := by decide +kernel
theorem dJ9_min_7cf53_2 : decode cJ9_min_7cf53 2 = .ok (.if_icmp .gt 7, 3) := by decide +kernel
theorem dJ9_min_7cf53_5 : decode cJ9_min_7cf53 5 = .ok (.iload_n 0, 1) := by decide +kernel
theorem dJ9_min_7cf53_6 : decode cJ9_min_7cf53 6 = .ok (.goto 4, 3) := by decide +kernel
theorem dJ9_min_7cf53_9 : decode cJ9_min_7cf53 9 = .ok (.iload_n 1, 1) := by decide +kernel
theorem dJ9_min_7cf53_10 : decode cJ9_min_7cf53 10 = .ok (.ireturn, 1) := by decide +kernel
set_option maxRecDepth 20000 in
theorem ggJ0_length_8abf5_J0_coder_7d493 : GoodIn wsJ0_length_8abf5 wsJ0_coder_7d493 := goodIn_r _ [6, 7, 8] (by decide +kernel) (by decide +kernel)
set_option maxRecDepth 20000 in
theorem gJ0_length_8abf5_J0_coder_7d493 : GoodIn wsJ0_length_8abf5 (wsV RJ0 335 RJ0 yJ0_coder_7d493 wsJ0_coder_7d493) := goodIn_app (goodIn_of _ (by decide +kernel)) ggJ0_length_8abf5_J0_coder_7d493
theorem dJ0_length_8abf5_0 : decode cJ0_length_8abf5 0 = .ok (.aload_n 0, 1) := by decide +kernel
theorem dJ0_length_8abf5_1 : decode cJ0_length_8abf5 1 = .ok (.getfield 9, 3) := by decide +kernel
theorem dJ0_length_8abf5_4 : decode cJ0_length_8abf5 4 = .ok (.arraylength, 1) := by decide +kernel
theorem dJ0_length_8abf5_5 : decode cJ0_length_8abf5 5 = .ok (.aload_n 0, 1) := by decide +kernel
theorem dJ0_length_8abf5_6 : decode cJ0_length_8abf5 6 = .ok (.invokevirtual 335, 3) := by decide +kernel
theorem dJ0_length_8abf5_9 : decode cJ0_length_8abf5 9 = .ok (.ishr, 1) := by decide +kernel
theorem dJ0_length_8abf5_10 : decode cJ0_length_8abf5 10 = .ok (.ireturn, 1) := by decide +kernel
set_option maxRecDepth 20000 in
theorem ggJ0_charAt_5068e_J0_isLatin1_aae02 : GoodIn wsJ0_charAt_5068e wsJ0_isLatin1_aae02 := goodIn_r _ [6, 7, 8] (by decide +kernel) (by decide +kernel)
set_option maxRecDepth 20000 in
theorem gJ0_charAt_5068e_J0_isLatin1_aae02 : GoodIn wsJ0_charAt_5068e (wsV RJ0 492 RJ0 yJ0_isLatin1_aae02 wsJ0_isLatin1_aae02) := goodIn_app (goodIn_of _ (by decide +kernel)) ggJ0_charAt_5068e_J0_isLatin1_aae02
set_option maxRecDepth 20000 in
theorem ggJ0_charAt_5068e_J1_charAt_3b067 : GoodIn wsJ0_charAt_5068e wsJ1_charAt_3b067 := goodIn_r _ [12, 13, 14, 5, 15, 16, 17, 18, 19, 20] (by decide +kernel) (by decide +kernel)
set_option maxRecDepth 20000 in
theorem gJ0_charAt_5068e_J1_charAt_3b067 : GoodIn wsJ0_charAt_5068e (va_wsS RJ0 495 yJ1_charAt_3b067 wsJ1_charAt_3b067) := goodIn_app (goodIn_of _ (by decide +kernel)) ggJ0_charAt_5068e_J1_charAt_3b067
set_option maxRecDepth 20000 in
theorem ggJ0_charAt_5068e_J2_charAt_3b067 : GoodIn wsJ0_charAt_5068e wsJ2_charAt_3b067 := goodIn_r _ [24, 25, 26, 23, 27, 28, 29, 30, 31, 14, 5, 15, 16, 17, 18, 19, 20, 32, 33, 34, 35, 36, 37] (by decide +kernel) (by decide +kernel)
set_option maxRecDepth 20000 in
theorem gJ0_charAt_5068e_J2_charAt_3b067 : GoodIn wsJ0_charAt_5068e (va_wsS RJ0 498 yJ2_charAt_3b067 wsJ2_charAt_3b067) := goodIn_app (goodIn_of _ (by decide +kernel)) ggJ0_charAt_5068e_J2_charAt_3b067
theorem dJ0_charAt_5068e_0 : decode cJ0_charAt_5068e 0 = .ok (.aload_n 0, 1) := by decide +kernel
theorem dJ0_charAt_5068e_1 : decode cJ0_charAt_5068e 1 = .ok (.invokevirtual 492, 3) := by decide +kernel
theorem dJ0_charAt_5068e_4 : decode cJ0_charAt_5068e 4 = .ok (.ifCond .eq 12, 3) := by decide +kernel
theorem dJ0_charAt_5068e_7 : decode cJ0_charAt_5068e 7 = .ok (.aload_n 0, 1) := by decide +kernel
theorem dJ0_charAt_5068e_8 : decode cJ0_charAt_5068e 8 = .ok (.getfield 9, 3) := by decide +kernel
theorem dJ0_charAt_5068e_11 : decode cJ0_charAt_5068e 11 = .ok (.iload_n 1, 1) := by decide +kernel
theorem dJ0_charAt_5068e_12 : decode cJ0_charAt_5068e 12 = .ok (.invokestatic 495, 3) := by decide +kernel
theorem dJ0_charAt_5068e_15 : decode cJ0_charAt_5068e 15 = .ok (.ireturn, 1) := by decide +kernel
theorem dJ0_charAt_5068e_16 : decode cJ0_charAt_5068e 16 = .ok (.aload_n 0, 1) := by decide +kernel
theorem dJ0_charAt_5068e_17 : decode cJ0_charAt_5068e 17 = .ok (.getfield 9, 3) := by decide +kernel
theorem dJ0_charAt_5068e_20 : decode cJ0_charAt_5068e 20 = .ok (.iload_n 1, 1) := by decide +kernel
theorem dJ0_charAt_5068e_21 : decode cJ0_charAt_5068e 21 = .ok (.invokestatic 498, 3) := by decide +kernel
theorem dJ0_charAt_5068e_24 : decode cJ0_charAt_5068e 24 = .ok (.ireturn, 1) := by decide +kernel
theorem dJ0_coder_7d493_0 : decode cJ0_coder_7d493 0 = .ok (.getstatic 38, 3) := by decide +kernel
theorem dJ0_coder_7d493_3 : decode cJ0_coder_7d493 3 = .ok (.ifCond .eq 10, 3) := by decide +kernel
theorem dJ0_coder_7d493_6 : decode cJ0_coder_7d493 6 = .ok (.aload_n 0, 1) := by decide +kernel
theorem dJ0_coder_7d493_7 : decode cJ0_coder_7d493 7 = .ok (.getfield 15, 3) := by decide +kernel
theorem dJ0_coder_7d493_10 : decode cJ0_coder_7d493 10 = .ok (.goto 4, 3) := by decide +kernel
theorem dJ0_coder_7d493_13 : decode cJ0_coder_7d493 13 = .ok (.iconst 1, 1) := by decide +kernel
theorem dJ0_coder_7d493_14 : decode cJ0_coder_7d493 14 = .ok (.ireturn, 1) := by decide +kernel
theorem dJ0_isLatin1_aae02_0 : decode cJ0_isLatin1_aae02 0 = .ok (.getstatic 38, 3) := by decide +kernel
theorem dJ0_isLatin1_aae02_3 : decode cJ0_isLatin1_aae02 3 = .ok (.ifCond .eq 14, 3) := by decide +kernel
theorem dJ0_isLatin1_aae02_6 : decode cJ0_isLatin1_aae02 6 = .ok (.aload_n 0, 1) := by decide +kernel
theorem dJ0_isLatin1_aae02_7 : decode cJ0_isLatin1_aae02 7 = .ok (.getfield 15, 3) := by decide +kernel
theorem dJ0_isLatin1_aae02_10 : decode cJ0_isLatin1_aae02 10 = .ok (.ifCond .ne 7, 3) := by decide +kernel
theorem dJ0_isLatin1_aae02_13 : decode cJ0_isLatin1_aae02 13 = .ok (.iconst 1, 1) := by decide +kernel
theorem dJ0_isLatin1_aae02_14 : decode cJ0_isLatin1_aae02 14 = .ok (.goto 4, 3) := by decide +kernel
theorem dJ0_isLatin1_aae02_17 : decode cJ0_isLatin1_aae02 17 = .ok (.iconst 0, 1) := by decide +kernel
theorem dJ0_isLatin1_aae02_18 : decode cJ0_isLatin1_aae02 18 = .ok (.ireturn, 1) := by decide +kernel
set_option maxRecDepth 20000 in
theorem ggJ0_checkIndex_df160_J3_checkIndex_8e157 : GoodIn wsJ0_checkIndex_df160 wsJ3_checkIndex_8e157 := goodIn_r _ [5] (by decide +kernel) (by decide +kernel)
set_option maxRecDepth 20000 in
theorem gJ0_checkIndex_df160_J3_checkIndex_8e157 : GoodIn wsJ0_checkIndex_df160 (va_wsS RJ0 1059 yJ3_checkIndex_8e157 wsJ3_checkIndex_8e157) := goodIn_app (goodIn_of _ (by decide +kernel)) ggJ0_checkIndex_df160_J3_checkIndex_8e157
theorem dJ0_checkIndex_df160_0 : decode cJ0_checkIndex_df160 0 = .ok (.iload_n 0, 1) := by decide +kernel
theorem dJ0_checkIndex_df160_1 : decode cJ0_checkIndex_df160 1 = .ok (.iload_n 1, 1) := by decide +kernel
theorem dJ0_checkIndex_df160_2 : decode cJ0_checkIndex_df160 2 = .ok (.getstatic 1053, 3) := by decide +kernel
theorem dJ0_checkIndex_df160_5 : decode cJ0_checkIndex_df160 5 = .ok (.invokestatic 1059, 3) := by decide +kernel
theorem dJ0_checkIndex_df160_8 : decode cJ0_checkIndex_df160 8 = .ok (.pop, 1) := by decide +kernel
theorem dJ0_checkIndex_df160_9 : decode cJ0_checkIndex_df160 9 = .ok (.return_, 1) := by decide +kernel
set_option maxRecDepth 20000 in
theorem ggJ1_charAt_3b067_J0_checkIndex_df160 : GoodIn wsJ1_charAt_3b067 wsJ0_checkIndex_df160 := goodIn_r _ [4, 5, 6, 7, 8, 9] (by decide +kernel) (by decide +kernel)
set_option maxRecDepth 20000 in
theorem gJ1_charAt_3b067_J0_checkIndex_df160 : GoodIn wsJ1_charAt_3b067 (va_wsS RJ1 9 yJ0_checkIndex_df160 wsJ0_checkIndex_df160) := goodIn_app (goodIn_of _ (by decide +kernel)) ggJ1_charAt_3b067_J0_checkIndex_df160
theorem dJ1_charAt_3b067_0 : decode cJ1_charAt_3b067 0 = .ok (.iload_n 1, 1) := by decide +kernel
theorem dJ1_charAt_3b067_1 : decode cJ1_charAt_3b067 1 = .ok (.aload_n 0, 1) := by decide +kernel
theorem dJ1_charAt_3b067_2 : decode cJ1_charAt_3b067 2 = .ok (.arraylength, 1) := by decide +kernel
theorem dJ1_charAt_3b067_3 : decode cJ1_charAt_3b067 3 = .ok (.invokestatic 9, 3) := by decide +kernel
theorem dJ1_charAt_3b067_6 : decode cJ1_charAt_3b067 6 = .ok (.aload_n 0, 1) := by decide +kernel
theorem dJ1_charAt_3b067_7 : decode cJ1_charAt_3b067 7 = .ok (.iload_n 1, 1) := by decide +kernel
theorem dJ1_charAt_3b067_8 : decode cJ1_charAt_3b067 8 = .ok (.baload, 1) := by decide +kernel
theorem dJ1_charAt_3b067_9 : decode cJ1_charAt_3b067 9 = .ok (.sipush 255, 3) := by decide +kernel
theorem dJ1_charAt_3b067_12 : decode cJ1_charAt_3b067 12 = .ok (.iand, 1) := by decide +kernel
theorem dJ1_charAt_3b067_13 : decode cJ1_charAt_3b067 13 = .ok (.i2c, 1) := by decide +kernel
theorem dJ1_charAt_3b067_14 : decode cJ1_charAt_3b067 14 = .ok (.ireturn, 1) := by decide +kernel
set_option maxRecDepth 20000 in
theorem ggJ2_getChar_3b067_J2_length_9d52b : GoodIn wsJ2_getChar_3b067 wsJ2_length_9d52b := goodIn_r _ [7] (by decide +kernel) (by decide +kernel)
set_option maxRecDepth 20000 in
theorem gJ2_getChar_3b067_J2_length_9d52b : GoodIn wsJ2_getChar_3b067 (va_wsS RJ2 48 yJ2_length_9d52b wsJ2_length_9d52b) := goodIn_app (goodIn_of _ (by decide +kernel)) ggJ2_getChar_3b067_J2_length_9d52b
theorem dJ2_getChar_3b067_0 : decode cJ2_getChar_3b067 0 = .ok (.getstatic 44, 3) := by decide +kernel
theorem dJ2_getChar_3b067_3 : decode cJ2_getChar_3b067 3 = .ok (.ifCond .ne 25, 3) := by decide +kernel
theorem dJ2_getChar_3b067_6 : decode cJ2_getChar_3b067 6 = .ok (.iload_n 1, 1) := by decide +kernel
theorem dJ2_getChar_3b067_7 : decode cJ2_getChar_3b067 7 = .ok (.ifCond .lt 11, 3) := by decide +kernel
theorem dJ2_getChar_3b067_10 : decode cJ2_getChar_3b067 10 = .ok (.iload_n 1, 1) := by decide +kernel
theorem dJ2_getChar_3b067_11 : decode cJ2_getChar_3b067 11 = .ok (.aload_n 0, 1) := by decide +kernel
theorem dJ2_getChar_3b067_12 : decode cJ2_getChar_3b067 12 = .ok (.invokestatic 48, 3) := by decide +kernel
theorem dJ2_getChar_3b067_15 : decode cJ2_getChar_3b067 15 = .ok (.if_icmp .lt 13, 3) := by decide +kernel
theorem dJ2_getChar_3b067_18 : decode cJ2_getChar_3b067 18 = .ok (.new 52, 3) := by decide +kernel
theorem dJ2_getChar_3b067_21 : decode cJ2_getChar_3b067 21 = .ok (.dup, 1) := by decide +kernel
theorem dJ2_getChar_3b067_22 : decode cJ2_getChar_3b067 22 = .ok (.ldc 54, 2) := by decide +kernel
theorem dJ2_getChar_3b067_24 : decode cJ2_getChar_3b067 24 = .ok (.invokespecial 56, 3) := by decide +kernel
theorem dJ2_getChar_3b067_27 : decode cJ2_getChar_3b067 27 = .ok (.athrow, 1) := by decide +kernel
theorem dJ2_getChar_3b067_28 : decode cJ2_getChar_3b067 28 = .ok (.iload_n 1, 1) := by decide +kernel
theorem dJ2_getChar_3b067_29 : decode cJ2_getChar_3b067 29 = .ok (.iconst 1, 1) := by decide +kernel
theorem dJ2_getChar_3b067_30 : decode cJ2_getChar_3b067 30 = .ok (.ishl, 1) := by decide +kernel
theorem dJ2_getChar_3b067_31 : decode cJ2_getChar_3b067 31 = .ok (.istore_n 1, 1) := by decide +kernel
theorem dJ2_getChar_3b067_32 : decode cJ2_getChar_3b067 32 = .ok (.aload_n 0, 1) := by decide +kernel
theorem dJ2_getChar_3b067_33 : decode cJ2_getChar_3b067 33 = .ok (.iload_n 1, 1) := by decide +kernel
theorem dJ2_getChar_3b067_34 : decode cJ2_getChar_3b067 34 = .ok (.iinc 1 1, 3) := by decide +kernel
theorem dJ2_getChar_3b067_37 : decode cJ2_getChar_3b067 37 = .ok (.baload, 1) := by decide +kernel
theorem dJ2_getChar_3b067_38 : decode cJ2_getChar_3b067 38 = .ok (.sipush 255, 3) := by decide +kernel
theorem dJ2_getChar_3b067_41 : decode cJ2_getChar_3b067 41 = .ok (.iand, 1) := by decide +kernel
theorem dJ2_getChar_3b067_42 : decode cJ2_getChar_3b067 42 = .ok (.getstatic 59, 3) := by decide +kernel
theorem dJ2_getChar_3b067_45 : decode cJ2_getChar_3b067 45 = .ok (.ishl, 1) := by decide +kernel
theorem dJ2_getChar_3b067_46 : decode cJ2_getChar_3b067 46 = .ok (.aload_n 0, 1) := by decide +kernel
theorem dJ2_getChar_3b067_47 : decode cJ2_getChar_3b067 47 = .ok (.iload_n 1, 1) := by decide +kernel
theorem dJ2_getChar_3b067_48 : decode cJ2_getChar_3b067 48 = .ok (.baload, 1) := by decide +kernel
theorem dJ2_getChar_3b067_49 : decode cJ2_getChar_3b067 49 = .ok (.sipush 255, 3) := by decide +kernel
theorem dJ2_getChar_3b067_52 : decode cJ2_getChar_3b067 52 = .ok (.iand, 1) := by decide +kernel
theorem dJ2_getChar_3b067_53 : decode cJ2_getChar_3b067 53 = .ok (.getstatic 63, 3) := by decide +kernel
theorem dJ2_getChar_3b067_56 : decode cJ2_getChar_3b067 56 = .ok (.ishl, 1) := by decide +kernel
theorem dJ2_getChar_3b067_57 : decode cJ2_getChar_3b067 57 = .ok (.ior, 1) := by decide +kernel
theorem dJ2_getChar_3b067_58 : decode cJ2_getChar_3b067 58 = .ok (.i2c, 1) := by decide +kernel
theorem dJ2_getChar_3b067_59 : decode cJ2_getChar_3b067 59 = .ok (.ireturn, 1) := by decide +kernel
theorem dJ2_length_9d52b_0 : decode cJ2_length_9d52b 0 = .ok (.aload_n 0, 1) := by decide +kernel
theorem dJ2_length_9d52b_1 : decode cJ2_length_9d52b 1 = .ok (.arraylength, 1) := by decide +kernel
theorem dJ2_length_9d52b_2 : decode cJ2_length_9d52b 2 = .ok (.iconst 1, 1) := by decide +kernel
theorem dJ2_length_9d52b_3 : decode cJ2_length_9d52b 3 = .ok (.ishr, 1) := by decide +kernel
theorem dJ2_length_9d52b_4 : decode cJ2_length_9d52b 4 = .ok (.ireturn, 1) := by decide +kernel
set_option maxRecDepth 20000 in
theorem ggJ2_charAt_3b067_J2_checkIndex_2214a : GoodIn wsJ2_charAt_3b067 wsJ2_checkIndex_2214a := goodIn_r _ [4, 5, 6, 3, 7, 8, 9, 10, 11, 12, 13, 14, 15, 16] (by decide +kernel) (by decide +kernel)
set_option maxRecDepth 20000 in
theorem gJ2_charAt_3b067_J2_checkIndex_2214a : GoodIn wsJ2_charAt_3b067 (va_wsS RJ2 67 yJ2_checkIndex_2214a wsJ2_checkIndex_2214a) := goodIn_app (goodIn_of _ (by decide +kernel)) ggJ2_charAt_3b067_J2_checkIndex_2214a
set_option maxRecDepth 20000 in
theorem ggJ2_charAt_3b067_J2_getChar_3b067 : GoodIn wsJ2_charAt_3b067 wsJ2_getChar_3b067 := goodIn_r _ [19, 20, 21, 22, 5, 6, 3, 7] (by decide +kernel) (by decide +kernel)
set_option maxRecDepth 20000 in
theorem gJ2_charAt_3b067_J2_getChar_3b067 : GoodIn wsJ2_charAt_3b067 (va_wsS RJ2 71 yJ2_getChar_3b067 wsJ2_getChar_3b067) := goodIn_app (goodIn_of _ (by decide +kernel)) ggJ2_charAt_3b067_J2_getChar_3b067
theorem dJ2_charAt_3b067_0 : decode cJ2_charAt_3b067 0 = .ok (.iload_n 1, 1) := by decide +kernel
theorem dJ2_charAt_3b067_1 : decode cJ2_charAt_3b067 1 = .ok (.aload_n 0, 1) := by decide +kernel
theorem dJ2_charAt_3b067_2 : decode cJ2_charAt_3b067 2 = .ok (.invokestatic 67, 3) := by decide +kernel
theorem dJ2_charAt_3b067_5 : decode cJ2_charAt_3b067 5 = .ok (.aload_n 0, 1) := by decide +kernel
theorem dJ2_charAt_3b067_6 : decode cJ2_charAt_3b067 6 = .ok (.iload_n 1, 1) := by decide +kernel
theorem dJ2_charAt_3b067_7 : decode cJ2_charAt_3b067 7 = .ok (.invokestatic 71, 3) := by decide +kernel
theorem dJ2_charAt_3b067_10 : decode cJ2_charAt_3b067 10 = .ok (.ireturn, 1) := by decide +kernel
set_option maxRecDepth 20000 in
theorem ggJ2_checkIndex_2214a_J2_length_9d52b : GoodIn wsJ2_checkIndex_2214a wsJ2_length_9d52b := goodIn_r _ [4] (by decide +kernel) (by decide +kernel)
set_option maxRecDepth 20000 in
theorem gJ2_checkIndex_2214a_J2_length_9d52b : GoodIn wsJ2_checkIndex_2214a (va_wsS RJ2 48 yJ2_length_9d52b wsJ2_length_9d52b) := goodIn_app (goodIn_of _ (by decide +kernel)) ggJ2_checkIndex_2214a_J2_length_9d52b
set_option maxRecDepth 20000 in
theorem ggJ2_checkIndex_2214a_J0_checkIndex_df160 : GoodIn wsJ2_checkIndex_2214a wsJ0_checkIndex_df160 := goodIn_r _ [8, 9, 10, 11, 12, 13] (by decide +kernel) (by decide +kernel)
set_option maxRecDepth 20000 in
theorem gJ2_checkIndex_2214a_J0_checkIndex_df160 : GoodIn wsJ2_checkIndex_2214a (va_wsS RJ2 414 yJ0_checkIndex_df160 wsJ0_checkIndex_df160) := goodIn_app (goodIn_of _ (by decide +kernel)) ggJ2_checkIndex_2214a_J0_checkIndex_df160
theorem dJ2_checkIndex_2214a_0 : decode cJ2_checkIndex_2214a 0 = .ok (.iload_n 0, 1) := by decide +kernel
theorem dJ2_checkIndex_2214a_1 : decode cJ2_checkIndex_2214a 1 = .ok (.aload_n 1, 1) := by decide +kernel
theorem dJ2_checkIndex_2214a_2 : decode cJ2_checkIndex_2214a 2 = .ok (.invokestatic 48, 3) := by decide +kernel
theorem dJ2_checkIndex_2214a_5 : decode cJ2_checkIndex_2214a 5 = .ok (.invokestatic 414, 3) := by decide +kernel
theorem dJ2_checkIndex_2214a_8 : decode cJ2_checkIndex_2214a 8 = .ok (.return_, 1) := by decide +kernel
theorem dJ3_checkIndex_8e157_0 : decode cJ3_checkIndex_8e157 0 = .ok (.iload_n 0, 1) := by decide +kernel
theorem dJ3_checkIndex_8e157_1 : decode cJ3_checkIndex_8e157 1 = .ok (.ifCond .lt 8, 3) := by decide +kernel
theorem dJ3_checkIndex_8e157_4 : decode cJ3_checkIndex_8e157 4 = .ok (.iload_n 0, 1) := by decide +kernel
theorem dJ3_checkIndex_8e157_5 : decode cJ3_checkIndex_8e157 5 = .ok (.iload_n 1, 1) := by decide +kernel
theorem dJ3_checkIndex_8e157_6 : decode cJ3_checkIndex_8e157 6 = .ok (.if_icmp .lt 10, 3) := by decide +kernel
theorem dJ3_checkIndex_8e157_9 : decode cJ3_checkIndex_8e157 9 = .ok (.aload_n 2, 1) := by decide +kernel
theorem dJ3_checkIndex_8e157_10 : decode cJ3_checkIndex_8e157 10 = .ok (.iload_n 0, 1) := by decide +kernel
theorem dJ3_checkIndex_8e157_11 : decode cJ3_checkIndex_8e157 11 = .ok (.iload_n 1, 1) := by decide +kernel
theorem dJ3_checkIndex_8e157_12 : decode cJ3_checkIndex_8e157 12 = .ok (.invokestatic 95, 3) := by decide +kernel
theorem dJ3_checkIndex_8e157_15 : decode cJ3_checkIndex_8e157 15 = .ok (.athrow, 1) := by decide +kernel
theorem dJ3_checkIndex_8e157_16 : decode cJ3_checkIndex_8e157 16 = .ok (.iload_n 0, 1) := by decide +kernel
theorem dJ3_checkIndex_8e157_17 : decode cJ3_checkIndex_8e157 17 = .ok (.ireturn, 1) := by decide +kernel
