theorem dX6_act_44 : decode cX6_act 44 = .ok (.isub, 1) := by decide +kernel
theorem dX6_act_45 : decode cX6_act 45 = .ok (.istore 4, 2) := by decide +kernel
theorem dX6_act_47 : decode cX6_act 47 = .ok (.iload_n 2, 1) := by decide +kernel
theorem dX6_act_48 : decode cX6_act 48 = .ok (.invokestatic 77, 3) := by decide +kernel
theorem dX6_act_51 : decode cX6_act 51 = .ok (.ifCond .eq 16, 3) := by decide +kernel
theorem dX6_act_54 : decode cX6_act 54 = .ok (.aload_n 0, 1) := by decide +kernel
theorem dX6_act_55 : decode cX6_act 55 = .ok (.iload 4, 2) := by decide +kernel
theorem dX6_act_57 : decode cX6_act 57 = .ok (.iload_n 2, 1) := by decide +kernel
theorem dX6_act_58 : decode cX6_act 58 = .ok (.bipush 97, 2) := by decide +kernel
theorem dX6_act_60 : decode cX6_act 60 = .ok (.isub, 1) := by decide +kernel
theorem dX6_act_61 : decode cX6_act 61 = .ok (.invokevirtual 90, 3) := by decide +kernel
theorem dX6_act_64 : decode cX6_act 64 = .ok (.goto 13, 3) := by decide +kernel
theorem dX6_act_67 : decode cX6_act 67 = .ok (.aload_n 0, 1) := by decide +kernel
theorem dX6_act_68 : decode cX6_act 68 = .ok (.iload 4, 2) := by decide +kernel
theorem dX6_act_70 : decode cX6_act 70 = .ok (.iload_n 2, 1) := by decide +kernel
theorem dX6_act_71 : decode cX6_act 71 = .ok (.bipush 48, 2) := by decide +kernel
theorem dX6_act_73 : decode cX6_act 73 = .ok (.isub, 1) := by decide +kernel
theorem dX6_act_74 : decode cX6_act 74 = .ok (.invokevirtual 93, 3) := by decide +kernel
theorem dX6_act_77 : decode cX6_act 77 = .ok (.ireturn, 1) := by decide +kernel
set_option maxRecDepth 20000 in
theorem ggX6_go_X1_has : GoodIn wsX6_go wsX1_has := goodIn_r _ [7, 8, 9, 10, 11, 34, 35, 36, 37, 38, 39] (by decide +kernel) (by decide +kernel)
set_option maxRecDepth 20000 in
theorem gX6_go_X1_has : GoodIn wsX6_go (wsV RX6 96 RX1 yX1_has wsX1_has) := goodIn_app (goodIn_of _ (by decide +kernel)) ggX6_go_X1_has
set_option maxRecDepth 20000 in
theorem ggX6_go_X8_at : GoodIn wsX6_go wsX8_at := goodIn_r _ [13] (by decide +kernel) (by decide +kernel)
set_option maxRecDepth 20000 in
theorem gX6_go_X8_at_n102 : GoodIn wsX6_go (wsX8_at) := ggX6_go_X8_at
set_option maxRecDepth 20000 in
theorem ggX6_go_X8_put : GoodIn wsX6_go wsX8_put := goodIn_r _ [15] (by decide +kernel) (by decide +kernel)
set_option maxRecDepth 20000 in
theorem gX6_go_X8_put_n106 : GoodIn wsX6_go (wsX8_put) := ggX6_go_X8_put
set_option maxRecDepth 20000 in
theorem ggX6_go_X1_growHungrier : GoodIn wsX6_go wsX1_growHungrier := goodIn_r _ [19, 20, 21, 22, 23, 24, 12, 10, 13, 14, 15, 34, 35, 36, 37, 38, 39] (by decide +kernel) (by decide +kernel)
set_option maxRecDepth 20000 in
theorem gX6_go_X1_growHungrier : GoodIn wsX6_go (wsV RX6 110 RX1 yX1_growHungrier wsX1_growHungrier) := goodIn_app (goodIn_of _ (by decide +kernel)) ggX6_go_X1_growHungrier
theorem dX6_go_0 : decode cX6_go 0 = .ok (.aload_n 0, 1) := by decide +kernel
theorem dX6_go_1 : decode cX6_go 1 = .ok (.getfield 12, 3) := by decide +kernel
theorem dX6_go_4 : decode cX6_go 4 = .ok (.iload_n 1, 1) := by decide +kernel
theorem dX6_go_5 : decode cX6_go 5 = .ok (.invokevirtual 96, 3) := by decide +kernel
theorem dX6_go_8 : decode cX6_go 8 = .ok (.ifCond .ne 5, 3) := by decide +kernel
theorem dX6_go_11 : decode cX6_go 11 = .ok (.iconst 1, 1) := by decide +kernel
theorem dX6_go_12 : decode cX6_go 12 = .ok (.ireturn, 1) := by decide +kernel
theorem dX6_go_13 : decode cX6_go 13 = .ok (.aload_n 0, 1) := by decide +kernel
theorem dX6_go_14 : decode cX6_go 14 = .ok (.getfield 12, 3) := by decide +kernel
theorem dX6_go_17 : decode cX6_go 17 = .ok (.getfield 99, 3) := by decide +kernel
theorem dX6_go_20 : decode cX6_go 20 = .ok (.iload_n 1, 1) := by decide +kernel
theorem dX6_go_21 : decode cX6_go 21 = .ok (.invokestatic 102, 3) := by decide +kernel
theorem dX6_go_24 : decode cX6_go 24 = .ok (.iload_n 2, 1) := by decide +kernel
theorem dX6_go_25 : decode cX6_go 25 = .ok (.if_icmp .ne 5, 3) := by decide +kernel
theorem dX6_go_28 : decode cX6_go 28 = .ok (.iconst 2, 1) := by decide +kernel
theorem dX6_go_29 : decode cX6_go 29 = .ok (.ireturn, 1) := by decide +kernel
theorem dX6_go_30 : decode cX6_go 30 = .ok (.aload_n 0, 1) := by decide +kernel
theorem dX6_go_31 : decode cX6_go 31 = .ok (.getfield 12, 3) := by decide +kernel
theorem dX6_go_34 : decode cX6_go 34 = .ok (.getfield 99, 3) := by decide +kernel
theorem dX6_go_37 : decode cX6_go 37 = .ok (.iload_n 1, 1) := by decide +kernel
theorem dX6_go_38 : decode cX6_go 38 = .ok (.iload_n 2, 1) := by decide +kernel
theorem dX6_go_39 : decode cX6_go 39 = .ok (.invokestatic 106, 3) := by decide +kernel
theorem dX6_go_42 : decode cX6_go 42 = .ok (.aload_n 0, 1) := by decide +kernel
theorem dX6_go_43 : decode cX6_go 43 = .ok (.getfield 12, 3) := by decide +kernel
theorem dX6_go_46 : decode cX6_go 46 = .ok (.iload_n 1, 1) := by decide +kernel
theorem dX6_go_47 : decode cX6_go 47 = .ok (.invokevirtual 110, 3) := by decide +kernel
theorem dX6_go_50 : decode cX6_go 50 = .ok (.iconst 0, 1) := by decide +kernel
theorem dX6_go_51 : decode cX6_go 51 = .ok (.ireturn, 1) := by decide +kernel
set_option maxRecDepth 20000 in
theorem ggX6_pretend_X1_has : GoodIn wsX6_pretend wsX1_has := goodIn_r _ [7, 8, 9, 10, 11, 23, 24, 25, 26, 27, 28] (by decide +kernel) (by decide +kernel)
set_option maxRecDepth 20000 in
theorem gX6_pretend_X1_has : GoodIn wsX6_pretend (wsV RX6 96 RX1 yX1_has wsX1_has) := goodIn_app (goodIn_of _ (by decide +kernel)) ggX6_pretend_X1_has
set_option maxRecDepth 20000 in
theorem ggX6_pretend_X8_put : GoodIn wsX6_pretend wsX8_put := goodIn_r _ [13] (by decide +kernel) (by decide +kernel)
set_option maxRecDepth 20000 in
theorem gX6_pretend_X8_put_n106 : GoodIn wsX6_pretend (wsX8_put) := ggX6_pretend_X8_put
theorem dX6_pretend_0 : decode cX6_pretend 0 = .ok (.aload_n 0, 1) := by decide +kernel
theorem dX6_pretend_1 : decode cX6_pretend 1 = .ok (.getfield 12, 3) := by decide +kernel
theorem dX6_pretend_4 : decode cX6_pretend 4 = .ok (.iload_n 1, 1) := by decide +kernel
theorem dX6_pretend_5 : decode cX6_pretend 5 = .ok (.invokevirtual 96, 3) := by decide +kernel
theorem dX6_pretend_8 : decode cX6_pretend 8 = .ok (.ifCond .ne 5, 3) := by decide +kernel
theorem dX6_pretend_11 : decode cX6_pretend 11 = .ok (.iconst 1, 1) := by decide +kernel
theorem dX6_pretend_12 : decode cX6_pretend 12 = .ok (.ireturn, 1) := by decide +kernel
theorem dX6_pretend_13 : decode cX6_pretend 13 = .ok (.aload_n 0, 1) := by decide +kernel
theorem dX6_pretend_14 : decode cX6_pretend 14 = .ok (.getfield 12, 3) := by decide +kernel
theorem dX6_pretend_17 : decode cX6_pretend 17 = .ok (.getfield 114, 3) := by decide +kernel
theorem dX6_pretend_20 : decode cX6_pretend 20 = .ok (.iload_n 1, 1) := by decide +kernel
theorem dX6_pretend_21 : decode cX6_pretend 21 = .ok (.iload_n 2, 1) := by decide +kernel
theorem dX6_pretend_22 : decode cX6_pretend 22 = .ok (.invokestatic 106, 3) := by decide +kernel
theorem dX6_pretend_25 : decode cX6_pretend 25 = .ok (.iconst 0, 1) := by decide +kernel
theorem dX6_pretend_26 : decode cX6_pretend 26 = .ok (.ireturn, 1) := by decide +kernel
set_option maxRecDepth 20000 in
theorem ggX6_bring_X1_inside : GoodIn wsX6_bring wsX1_inside := goodIn_r _ [11, 12, 13, 14, 15, 16, 87, 88, 89, 90, 91, 92] (by decide +kernel) (by decide +kernel)
set_option maxRecDepth 20000 in
theorem gX6_bring_X1_inside : GoodIn wsX6_bring (wsV RX6 117 RX1 yX1_inside wsX1_inside) := goodIn_app (goodIn_of _ (by decide +kernel)) ggX6_bring_X1_inside
set_option maxRecDepth 20000 in
theorem ggX6_bring_X1_takers : GoodIn wsX6_bring wsX1_takers := goodIn_r _ [20, 21, 22, 23, 10, 24, 25, 26, 8, 9, 11, 12, 13, 14, 15, 16, 27, 28, 29, 30, 31, 32, 33, 34, 35, 36, 37, 38, 39, 40, 41, 42, 43, 44, 45, 46, 47, 48, 49, 50, 51, 52, 53, 54, 55, 56, 87, 88, 89, 90, 91, 92] (by decide +kernel) (by decide +kernel)
set_option maxRecDepth 20000 in
theorem gX6_bring_X1_takers : GoodIn wsX6_bring (wsV RX6 120 RX1 yX1_takers wsX1_takers) := goodIn_app (goodIn_of _ (by decide +kernel)) ggX6_bring_X1_takers
set_option maxRecDepth 20000 in
theorem ggX6_bring_X6_count : GoodIn wsX6_bring wsX6_count := goodIn_r _ [60, 14, 15, 16] (by decide +kernel) (by decide +kernel)
set_option maxRecDepth 20000 in
theorem gX6_bring_X6_count : GoodIn wsX6_bring (va_wsS RX6 123 yX6_count wsX6_count) := goodIn_app (goodIn_of _ (by decide +kernel)) ggX6_bring_X6_count
set_option maxRecDepth 20000 in
theorem ggX6_bring_X1_hungry : GoodIn wsX6_bring wsX1_hungry := goodIn_r _ [24, 25, 26, 8, 9, 10, 11, 12, 13, 14, 15, 16, 27, 28, 87, 88, 89, 90, 91, 92] (by decide +kernel) (by decide +kernel)
set_option maxRecDepth 20000 in
theorem gX6_bring_X1_hungry : GoodIn wsX6_bring (wsV RX6 126 RX1 yX1_hungry wsX1_hungry) := goodIn_app (goodIn_of _ (by decide +kernel)) ggX6_bring_X1_hungry
set_option maxRecDepth 20000 in
theorem ggX6_bring_X1_foundOut : GoodIn wsX6_bring wsX1_foundOut := goodIn_r _ [48, 25, 49, 34, 35, 36, 10, 37, 38, 39, 40, 41, 42, 43, 15, 44, 14, 16, 87, 88, 89, 90, 91, 92] (by decide +kernel) (by decide +kernel)
set_option maxRecDepth 20000 in
theorem gX6_bring_X1_foundOut : GoodIn wsX6_bring (wsV RX6 129 RX1 yX1_foundOut wsX1_foundOut) := goodIn_app (goodIn_of _ (by decide +kernel)) ggX6_bring_X1_foundOut
set_option maxRecDepth 20000 in
theorem ggX6_bring_J6_bitCount_0f7a4 : GoodIn wsX6_bring wsJ6_bitCount_0f7a4 := goodIn_r _ [66, 67, 68, 69] (by decide +kernel) (by decide +kernel)
set_option maxRecDepth 20000 in
theorem gX6_bring_J6_bitCount_0f7a4 : GoodIn wsX6_bring (va_wsS RX6 132 yJ6_bitCount_0f7a4 wsJ6_bitCount_0f7a4) := goodIn_app (goodIn_of _ (by decide +kernel)) ggX6_bring_J6_bitCount_0f7a4
set_option maxRecDepth 20000 in
theorem ggX6_bring_X1_feed : GoodIn wsX6_bring wsX1_feed := goodIn_r _ [73, 25, 74, 75, 76, 10, 77, 39, 40, 41, 42, 43, 15, 44, 14, 16, 87, 88, 89, 90, 91, 92] (by decide +kernel) (by decide +kernel)
set_option maxRecDepth 20000 in
theorem gX6_bring_X1_feed : GoodIn wsX6_bring (wsV RX6 137 RX1 yX1_feed wsX1_feed) := goodIn_app (goodIn_of _ (by decide +kernel)) ggX6_bring_X1_feed
theorem dX6_bring_0 : decode cX6_bring 0 = .ok (.aload_n 0, 1) := by decide +kernel
theorem dX6_bring_1 : decode cX6_bring 1 = .ok (.getfield 12, 3) := by decide +kernel
theorem dX6_bring_4 : decode cX6_bring 4 = .ok (.iload_n 1, 1) := by decide +kernel
theorem dX6_bring_5 : decode cX6_bring 5 = .ok (.invokevirtual 117, 3) := by decide +kernel
theorem dX6_bring_8 : decode cX6_bring 8 = .ok (.ifCond .ne 5, 3) := by decide +kernel
theorem dX6_bring_11 : decode cX6_bring 11 = .ok (.iconst 3, 1) := by decide +kernel
theorem dX6_bring_12 : decode cX6_bring 12 = .ok (.ireturn, 1) := by decide +kernel
theorem dX6_bring_13 : decode cX6_bring 13 = .ok (.aload_n 0, 1) := by decide +kernel
theorem dX6_bring_14 : decode cX6_bring 14 = .ok (.getfield 12, 3) := by decide +kernel
theorem dX6_bring_17 : decode cX6_bring 17 = .ok (.iload_n 1, 1) := by decide +kernel
theorem dX6_bring_18 : decode cX6_bring 18 = .ok (.iload_n 2, 1) := by decide +kernel
theorem dX6_bring_19 : decode cX6_bring 19 = .ok (.invokevirtual 120, 3) := by decide +kernel
theorem dX6_bring_22 : decode cX6_bring 22 = .ok (.istore_n 3, 1) := by decide +kernel
theorem dX6_bring_23 : decode cX6_bring 23 = .ok (.aload_n 0, 1) := by decide +kernel
theorem dX6_bring_24 : decode cX6_bring 24 = .ok (.getfield 18, 3) := by decide +kernel
theorem dX6_bring_27 : decode cX6_bring 27 = .ok (.iload_n 3, 1) := by decide +kernel
theorem dX6_bring_28 : decode cX6_bring 28 = .ok (.invokestatic 123, 3) := by decide +kernel
theorem dX6_bring_31 : decode cX6_bring 31 = .ok (.aload_n 0, 1) := by decide +kernel
theorem dX6_bring_32 : decode cX6_bring 32 = .ok (.getfield 22, 3) := by decide +kernel
theorem dX6_bring_35 : decode cX6_bring 35 = .ok (.aload_n 0, 1) := by decide +kernel
theorem dX6_bring_36 : decode cX6_bring 36 = .ok (.getfield 12, 3) := by decide +kernel
theorem dX6_bring_39 : decode cX6_bring 39 = .ok (.aload_n 0, 1) := by decide +kernel
theorem dX6_bring_40 : decode cX6_bring 40 = .ok (.getfield 12, 3) := by decide +kernel
theorem dX6_bring_43 : decode cX6_bring 43 = .ok (.iload_n 1, 1) := by decide +kernel
theorem dX6_bring_44 : decode cX6_bring 44 = .ok (.invokevirtual 126, 3) := by decide +kernel
theorem dX6_bring_47 : decode cX6_bring 47 = .ok (.invokevirtual 129, 3) := by decide +kernel
theorem dX6_bring_50 : decode cX6_bring 50 = .ok (.invokestatic 123, 3) := by decide +kernel
theorem dX6_bring_53 : decode cX6_bring 53 = .ok (.aload_n 0, 1) := by decide +kernel
theorem dX6_bring_54 : decode cX6_bring 54 = .ok (.dup, 1) := by decide +kernel
theorem dX6_bring_55 : decode cX6_bring 55 = .ok (.getfield 38, 3) := by decide +kernel
theorem dX6_bring_58 : decode cX6_bring 58 = .ok (.iload_n 2, 1) := by decide +kernel
theorem dX6_bring_59 : decode cX6_bring 59 = .ok (.iload_n 3, 1) := by decide +kernel
theorem dX6_bring_60 : decode cX6_bring 60 = .ok (.invokestatic 132, 3) := by decide +kernel
theorem dX6_bring_63 : decode cX6_bring 63 = .ok (.isub, 1) := by decide +kernel
theorem dX6_bring_64 : decode cX6_bring 64 = .ok (.iadd, 1) := by decide +kernel
theorem dX6_bring_65 : decode cX6_bring 65 = .ok (.putfield 38, 3) := by decide +kernel
theorem dX6_bring_68 : decode cX6_bring 68 = .ok (.iload_n 3, 1) := by decide +kernel
theorem dX6_bring_69 : decode cX6_bring 69 = .ok (.ifCond .ne 20, 3) := by decide +kernel
theorem dX6_bring_72 : decode cX6_bring 72 = .ok (.aload_n 0, 1) := by decide +kernel
theorem dX6_bring_73 : decode cX6_bring 73 = .ok (.getfield 45, 3) := by decide +kernel
theorem dX6_bring_76 : decode cX6_bring 76 = .ok (.bipush (-6), 2) := by decide +kernel
theorem dX6_bring_78 : decode cX6_bring 78 = .ok (.if_icmp .ne 11, 3) := by decide +kernel
theorem dX6_bring_81 : decode cX6_bring 81 = .ok (.aload_n 0, 1) := by decide +kernel
theorem dX6_bring_82 : decode cX6_bring 82 = .ok (.aload_n 0, 1) := by decide +kernel
theorem dX6_bring_83 : decode cX6_bring 83 = .ok (.getfield 42, 3) := by decide +kernel
theorem dX6_bring_86 : decode cX6_bring 86 = .ok (.putfield 45, 3) := by decide +kernel
theorem dX6_bring_89 : decode cX6_bring 89 = .ok (.aload_n 0, 1) := by decide +kernel
theorem dX6_bring_90 : decode cX6_bring 90 = .ok (.getfield 12, 3) := by decide +kernel
theorem dX6_bring_93 : decode cX6_bring 93 = .ok (.iload_n 3, 1) := by decide +kernel
theorem dX6_bring_94 : decode cX6_bring 94 = .ok (.invokevirtual 137, 3) := by decide +kernel
theorem dX6_bring_97 : decode cX6_bring 97 = .ok (.iconst 0, 1) := by decide +kernel
theorem dX6_bring_98 : decode cX6_bring 98 = .ok (.ireturn, 1) := by decide +kernel
set_option maxRecDepth 20000 in
theorem ggX6_count_X8_holds : GoodIn wsX6_count wsX8_holds := goodIn_r _ [3] (by decide +kernel) (by decide +kernel)
set_option maxRecDepth 20000 in
theorem gX6_count_X8_holds_n140 : GoodIn wsX6_count (wsX8_holds) := ggX6_count_X8_holds
theorem dX6_count_0 : decode cX6_count 0 = .ok (.iconst 0, 1) := by decide +kernel
theorem dX6_count_1 : decode cX6_count 1 = .ok (.istore_n 2, 1) := by decide +kernel
theorem dX6_count_2 : decode cX6_count 2 = .ok (.iload_n 2, 1) := by decide +kernel
theorem dX6_count_3 : decode cX6_count 3 = .ok (.aload_n 0, 1) := by decide +kernel
theorem dX6_count_4 : decode cX6_count 4 = .ok (.arraylength, 1) := by decide +kernel
theorem dX6_count_5 : decode cX6_count 5 = .ok (.if_icmp .ge 28, 3) := by decide +kernel
theorem dX6_count_8 : decode cX6_count 8 = .ok (.aload_n 0, 1) := by decide +kernel
theorem dX6_count_9 : decode cX6_count 9 = .ok (.iload_n 2, 1) := by decide +kernel
theorem dX6_count_10 : decode cX6_count 10 = .ok (.dup2, 1) := by decide +kernel
theorem dX6_count_11 : decode cX6_count 11 = .ok (.iaload, 1) := by decide +kernel
theorem dX6_count_12 : decode cX6_count 12 = .ok (.iload_n 1, 1) := by decide +kernel
theorem dX6_count_13 : decode cX6_count 13 = .ok (.iload_n 2, 1) := by decide +kernel
theorem dX6_count_14 : decode cX6_count 14 = .ok (.invokestatic 140, 3) := by decide +kernel
theorem dX6_count_17 : decode cX6_count 17 = .ok (.ifCond .eq 7, 3) := by decide +kernel
theorem dX6_count_20 : decode cX6_count 20 = .ok (.iconst 1, 1) := by decide +kernel
theorem dX6_count_21 : decode cX6_count 21 = .ok (.goto 4, 3) := by decide +kernel
theorem dX6_count_24 : decode cX6_count 24 = .ok (.iconst 0, 1) := by decide +kernel
theorem dX6_count_25 : decode cX6_count 25 = .ok (.iadd, 1) := by decide +kernel
theorem dX6_count_26 : decode cX6_count 26 = .ok (.iastore, 1) := by decide +kernel
theorem dX6_count_27 : decode cX6_count 27 = .ok (.iinc 2 1, 3) := by decide +kernel
theorem dX6_count_30 : decode cX6_count 30 = .ok (.goto (-28), 3) := by decide +kernel
theorem dX6_count_33 : decode cX6_count 33 = .ok (.return_, 1) := by decide +kernel
set_option maxRecDepth 20000 in
theorem ggX6_walk_X6_begin : GoodIn wsX6_walk wsX6_begin := goodIn_r _ [8, 2, 9, 10, 11, 12, 13, 14, 15, 16, 17, 18, 19, 20, 21, 22, 23, 24, 25, 26, 27, 28, 29, 30, 31, 32, 33, 34, 35, 36, 37, 38, 39, 40, 134, 135, 136, 137, 138, 139, 140, 141, 142, 143, 144, 145, 146, 147, 148] (by decide +kernel) (by decide +kernel)
set_option maxRecDepth 20000 in
theorem gX6_walk_X6_begin : GoodIn wsX6_walk (wsV RX6 54 RX6 yX6_begin wsX6_begin) := goodIn_app (goodIn_of _ (by decide +kernel)) ggX6_walk_X6_begin
set_option maxRecDepth 20000 in
theorem ggX6_walk_X8_spread : GoodIn wsX6_walk wsX8_spread := goodIn_r _ [42, 43, 44, 27, 45] (by decide +kernel) (by decide +kernel)
set_option maxRecDepth 20000 in
theorem gX6_walk_X8_spread_n144 : GoodIn wsX6_walk (wsX8_spread) := ggX6_walk_X8_spread
set_option maxRecDepth 20000 in
theorem ggX6_walk_X8_at : GoodIn wsX6_walk wsX8_at := goodIn_r _ [47] (by decide +kernel) (by decide +kernel)
set_option maxRecDepth 20000 in
theorem gX6_walk_X8_at_n102 : GoodIn wsX6_walk (wsX8_at) := ggX6_walk_X8_at
set_option maxRecDepth 20000 in
theorem ggX6_walk_X6_go : GoodIn wsX6_walk wsX6_go := goodIn_r _ [51, 2, 52, 53, 54, 55, 19, 56, 24, 44, 27, 45, 46, 47, 57, 58, 59, 60, 61, 62, 21, 63, 30, 31, 32, 134, 135, 136, 137, 138, 139, 140, 141, 142, 143, 144, 145, 146, 147, 148] (by decide +kernel) (by decide +kernel)
set_option maxRecDepth 20000 in
theorem gX6_walk_X6_go : GoodIn wsX6_walk (wsV RX6 90 RX6 yX6_go wsX6_go) := goodIn_app (goodIn_of _ (by decide +kernel)) ggX6_walk_X6_go
set_option maxRecDepth 20000 in
theorem ggX6_walk_X6_bringIfAny : GoodIn wsX6_walk wsX6_bringIfAny := goodIn_r _ [67, 68, 69, 70, 7, 71, 2, 9, 10, 11, 13, 12, 72, 73, 74, 19, 75, 23, 24, 44, 27, 45, 76, 77, 78, 79, 80, 81, 82, 83, 21, 84, 85, 86, 87, 88, 89, 90, 91, 92, 93, 94, 95, 22, 96, 97, 31, 98, 46, 47, 99, 100, 101, 102, 25, 103, 104, 43, 105, 106, 107, 108, 109, 110, 111, 112, 113, 114, 115, 116, 117, 118, 119, 120, 121, 122, 123, 124, 125, 126, 127, 128, 134, 135, 136, 137, 138, 139, 140, 141, 142, 143, 144, 145, 146, 147, 148] (by decide +kernel) (by decide +kernel)
set_option maxRecDepth 20000 in
theorem gX6_walk_X6_bringIfAny : GoodIn wsX6_walk (wsV RX6 148 RX6 yX6_bringIfAny wsX6_bringIfAny) := goodIn_app (goodIn_of _ (by decide +kernel)) ggX6_walk_X6_bringIfAny
set_option maxRecDepth 20000 in
theorem ggX6_walk_X1_passHour : GoodIn wsX6_walk wsX1_passHour := goodIn_r _ [132, 133, 60, 61, 19, 62, 21, 63, 30, 31, 32, 46, 27, 47, 57, 58, 143, 144, 145, 146, 147, 148] (by decide +kernel) (by decide +kernel)
set_option maxRecDepth 20000 in
theorem gX6_walk_X1_passHour : GoodIn wsX6_walk (wsV RX6 74 RX1 yX1_passHour wsX1_passHour) := goodIn_app (goodIn_of _ (by decide +kernel)) ggX6_walk_X1_passHour
theorem dX6_walk_0 : decode cX6_walk 0 = .ok (.aload_n 0, 1) := by decide +kernel
theorem dX6_walk_1 : decode cX6_walk 1 = .ok (.aload_n 1, 1) := by decide +kernel
theorem dX6_walk_2 : decode cX6_walk 2 = .ok (.invokevirtual 54, 3) := by decide +kernel
theorem dX6_walk_5 : decode cX6_walk 5 = .ok (.aload_n 0, 1) := by decide +kernel
theorem dX6_walk_6 : decode cX6_walk 6 = .ok (.getfield 25, 3) := by decide +kernel
theorem dX6_walk_9 : decode cX6_walk 9 = .ok (.iconst 1, 1) := by decide +kernel
theorem dX6_walk_10 : decode cX6_walk 10 = .ok (.iload_n 3, 1) := by decide +kernel
theorem dX6_walk_11 : decode cX6_walk 11 = .ok (.ishl, 1) := by decide +kernel
theorem dX6_walk_12 : decode cX6_walk 12 = .ok (.iconst 1, 1) := by decide +kernel
theorem dX6_walk_13 : decode cX6_walk 13 = .ok (.isub, 1) := by decide +kernel
theorem dX6_walk_14 : decode cX6_walk 14 = .ok (.iload 5, 2) := by decide +kernel
theorem dX6_walk_16 : decode cX6_walk 16 = .ok (.iconst 3, 1) := by decide +kernel
theorem dX6_walk_17 : decode cX6_walk 17 = .ok (.iconst 1, 1) := by decide +kernel
theorem dX6_walk_18 : decode cX6_walk 18 = .ok (.invokestatic 144, 3) := by decide +kernel
theorem dX6_walk_21 : decode cX6_walk 21 = .ok (.iconst 0, 1) := by decide +kernel
theorem dX6_walk_22 : decode cX6_walk 22 = .ok (.istore 6, 2) := by decide +kernel
theorem dX6_walk_24 : decode cX6_walk 24 = .ok (.iload 6, 2) := by decide +kernel
theorem dX6_walk_26 : decode cX6_walk 26 = .ok (.iload_n 3, 1) := by decide +kernel
theorem dX6_walk_27 : decode cX6_walk 27 = .ok (.if_icmp .ge 64, 3) := by decide +kernel
theorem dX6_walk_30 : decode cX6_walk 30 = .ok (.aload_n 0, 1) := by decide +kernel
theorem dX6_walk_31 : decode cX6_walk 31 = .ok (.iload_n 2, 1) := by decide +kernel
theorem dX6_walk_32 : decode cX6_walk 32 = .ok (.aload_n 0, 1) := by decide +kernel
theorem dX6_walk_33 : decode cX6_walk 33 = .ok (.getfield 25, 3) := by decide +kernel
theorem dX6_walk_36 : decode cX6_walk 36 = .ok (.iload 6, 2) := by decide +kernel
theorem dX6_walk_38 : decode cX6_walk 38 = .ok (.invokestatic 102, 3) := by decide +kernel
theorem dX6_walk_41 : decode cX6_walk 41 = .ok (.invokevirtual 90, 3) := by decide +kernel
theorem dX6_walk_44 : decode cX6_walk 44 = .ok (.pop, 1) := by decide +kernel
theorem dX6_walk_45 : decode cX6_walk 45 = .ok (.aload_n 0, 1) := by decide +kernel
theorem dX6_walk_46 : decode cX6_walk 46 = .ok (.iconst 0, 1) := by decide +kernel
theorem dX6_walk_47 : decode cX6_walk 47 = .ok (.iload 4, 2) := by decide +kernel
theorem dX6_walk_49 : decode cX6_walk 49 = .ok (.bipush 100, 2) := by decide +kernel
theorem dX6_walk_51 : decode cX6_walk 51 = .ok (.idiv, 1) := by decide +kernel
theorem dX6_walk_52 : decode cX6_walk 52 = .ok (.invokevirtual 148, 3) := by decide +kernel
theorem dX6_walk_55 : decode cX6_walk 55 = .ok (.aload_n 0, 1) := by decide +kernel
theorem dX6_walk_56 : decode cX6_walk 56 = .ok (.iconst 1, 1) := by decide +kernel
theorem dX6_walk_57 : decode cX6_walk 57 = .ok (.iload 4, 2) := by decide +kernel
theorem dX6_walk_59 : decode cX6_walk 59 = .ok (.bipush 10, 2) := by decide +kernel
theorem dX6_walk_61 : decode cX6_walk 61 = .ok (.idiv, 1) := by decide +kernel
theorem dX6_walk_62 : decode cX6_walk 62 = .ok (.bipush 10, 2) := by decide +kernel
theorem dX6_walk_64 : decode cX6_walk 64 = .ok (.irem, 1) := by decide +kernel
theorem dX6_walk_65 : decode cX6_walk 65 = .ok (.invokevirtual 148, 3) := by decide +kernel
theorem dX6_walk_68 : decode cX6_walk 68 = .ok (.aload_n 0, 1) := by decide +kernel
theorem dX6_walk_69 : decode cX6_walk 69 = .ok (.iconst 2, 1) := by decide +kernel
theorem dX6_walk_70 : decode cX6_walk 70 = .ok (.iload 4, 2) := by decide +kernel
theorem dX6_walk_72 : decode cX6_walk 72 = .ok (.bipush 10, 2) := by decide +kernel
theorem dX6_walk_74 : decode cX6_walk 74 = .ok (.irem, 1) := by decide +kernel
theorem dX6_walk_75 : decode cX6_walk 75 = .ok (.invokevirtual 148, 3) := by decide +kernel
theorem dX6_walk_78 : decode cX6_walk 78 = .ok (.aload_n 0, 1) := by decide +kernel
theorem dX6_walk_79 : decode cX6_walk 79 = .ok (.getfield 12, 3) := by decide +kernel
theorem dX6_walk_82 : decode cX6_walk 82 = .ok (.invokevirtual 74, 3) := by decide +kernel
theorem dX6_walk_85 : decode cX6_walk 85 = .ok (.iinc 6 1, 3) := by decide +kernel
theorem dX6_walk_88 : decode cX6_walk 88 = .ok (.goto (-64), 3) := by decide +kernel
theorem dX6_walk_91 : decode cX6_walk 91 = .ok (.aload_n 0, 1) := by decide +kernel
theorem dX6_walk_92 : decode cX6_walk 92 = .ok (.getfield 12, 3) := by decide +kernel
theorem dX6_walk_95 : decode cX6_walk 95 = .ok (.getfield 152, 3) := by decide +kernel
theorem dX6_walk_98 : decode cX6_walk 98 = .ok (.iload_n 2, 1) := by decide +kernel
theorem dX6_walk_99 : decode cX6_walk 99 = .ok (.invokestatic 102, 3) := by decide +kernel
theorem dX6_walk_102 : decode cX6_walk 102 = .ok (.ireturn, 1) := by decide +kernel
set_option maxRecDepth 20000 in
theorem ggX6_bringIfAny_X6_bring : GoodIn wsX6_bringIfAny wsX6_bring := goodIn_r _ [5, 6, 7, 8, 9, 10, 11, 12, 13, 14, 15, 16, 17, 18, 19, 20, 21, 22, 23, 24, 25, 26, 27, 28, 29, 30, 31, 32, 33, 34, 35, 36, 37, 38, 39, 40, 41, 42, 43, 44, 45, 46, 47, 48, 49, 50, 51, 52, 53, 54, 55, 56, 57, 58, 59, 60, 61, 62, 63, 4, 64, 65, 66, 67, 68, 69, 70, 71, 72, 73, 74, 75, 76, 77, 78, 79, 80, 81, 82, 83, 84, 85, 86, 87, 88, 89, 90, 91, 92, 93, 94, 95, 96] (by decide +kernel) (by decide +kernel)
set_option maxRecDepth 20000 in
theorem gX6_bringIfAny_X6_bring : GoodIn wsX6_bringIfAny (wsV RX6 87 RX6 yX6_bring wsX6_bring) := goodIn_app (goodIn_of _ (by decide +kernel)) ggX6_bringIfAny_X6_bring
theorem dX6_bringIfAny_0 : decode cX6_bringIfAny 0 = .ok (.iload_n 2, 1) := by decide +kernel
theorem dX6_bringIfAny_1 : decode cX6_bringIfAny 1 = .ok (.ifCond .le 10, 3) := by decide +kernel
theorem dX6_bringIfAny_4 : decode cX6_bringIfAny 4 = .ok (.aload_n 0, 1) := by decide +kernel
theorem dX6_bringIfAny_5 : decode cX6_bringIfAny 5 = .ok (.iload_n 1, 1) := by decide +kernel
theorem dX6_bringIfAny_6 : decode cX6_bringIfAny 6 = .ok (.iload_n 2, 1) := by decide +kernel
theorem dX6_bringIfAny_7 : decode cX6_bringIfAny 7 = .ok (.invokevirtual 87, 3) := by decide +kernel
theorem dX6_bringIfAny_10 : decode cX6_bringIfAny 10 = .ok (.pop, 1) := by decide +kernel
theorem dX6_bringIfAny_11 : decode cX6_bringIfAny 11 = .ok (.return_, 1) := by decide +kernel
set_option maxRecDepth 20000 in
theorem ggX6_firstStop_X8_at : GoodIn wsX6_firstStop wsX8_at := goodIn_r _ [4] (by decide +kernel) (by decide +kernel)
set_option maxRecDepth 20000 in
theorem gX6_firstStop_X8_at_n102 : GoodIn wsX6_firstStop (wsX8_at) := ggX6_firstStop_X8_at
theorem dX6_firstStop_0 : decode cX6_firstStop 0 = .ok (.aload_n 0, 1) := by decide +kernel
theorem dX6_firstStop_1 : decode cX6_firstStop 1 = .ok (.getfield 25, 3) := by decide +kernel
theorem dX6_firstStop_4 : decode cX6_firstStop 4 = .ok (.iconst 0, 1) := by decide +kernel
theorem dX6_firstStop_5 : decode cX6_firstStop 5 = .ok (.invokestatic 102, 3) := by decide +kernel
theorem dX6_firstStop_8 : decode cX6_firstStop 8 = .ok (.ireturn, 1) := by decide +kernel
set_option maxRecDepth 20000 in
theorem ggX6_draw_X6_begin : GoodIn wsX6_draw wsX6_begin := goodIn_r _ [6, 7, 8, 9, 10, 11, 12, 13, 14, 15, 16, 17, 18, 19, 20, 21, 22, 23, 24, 25, 26, 27, 28, 29, 30, 31, 32, 33, 34, 35, 36, 37, 38, 39, 136, 137, 138, 139, 140, 141, 142, 143, 144, 145, 146, 147, 148, 149, 150] (by decide +kernel) (by decide +kernel)
set_option maxRecDepth 20000 in
theorem gX6_draw_X6_begin : GoodIn wsX6_draw (wsV RX6 54 RX6 yX6_begin wsX6_begin) := goodIn_app (goodIn_of _ (by decide +kernel)) ggX6_draw_X6_begin
set_option maxRecDepth 20000 in
theorem ggX6_draw_X6_actDrawn : GoodIn wsX6_draw wsX6_actDrawn := goodIn_r _ [43, 7, 44, 45, 46, 18, 47, 48, 49, 50, 51, 20, 52, 29, 30, 31, 53, 26, 54, 55, 56, 57, 58, 59, 5, 60, 61, 62, 63, 64, 65, 23, 66, 67, 68, 69, 70, 71, 72, 73, 74, 75, 76, 77, 8, 9, 10, 12, 11, 78, 79, 80, 81, 22, 82, 83, 84, 85, 86, 87, 88, 89, 90, 91, 92, 93, 94, 95, 96, 97, 98, 99, 100, 101, 21, 102, 103, 104, 105, 106, 107, 108, 24, 109, 110, 111, 112, 113, 114, 115, 116, 117, 118, 119, 120, 121, 122, 123, 124, 125, 126, 127, 128, 129, 130, 131, 132, 133, 134, 135, 136, 137, 138, 139, 140, 141, 142, 143, 144, 145, 146, 147, 148, 149, 150] (by decide +kernel) (by decide +kernel)
set_option maxRecDepth 20000 in
theorem gX6_draw_X6_actDrawn : GoodIn wsX6_draw (wsV RX6 156 RX6 yX6_actDrawn wsX6_actDrawn) := goodIn_app (goodIn_of _ (by decide +kernel)) ggX6_draw_X6_actDrawn
theorem dX6_draw_0 : decode cX6_draw 0 = .ok (.aload_n 0, 1) := by decide +kernel
theorem dX6_draw_1 : decode cX6_draw 1 = .ok (.aload_n 1, 1) := by decide +kernel
theorem dX6_draw_2 : decode cX6_draw 2 = .ok (.invokevirtual 54, 3) := by decide +kernel
theorem dX6_draw_5 : decode cX6_draw 5 = .ok (.iload_n 2, 1) := by decide +kernel
theorem dX6_draw_6 : decode cX6_draw 6 = .ok (.istore 4, 2) := by decide +kernel
theorem dX6_draw_8 : decode cX6_draw 8 = .ok (.iconst 0, 1) := by decide +kernel
theorem dX6_draw_9 : decode cX6_draw 9 = .ok (.istore 5, 2) := by decide +kernel
theorem dX6_draw_11 : decode cX6_draw 11 = .ok (.iload 5, 2) := by decide +kernel
theorem dX6_draw_13 : decode cX6_draw 13 = .ok (.iload_n 3, 1) := by decide +kernel
theorem dX6_draw_14 : decode cX6_draw 14 = .ok (.if_icmp .ge 28, 3) := by decide +kernel
theorem dX6_draw_17 : decode cX6_draw 17 = .ok (.bipush 75, 2) := by decide +kernel
theorem dX6_draw_19 : decode cX6_draw 19 = .ok (.iload 4, 2) := by decide +kernel
theorem dX6_draw_21 : decode cX6_draw 21 = .ok (.imul, 1) := by decide +kernel
theorem dX6_draw_22 : decode cX6_draw 22 = .ok (.bipush 74, 2) := by decide +kernel
theorem dX6_draw_24 : decode cX6_draw 24 = .ok (.iadd, 1) := by decide +kernel
theorem dX6_draw_25 : decode cX6_draw 25 = .ok (.ldc 155, 2) := by decide +kernel
theorem dX6_draw_27 : decode cX6_draw 27 = .ok (.irem, 1) := by decide +kernel
theorem dX6_draw_28 : decode cX6_draw 28 = .ok (.istore 4, 2) := by decide +kernel
theorem dX6_draw_30 : decode cX6_draw 30 = .ok (.aload_n 0, 1) := by decide +kernel
theorem dX6_draw_31 : decode cX6_draw 31 = .ok (.iload 4, 2) := by decide +kernel
theorem dX6_draw_33 : decode cX6_draw 33 = .ok (.invokevirtual 156, 3) := by decide +kernel
theorem dX6_draw_36 : decode cX6_draw 36 = .ok (.iinc 5 1, 3) := by decide +kernel
theorem dX6_draw_39 : decode cX6_draw 39 = .ok (.goto (-28), 3) := by decide +kernel
theorem dX6_draw_42 : decode cX6_draw 42 = .ok (.return_, 1) := by decide +kernel
set_option maxRecDepth 20000 in
theorem ggX6_actDrawn_X1_passHour : GoodIn wsX6_actDrawn wsX1_passHour := goodIn_r _ [6, 7, 8, 9, 5, 10, 11, 12, 13, 14, 15, 16, 17, 18, 19, 20, 119, 120, 121, 122, 123, 124] (by decide +kernel) (by decide +kernel)
set_option maxRecDepth 20000 in
theorem gX6_actDrawn_X1_passHour : GoodIn wsX6_actDrawn (wsV RX6 74 RX1 yX1_passHour wsX1_passHour) := goodIn_app (goodIn_of _ (by decide +kernel)) ggX6_actDrawn_X1_passHour
set_option maxRecDepth 20000 in
theorem ggX6_actDrawn_X6_go : GoodIn wsX6_actDrawn wsX6_go := goodIn_r _ [25, 1, 26, 27, 28, 29, 5, 30, 31, 32, 17, 33, 16, 18, 19, 20, 34, 8, 9, 10, 11, 12, 13, 14, 15, 110, 111, 112, 113, 114, 115, 116, 117, 118, 119, 120, 121, 122, 123, 124] (by decide +kernel) (by decide +kernel)
set_option maxRecDepth 20000 in
theorem gX6_actDrawn_X6_go : GoodIn wsX6_actDrawn (wsV RX6 90 RX6 yX6_go wsX6_go) := goodIn_app (goodIn_of _ (by decide +kernel)) ggX6_actDrawn_X6_go
set_option maxRecDepth 20000 in
theorem ggX6_actDrawn_X6_pretend : GoodIn wsX6_actDrawn wsX6_pretend := goodIn_r _ [38, 1, 39, 27, 28, 29, 5, 30, 31, 32, 17, 33, 19, 20, 110, 111, 112, 113, 114, 115, 116, 117, 118, 119, 120, 121, 122, 123, 124] (by decide +kernel) (by decide +kernel)
set_option maxRecDepth 20000 in
theorem gX6_actDrawn_X6_pretend : GoodIn wsX6_actDrawn (wsV RX6 93 RX6 yX6_pretend wsX6_pretend) := goodIn_app (goodIn_of _ (by decide +kernel)) ggX6_actDrawn_X6_pretend
set_option maxRecDepth 20000 in
theorem ggX6_actDrawn_X6_bring : GoodIn wsX6_actDrawn wsX6_bring := goodIn_r _ [43, 1, 44, 45, 46, 47, 48, 49, 50, 51, 5, 52, 53, 31, 32, 17, 33, 54, 55, 56, 57, 58, 59, 60, 61, 11, 62, 63, 64, 65, 66, 67, 68, 69, 70, 71, 72, 73, 74, 75, 76, 14, 77, 16, 18, 78, 79, 80, 81, 82, 83, 84, 85, 86, 87, 88, 89, 90, 91, 24, 92, 93, 94, 95, 96, 97, 98, 99, 100, 101, 102, 103, 104, 105, 106, 107, 108, 109, 110, 111, 112, 113, 114, 115, 116, 117, 118, 119, 120, 121, 122, 123, 124] (by decide +kernel) (by decide +kernel)
set_option maxRecDepth 20000 in
theorem gX6_actDrawn_X6_bring : GoodIn wsX6_actDrawn (wsV RX6 87 RX6 yX6_bring wsX6_bring) := goodIn_app (goodIn_of _ (by decide +kernel)) ggX6_actDrawn_X6_bring
theorem dX6_actDrawn_0 : decode cX6_actDrawn 0 = .ok (.iload_n 1, 1) := by decide +kernel
theorem dX6_actDrawn_1 : decode cX6_actDrawn 1 = .ok (.iconst 4, 1) := by decide +kernel
theorem dX6_actDrawn_2 : decode cX6_actDrawn 2 = .ok (.irem, 1) := by decide +kernel
theorem dX6_actDrawn_3 : decode cX6_actDrawn 3 = .ok (.tableswitch 76 0 2 #[25, 35, 55], 25) := by decide +kernel
theorem dX6_actDrawn_28 : decode cX6_actDrawn 28 = .ok (.aload_n 0, 1) := by decide +kernel
theorem dX6_actDrawn_29 : decode cX6_actDrawn 29 = .ok (.getfield 12, 3) := by decide +kernel
theorem dX6_actDrawn_32 : decode cX6_actDrawn 32 = .ok (.invokevirtual 74, 3) := by decide +kernel
theorem dX6_actDrawn_35 : decode cX6_actDrawn 35 = .ok (.goto 63, 3) := by decide +kernel
theorem dX6_actDrawn_38 : decode cX6_actDrawn 38 = .ok (.aload_n 0, 1) := by decide +kernel
theorem dX6_actDrawn_39 : decode cX6_actDrawn 39 = .ok (.iload_n 1, 1) := by decide +kernel
theorem dX6_actDrawn_40 : decode cX6_actDrawn 40 = .ok (.iconst 4, 1) := by decide +kernel
theorem dX6_actDrawn_41 : decode cX6_actDrawn 41 = .ok (.idiv, 1) := by decide +kernel
theorem dX6_actDrawn_42 : decode cX6_actDrawn 42 = .ok (.bipush 6, 2) := by decide +kernel
theorem dX6_actDrawn_44 : decode cX6_actDrawn 44 = .ok (.irem, 1) := by decide +kernel
theorem dX6_actDrawn_45 : decode cX6_actDrawn 45 = .ok (.iload_n 1, 1) := by decide +kernel
theorem dX6_actDrawn_46 : decode cX6_actDrawn 46 = .ok (.bipush 32, 2) := by decide +kernel
theorem dX6_actDrawn_48 : decode cX6_actDrawn 48 = .ok (.idiv, 1) := by decide +kernel
theorem dX6_actDrawn_49 : decode cX6_actDrawn 49 = .ok (.iconst 3, 1) := by decide +kernel
theorem dX6_actDrawn_50 : decode cX6_actDrawn 50 = .ok (.irem, 1) := by decide +kernel
theorem dX6_actDrawn_51 : decode cX6_actDrawn 51 = .ok (.invokevirtual 90, 3) := by decide +kernel
theorem dX6_actDrawn_54 : decode cX6_actDrawn 54 = .ok (.pop, 1) := by decide +kernel
theorem dX6_actDrawn_55 : decode cX6_actDrawn 55 = .ok (.goto 43, 3) := by decide +kernel
theorem dX6_actDrawn_58 : decode cX6_actDrawn 58 = .ok (.aload_n 0, 1) := by decide +kernel
theorem dX6_actDrawn_59 : decode cX6_actDrawn 59 = .ok (.iload_n 1, 1) := by decide +kernel
theorem dX6_actDrawn_60 : decode cX6_actDrawn 60 = .ok (.iconst 4, 1) := by decide +kernel
theorem dX6_actDrawn_61 : decode cX6_actDrawn 61 = .ok (.idiv, 1) := by decide +kernel
theorem dX6_actDrawn_62 : decode cX6_actDrawn 62 = .ok (.bipush 6, 2) := by decide +kernel
theorem dX6_actDrawn_64 : decode cX6_actDrawn 64 = .ok (.irem, 1) := by decide +kernel
theorem dX6_actDrawn_65 : decode cX6_actDrawn 65 = .ok (.iload_n 1, 1) := by decide +kernel
theorem dX6_actDrawn_66 : decode cX6_actDrawn 66 = .ok (.bipush 32, 2) := by decide +kernel
theorem dX6_actDrawn_68 : decode cX6_actDrawn 68 = .ok (.idiv, 1) := by decide +kernel
theorem dX6_actDrawn_69 : decode cX6_actDrawn 69 = .ok (.bipush 10, 2) := by decide +kernel
theorem dX6_actDrawn_71 : decode cX6_actDrawn 71 = .ok (.irem, 1) := by decide +kernel
theorem dX6_actDrawn_72 : decode cX6_actDrawn 72 = .ok (.invokevirtual 93, 3) := by decide +kernel
theorem dX6_actDrawn_75 : decode cX6_actDrawn 75 = .ok (.pop, 1) := by decide +kernel
theorem dX6_actDrawn_76 : decode cX6_actDrawn 76 = .ok (.goto 22, 3) := by decide +kernel
theorem dX6_actDrawn_79 : decode cX6_actDrawn 79 = .ok (.aload_n 0, 1) := by decide +kernel
theorem dX6_actDrawn_80 : decode cX6_actDrawn 80 = .ok (.iload_n 1, 1) := by decide +kernel
theorem dX6_actDrawn_81 : decode cX6_actDrawn 81 = .ok (.bipush 64, 2) := by decide +kernel
theorem dX6_actDrawn_83 : decode cX6_actDrawn 83 = .ok (.idiv, 1) := by decide +kernel
theorem dX6_actDrawn_84 : decode cX6_actDrawn 84 = .ok (.iconst 3, 1) := by decide +kernel
theorem dX6_actDrawn_85 : decode cX6_actDrawn 85 = .ok (.irem, 1) := by decide +kernel
theorem dX6_actDrawn_86 : decode cX6_actDrawn 86 = .ok (.iconst 1, 1) := by decide +kernel
theorem dX6_actDrawn_87 : decode cX6_actDrawn 87 = .ok (.iload_n 1, 1) := by decide +kernel
theorem dX6_actDrawn_88 : decode cX6_actDrawn 88 = .ok (.iconst 4, 1) := by decide +kernel
theorem dX6_actDrawn_89 : decode cX6_actDrawn 89 = .ok (.idiv, 1) := by decide +kernel
theorem dX6_actDrawn_90 : decode cX6_actDrawn 90 = .ok (.bipush 9, 2) := by decide +kernel
theorem dX6_actDrawn_92 : decode cX6_actDrawn 92 = .ok (.irem, 1) := by decide +kernel
theorem dX6_actDrawn_93 : decode cX6_actDrawn 93 = .ok (.iadd, 1) := by decide +kernel
theorem dX6_actDrawn_94 : decode cX6_actDrawn 94 = .ok (.invokevirtual 87, 3) := by decide +kernel
theorem dX6_actDrawn_97 : decode cX6_actDrawn 97 = .ok (.pop, 1) := by decide +kernel
theorem dX6_actDrawn_98 : decode cX6_actDrawn 98 = .ok (.return_, 1) := by decide +kernel
theorem dX6_portionsOfAll_0 : decode cX6_portionsOfAll 0 = .ok (.iconst 0, 1) := by decide +kernel
theorem dX6_portionsOfAll_1 : decode cX6_portionsOfAll 1 = .ok (.istore_n 1, 1) := by decide +kernel
theorem dX6_portionsOfAll_2 : decode cX6_portionsOfAll 2 = .ok (.iconst 0, 1) := by decide +kernel
theorem dX6_portionsOfAll_3 : decode cX6_portionsOfAll 3 = .ok (.istore_n 2, 1) := by decide +kernel
theorem dX6_portionsOfAll_4 : decode cX6_portionsOfAll 4 = .ok (.iload_n 2, 1) := by decide +kernel
theorem dX6_portionsOfAll_5 : decode cX6_portionsOfAll 5 = .ok (.aload_n 0, 1) := by decide +kernel
theorem dX6_portionsOfAll_6 : decode cX6_portionsOfAll 6 = .ok (.getfield 18, 3) := by decide +kernel
theorem dX6_portionsOfAll_9 : decode cX6_portionsOfAll 9 = .ok (.arraylength, 1) := by decide +kernel
theorem dX6_portionsOfAll_10 : decode cX6_portionsOfAll 10 = .ok (.if_icmp .ge 18, 3) := by decide +kernel
theorem dX6_portionsOfAll_13 : decode cX6_portionsOfAll 13 = .ok (.iload_n 1, 1) := by decide +kernel
theorem dX6_portionsOfAll_14 : decode cX6_portionsOfAll 14 = .ok (.aload_n 0, 1) := by decide +kernel
theorem dX6_portionsOfAll_15 : decode cX6_portionsOfAll 15 = .ok (.getfield 18, 3) := by decide +kernel
theorem dX6_portionsOfAll_18 : decode cX6_portionsOfAll 18 = .ok (.iload_n 2, 1) := by decide +kernel
theorem dX6_portionsOfAll_19 : decode cX6_portionsOfAll 19 = .ok (.iaload, 1) := by decide +kernel
theorem dX6_portionsOfAll_20 : decode cX6_portionsOfAll 20 = .ok (.iadd, 1) := by decide +kernel
theorem dX6_portionsOfAll_21 : decode cX6_portionsOfAll 21 = .ok (.istore_n 1, 1) := by decide +kernel
theorem dX6_portionsOfAll_22 : decode cX6_portionsOfAll 22 = .ok (.iinc 2 1, 3) := by decide +kernel
theorem dX6_portionsOfAll_25 : decode cX6_portionsOfAll 25 = .ok (.goto (-21), 3) := by decide +kernel
theorem dX6_portionsOfAll_28 : decode cX6_portionsOfAll 28 = .ok (.iload_n 1, 1) := by decide +kernel
theorem dX6_portionsOfAll_29 : decode cX6_portionsOfAll 29 = .ok (.ireturn, 1) := by decide +kernel
set_option maxRecDepth 20000 in
theorem ggX7_init_X1_init : GoodIn wsX7_init wsX1_init := goodIn_r _ [14, 15, 2, 3, 8, 16, 17, 18, 19, 20, 21, 22, 23, 24, 25, 26] (by decide +kernel) (by decide +kernel)
set_option maxRecDepth 20000 in
theorem gX7_init_X1_init_n11 : GoodIn wsX7_init (wsX1_init) := ggX7_init_X1_init
theorem dX7_init_0 : decode cX7_init 0 = .ok (.aload_n 0, 1) := by decide +kernel
theorem dX7_init_1 : decode cX7_init 1 = .ok (.invokespecial 3, 3) := by decide +kernel
theorem dX7_init_4 : decode cX7_init 4 = .ok (.aload_n 0, 1) := by decide +kernel
theorem dX7_init_5 : decode cX7_init 5 = .ok (.new 9, 3) := by decide +kernel
theorem dX7_init_8 : decode cX7_init 8 = .ok (.dup, 1) := by decide +kernel
theorem dX7_init_9 : decode cX7_init 9 = .ok (.invokespecial 11, 3) := by decide +kernel
theorem dX7_init_12 : decode cX7_init 12 = .ok (.putfield 12, 3) := by decide +kernel
theorem dX7_init_15 : decode cX7_init 15 = .ok (.aload_n 0, 1) := by decide +kernel
theorem dX7_init_16 : decode cX7_init 16 = .ok (.bipush 10, 2) := by decide +kernel
theorem dX7_init_18 : decode cX7_init 18 = .ok (.newarray .int, 2) := by decide +kernel
theorem dX7_init_20 : decode cX7_init 20 = .ok (.putfield 18, 3) := by decide +kernel
theorem dX7_init_23 : decode cX7_init 23 = .ok (.aload_n 0, 1) := by decide +kernel
theorem dX7_init_24 : decode cX7_init 24 = .ok (.bipush 6, 2) := by decide +kernel
theorem dX7_init_26 : decode cX7_init 26 = .ok (.newarray .int, 2) := by decide +kernel
theorem dX7_init_28 : decode cX7_init 28 = .ok (.putfield 22, 3) := by decide +kernel
theorem dX7_init_31 : decode cX7_init 31 = .ok (.aload_n 0, 1) := by decide +kernel
theorem dX7_init_32 : decode cX7_init 32 = .ok (.bipush 6, 2) := by decide +kernel
theorem dX7_init_34 : decode cX7_init 34 = .ok (.newarray .int, 2) := by decide +kernel
theorem dX7_init_36 : decode cX7_init 36 = .ok (.putfield 25, 3) := by decide +kernel
theorem dX7_init_39 : decode cX7_init 39 = .ok (.aload_n 0, 1) := by decide +kernel
theorem dX7_init_40 : decode cX7_init 40 = .ok (.sipush 640, 3) := by decide +kernel
theorem dX7_init_43 : decode cX7_init 43 = .ok (.newarray .int, 2) := by decide +kernel
theorem dX7_init_45 : decode cX7_init 45 = .ok (.putfield 28, 3) := by decide +kernel
theorem dX7_init_48 : decode cX7_init 48 = .ok (.return_, 1) := by decide +kernel
set_option maxRecDepth 20000 in
theorem ggX7_look_X1_become : GoodIn wsX7_look wsX1_become := goodIn_r _ [13, 14, 15, 16, 17, 18, 19, 20, 21, 22, 23, 24, 25, 26, 27, 28, 29, 114, 115, 116, 117, 118, 119] (by decide +kernel) (by decide +kernel)
set_option maxRecDepth 20000 in
theorem gX7_look_X1_become : GoodIn wsX7_look (wsV RX7 34 RX1 yX1_become wsX1_become) := goodIn_app (goodIn_of _ (by decide +kernel)) ggX7_look_X1_become
set_option maxRecDepth 20000 in
theorem ggX7_look_J7_fill_53178 : GoodIn wsX7_look wsJ7_fill_53178 := goodIn_r _ [33] (by decide +kernel) (by decide +kernel)
set_option maxRecDepth 20000 in
theorem gX7_look_J7_fill_53178 : GoodIn wsX7_look (va_wsS RX7 38 yJ7_fill_53178 wsJ7_fill_53178) := goodIn_app (goodIn_of _ (by decide +kernel)) ggX7_look_J7_fill_53178
set_option maxRecDepth 20000 in
theorem ggX7_look_X1_inside : GoodIn wsX7_look wsX1_inside := goodIn_r _ [37, 16, 17, 38, 20, 39, 114, 115, 116, 117, 118, 119] (by decide +kernel) (by decide +kernel)
set_option maxRecDepth 20000 in
theorem gX7_look_X1_inside : GoodIn wsX7_look (wsV RX7 48 RX1 yX1_inside wsX1_inside) := goodIn_app (goodIn_of _ (by decide +kernel)) ggX7_look_X1_inside
set_option maxRecDepth 20000 in
theorem ggX7_look_J6_bitCount_0f7a4 : GoodIn wsX7_look wsJ6_bitCount_0f7a4 := goodIn_r _ [43, 44, 45, 46] (by decide +kernel) (by decide +kernel)
set_option maxRecDepth 20000 in
theorem gX7_look_J6_bitCount_0f7a4 : GoodIn wsX7_look (va_wsS RX7 52 yJ6_bitCount_0f7a4 wsJ6_bitCount_0f7a4) := goodIn_app (goodIn_of _ (by decide +kernel)) ggX7_look_J6_bitCount_0f7a4
set_option maxRecDepth 20000 in
theorem ggX7_look_X8_power : GoodIn wsX7_look wsX8_power := goodIn_r _ [48] (by decide +kernel) (by decide +kernel)
set_option maxRecDepth 20000 in
theorem gX7_look_X8_power_n57 : GoodIn wsX7_look (wsX8_power) := ggX7_look_X8_power
set_option maxRecDepth 20000 in
theorem ggX7_look_X8_spread : GoodIn wsX7_look wsX8_spread := goodIn_r _ [50, 51, 38, 20, 39] (by decide +kernel) (by decide +kernel)
set_option maxRecDepth 20000 in
theorem gX7_look_X8_spread_n64 : GoodIn wsX7_look (wsX8_spread) := ggX7_look_X8_spread
set_option maxRecDepth 20000 in
theorem ggX7_look_X1_takersOfEach : GoodIn wsX7_look wsX1_takersOfEach := goodIn_r _ [55, 56, 57, 58, 59, 12, 60, 14, 61, 35, 36, 37, 16, 17, 38, 20, 39, 62, 63, 64, 65, 66, 67, 18, 68, 69, 70, 71, 15, 72, 73, 24, 74, 75, 76, 77, 78, 79, 80, 81, 31, 32, 33, 82, 83, 84, 51, 85, 86, 114, 115, 116, 117, 118, 119] (by decide +kernel) (by decide +kernel)
set_option maxRecDepth 20000 in
theorem gX7_look_X1_takersOfEach : GoodIn wsX7_look (wsV RX7 68 RX1 yX1_takersOfEach wsX1_takersOfEach) := goodIn_app (goodIn_of _ (by decide +kernel)) ggX7_look_X1_takersOfEach
set_option maxRecDepth 20000 in
theorem ggX7_look_X0_fits : GoodIn wsX7_look wsX0_fits := goodIn_r _ [91, 92, 93, 94, 75, 20, 76, 108, 109, 110, 111, 112, 113] (by decide +kernel) (by decide +kernel)
set_option maxRecDepth 20000 in
theorem gX7_look_X0_fits : GoodIn wsX7_look (wsV RX7 72 RX0 yX0_fits wsX0_fits) := goodIn_app (goodIn_of _ (by decide +kernel)) ggX7_look_X0_fits
set_option maxRecDepth 20000 in
theorem ggX7_look_X7_addWorld : GoodIn wsX7_look wsX7_addWorld := goodIn_r _ [99, 6, 1, 7, 3, 100, 23, 24, 25, 4, 101, 73, 74, 8, 5, 75, 20, 76, 85, 86, 102, 103, 104, 105, 106, 107, 114, 115, 116, 117, 118, 119] (by decide +kernel) (by decide +kernel)
set_option maxRecDepth 20000 in
theorem gX7_look_X7_addWorld : GoodIn wsX7_look (wsV RX7 76 RX7 yX7_addWorld wsX7_addWorld) := goodIn_app (goodIn_of _ (by decide +kernel)) ggX7_look_X7_addWorld
theorem dX7_look_0 : decode cX7_look 0 = .ok (.aload_n 0, 1) := by decide +kernel
theorem dX7_look_1 : decode cX7_look 1 = .ok (.getfield 12, 3) := by decide +kernel
theorem dX7_look_4 : decode cX7_look 4 = .ok (.aload_n 1, 1) := by decide +kernel
theorem dX7_look_5 : decode cX7_look 5 = .ok (.getfield 31, 3) := by decide +kernel
theorem dX7_look_8 : decode cX7_look 8 = .ok (.invokevirtual 34, 3) := by decide +kernel
theorem dX7_look_11 : decode cX7_look 11 = .ok (.aload_n 0, 1) := by decide +kernel
theorem dX7_look_12 : decode cX7_look 12 = .ok (.getfield 22, 3) := by decide +kernel
theorem dX7_look_15 : decode cX7_look 15 = .ok (.bipush 20, 2) := by decide +kernel
theorem dX7_look_17 : decode cX7_look 17 = .ok (.invokestatic 38, 3) := by decide +kernel
theorem dX7_look_20 : decode cX7_look 20 = .ok (.aload_n 0, 1) := by decide +kernel
theorem dX7_look_21 : decode cX7_look 21 = .ok (.getfield 25, 3) := by decide +kernel
theorem dX7_look_24 : decode cX7_look 24 = .ok (.iconst 0, 1) := by decide +kernel
theorem dX7_look_25 : decode cX7_look 25 = .ok (.invokestatic 38, 3) := by decide +kernel
theorem dX7_look_28 : decode cX7_look 28 = .ok (.aload_n 0, 1) := by decide +kernel
theorem dX7_look_29 : decode cX7_look 29 = .ok (.getfield 28, 3) := by decide +kernel
theorem dX7_look_32 : decode cX7_look 32 = .ok (.iconst 0, 1) := by decide +kernel
theorem dX7_look_33 : decode cX7_look 33 = .ok (.invokestatic 38, 3) := by decide +kernel
theorem dX7_look_36 : decode cX7_look 36 = .ok (.aload_n 0, 1) := by decide +kernel
theorem dX7_look_37 : decode cX7_look 37 = .ok (.iconst 0, 1) := by decide +kernel
theorem dX7_look_38 : decode cX7_look 38 = .ok (.putfield 44, 3) := by decide +kernel
theorem dX7_look_41 : decode cX7_look 41 = .ok (.aload_n 0, 1) := by decide +kernel
theorem dX7_look_42 : decode cX7_look 42 = .ok (.getfield 12, 3) := by decide +kernel
theorem dX7_look_45 : decode cX7_look 45 = .ok (.iconst 0, 1) := by decide +kernel
theorem dX7_look_46 : decode cX7_look 46 = .ok (.invokevirtual 48, 3) := by decide +kernel
theorem dX7_look_49 : decode cX7_look 49 = .ok (.istore_n 2, 1) := by decide +kernel
theorem dX7_look_50 : decode cX7_look 50 = .ok (.bipush 6, 2) := by decide +kernel
theorem dX7_look_52 : decode cX7_look 52 = .ok (.iload_n 2, 1) := by decide +kernel
theorem dX7_look_53 : decode cX7_look 53 = .ok (.invokestatic 52, 3) := by decide +kernel
theorem dX7_look_56 : decode cX7_look 56 = .ok (.invokestatic 57, 3) := by decide +kernel
theorem dX7_look_59 : decode cX7_look 59 = .ok (.istore_n 3, 1) := by decide +kernel
theorem dX7_look_60 : decode cX7_look 60 = .ok (.iconst 0, 1) := by decide +kernel
theorem dX7_look_61 : decode cX7_look 61 = .ok (.istore 4, 2) := by decide +kernel
theorem dX7_look_63 : decode cX7_look 63 = .ok (.iload 4, 2) := by decide +kernel
theorem dX7_look_65 : decode cX7_look 65 = .ok (.iload_n 3, 1) := by decide +kernel
theorem dX7_look_66 : decode cX7_look 66 = .ok (.if_icmp .ge 52, 3) := by decide +kernel
theorem dX7_look_69 : decode cX7_look 69 = .ok (.aload_n 0, 1) := by decide +kernel
theorem dX7_look_70 : decode cX7_look 70 = .ok (.getfield 12, 3) := by decide +kernel
theorem dX7_look_73 : decode cX7_look 73 = .ok (.getfield 61, 3) := by decide +kernel
theorem dX7_look_76 : decode cX7_look 76 = .ok (.iload_n 2, 1) := by decide +kernel
theorem dX7_look_77 : decode cX7_look 77 = .ok (.iload 4, 2) := by decide +kernel
theorem dX7_look_79 : decode cX7_look 79 = .ok (.bipush 6, 2) := by decide +kernel
theorem dX7_look_81 : decode cX7_look 81 = .ok (.iconst 1, 1) := by decide +kernel
theorem dX7_look_82 : decode cX7_look 82 = .ok (.invokestatic 64, 3) := by decide +kernel
theorem dX7_look_85 : decode cX7_look 85 = .ok (.aload_n 0, 1) := by decide +kernel
theorem dX7_look_86 : decode cX7_look 86 = .ok (.getfield 12, 3) := by decide +kernel
theorem dX7_look_89 : decode cX7_look 89 = .ok (.iconst 0, 1) := by decide +kernel
theorem dX7_look_90 : decode cX7_look 90 = .ok (.aload_n 0, 1) := by decide +kernel
theorem dX7_look_91 : decode cX7_look 91 = .ok (.getfield 18, 3) := by decide +kernel
theorem dX7_look_94 : decode cX7_look 94 = .ok (.invokevirtual 68, 3) := by decide +kernel
theorem dX7_look_97 : decode cX7_look 97 = .ok (.aload_n 1, 1) := by decide +kernel
theorem dX7_look_98 : decode cX7_look 98 = .ok (.aload_n 0, 1) := by decide +kernel
theorem dX7_look_99 : decode cX7_look 99 = .ok (.getfield 18, 3) := by decide +kernel
theorem dX7_look_102 : decode cX7_look 102 = .ok (.invokevirtual 72, 3) := by decide +kernel
theorem dX7_look_105 : decode cX7_look 105 = .ok (.ifCond .eq 7, 3) := by decide +kernel
theorem dX7_look_108 : decode cX7_look 108 = .ok (.aload_n 0, 1) := by decide +kernel
theorem dX7_look_109 : decode cX7_look 109 = .ok (.invokevirtual 76, 3) := by decide +kernel
theorem dX7_look_112 : decode cX7_look 112 = .ok (.iinc 4 1, 3) := by decide +kernel
theorem dX7_look_115 : decode cX7_look 115 = .ok (.goto (-52), 3) := by decide +kernel
theorem dX7_look_118 : decode cX7_look 118 = .ok (.return_, 1) := by decide +kernel
set_option maxRecDepth 20000 in
theorem ggX7_addWorld_X8_at : GoodIn wsX7_addWorld wsX8_at := goodIn_r _ [17] (by decide +kernel) (by decide +kernel)
set_option maxRecDepth 20000 in
theorem gX7_addWorld_X8_at_n79 : GoodIn wsX7_addWorld (wsX8_at) := ggX7_addWorld_X8_at
set_option maxRecDepth 20000 in
theorem ggX7_addWorld_X8_put : GoodIn wsX7_addWorld wsX8_put := goodIn_r _ [19] (by decide +kernel) (by decide +kernel)
set_option maxRecDepth 20000 in
theorem gX7_addWorld_X8_put_n88 : GoodIn wsX7_addWorld (wsX8_put) := ggX7_addWorld_X8_put
theorem dX7_addWorld_0 : decode cX7_addWorld 0 = .ok (.aload_n 0, 1) := by decide +kernel
theorem dX7_addWorld_1 : decode cX7_addWorld 1 = .ok (.dup, 1) := by decide +kernel
theorem dX7_addWorld_2 : decode cX7_addWorld 2 = .ok (.getfield 44, 3) := by decide +kernel
theorem dX7_addWorld_5 : decode cX7_addWorld 5 = .ok (.iconst 1, 1) := by decide +kernel
theorem dX7_addWorld_6 : decode cX7_addWorld 6 = .ok (.iadd, 1) := by decide +kernel
theorem dX7_addWorld_7 : decode cX7_addWorld 7 = .ok (.putfield 44, 3) := by decide +kernel
theorem dX7_addWorld_10 : decode cX7_addWorld 10 = .ok (.iconst 0, 1) := by decide +kernel
theorem dX7_addWorld_11 : decode cX7_addWorld 11 = .ok (.istore_n 1, 1) := by decide +kernel
theorem dX7_addWorld_12 : decode cX7_addWorld 12 = .ok (.iload_n 1, 1) := by decide +kernel
theorem dX7_addWorld_13 : decode cX7_addWorld 13 = .ok (.bipush 6, 2) := by decide +kernel
theorem dX7_addWorld_15 : decode cX7_addWorld 15 = .ok (.if_icmp .ge 61, 3) := by decide +kernel
theorem dX7_addWorld_18 : decode cX7_addWorld 18 = .ok (.aload_n 0, 1) := by decide +kernel
theorem dX7_addWorld_19 : decode cX7_addWorld 19 = .ok (.getfield 12, 3) := by decide +kernel
theorem dX7_addWorld_22 : decode cX7_addWorld 22 = .ok (.getfield 61, 3) := by decide +kernel
theorem dX7_addWorld_25 : decode cX7_addWorld 25 = .ok (.iload_n 1, 1) := by decide +kernel
theorem dX7_addWorld_26 : decode cX7_addWorld 26 = .ok (.invokestatic 79, 3) := by decide +kernel
theorem dX7_addWorld_29 : decode cX7_addWorld 29 = .ok (.istore_n 2, 1) := by decide +kernel
theorem dX7_addWorld_30 : decode cX7_addWorld 30 = .ok (.aload_n 0, 1) := by decide +kernel
theorem dX7_addWorld_31 : decode cX7_addWorld 31 = .ok (.getfield 22, 3) := by decide +kernel
theorem dX7_addWorld_34 : decode cX7_addWorld 34 = .ok (.iload_n 1, 1) := by decide +kernel
theorem dX7_addWorld_35 : decode cX7_addWorld 35 = .ok (.aload_n 0, 1) := by decide +kernel
theorem dX7_addWorld_36 : decode cX7_addWorld 36 = .ok (.getfield 22, 3) := by decide +kernel
theorem dX7_addWorld_39 : decode cX7_addWorld 39 = .ok (.iload_n 1, 1) := by decide +kernel
theorem dX7_addWorld_40 : decode cX7_addWorld 40 = .ok (.invokestatic 79, 3) := by decide +kernel
theorem dX7_addWorld_43 : decode cX7_addWorld 43 = .ok (.iload_n 2, 1) := by decide +kernel
theorem dX7_addWorld_44 : decode cX7_addWorld 44 = .ok (.invokestatic 83, 3) := by decide +kernel
theorem dX7_addWorld_47 : decode cX7_addWorld 47 = .ok (.invokestatic 88, 3) := by decide +kernel
theorem dX7_addWorld_50 : decode cX7_addWorld 50 = .ok (.aload_n 0, 1) := by decide +kernel
theorem dX7_addWorld_51 : decode cX7_addWorld 51 = .ok (.getfield 25, 3) := by decide +kernel
theorem dX7_addWorld_54 : decode cX7_addWorld 54 = .ok (.iload_n 1, 1) := by decide +kernel
theorem dX7_addWorld_55 : decode cX7_addWorld 55 = .ok (.aload_n 0, 1) := by decide +kernel
theorem dX7_addWorld_56 : decode cX7_addWorld 56 = .ok (.getfield 25, 3) := by decide +kernel
theorem dX7_addWorld_59 : decode cX7_addWorld 59 = .ok (.iload_n 1, 1) := by decide +kernel
theorem dX7_addWorld_60 : decode cX7_addWorld 60 = .ok (.invokestatic 79, 3) := by decide +kernel
theorem dX7_addWorld_63 : decode cX7_addWorld 63 = .ok (.iload_n 2, 1) := by decide +kernel
theorem dX7_addWorld_64 : decode cX7_addWorld 64 = .ok (.invokestatic 92, 3) := by decide +kernel
theorem dX7_addWorld_67 : decode cX7_addWorld 67 = .ok (.invokestatic 88, 3) := by decide +kernel
theorem dX7_addWorld_70 : decode cX7_addWorld 70 = .ok (.iinc 1 1, 3) := by decide +kernel
theorem dX7_addWorld_73 : decode cX7_addWorld 73 = .ok (.goto (-61), 3) := by decide +kernel
theorem dX7_addWorld_76 : decode cX7_addWorld 76 = .ok (.iconst 1, 1) := by decide +kernel
theorem dX7_addWorld_77 : decode cX7_addWorld 77 = .ok (.istore_n 1, 1) := by decide +kernel
theorem dX7_addWorld_78 : decode cX7_addWorld 78 = .ok (.iload_n 1, 1) := by decide +kernel
theorem dX7_addWorld_79 : decode cX7_addWorld 79 = .ok (.aload_n 0, 1) := by decide +kernel
theorem dX7_addWorld_80 : decode cX7_addWorld 80 = .ok (.getfield 18, 3) := by decide +kernel
theorem dX7_addWorld_83 : decode cX7_addWorld 83 = .ok (.arraylength, 1) := by decide +kernel
theorem dX7_addWorld_84 : decode cX7_addWorld 84 = .ok (.if_icmp .ge 39, 3) := by decide +kernel
theorem dX7_addWorld_87 : decode cX7_addWorld 87 = .ok (.iload_n 1, 1) := by decide +kernel
theorem dX7_addWorld_88 : decode cX7_addWorld 88 = .ok (.bipush 64, 2) := by decide +kernel
theorem dX7_addWorld_90 : decode cX7_addWorld 90 = .ok (.imul, 1) := by decide +kernel
theorem dX7_addWorld_91 : decode cX7_addWorld 91 = .ok (.aload_n 0, 1) := by decide +kernel
theorem dX7_addWorld_92 : decode cX7_addWorld 92 = .ok (.getfield 18, 3) := by decide +kernel
theorem dX7_addWorld_95 : decode cX7_addWorld 95 = .ok (.iload_n 1, 1) := by decide +kernel
theorem dX7_addWorld_96 : decode cX7_addWorld 96 = .ok (.iaload, 1) := by decide +kernel
theorem dX7_addWorld_97 : decode cX7_addWorld 97 = .ok (.iadd, 1) := by decide +kernel
theorem dX7_addWorld_98 : decode cX7_addWorld 98 = .ok (.istore_n 2, 1) := by decide +kernel
theorem dX7_addWorld_99 : decode cX7_addWorld 99 = .ok (.aload_n 0, 1) := by decide +kernel
theorem dX7_addWorld_100 : decode cX7_addWorld 100 = .ok (.getfield 28, 3) := by decide +kernel
theorem dX7_addWorld_103 : decode cX7_addWorld 103 = .ok (.iload_n 2, 1) := by decide +kernel
theorem dX7_addWorld_104 : decode cX7_addWorld 104 = .ok (.aload_n 0, 1) := by decide +kernel
theorem dX7_addWorld_105 : decode cX7_addWorld 105 = .ok (.getfield 28, 3) := by decide +kernel
theorem dX7_addWorld_108 : decode cX7_addWorld 108 = .ok (.iload_n 2, 1) := by decide +kernel
theorem dX7_addWorld_109 : decode cX7_addWorld 109 = .ok (.invokestatic 79, 3) := by decide +kernel
theorem dX7_addWorld_112 : decode cX7_addWorld 112 = .ok (.iconst 1, 1) := by decide +kernel
theorem dX7_addWorld_113 : decode cX7_addWorld 113 = .ok (.iadd, 1) := by decide +kernel
theorem dX7_addWorld_114 : decode cX7_addWorld 114 = .ok (.invokestatic 88, 3) := by decide +kernel
theorem dX7_addWorld_117 : decode cX7_addWorld 117 = .ok (.iinc 1 1, 3) := by decide +kernel
theorem dX7_addWorld_120 : decode cX7_addWorld 120 = .ok (.goto (-42), 3) := by decide +kernel
theorem dX7_addWorld_123 : decode cX7_addWorld 123 = .ok (.return_, 1) := by decide +kernel
set_option maxRecDepth 20000 in
theorem ggX7_hungerOf_X8_at : GoodIn wsX7_hungerOf wsX8_at := goodIn_r _ [6] (by decide +kernel) (by decide +kernel)
set_option maxRecDepth 20000 in
theorem gX7_hungerOf_X8_at_n79 : GoodIn wsX7_hungerOf (wsX8_at) := ggX7_hungerOf_X8_at
theorem dX7_hungerOf_0 : decode cX7_hungerOf 0 = .ok (.aload_n 0, 1) := by decide +kernel
theorem dX7_hungerOf_1 : decode cX7_hungerOf 1 = .ok (.getfield 44, 3) := by decide +kernel
theorem dX7_hungerOf_4 : decode cX7_hungerOf 4 = .ok (.ifCond .ne 6, 3) := by decide +kernel
theorem dX7_hungerOf_7 : decode cX7_hungerOf 7 = .ok (.bipush (-6), 2) := by decide +kernel
theorem dX7_hungerOf_9 : decode cX7_hungerOf 9 = .ok (.ireturn, 1) := by decide +kernel
theorem dX7_hungerOf_10 : decode cX7_hungerOf 10 = .ok (.iload_n 2, 1) := by decide +kernel
theorem dX7_hungerOf_11 : decode cX7_hungerOf 11 = .ok (.ifCond .eq 14, 3) := by decide +kernel
theorem dX7_hungerOf_14 : decode cX7_hungerOf 14 = .ok (.aload_n 0, 1) := by decide +kernel
theorem dX7_hungerOf_15 : decode cX7_hungerOf 15 = .ok (.getfield 25, 3) := by decide +kernel
theorem dX7_hungerOf_18 : decode cX7_hungerOf 18 = .ok (.iload_n 1, 1) := by decide +kernel
theorem dX7_hungerOf_19 : decode cX7_hungerOf 19 = .ok (.invokestatic 79, 3) := by decide +kernel
theorem dX7_hungerOf_22 : decode cX7_hungerOf 22 = .ok (.goto 11, 3) := by decide +kernel
theorem dX7_hungerOf_25 : decode cX7_hungerOf 25 = .ok (.aload_n 0, 1) := by decide +kernel
theorem dX7_hungerOf_26 : decode cX7_hungerOf 26 = .ok (.getfield 22, 3) := by decide +kernel
theorem dX7_hungerOf_29 : decode cX7_hungerOf 29 = .ok (.iload_n 1, 1) := by decide +kernel
theorem dX7_hungerOf_30 : decode cX7_hungerOf 30 = .ok (.invokestatic 79, 3) := by decide +kernel
theorem dX7_hungerOf_33 : decode cX7_hungerOf 33 = .ok (.ireturn, 1) := by decide +kernel
set_option maxRecDepth 20000 in
theorem ggX7_mostLeft_X8_at : GoodIn wsX7_mostLeft wsX8_at := goodIn_r _ [8] (by decide +kernel) (by decide +kernel)
set_option maxRecDepth 20000 in
theorem gX7_mostLeft_X8_at_n79 : GoodIn wsX7_mostLeft (wsX8_at) := ggX7_mostLeft_X8_at
theorem dX7_mostLeft_0 : decode cX7_mostLeft 0 = .ok (.iconst 0, 1) := by decide +kernel
theorem dX7_mostLeft_1 : decode cX7_mostLeft 1 = .ok (.istore_n 2, 1) := by decide +kernel
theorem dX7_mostLeft_2 : decode cX7_mostLeft 2 = .ok (.iconst 0, 1) := by decide +kernel
theorem dX7_mostLeft_3 : decode cX7_mostLeft 3 = .ok (.istore_n 3, 1) := by decide +kernel
theorem dX7_mostLeft_4 : decode cX7_mostLeft 4 = .ok (.iload_n 3, 1) := by decide +kernel
theorem dX7_mostLeft_5 : decode cX7_mostLeft 5 = .ok (.bipush 64, 2) := by decide +kernel
theorem dX7_mostLeft_7 : decode cX7_mostLeft 7 = .ok (.if_icmp .ge 27, 3) := by decide +kernel
theorem dX7_mostLeft_10 : decode cX7_mostLeft 10 = .ok (.iload_n 2, 1) := by decide +kernel
theorem dX7_mostLeft_11 : decode cX7_mostLeft 11 = .ok (.aload_n 0, 1) := by decide +kernel
theorem dX7_mostLeft_12 : decode cX7_mostLeft 12 = .ok (.getfield 28, 3) := by decide +kernel
theorem dX7_mostLeft_15 : decode cX7_mostLeft 15 = .ok (.iload_n 1, 1) := by decide +kernel
theorem dX7_mostLeft_16 : decode cX7_mostLeft 16 = .ok (.bipush 64, 2) := by decide +kernel
theorem dX7_mostLeft_18 : decode cX7_mostLeft 18 = .ok (.imul, 1) := by decide +kernel
theorem dX7_mostLeft_19 : decode cX7_mostLeft 19 = .ok (.iload_n 3, 1) := by decide +kernel
theorem dX7_mostLeft_20 : decode cX7_mostLeft 20 = .ok (.iadd, 1) := by decide +kernel
theorem dX7_mostLeft_21 : decode cX7_mostLeft 21 = .ok (.invokestatic 79, 3) := by decide +kernel
theorem dX7_mostLeft_24 : decode cX7_mostLeft 24 = .ok (.invokestatic 92, 3) := by decide +kernel
theorem dX7_mostLeft_27 : decode cX7_mostLeft 27 = .ok (.istore_n 2, 1) := by decide +kernel
theorem dX7_mostLeft_28 : decode cX7_mostLeft 28 = .ok (.iinc 3 1, 3) := by decide +kernel
theorem dX7_mostLeft_31 : decode cX7_mostLeft 31 = .ok (.goto (-27), 3) := by decide +kernel
theorem dX7_mostLeft_34 : decode cX7_mostLeft 34 = .ok (.iload_n 2, 1) := by decide +kernel
theorem dX7_mostLeft_35 : decode cX7_mostLeft 35 = .ok (.ireturn, 1) := by decide +kernel
set_option maxRecDepth 20000 in
theorem ggX7_tellingDish_X7_mostLeft : GoodIn wsX7_tellingDish wsX7_mostLeft := goodIn_r _ [5, 6, 7, 8, 9, 10, 11, 12, 13, 14, 15, 16, 17, 18, 19] (by decide +kernel) (by decide +kernel)
set_option maxRecDepth 20000 in
theorem gX7_tellingDish_X7_mostLeft : GoodIn wsX7_tellingDish (wsV RX7 95 RX7 yX7_mostLeft wsX7_mostLeft) := goodIn_app (goodIn_of _ (by decide +kernel)) ggX7_tellingDish_X7_mostLeft
theorem dX7_tellingDish_0 : decode cX7_tellingDish 0 = .ok (.iconst 1, 1) := by decide +kernel
theorem dX7_tellingDish_1 : decode cX7_tellingDish 1 = .ok (.istore_n 1, 1) := by decide +kernel
theorem dX7_tellingDish_2 : decode cX7_tellingDish 2 = .ok (.iconst 2, 1) := by decide +kernel
theorem dX7_tellingDish_3 : decode cX7_tellingDish 3 = .ok (.istore_n 2, 1) := by decide +kernel
theorem dX7_tellingDish_4 : decode cX7_tellingDish 4 = .ok (.iload_n 2, 1) := by decide +kernel
theorem dX7_tellingDish_5 : decode cX7_tellingDish 5 = .ok (.bipush 9, 2) := by decide +kernel
theorem dX7_tellingDish_7 : decode cX7_tellingDish 7 = .ok (.if_icmp .gt 24, 3) := by decide +kernel
theorem dX7_tellingDish_10 : decode cX7_tellingDish 10 = .ok (.aload_n 0, 1) := by decide +kernel
theorem dX7_tellingDish_11 : decode cX7_tellingDish 11 = .ok (.iload_n 2, 1) := by decide +kernel
theorem dX7_tellingDish_12 : decode cX7_tellingDish 12 = .ok (.invokevirtual 95, 3) := by decide +kernel
theorem dX7_tellingDish_15 : decode cX7_tellingDish 15 = .ok (.aload_n 0, 1) := by decide +kernel
theorem dX7_tellingDish_16 : decode cX7_tellingDish 16 = .ok (.iload_n 1, 1) := by decide +kernel
theorem dX7_tellingDish_17 : decode cX7_tellingDish 17 = .ok (.invokevirtual 95, 3) := by decide +kernel
theorem dX7_tellingDish_20 : decode cX7_tellingDish 20 = .ok (.if_icmp .ge 5, 3) := by decide +kernel
theorem dX7_tellingDish_23 : decode cX7_tellingDish 23 = .ok (.iload_n 2, 1) := by decide +kernel
theorem dX7_tellingDish_24 : decode cX7_tellingDish 24 = .ok (.istore_n 1, 1) := by decide +kernel
theorem dX7_tellingDish_25 : decode cX7_tellingDish 25 = .ok (.iinc 2 1, 3) := by decide +kernel
theorem dX7_tellingDish_28 : decode cX7_tellingDish 28 = .ok (.goto (-24), 3) := by decide +kernel
theorem dX7_tellingDish_31 : decode cX7_tellingDish 31 = .ok (.iload_n 1, 1) := by decide +kernel
theorem dX7_tellingDish_32 : decode cX7_tellingDish 32 = .ok (.ireturn, 1) := by decide +kernel
set_option maxRecDepth 20000 in
theorem ggX8_init_X0_init : GoodIn wsX8_init wsX0_init := goodIn_r _ [35, 36, 2, 3, 37, 38, 39, 40, 41, 42, 43, 44, 45, 46, 47, 48, 49, 50, 51, 52, 124, 125, 126, 127, 128, 129, 88, 89, 90, 91, 92, 93] (by decide +kernel) (by decide +kernel)
set_option maxRecDepth 20000 in
theorem gX8_init_X0_init_n9 : GoodIn wsX8_init (wsX0_init) := ggX8_init_X0_init
set_option maxRecDepth 20000 in
theorem ggX8_init_X3_init : GoodIn wsX8_init wsX3_init := goodIn_r _ [54, 55, 2, 3, 41, 56, 103, 104] (by decide +kernel) (by decide +kernel)
set_option maxRecDepth 20000 in
theorem gX8_init_X3_init_n24 : GoodIn wsX8_init (wsX3_init) := ggX8_init_X3_init
set_option maxRecDepth 20000 in
theorem ggX8_init_X6_init : GoodIn wsX8_init wsX6_init := goodIn_r _ [58, 59, 2, 3, 60, 38, 39, 61, 41, 62, 63, 64, 45, 46, 47, 48, 49, 50, 51, 52, 124, 125, 126, 127, 128, 129, 105, 106, 107, 108, 109, 110, 111, 112, 113] (by decide +kernel) (by decide +kernel)
set_option maxRecDepth 20000 in
theorem gX8_init_X6_init_n31 : GoodIn wsX8_init (wsX6_init) := ggX8_init_X6_init
set_option maxRecDepth 20000 in
theorem ggX8_init_X2_init : GoodIn wsX8_init wsX2_init := goodIn_r _ [66, 67, 2, 3, 68, 38, 39, 69, 41, 70, 45, 46, 47, 48, 49, 50, 51, 52, 124, 125, 126, 127, 128, 129, 114, 115] (by decide +kernel) (by decide +kernel)
set_option maxRecDepth 20000 in
theorem gX8_init_X2_init_n38 : GoodIn wsX8_init (wsX2_init) := ggX8_init_X2_init
set_option maxRecDepth 20000 in
theorem ggX8_init_X7_init : GoodIn wsX8_init wsX7_init := goodIn_r _ [72, 73, 2, 3, 74, 38, 39, 75, 41, 76, 77, 78, 79, 45, 46, 47, 48, 49, 50, 51, 52, 124, 125, 126, 127, 128, 129, 116, 117, 118, 119, 120, 121] (by decide +kernel) (by decide +kernel)
set_option maxRecDepth 20000 in
theorem gX8_init_X7_init_n45 : GoodIn wsX8_init (wsX7_init) := ggX8_init_X7_init
set_option maxRecDepth 20000 in
theorem ggX8_init_X5_init : GoodIn wsX8_init wsX5_init := goodIn_r _ [81, 82, 2, 3, 41, 83, 122] (by decide +kernel) (by decide +kernel)
set_option maxRecDepth 20000 in
theorem gX8_init_X5_init_n52 : GoodIn wsX8_init (wsX5_init) := ggX8_init_X5_init
set_option maxRecDepth 20000 in
theorem ggX8_init_X4_init : GoodIn wsX8_init wsX4_init := goodIn_r _ [85, 86, 2, 3, 41, 87, 123] (by decide +kernel) (by decide +kernel)
set_option maxRecDepth 20000 in
theorem gX8_init_X4_init_n59 : GoodIn wsX8_init (wsX4_init) := ggX8_init_X4_init
theorem dX8_init_0 : decode cX8_init 0 = .ok (.aload_n 0, 1) := by decide +kernel
theorem dX8_init_1 : decode cX8_init 1 = .ok (.invokespecial 1, 3) := by decide +kernel
theorem dX8_init_4 : decode cX8_init 4 = .ok (.aload_n 0, 1) := by decide +kernel
theorem dX8_init_5 : decode cX8_init 5 = .ok (.new 7, 3) := by decide +kernel
theorem dX8_init_8 : decode cX8_init 8 = .ok (.dup, 1) := by decide +kernel
theorem dX8_init_9 : decode cX8_init 9 = .ok (.invokespecial 9, 3) := by decide +kernel
theorem dX8_init_12 : decode cX8_init 12 = .ok (.putfield 10, 3) := by decide +kernel
theorem dX8_init_15 : decode cX8_init 15 = .ok (.aload_n 0, 1) := by decide +kernel
theorem dX8_init_16 : decode cX8_init 16 = .ok (.new 7, 3) := by decide +kernel
theorem dX8_init_19 : decode cX8_init 19 = .ok (.dup, 1) := by decide +kernel
theorem dX8_init_20 : decode cX8_init 20 = .ok (.invokespecial 9, 3) := by decide +kernel
theorem dX8_init_23 : decode cX8_init 23 = .ok (.putfield 16, 3) := by decide +kernel
theorem dX8_init_26 : decode cX8_init 26 = .ok (.aload_n 0, 1) := by decide +kernel
theorem dX8_init_27 : decode cX8_init 27 = .ok (.new 7, 3) := by decide +kernel
theorem dX8_init_30 : decode cX8_init 30 = .ok (.dup, 1) := by decide +kernel
theorem dX8_init_31 : decode cX8_init 31 = .ok (.invokespecial 9, 3) := by decide +kernel
theorem dX8_init_34 : decode cX8_init 34 = .ok (.putfield 19, 3) := by decide +kernel
theorem dX8_init_37 : decode cX8_init 37 = .ok (.aload_n 0, 1) := by decide +kernel
theorem dX8_init_38 : decode cX8_init 38 = .ok (.new 22, 3) := by decide +kernel
theorem dX8_init_41 : decode cX8_init 41 = .ok (.dup, 1) := by decide +kernel
theorem dX8_init_42 : decode cX8_init 42 = .ok (.invokespecial 24, 3) := by decide +kernel
theorem dX8_init_45 : decode cX8_init 45 = .ok (.putfield 25, 3) := by decide +kernel
theorem dX8_init_48 : decode cX8_init 48 = .ok (.aload_n 0, 1) := by decide +kernel
theorem dX8_init_49 : decode cX8_init 49 = .ok (.new 29, 3) := by decide +kernel
theorem dX8_init_52 : decode cX8_init 52 = .ok (.dup, 1) := by decide +kernel
theorem dX8_init_53 : decode cX8_init 53 = .ok (.invokespecial 31, 3) := by decide +kernel
theorem dX8_init_56 : decode cX8_init 56 = .ok (.putfield 32, 3) := by decide +kernel
theorem dX8_init_59 : decode cX8_init 59 = .ok (.aload_n 0, 1) := by decide +kernel
theorem dX8_init_60 : decode cX8_init 60 = .ok (.new 36, 3) := by decide +kernel
theorem dX8_init_63 : decode cX8_init 63 = .ok (.dup, 1) := by decide +kernel
theorem dX8_init_64 : decode cX8_init 64 = .ok (.invokespecial 38, 3) := by decide +kernel
theorem dX8_init_67 : decode cX8_init 67 = .ok (.putfield 39, 3) := by decide +kernel
theorem dX8_init_70 : decode cX8_init 70 = .ok (.aload_n 0, 1) := by decide +kernel
theorem dX8_init_71 : decode cX8_init 71 = .ok (.new 43, 3) := by decide +kernel
theorem dX8_init_74 : decode cX8_init 74 = .ok (.dup, 1) := by decide +kernel
theorem dX8_init_75 : decode cX8_init 75 = .ok (.invokespecial 45, 3) := by decide +kernel
theorem dX8_init_78 : decode cX8_init 78 = .ok (.putfield 46, 3) := by decide +kernel
theorem dX8_init_81 : decode cX8_init 81 = .ok (.aload_n 0, 1) := by decide +kernel
theorem dX8_init_82 : decode cX8_init 82 = .ok (.new 50, 3) := by decide +kernel
theorem dX8_init_85 : decode cX8_init 85 = .ok (.dup, 1) := by decide +kernel
theorem dX8_init_86 : decode cX8_init 86 = .ok (.invokespecial 52, 3) := by decide +kernel
theorem dX8_init_89 : decode cX8_init 89 = .ok (.putfield 53, 3) := by decide +kernel
theorem dX8_init_92 : decode cX8_init 92 = .ok (.aload_n 0, 1) := by decide +kernel
theorem dX8_init_93 : decode cX8_init 93 = .ok (.new 57, 3) := by decide +kernel
theorem dX8_init_96 : decode cX8_init 96 = .ok (.dup, 1) := by decide +kernel
theorem dX8_init_97 : decode cX8_init 97 = .ok (.invokespecial 59, 3) := by decide +kernel
theorem dX8_init_100 : decode cX8_init 100 = .ok (.putfield 60, 3) := by decide +kernel
theorem dX8_init_103 : decode cX8_init 103 = .ok (.return_, 1) := by decide +kernel
set_option maxRecDepth 20000 in
theorem ggX8_guest_X8_isWithin : GoodIn wsX8_guest wsX8_isWithin := goodIn_r _ [6] (by decide +kernel) (by decide +kernel)
set_option maxRecDepth 20000 in
theorem gX8_guest_X8_isWithin : GoodIn wsX8_guest (va_wsS RX8 64 yX8_isWithin wsX8_isWithin) := goodIn_app (goodIn_of _ (by decide +kernel)) ggX8_guest_X8_isWithin
set_option maxRecDepth 20000 in
theorem ggX8_guest_X8_isHouse : GoodIn wsX8_guest wsX8_isHouse := goodIn_r _ [9, 3, 4, 5, 6] (by decide +kernel) (by decide +kernel)
set_option maxRecDepth 20000 in
theorem gX8_guest_X8_isHouse : GoodIn wsX8_guest (va_wsS RX8 68 yX8_isHouse wsX8_isHouse) := goodIn_app (goodIn_of _ (by decide +kernel)) ggX8_guest_X8_isHouse
set_option maxRecDepth 20000 in
theorem ggX8_guest_X1_welcome : GoodIn wsX8_guest wsX1_welcome := goodIn_r _ [14, 15, 16, 17, 18, 19, 5, 20, 21, 22, 23, 24, 25, 26, 27, 43, 44, 45, 46, 47, 48] (by decide +kernel) (by decide +kernel)
set_option maxRecDepth 20000 in
theorem gX8_guest_X1_welcome : GoodIn wsX8_guest (wsV RX8 76 RX1 yX1_welcome wsX1_welcome) := goodIn_app (goodIn_of _ (by decide +kernel)) ggX8_guest_X1_welcome
theorem dX8_guest_0 : decode cX8_guest 0 = .ok (.iload_n 1, 1) := by decide +kernel
theorem dX8_guest_1 : decode cX8_guest 1 = .ok (.iconst 5, 1) := by decide +kernel
theorem dX8_guest_2 : decode cX8_guest 2 = .ok (.invokestatic 64, 3) := by decide +kernel
theorem dX8_guest_5 : decode cX8_guest 5 = .ok (.ifCond .ne 5, 3) := by decide +kernel
theorem dX8_guest_8 : decode cX8_guest 8 = .ok (.iconst (-1), 1) := by decide +kernel
theorem dX8_guest_9 : decode cX8_guest 9 = .ok (.ireturn, 1) := by decide +kernel
theorem dX8_guest_10 : decode cX8_guest 10 = .ok (.iload_n 2, 1) := by decide +kernel
theorem dX8_guest_11 : decode cX8_guest 11 = .ok (.bipush 20, 2) := by decide +kernel
theorem dX8_guest_13 : decode cX8_guest 13 = .ok (.invokestatic 64, 3) := by decide +kernel
theorem dX8_guest_16 : decode cX8_guest 16 = .ok (.ifCond .eq 20, 3) := by decide +kernel
theorem dX8_guest_19 : decode cX8_guest 19 = .ok (.iload_n 3, 1) := by decide +kernel
theorem dX8_guest_20 : decode cX8_guest 20 = .ok (.bipush 9, 2) := by decide +kernel
theorem dX8_guest_22 : decode cX8_guest 22 = .ok (.invokestatic 64, 3) := by decide +kernel
theorem dX8_guest_25 : decode cX8_guest 25 = .ok (.ifCond .eq 11, 3) := by decide +kernel
theorem dX8_guest_28 : decode cX8_guest 28 = .ok (.iload 4, 2) := by decide +kernel
theorem dX8_guest_30 : decode cX8_guest 30 = .ok (.invokestatic 68, 3) := by decide +kernel
theorem dX8_guest_33 : decode cX8_guest 33 = .ok (.ifCond .ne 6, 3) := by decide +kernel
theorem dX8_guest_36 : decode cX8_guest 36 = .ok (.bipush (-2), 2) := by decide +kernel
theorem dX8_guest_38 : decode cX8_guest 38 = .ok (.ireturn, 1) := by decide +kernel
theorem dX8_guest_39 : decode cX8_guest 39 = .ok (.aload_n 0, 1) := by decide +kernel
theorem dX8_guest_40 : decode cX8_guest 40 = .ok (.getfield 10, 3) := by decide +kernel
theorem dX8_guest_43 : decode cX8_guest 43 = .ok (.getfield 72, 3) := by decide +kernel
theorem dX8_guest_46 : decode cX8_guest 46 = .ok (.iload_n 1, 1) := by decide +kernel
theorem dX8_guest_47 : decode cX8_guest 47 = .ok (.iload_n 2, 1) := by decide +kernel
theorem dX8_guest_48 : decode cX8_guest 48 = .ok (.iload_n 3, 1) := by decide +kernel
theorem dX8_guest_49 : decode cX8_guest 49 = .ok (.iload 4, 2) := by decide +kernel
theorem dX8_guest_51 : decode cX8_guest 51 = .ok (.invokevirtual 76, 3) := by decide +kernel
theorem dX8_guest_54 : decode cX8_guest 54 = .ok (.ireturn, 1) := by decide +kernel
set_option maxRecDepth 20000 in
theorem ggX8_leave_X1_has : GoodIn wsX8_leave wsX1_has := goodIn_r _ [7, 8, 9, 10, 11, 52, 53, 54, 55, 56, 57] (by decide +kernel) (by decide +kernel)
set_option maxRecDepth 20000 in
theorem gX8_leave_X1_has : GoodIn wsX8_leave (wsV RX8 82 RX1 yX1_has wsX1_has) := goodIn_app (goodIn_of _ (by decide +kernel)) ggX8_leave_X1_has
set_option maxRecDepth 20000 in
theorem ggX8_leave_X0_endFeudsOf : GoodIn wsX8_leave wsX0_endFeudsOf := goodIn_r _ [16, 17, 18, 19, 15, 20, 21, 22, 10, 23, 24, 25, 46, 47, 48, 49, 50, 51] (by decide +kernel) (by decide +kernel)
set_option maxRecDepth 20000 in
theorem gX8_leave_X0_endFeudsOf : GoodIn wsX8_leave (wsV RX8 85 RX0 yX0_endFeudsOf wsX0_endFeudsOf) := goodIn_app (goodIn_of _ (by decide +kernel)) ggX8_leave_X0_endFeudsOf
set_option maxRecDepth 20000 in
theorem ggX8_leave_X1_dismiss : GoodIn wsX8_leave wsX1_dismiss := goodIn_r _ [29, 8, 30, 31, 32, 33, 34, 35, 36, 52, 53, 54, 55, 56, 57] (by decide +kernel) (by decide +kernel)
set_option maxRecDepth 20000 in
theorem gX8_leave_X1_dismiss : GoodIn wsX8_leave (wsV RX8 89 RX1 yX1_dismiss wsX1_dismiss) := goodIn_app (goodIn_of _ (by decide +kernel)) ggX8_leave_X1_dismiss
theorem dX8_leave_0 : decode cX8_leave 0 = .ok (.aload_n 0, 1) := by decide +kernel
theorem dX8_leave_1 : decode cX8_leave 1 = .ok (.getfield 10, 3) := by decide +kernel
theorem dX8_leave_4 : decode cX8_leave 4 = .ok (.getfield 72, 3) := by decide +kernel
theorem dX8_leave_7 : decode cX8_leave 7 = .ok (.iload_n 1, 1) := by decide +kernel
theorem dX8_leave_8 : decode cX8_leave 8 = .ok (.invokevirtual 82, 3) := by decide +kernel
theorem dX8_leave_11 : decode cX8_leave 11 = .ok (.ifCond .ne 5, 3) := by decide +kernel
theorem dX8_leave_14 : decode cX8_leave 14 = .ok (.iconst (-1), 1) := by decide +kernel
theorem dX8_leave_15 : decode cX8_leave 15 = .ok (.ireturn, 1) := by decide +kernel
theorem dX8_leave_16 : decode cX8_leave 16 = .ok (.aload_n 0, 1) := by decide +kernel
theorem dX8_leave_17 : decode cX8_leave 17 = .ok (.getfield 10, 3) := by decide +kernel
theorem dX8_leave_20 : decode cX8_leave 20 = .ok (.iload_n 1, 1) := by decide +kernel
theorem dX8_leave_21 : decode cX8_leave 21 = .ok (.invokevirtual 85, 3) := by decide +kernel
theorem dX8_leave_24 : decode cX8_leave 24 = .ok (.aload_n 0, 1) := by decide +kernel
theorem dX8_leave_25 : decode cX8_leave 25 = .ok (.getfield 10, 3) := by decide +kernel
theorem dX8_leave_28 : decode cX8_leave 28 = .ok (.getfield 72, 3) := by decide +kernel
theorem dX8_leave_31 : decode cX8_leave 31 = .ok (.iload_n 1, 1) := by decide +kernel
theorem dX8_leave_32 : decode cX8_leave 32 = .ok (.invokevirtual 89, 3) := by decide +kernel
theorem dX8_leave_35 : decode cX8_leave 35 = .ok (.ireturn, 1) := by decide +kernel
set_option maxRecDepth 20000 in
theorem ggX8_keen_X8_isWithin : GoodIn wsX8_keen wsX8_isWithin := goodIn_r _ [7] (by decide +kernel) (by decide +kernel)
set_option maxRecDepth 20000 in
theorem gX8_keen_X8_isWithin : GoodIn wsX8_keen (va_wsS RX8 64 yX8_isWithin wsX8_isWithin) := goodIn_app (goodIn_of _ (by decide +kernel)) ggX8_keen_X8_isWithin
theorem dX8_keen_0 : decode cX8_keen 0 = .ok (.iload_n 1, 1) := by decide +kernel
theorem dX8_keen_1 : decode cX8_keen 1 = .ok (.bipush 9, 2) := by decide +kernel
theorem dX8_keen_3 : decode cX8_keen 3 = .ok (.invokestatic 64, 3) := by decide +kernel
theorem dX8_keen_6 : decode cX8_keen 6 = .ok (.ifCond .ne 6, 3) := by decide +kernel
theorem dX8_keen_9 : decode cX8_keen 9 = .ok (.bipush (-2), 2) := by decide +kernel
theorem dX8_keen_11 : decode cX8_keen 11 = .ok (.ireturn, 1) := by decide +kernel
theorem dX8_keen_12 : decode cX8_keen 12 = .ok (.aload_n 0, 1) := by decide +kernel
theorem dX8_keen_13 : decode cX8_keen 13 = .ok (.getfield 10, 3) := by decide +kernel
theorem dX8_keen_16 : decode cX8_keen 16 = .ok (.getfield 72, 3) := by decide +kernel
theorem dX8_keen_19 : decode cX8_keen 19 = .ok (.getfield 93, 3) := by decide +kernel
theorem dX8_keen_22 : decode cX8_keen 22 = .ok (.istore_n 2, 1) := by decide +kernel
theorem dX8_keen_23 : decode cX8_keen 23 = .ok (.aload_n 0, 1) := by decide +kernel
theorem dX8_keen_24 : decode cX8_keen 24 = .ok (.getfield 10, 3) := by decide +kernel
theorem dX8_keen_27 : decode cX8_keen 27 = .ok (.getfield 72, 3) := by decide +kernel
theorem dX8_keen_30 : decode cX8_keen 30 = .ok (.iload_n 1, 1) := by decide +kernel
theorem dX8_keen_31 : decode cX8_keen 31 = .ok (.putfield 93, 3) := by decide +kernel
theorem dX8_keen_34 : decode cX8_keen 34 = .ok (.iload_n 2, 1) := by decide +kernel
theorem dX8_keen_35 : decode cX8_keen 35 = .ok (.ireturn, 1) := by decide +kernel
set_option maxRecDepth 20000 in
theorem ggX8_feud_X1_has : GoodIn wsX8_feud wsX1_has := goodIn_r _ [7, 8, 9, 10, 11, 48, 49, 50, 51, 52, 53] (by decide +kernel) (by decide +kernel)
set_option maxRecDepth 20000 in
theorem gX8_feud_X1_has : GoodIn wsX8_feud (wsV RX8 82 RX1 yX1_has wsX1_has) := goodIn_app (goodIn_of _ (by decide +kernel)) ggX8_feud_X1_has
set_option maxRecDepth 20000 in
theorem ggX8_feud_X0_setFeud : GoodIn wsX8_feud wsX0_setFeud := goodIn_r _ [16, 17, 18, 10, 19, 20, 21, 42, 43, 44, 45, 46, 47] (by decide +kernel) (by decide +kernel)
set_option maxRecDepth 20000 in
theorem gX8_feud_X0_setFeud : GoodIn wsX8_feud (wsV RX8 97 RX0 yX0_setFeud wsX0_setFeud) := goodIn_app (goodIn_of _ (by decide +kernel)) ggX8_feud_X0_setFeud
set_option maxRecDepth 20000 in
theorem ggX8_feud_X0_countFeuds : GoodIn wsX8_feud wsX0_countFeuds := goodIn_r _ [25, 17, 26, 27, 28, 29, 30, 31, 32, 42, 43, 44, 45, 46, 47] (by decide +kernel) (by decide +kernel)
set_option maxRecDepth 20000 in
theorem gX8_feud_X0_countFeuds : GoodIn wsX8_feud (wsV RX8 101 RX0 yX0_countFeuds wsX0_countFeuds) := goodIn_app (goodIn_of _ (by decide +kernel)) ggX8_feud_X0_countFeuds
theorem dX8_feud_0 : decode cX8_feud 0 = .ok (.aload_n 0, 1) := by decide +kernel
theorem dX8_feud_1 : decode cX8_feud 1 = .ok (.getfield 10, 3) := by decide +kernel
theorem dX8_feud_4 : decode cX8_feud 4 = .ok (.getfield 72, 3) := by decide +kernel
theorem dX8_feud_7 : decode cX8_feud 7 = .ok (.iload_n 1, 1) := by decide +kernel
theorem dX8_feud_8 : decode cX8_feud 8 = .ok (.invokevirtual 82, 3) := by decide +kernel
theorem dX8_feud_11 : decode cX8_feud 11 = .ok (.ifCond .eq 22, 3) := by decide +kernel
theorem dX8_feud_14 : decode cX8_feud 14 = .ok (.aload_n 0, 1) := by decide +kernel
theorem dX8_feud_15 : decode cX8_feud 15 = .ok (.getfield 10, 3) := by decide +kernel
theorem dX8_feud_18 : decode cX8_feud 18 = .ok (.getfield 72, 3) := by decide +kernel
theorem dX8_feud_21 : decode cX8_feud 21 = .ok (.iload_n 2, 1) := by decide +kernel
theorem dX8_feud_22 : decode cX8_feud 22 = .ok (.invokevirtual 82, 3) := by decide +kernel
theorem dX8_feud_25 : decode cX8_feud 25 = .ok (.ifCond .eq 8, 3) := by decide +kernel
theorem dX8_feud_28 : decode cX8_feud 28 = .ok (.iload_n 1, 1) := by decide +kernel
theorem dX8_feud_29 : decode cX8_feud 29 = .ok (.iload_n 2, 1) := by decide +kernel
theorem dX8_feud_30 : decode cX8_feud 30 = .ok (.if_icmp .ne 5, 3) := by decide +kernel
theorem dX8_feud_33 : decode cX8_feud 33 = .ok (.iconst (-1), 1) := by decide +kernel
theorem dX8_feud_34 : decode cX8_feud 34 = .ok (.ireturn, 1) := by decide +kernel
theorem dX8_feud_35 : decode cX8_feud 35 = .ok (.aload_n 0, 1) := by decide +kernel
theorem dX8_feud_36 : decode cX8_feud 36 = .ok (.getfield 10, 3) := by decide +kernel
theorem dX8_feud_39 : decode cX8_feud 39 = .ok (.iload_n 1, 1) := by decide +kernel
theorem dX8_feud_40 : decode cX8_feud 40 = .ok (.iload_n 2, 1) := by decide +kernel
theorem dX8_feud_41 : decode cX8_feud 41 = .ok (.iload_n 3, 1) := by decide +kernel
theorem dX8_feud_42 : decode cX8_feud 42 = .ok (.invokevirtual 97, 3) := by decide +kernel
theorem dX8_feud_45 : decode cX8_feud 45 = .ok (.aload_n 0, 1) := by decide +kernel
theorem dX8_feud_46 : decode cX8_feud 46 = .ok (.getfield 10, 3) := by decide +kernel
theorem dX8_feud_49 : decode cX8_feud 49 = .ok (.invokevirtual 101, 3) := by decide +kernel
theorem dX8_feud_52 : decode cX8_feud 52 = .ok (.ireturn, 1) := by decide +kernel
set_option maxRecDepth 20000 in
theorem ggX8_say_X3_add : GoodIn wsX8_say wsX3_add := goodIn_r _ [6, 7, 8, 9, 10, 11, 21, 22] (by decide +kernel) (by decide +kernel)
set_option maxRecDepth 20000 in
theorem gX8_say_X3_add : GoodIn wsX8_say (wsV RX8 105 RX3 yX3_add wsX3_add) := goodIn_app (goodIn_of _ (by decide +kernel)) ggX8_say_X3_add
theorem dX8_say_0 : decode cX8_say 0 = .ok (.iload_n 1, 1) := by decide +kernel
theorem dX8_say_1 : decode cX8_say 1 = .ok (.bipush 33, 2) := by decide +kernel
theorem dX8_say_3 : decode cX8_say 3 = .ok (.if_icmp .lt 9, 3) := by decide +kernel
theorem dX8_say_6 : decode cX8_say 6 = .ok (.iload_n 1, 1) := by decide +kernel
theorem dX8_say_7 : decode cX8_say 7 = .ok (.bipush 126, 2) := by decide +kernel
theorem dX8_say_9 : decode cX8_say 9 = .ok (.if_icmp .le 6, 3) := by decide +kernel
theorem dX8_say_12 : decode cX8_say 12 = .ok (.bipush (-2), 2) := by decide +kernel
theorem dX8_say_14 : decode cX8_say 14 = .ok (.ireturn, 1) := by decide +kernel
theorem dX8_say_15 : decode cX8_say 15 = .ok (.aload_n 0, 1) := by decide +kernel
theorem dX8_say_16 : decode cX8_say 16 = .ok (.getfield 25, 3) := by decide +kernel
theorem dX8_say_19 : decode cX8_say 19 = .ok (.iload_n 1, 1) := by decide +kernel
theorem dX8_say_20 : decode cX8_say 20 = .ok (.invokevirtual 105, 3) := by decide +kernel
theorem dX8_say_23 : decode cX8_say 23 = .ok (.ireturn, 1) := by decide +kernel
set_option maxRecDepth 20000 in
theorem ggX8_wipe_X3_clear : GoodIn wsX8_wipe wsX3_clear := goodIn_r _ [6, 7, 17, 18] (by decide +kernel) (by decide +kernel)
set_option maxRecDepth 20000 in
theorem gX8_wipe_X3_clear : GoodIn wsX8_wipe (wsV RX8 108 RX3 yX3_clear wsX3_clear) := goodIn_app (goodIn_of _ (by decide +kernel)) ggX8_wipe_X3_clear
theorem dX8_wipe_0 : decode cX8_wipe 0 = .ok (.aload_n 0, 1) := by decide +kernel
theorem dX8_wipe_1 : decode cX8_wipe 1 = .ok (.getfield 25, 3) := by decide +kernel
theorem dX8_wipe_4 : decode cX8_wipe 4 = .ok (.invokevirtual 108, 3) := by decide +kernel
theorem dX8_wipe_7 : decode cX8_wipe 7 = .ok (.ireturn, 1) := by decide +kernel
set_option maxRecDepth 20000 in
theorem ggX8_fault_X3_firstFault : GoodIn wsX8_fault wsX3_firstFault := goodIn_r _ [6, 7, 8, 9, 10, 5, 11, 12, 13, 14, 15, 16, 17, 18, 19, 20, 21, 22, 23, 24, 34, 35] (by decide +kernel) (by decide +kernel)
set_option maxRecDepth 20000 in
theorem gX8_fault_X3_firstFault : GoodIn wsX8_fault (wsV RX8 111 RX3 yX3_firstFault wsX3_firstFault) := goodIn_app (goodIn_of _ (by decide +kernel)) ggX8_fault_X3_firstFault
theorem dX8_fault_0 : decode cX8_fault 0 = .ok (.aload_n 0, 1) := by decide +kernel
theorem dX8_fault_1 : decode cX8_fault 1 = .ok (.getfield 25, 3) := by decide +kernel
theorem dX8_fault_4 : decode cX8_fault 4 = .ok (.invokevirtual 111, 3) := by decide +kernel
theorem dX8_fault_7 : decode cX8_fault 7 = .ok (.ireturn, 1) := by decide +kernel
set_option maxRecDepth 20000 in
theorem ggX8_judge_X8_isWithin : GoodIn wsX8_judge wsX8_isWithin := goodIn_r _ [10] (by decide +kernel) (by decide +kernel)
set_option maxRecDepth 20000 in
theorem gX8_judge_X8_isWithin : GoodIn wsX8_judge (va_wsS RX8 64 yX8_isWithin wsX8_isWithin) := goodIn_app (goodIn_of _ (by decide +kernel)) ggX8_judge_X8_isWithin
set_option maxRecDepth 20000 in
theorem ggX8_judge_X3_firstFault : GoodIn wsX8_judge wsX3_firstFault := goodIn_r _ [15, 16, 17, 18, 19, 14, 20, 21, 22, 9, 23, 24, 25, 26, 27, 28, 29, 30, 31, 32, 197, 198] (by decide +kernel) (by decide +kernel)
set_option maxRecDepth 20000 in
theorem gX8_judge_X3_firstFault : GoodIn wsX8_judge (wsV RX8 111 RX3 yX3_firstFault wsX3_firstFault) := goodIn_app (goodIn_of _ (by decide +kernel)) ggX8_judge_X3_firstFault
set_option maxRecDepth 20000 in
theorem ggX8_judge_X6_play : GoodIn wsX8_judge wsX6_play := goodIn_r _ [37, 38, 39, 40, 41, 42, 43, 44, 36, 45, 46, 47, 48, 49, 50, 51, 52, 53, 54, 55, 56, 57, 58, 59, 60, 61, 9, 62, 63, 64, 65, 66, 67, 68, 69, 70, 71, 72, 73, 74, 75, 12, 13, 14, 15, 16, 17, 18, 19, 20, 21, 22, 23, 24, 25, 26, 27, 28, 29, 30, 31, 32, 76, 77, 78, 79, 80, 81, 82, 83, 84, 85, 86, 87, 88, 89, 90, 91, 92, 93, 94, 95, 96, 97, 98, 99, 100, 101, 102, 103, 104, 105, 106, 107, 108, 109, 110, 111, 112, 113, 114, 115, 116, 117, 118, 119, 120, 121, 122, 123, 124, 125, 126, 127, 128, 129, 130, 131, 132, 133, 134, 135, 136, 137, 138, 139, 140, 141, 142, 143, 144, 145, 146, 147, 148, 149, 150, 151, 152, 153, 154, 155, 156, 157, 158, 159, 160, 161, 162, 163, 164, 165, 166, 167, 168, 169, 170, 171, 172, 197, 198, 188, 189, 190, 191, 192, 193, 194, 195, 196, 199, 200, 201, 202, 203, 204] (by decide +kernel) (by decide +kernel)
set_option maxRecDepth 20000 in
theorem gX8_judge_X6_play : GoodIn wsX8_judge (wsV RX8 114 RX6 yX6_play wsX6_play) := goodIn_app (goodIn_of _ (by decide +kernel)) ggX8_judge_X6_play
theorem dX8_judge_0 : decode cX8_judge 0 = .ok (.iload_n 1, 1) := by decide +kernel
theorem dX8_judge_1 : decode cX8_judge 1 = .ok (.iconst 1, 1) := by decide +kernel
theorem dX8_judge_2 : decode cX8_judge 2 = .ok (.invokestatic 64, 3) := by decide +kernel
theorem dX8_judge_5 : decode cX8_judge 5 = .ok (.ifCond .ne 6, 3) := by decide +kernel
theorem dX8_judge_8 : decode cX8_judge 8 = .ok (.bipush (-2), 2) := by decide +kernel
theorem dX8_judge_10 : decode cX8_judge 10 = .ok (.ireturn, 1) := by decide +kernel
theorem dX8_judge_11 : decode cX8_judge 11 = .ok (.aload_n 0, 1) := by decide +kernel
theorem dX8_judge_12 : decode cX8_judge 12 = .ok (.getfield 25, 3) := by decide +kernel
theorem dX8_judge_15 : decode cX8_judge 15 = .ok (.invokevirtual 111, 3) := by decide +kernel
theorem dX8_judge_18 : decode cX8_judge 18 = .ok (.bipush (-6), 2) := by decide +kernel
theorem dX8_judge_20 : decode cX8_judge 20 = .ok (.if_icmp .eq 6, 3) := by decide +kernel
theorem dX8_judge_23 : decode cX8_judge 23 = .ok (.bipush (-5), 2) := by decide +kernel
theorem dX8_judge_25 : decode cX8_judge 25 = .ok (.ireturn, 1) := by decide +kernel
theorem dX8_judge_26 : decode cX8_judge 26 = .ok (.aload_n 0, 1) := by decide +kernel
theorem dX8_judge_27 : decode cX8_judge 27 = .ok (.getfield 32, 3) := by decide +kernel
theorem dX8_judge_30 : decode cX8_judge 30 = .ok (.aload_n 0, 1) := by decide +kernel
theorem dX8_judge_31 : decode cX8_judge 31 = .ok (.getfield 25, 3) := by decide +kernel
theorem dX8_judge_34 : decode cX8_judge 34 = .ok (.aload_n 0, 1) := by decide +kernel
theorem dX8_judge_35 : decode cX8_judge 35 = .ok (.getfield 10, 3) := by decide +kernel
theorem dX8_judge_38 : decode cX8_judge 38 = .ok (.getfield 72, 3) := by decide +kernel
theorem dX8_judge_41 : decode cX8_judge 41 = .ok (.iconst 0, 1) := by decide +kernel
theorem dX8_judge_42 : decode cX8_judge 42 = .ok (.invokevirtual 114, 3) := by decide +kernel
theorem dX8_judge_45 : decode cX8_judge 45 = .ok (.pop, 1) := by decide +kernel
theorem dX8_judge_46 : decode cX8_judge 46 = .ok (.iload_n 1, 1) := by decide +kernel
theorem dX8_judge_47 : decode cX8_judge 47 = .ok (.ifCond .ne 13, 3) := by decide +kernel
theorem dX8_judge_50 : decode cX8_judge 50 = .ok (.aload_n 0, 1) := by decide +kernel
theorem dX8_judge_51 : decode cX8_judge 51 = .ok (.getfield 32, 3) := by decide +kernel
theorem dX8_judge_54 : decode cX8_judge 54 = .ok (.getfield 118, 3) := by decide +kernel
theorem dX8_judge_57 : decode cX8_judge 57 = .ok (.goto 10, 3) := by decide +kernel
theorem dX8_judge_60 : decode cX8_judge 60 = .ok (.aload_n 0, 1) := by decide +kernel
theorem dX8_judge_61 : decode cX8_judge 61 = .ok (.getfield 32, 3) := by decide +kernel
theorem dX8_judge_64 : decode cX8_judge 64 = .ok (.getfield 121, 3) := by decide +kernel
theorem dX8_judge_67 : decode cX8_judge 67 = .ok (.ireturn, 1) := by decide +kernel
set_option maxRecDepth 20000 in
theorem ggX8_done_X6_play : GoodIn wsX8_done wsX6_play := goodIn_r _ [11, 12, 13, 14, 15, 16, 17, 18, 10, 19, 20, 21, 22, 23, 24, 25, 26, 27, 28, 29, 30, 31, 32, 33, 34, 35, 36, 37, 38, 39, 40, 41, 42, 43, 44, 45, 46, 47, 48, 49, 50, 51, 52, 53, 54, 55, 56, 57, 58, 59, 60, 61, 62, 63, 64, 65, 66, 67, 68, 69, 70, 71, 72, 73, 74, 75, 76, 77, 78, 79, 80, 81, 82, 83, 84, 85, 86, 87, 88, 89, 90, 91, 92, 93, 94, 95, 96, 97, 98, 99, 100, 101, 102, 103, 104, 105, 106, 107, 108, 109, 110, 111, 112, 113, 114, 115, 116, 117, 118, 119, 120, 121, 122, 123, 124, 125, 126, 127, 128, 129, 130, 131, 132, 133, 134, 135, 136, 137, 138, 139, 140, 141, 142, 143, 144, 145, 146, 147, 148, 149, 150, 151, 152, 153, 154, 155, 156, 157, 158, 159, 160, 161, 162, 163, 164, 165, 166, 167, 168, 198, 199, 189, 190, 191, 192, 193, 194, 195, 196, 197, 200, 201, 202, 203, 204, 205] (by decide +kernel) (by decide +kernel)
set_option maxRecDepth 20000 in
theorem gX8_done_X6_play : GoodIn wsX8_done (wsV RX8 114 RX6 yX6_play wsX6_play) := goodIn_app (goodIn_of _ (by decide +kernel)) ggX8_done_X6_play
set_option maxRecDepth 20000 in
theorem ggX8_done_X1_become : GoodIn wsX8_done wsX1_become := goodIn_r _ [29, 30, 31, 32, 33, 34, 35, 36, 37, 38, 39, 40, 41, 42, 43, 44, 45, 200, 201, 202, 203, 204, 205] (by decide +kernel) (by decide +kernel)
set_option maxRecDepth 20000 in
theorem gX8_done_X1_become : GoodIn wsX8_done (wsV RX8 125 RX1 yX1_become wsX1_become) := goodIn_app (goodIn_of _ (by decide +kernel)) ggX8_done_X1_become
set_option maxRecDepth 20000 in
theorem ggX8_done_X3_clear : GoodIn wsX8_done wsX3_clear := goodIn_r _ [173, 55, 198, 199] (by decide +kernel) (by decide +kernel)
set_option maxRecDepth 20000 in
theorem gX8_done_X3_clear : GoodIn wsX8_done (wsV RX8 108 RX3 yX3_clear wsX3_clear) := goodIn_app (goodIn_of _ (by decide +kernel)) ggX8_done_X3_clear
theorem dX8_done_0 : decode cX8_done 0 = .ok (.aload_n 0, 1) := by decide +kernel
theorem dX8_done_1 : decode cX8_done 1 = .ok (.getfield 32, 3) := by decide +kernel
theorem dX8_done_4 : decode cX8_done 4 = .ok (.aload_n 0, 1) := by decide +kernel
theorem dX8_done_5 : decode cX8_done 5 = .ok (.getfield 25, 3) := by decide +kernel
theorem dX8_done_8 : decode cX8_done 8 = .ok (.aload_n 0, 1) := by decide +kernel
theorem dX8_done_9 : decode cX8_done 9 = .ok (.getfield 10, 3) := by decide +kernel
theorem dX8_done_12 : decode cX8_done 12 = .ok (.getfield 72, 3) := by decide +kernel
theorem dX8_done_15 : decode cX8_done 15 = .ok (.iconst 0, 1) := by decide +kernel
theorem dX8_done_16 : decode cX8_done 16 = .ok (.invokevirtual 114, 3) := by decide +kernel
theorem dX8_done_19 : decode cX8_done 19 = .ok (.ifCond .ne 6, 3) := by decide +kernel
theorem dX8_done_22 : decode cX8_done 22 = .ok (.bipush (-5), 2) := by decide +kernel
theorem dX8_done_24 : decode cX8_done 24 = .ok (.ireturn, 1) := by decide +kernel
theorem dX8_done_25 : decode cX8_done 25 = .ok (.aload_n 0, 1) := by decide +kernel
theorem dX8_done_26 : decode cX8_done 26 = .ok (.getfield 10, 3) := by decide +kernel
theorem dX8_done_29 : decode cX8_done 29 = .ok (.getfield 72, 3) := by decide +kernel
theorem dX8_done_32 : decode cX8_done 32 = .ok (.aload_n 0, 1) := by decide +kernel
theorem dX8_done_33 : decode cX8_done 33 = .ok (.getfield 32, 3) := by decide +kernel
theorem dX8_done_36 : decode cX8_done 36 = .ok (.getfield 124, 3) := by decide +kernel
theorem dX8_done_39 : decode cX8_done 39 = .ok (.invokevirtual 125, 3) := by decide +kernel
theorem dX8_done_42 : decode cX8_done 42 = .ok (.aload_n 0, 1) := by decide +kernel
theorem dX8_done_43 : decode cX8_done 43 = .ok (.getfield 25, 3) := by decide +kernel
theorem dX8_done_46 : decode cX8_done 46 = .ok (.invokevirtual 108, 3) := by decide +kernel
theorem dX8_done_49 : decode cX8_done 49 = .ok (.pop, 1) := by decide +kernel
theorem dX8_done_50 : decode cX8_done 50 = .ok (.aload_n 0, 1) := by decide +kernel
theorem dX8_done_51 : decode cX8_done 51 = .ok (.getfield 32, 3) := by decide +kernel
theorem dX8_done_54 : decode cX8_done 54 = .ok (.getfield 129, 3) := by decide +kernel
theorem dX8_done_57 : decode cX8_done 57 = .ok (.ireturn, 1) := by decide +kernel
set_option maxRecDepth 20000 in
theorem ggX8_state_X1_has : GoodIn wsX8_state wsX1_has := goodIn_r _ [9, 10, 11, 12, 13, 42, 43, 44, 45, 46, 47] (by decide +kernel) (by decide +kernel)
set_option maxRecDepth 20000 in
theorem gX8_state_X1_has : GoodIn wsX8_state (wsV RX8 82 RX1 yX1_has wsX1_has) := goodIn_app (goodIn_of _ (by decide +kernel)) ggX8_state_X1_has
set_option maxRecDepth 20000 in
theorem ggX8_state_X8_at : GoodIn wsX8_state wsX8_at := goodIn_r _ [16] (by decide +kernel) (by decide +kernel)
set_option maxRecDepth 20000 in
theorem gX8_state_X8_at : GoodIn wsX8_state (va_wsS RX8 136 yX8_at wsX8_at) := goodIn_app (goodIn_of _ (by decide +kernel)) ggX8_state_X8_at
set_option maxRecDepth 20000 in
theorem ggX8_state_X1_shownBy : GoodIn wsX8_state wsX1_shownBy := goodIn_r _ [20, 21, 22, 23, 24, 25, 26, 15, 12, 16, 42, 43, 44, 45, 46, 47] (by decide +kernel) (by decide +kernel)
set_option maxRecDepth 20000 in
theorem gX8_state_X1_shownBy : GoodIn wsX8_state (wsV RX8 140 RX1 yX1_shownBy wsX1_shownBy) := goodIn_app (goodIn_of _ (by decide +kernel)) ggX8_state_X1_shownBy
theorem dX8_state_0 : decode cX8_state 0 = .ok (.aload_n 0, 1) := by decide +kernel
theorem dX8_state_1 : decode cX8_state 1 = .ok (.getfield 10, 3) := by decide +kernel
theorem dX8_state_4 : decode cX8_state 4 = .ok (.getfield 72, 3) := by decide +kernel
theorem dX8_state_7 : decode cX8_state 7 = .ok (.iload_n 1, 1) := by decide +kernel
theorem dX8_state_8 : decode cX8_state 8 = .ok (.invokevirtual 82, 3) := by decide +kernel
theorem dX8_state_11 : decode cX8_state 11 = .ok (.ifCond .ne 5, 3) := by decide +kernel
theorem dX8_state_14 : decode cX8_state 14 = .ok (.iconst (-1), 1) := by decide +kernel
theorem dX8_state_15 : decode cX8_state 15 = .ok (.ireturn, 1) := by decide +kernel
theorem dX8_state_16 : decode cX8_state 16 = .ok (.iload_n 2, 1) := by decide +kernel
theorem dX8_state_17 : decode cX8_state 17 = .ok (.tableswitch 69 0 2 #[27, 42, 54], 27) := by decide +kernel
theorem dX8_state_44 : decode cX8_state 44 = .ok (.aload_n 0, 1) := by decide +kernel
theorem dX8_state_45 : decode cX8_state 45 = .ok (.getfield 10, 3) := by decide +kernel
theorem dX8_state_48 : decode cX8_state 48 = .ok (.getfield 72, 3) := by decide +kernel
theorem dX8_state_51 : decode cX8_state 51 = .ok (.getfield 132, 3) := by decide +kernel
theorem dX8_state_54 : decode cX8_state 54 = .ok (.iload_n 1, 1) := by decide +kernel
theorem dX8_state_55 : decode cX8_state 55 = .ok (.invokestatic 136, 3) := by decide +kernel
theorem dX8_state_58 : decode cX8_state 58 = .ok (.ireturn, 1) := by decide +kernel
theorem dX8_state_59 : decode cX8_state 59 = .ok (.aload_n 0, 1) := by decide +kernel
theorem dX8_state_60 : decode cX8_state 60 = .ok (.getfield 10, 3) := by decide +kernel
theorem dX8_state_63 : decode cX8_state 63 = .ok (.getfield 72, 3) := by decide +kernel
theorem dX8_state_66 : decode cX8_state 66 = .ok (.iload_n 1, 1) := by decide +kernel
theorem dX8_state_67 : decode cX8_state 67 = .ok (.invokevirtual 140, 3) := by decide +kernel
theorem dX8_state_70 : decode cX8_state 70 = .ok (.ireturn, 1) := by decide +kernel
theorem dX8_state_71 : decode cX8_state 71 = .ok (.aload_n 0, 1) := by decide +kernel
theorem dX8_state_72 : decode cX8_state 72 = .ok (.getfield 10, 3) := by decide +kernel
theorem dX8_state_75 : decode cX8_state 75 = .ok (.getfield 72, 3) := by decide +kernel
theorem dX8_state_78 : decode cX8_state 78 = .ok (.getfield 143, 3) := by decide +kernel
theorem dX8_state_81 : decode cX8_state 81 = .ok (.iload_n 1, 1) := by decide +kernel
theorem dX8_state_82 : decode cX8_state 82 = .ok (.invokestatic 136, 3) := by decide +kernel
theorem dX8_state_85 : decode cX8_state 85 = .ok (.ireturn, 1) := by decide +kernel
theorem dX8_state_86 : decode cX8_state 86 = .ok (.bipush (-2), 2) := by decide +kernel
theorem dX8_state_88 : decode cX8_state 88 = .ok (.ireturn, 1) := by decide +kernel
set_option maxRecDepth 20000 in
theorem ggX8_behind_X1_has : GoodIn wsX8_behind wsX1_has := goodIn_r _ [14, 15, 16, 17, 18, 200, 201, 202, 203, 204, 205] (by decide +kernel) (by decide +kernel)
set_option maxRecDepth 20000 in
theorem gX8_behind_X1_has : GoodIn wsX8_behind (wsV RX8 82 RX1 yX1_has wsX1_has) := goodIn_app (goodIn_of _ (by decide +kernel)) ggX8_behind_X1_has
set_option maxRecDepth 20000 in
theorem ggX8_behind_X8_isWithin : GoodIn wsX8_behind wsX8_isWithin := goodIn_r _ [21] (by decide +kernel) (by decide +kernel)
set_option maxRecDepth 20000 in
theorem gX8_behind_X8_isWithin : GoodIn wsX8_behind (va_wsS RX8 64 yX8_isWithin wsX8_isWithin) := goodIn_app (goodIn_of _ (by decide +kernel)) ggX8_behind_X8_isWithin
set_option maxRecDepth 20000 in
theorem ggX8_behind_X6_play : GoodIn wsX8_behind wsX6_play := goodIn_r _ [26, 27, 28, 29, 30, 31, 32, 33, 25, 34, 35, 36, 37, 38, 39, 40, 41, 42, 13, 43, 44, 45, 46, 15, 47, 48, 17, 49, 50, 51, 52, 53, 54, 55, 56, 57, 58, 59, 60, 61, 62, 63, 64, 65, 66, 67, 68, 69, 70, 71, 72, 73, 74, 75, 76, 77, 78, 79, 80, 81, 82, 83, 84, 85, 86, 87, 88, 89, 90, 91, 92, 93, 94, 95, 96, 97, 98, 99, 100, 101, 102, 103, 104, 105, 106, 107, 108, 109, 110, 111, 16, 18, 112, 113, 114, 115, 116, 117, 118, 119, 120, 121, 122, 123, 124, 125, 126, 127, 128, 129, 130, 131, 132, 133, 134, 135, 136, 137, 138, 139, 140, 141, 142, 143, 144, 145, 146, 147, 148, 149, 150, 151, 152, 153, 154, 155, 156, 157, 158, 159, 160, 161, 162, 163, 164, 165, 166, 167, 168, 169, 11, 12, 14, 170, 171, 172, 173, 174, 175, 206, 207, 191, 192, 193, 194, 195, 196, 197, 198, 199, 200, 201, 202, 203, 204, 205] (by decide +kernel) (by decide +kernel)
set_option maxRecDepth 20000 in
theorem gX8_behind_X6_play : GoodIn wsX8_behind (wsV RX8 114 RX6 yX6_play wsX6_play) := goodIn_app (goodIn_of _ (by decide +kernel)) ggX8_behind_X6_play
set_option maxRecDepth 20000 in
theorem ggX8_behind_X8_at : GoodIn wsX8_behind wsX8_at := goodIn_r _ [74] (by decide +kernel) (by decide +kernel)
set_option maxRecDepth 20000 in
theorem gX8_behind_X8_at : GoodIn wsX8_behind (va_wsS RX8 136 yX8_at wsX8_at) := goodIn_app (goodIn_of _ (by decide +kernel)) ggX8_behind_X8_at
theorem dX8_behind_0 : decode cX8_behind 0 = .ok (.aload_n 0, 1) := by decide +kernel
theorem dX8_behind_1 : decode cX8_behind 1 = .ok (.getfield 10, 3) := by decide +kernel
theorem dX8_behind_4 : decode cX8_behind 4 = .ok (.getfield 72, 3) := by decide +kernel
theorem dX8_behind_7 : decode cX8_behind 7 = .ok (.iload_n 1, 1) := by decide +kernel
theorem dX8_behind_8 : decode cX8_behind 8 = .ok (.invokevirtual 82, 3) := by decide +kernel
theorem dX8_behind_11 : decode cX8_behind 11 = .ok (.ifCond .ne 5, 3) := by decide +kernel
theorem dX8_behind_14 : decode cX8_behind 14 = .ok (.iconst (-1), 1) := by decide +kernel
theorem dX8_behind_15 : decode cX8_behind 15 = .ok (.ireturn, 1) := by decide +kernel
theorem dX8_behind_16 : decode cX8_behind 16 = .ok (.iload_n 2, 1) := by decide +kernel
theorem dX8_behind_17 : decode cX8_behind 17 = .ok (.iconst 3, 1) := by decide +kernel
theorem dX8_behind_18 : decode cX8_behind 18 = .ok (.invokestatic 64, 3) := by decide +kernel
theorem dX8_behind_21 : decode cX8_behind 21 = .ok (.ifCond .ne 6, 3) := by decide +kernel
theorem dX8_behind_24 : decode cX8_behind 24 = .ok (.bipush (-2), 2) := by decide +kernel
theorem dX8_behind_26 : decode cX8_behind 26 = .ok (.ireturn, 1) := by decide +kernel
theorem dX8_behind_27 : decode cX8_behind 27 = .ok (.aload_n 0, 1) := by decide +kernel
theorem dX8_behind_28 : decode cX8_behind 28 = .ok (.getfield 32, 3) := by decide +kernel
theorem dX8_behind_31 : decode cX8_behind 31 = .ok (.aload_n 0, 1) := by decide +kernel
theorem dX8_behind_32 : decode cX8_behind 32 = .ok (.getfield 25, 3) := by decide +kernel
theorem dX8_behind_35 : decode cX8_behind 35 = .ok (.aload_n 0, 1) := by decide +kernel
theorem dX8_behind_36 : decode cX8_behind 36 = .ok (.getfield 10, 3) := by decide +kernel
theorem dX8_behind_39 : decode cX8_behind 39 = .ok (.getfield 72, 3) := by decide +kernel
theorem dX8_behind_42 : decode cX8_behind 42 = .ok (.iconst 0, 1) := by decide +kernel
theorem dX8_behind_43 : decode cX8_behind 43 = .ok (.invokevirtual 114, 3) := by decide +kernel
theorem dX8_behind_46 : decode cX8_behind 46 = .ok (.ifCond .ne 6, 3) := by decide +kernel
theorem dX8_behind_49 : decode cX8_behind 49 = .ok (.bipush (-5), 2) := by decide +kernel
theorem dX8_behind_51 : decode cX8_behind 51 = .ok (.ireturn, 1) := by decide +kernel
theorem dX8_behind_52 : decode cX8_behind 52 = .ok (.iload_n 2, 1) := by decide +kernel
theorem dX8_behind_53 : decode cX8_behind 53 = .ok (.tableswitch 66 0 2 #[27, 42, 54], 27) := by decide +kernel
theorem dX8_behind_80 : decode cX8_behind 80 = .ok (.aload_n 0, 1) := by decide +kernel
theorem dX8_behind_81 : decode cX8_behind 81 = .ok (.getfield 32, 3) := by decide +kernel
theorem dX8_behind_84 : decode cX8_behind 84 = .ok (.getfield 124, 3) := by decide +kernel
theorem dX8_behind_87 : decode cX8_behind 87 = .ok (.getfield 132, 3) := by decide +kernel
theorem dX8_behind_90 : decode cX8_behind 90 = .ok (.iload_n 1, 1) := by decide +kernel
theorem dX8_behind_91 : decode cX8_behind 91 = .ok (.invokestatic 136, 3) := by decide +kernel
theorem dX8_behind_94 : decode cX8_behind 94 = .ok (.ireturn, 1) := by decide +kernel
theorem dX8_behind_95 : decode cX8_behind 95 = .ok (.aload_n 0, 1) := by decide +kernel
theorem dX8_behind_96 : decode cX8_behind 96 = .ok (.getfield 32, 3) := by decide +kernel
theorem dX8_behind_99 : decode cX8_behind 99 = .ok (.getfield 146, 3) := by decide +kernel
theorem dX8_behind_102 : decode cX8_behind 102 = .ok (.iload_n 1, 1) := by decide +kernel
theorem dX8_behind_103 : decode cX8_behind 103 = .ok (.invokestatic 136, 3) := by decide +kernel
theorem dX8_behind_106 : decode cX8_behind 106 = .ok (.ireturn, 1) := by decide +kernel
theorem dX8_behind_107 : decode cX8_behind 107 = .ok (.aload_n 0, 1) := by decide +kernel
theorem dX8_behind_108 : decode cX8_behind 108 = .ok (.getfield 32, 3) := by decide +kernel
theorem dX8_behind_111 : decode cX8_behind 111 = .ok (.getfield 149, 3) := by decide +kernel
theorem dX8_behind_114 : decode cX8_behind 114 = .ok (.iload_n 1, 1) := by decide +kernel
theorem dX8_behind_115 : decode cX8_behind 115 = .ok (.invokestatic 136, 3) := by decide +kernel
theorem dX8_behind_118 : decode cX8_behind 118 = .ok (.ireturn, 1) := by decide +kernel
theorem dX8_behind_119 : decode cX8_behind 119 = .ok (.aload_n 0, 1) := by decide +kernel
theorem dX8_behind_120 : decode cX8_behind 120 = .ok (.getfield 32, 3) := by decide +kernel
theorem dX8_behind_123 : decode cX8_behind 123 = .ok (.getfield 124, 3) := by decide +kernel
theorem dX8_behind_126 : decode cX8_behind 126 = .ok (.getfield 143, 3) := by decide +kernel
theorem dX8_behind_129 : decode cX8_behind 129 = .ok (.iload_n 1, 1) := by decide +kernel
theorem dX8_behind_130 : decode cX8_behind 130 = .ok (.invokestatic 136, 3) := by decide +kernel
theorem dX8_behind_133 : decode cX8_behind 133 = .ok (.ireturn, 1) := by decide +kernel
set_option maxRecDepth 20000 in
theorem ggX8_waste_X8_isWithin : GoodIn wsX8_waste wsX8_isWithin := goodIn_r _ [11] (by decide +kernel) (by decide +kernel)
set_option maxRecDepth 20000 in
theorem gX8_waste_X8_isWithin : GoodIn wsX8_waste (va_wsS RX8 64 yX8_isWithin wsX8_isWithin) := goodIn_app (goodIn_of _ (by decide +kernel)) ggX8_waste_X8_isWithin
set_option maxRecDepth 20000 in
theorem ggX8_waste_X6_play : GoodIn wsX8_waste wsX6_play := goodIn_r _ [16, 17, 18, 19, 20, 21, 22, 23, 15, 24, 25, 26, 27, 28, 29, 30, 31, 32, 33, 34, 35, 36, 37, 38, 39, 40, 10, 41, 42, 43, 44, 45, 46, 47, 48, 49, 50, 51, 52, 53, 54, 55, 56, 57, 58, 59, 60, 61, 62, 63, 64, 65, 66, 67, 68, 69, 70, 71, 72, 73, 74, 75, 76, 77, 78, 79, 80, 81, 82, 83, 84, 85, 86, 87, 88, 89, 90, 91, 92, 93, 94, 95, 96, 97, 98, 99, 100, 101, 102, 103, 104, 105, 106, 107, 108, 109, 110, 111, 112, 113, 114, 115, 116, 117, 118, 119, 120, 121, 122, 123, 124, 125, 126, 127, 128, 129, 130, 131, 132, 133, 134, 135, 136, 137, 138, 139, 140, 141, 142, 143, 144, 145, 146, 147, 148, 149, 150, 151, 152, 153, 154, 155, 156, 157, 158, 159, 160, 161, 162, 163, 164, 165, 166, 167, 168, 169, 170, 171, 172, 201, 202, 192, 193, 194, 195, 196, 197, 198, 199, 200, 203, 204, 205, 206, 207, 208] (by decide +kernel) (by decide +kernel)
set_option maxRecDepth 20000 in
theorem gX8_waste_X6_play : GoodIn wsX8_waste (wsV RX8 114 RX6 yX6_play wsX6_play) := goodIn_app (goodIn_of _ (by decide +kernel)) ggX8_waste_X6_play
set_option maxRecDepth 20000 in
theorem ggX8_waste_X1_starved : GoodIn wsX8_waste wsX1_starved := goodIn_r _ [176, 35, 38, 104, 10, 105, 203, 204, 205, 206, 207, 208] (by decide +kernel) (by decide +kernel)
set_option maxRecDepth 20000 in
theorem gX8_waste_X1_starved : GoodIn wsX8_waste (wsV RX8 158 RX1 yX1_starved wsX1_starved) := goodIn_app (goodIn_of _ (by decide +kernel)) ggX8_waste_X1_starved
theorem dX8_waste_0 : decode cX8_waste 0 = .ok (.iload_n 1, 1) := by decide +kernel
theorem dX8_waste_1 : decode cX8_waste 1 = .ok (.iconst 2, 1) := by decide +kernel
theorem dX8_waste_2 : decode cX8_waste 2 = .ok (.invokestatic 64, 3) := by decide +kernel
theorem dX8_waste_5 : decode cX8_waste 5 = .ok (.ifCond .ne 6, 3) := by decide +kernel
theorem dX8_waste_8 : decode cX8_waste 8 = .ok (.bipush (-2), 2) := by decide +kernel
theorem dX8_waste_10 : decode cX8_waste 10 = .ok (.ireturn, 1) := by decide +kernel
theorem dX8_waste_11 : decode cX8_waste 11 = .ok (.aload_n 0, 1) := by decide +kernel
theorem dX8_waste_12 : decode cX8_waste 12 = .ok (.getfield 32, 3) := by decide +kernel
theorem dX8_waste_15 : decode cX8_waste 15 = .ok (.aload_n 0, 1) := by decide +kernel
theorem dX8_waste_16 : decode cX8_waste 16 = .ok (.getfield 25, 3) := by decide +kernel
theorem dX8_waste_19 : decode cX8_waste 19 = .ok (.aload_n 0, 1) := by decide +kernel
theorem dX8_waste_20 : decode cX8_waste 20 = .ok (.getfield 10, 3) := by decide +kernel
theorem dX8_waste_23 : decode cX8_waste 23 = .ok (.getfield 72, 3) := by decide +kernel
theorem dX8_waste_26 : decode cX8_waste 26 = .ok (.iconst 0, 1) := by decide +kernel
theorem dX8_waste_27 : decode cX8_waste 27 = .ok (.invokevirtual 114, 3) := by decide +kernel
theorem dX8_waste_30 : decode cX8_waste 30 = .ok (.ifCond .ne 6, 3) := by decide +kernel
theorem dX8_waste_33 : decode cX8_waste 33 = .ok (.bipush (-5), 2) := by decide +kernel
theorem dX8_waste_35 : decode cX8_waste 35 = .ok (.ireturn, 1) := by decide +kernel
theorem dX8_waste_36 : decode cX8_waste 36 = .ok (.iload_n 1, 1) := by decide +kernel
theorem dX8_waste_37 : decode cX8_waste 37 = .ok (.ifCond .ne 11, 3) := by decide +kernel
theorem dX8_waste_40 : decode cX8_waste 40 = .ok (.aload_n 0, 1) := by decide +kernel
theorem dX8_waste_41 : decode cX8_waste 41 = .ok (.getfield 32, 3) := by decide +kernel
theorem dX8_waste_44 : decode cX8_waste 44 = .ok (.getfield 152, 3) := by decide +kernel
theorem dX8_waste_47 : decode cX8_waste 47 = .ok (.ireturn, 1) := by decide +kernel
theorem dX8_waste_48 : decode cX8_waste 48 = .ok (.iload_n 1, 1) := by decide +kernel
theorem dX8_waste_49 : decode cX8_waste 49 = .ok (.iconst 1, 1) := by decide +kernel
theorem dX8_waste_50 : decode cX8_waste 50 = .ok (.if_icmp .ne 13, 3) := by decide +kernel
theorem dX8_waste_53 : decode cX8_waste 53 = .ok (.aload_n 0, 1) := by decide +kernel
theorem dX8_waste_54 : decode cX8_waste 54 = .ok (.getfield 32, 3) := by decide +kernel
theorem dX8_waste_57 : decode cX8_waste 57 = .ok (.getfield 155, 3) := by decide +kernel
theorem dX8_waste_60 : decode cX8_waste 60 = .ok (.goto 13, 3) := by decide +kernel
theorem dX8_waste_63 : decode cX8_waste 63 = .ok (.aload_n 0, 1) := by decide +kernel
theorem dX8_waste_64 : decode cX8_waste 64 = .ok (.getfield 32, 3) := by decide +kernel
theorem dX8_waste_67 : decode cX8_waste 67 = .ok (.getfield 124, 3) := by decide +kernel
theorem dX8_waste_70 : decode cX8_waste 70 = .ok (.invokevirtual 158, 3) := by decide +kernel
theorem dX8_waste_73 : decode cX8_waste 73 = .ok (.ireturn, 1) := by decide +kernel
set_option maxRecDepth 20000 in
theorem ggX8_served_X8_isHouse : GoodIn wsX8_served wsX8_isHouse := goodIn_r _ [6, 7, 8, 5, 9] (by decide +kernel) (by decide +kernel)
set_option maxRecDepth 20000 in
theorem gX8_served_X8_isHouse : GoodIn wsX8_served (va_wsS RX8 68 yX8_isHouse wsX8_isHouse) := goodIn_app (goodIn_of _ (by decide +kernel)) ggX8_served_X8_isHouse
set_option maxRecDepth 20000 in
theorem ggX8_served_X8_isDish : GoodIn wsX8_served wsX8_isDish := goodIn_r _ [12] (by decide +kernel) (by decide +kernel)
set_option maxRecDepth 20000 in
theorem gX8_served_X8_isDish : GoodIn wsX8_served (va_wsS RX8 161 yX8_isDish wsX8_isDish) := goodIn_app (goodIn_of _ (by decide +kernel)) ggX8_served_X8_isDish
set_option maxRecDepth 20000 in
theorem ggX8_served_X1_takers : GoodIn wsX8_served wsX1_takers := goodIn_r _ [17, 18, 19, 20, 16, 21, 22, 23, 24, 25, 26, 27, 28, 29, 5, 30, 31, 32, 33, 34, 35, 36, 37, 38, 39, 40, 41, 42, 43, 44, 45, 46, 47, 48, 49, 50, 51, 52, 53, 54, 55, 56, 57, 58, 59, 60, 76, 77, 78, 79, 80, 81] (by decide +kernel) (by decide +kernel)
set_option maxRecDepth 20000 in
theorem gX8_served_X1_takers : GoodIn wsX8_served (wsV RX8 164 RX1 yX1_takers wsX1_takers) := goodIn_app (goodIn_of _ (by decide +kernel)) ggX8_served_X1_takers
theorem dX8_served_0 : decode cX8_served 0 = .ok (.iload_n 1, 1) := by decide +kernel
theorem dX8_served_1 : decode cX8_served 1 = .ok (.invokestatic 68, 3) := by decide +kernel
theorem dX8_served_4 : decode cX8_served 4 = .ok (.ifCond .ne 5, 3) := by decide +kernel
theorem dX8_served_7 : decode cX8_served 7 = .ok (.iconst (-1), 1) := by decide +kernel
theorem dX8_served_8 : decode cX8_served 8 = .ok (.ireturn, 1) := by decide +kernel
theorem dX8_served_9 : decode cX8_served 9 = .ok (.iload_n 2, 1) := by decide +kernel
theorem dX8_served_10 : decode cX8_served 10 = .ok (.invokestatic 161, 3) := by decide +kernel
theorem dX8_served_13 : decode cX8_served 13 = .ok (.ifCond .ne 6, 3) := by decide +kernel
theorem dX8_served_16 : decode cX8_served 16 = .ok (.bipush (-2), 2) := by decide +kernel
theorem dX8_served_18 : decode cX8_served 18 = .ok (.ireturn, 1) := by decide +kernel
theorem dX8_served_19 : decode cX8_served 19 = .ok (.aload_n 0, 1) := by decide +kernel
theorem dX8_served_20 : decode cX8_served 20 = .ok (.getfield 10, 3) := by decide +kernel
theorem dX8_served_23 : decode cX8_served 23 = .ok (.getfield 72, 3) := by decide +kernel
theorem dX8_served_26 : decode cX8_served 26 = .ok (.iload_n 1, 1) := by decide +kernel
theorem dX8_served_27 : decode cX8_served 27 = .ok (.iload_n 2, 1) := by decide +kernel
theorem dX8_served_28 : decode cX8_served 28 = .ok (.invokevirtual 164, 3) := by decide +kernel
theorem dX8_served_31 : decode cX8_served 31 = .ok (.ireturn, 1) := by decide +kernel
set_option maxRecDepth 20000 in
theorem ggX8_feign_X1_has : GoodIn wsX8_feign wsX1_has := goodIn_r _ [8, 9, 10, 11, 12, 98, 99, 100, 101, 102, 103] (by decide +kernel) (by decide +kernel)
set_option maxRecDepth 20000 in
theorem gX8_feign_X1_has : GoodIn wsX8_feign (wsV RX8 82 RX1 yX1_has wsX1_has) := goodIn_app (goodIn_of _ (by decide +kernel)) ggX8_feign_X1_has
set_option maxRecDepth 20000 in
theorem ggX8_feign_X8_isDish : GoodIn wsX8_feign wsX8_isDish := goodIn_r _ [15] (by decide +kernel) (by decide +kernel)
set_option maxRecDepth 20000 in
theorem gX8_feign_X8_isDish : GoodIn wsX8_feign (va_wsS RX8 161 yX8_isDish wsX8_isDish) := goodIn_app (goodIn_of _ (by decide +kernel)) ggX8_feign_X8_isDish
set_option maxRecDepth 20000 in
theorem ggX8_feign_X2_leastFeint : GoodIn wsX8_feign wsX2_leastFeint := goodIn_r _ [20, 21, 22, 23, 24, 25, 26, 7, 27, 28, 29, 30, 9, 31, 32, 11, 33, 34, 35, 36, 37, 38, 39, 40, 41, 42, 43, 44, 45, 46, 47, 48, 49, 50, 51, 52, 53, 54, 55, 56, 57, 10, 12, 58, 59, 60, 61, 62, 63, 64, 65, 66, 67, 68, 69, 70, 71, 72, 73, 74, 75, 76, 77, 78, 79, 80, 81, 82, 104, 105, 98, 99, 100, 101, 102, 103] (by decide +kernel) (by decide +kernel)
set_option maxRecDepth 20000 in
theorem gX8_feign_X2_leastFeint : GoodIn wsX8_feign (wsV RX8 168 RX2 yX2_leastFeint wsX2_leastFeint) := goodIn_app (goodIn_of _ (by decide +kernel)) ggX8_feign_X2_leastFeint
theorem dX8_feign_0 : decode cX8_feign 0 = .ok (.aload_n 0, 1) := by decide +kernel
theorem dX8_feign_1 : decode cX8_feign 1 = .ok (.getfield 10, 3) := by decide +kernel
theorem dX8_feign_4 : decode cX8_feign 4 = .ok (.getfield 72, 3) := by decide +kernel
theorem dX8_feign_7 : decode cX8_feign 7 = .ok (.iload_n 1, 1) := by decide +kernel
theorem dX8_feign_8 : decode cX8_feign 8 = .ok (.invokevirtual 82, 3) := by decide +kernel
theorem dX8_feign_11 : decode cX8_feign 11 = .ok (.ifCond .ne 5, 3) := by decide +kernel
theorem dX8_feign_14 : decode cX8_feign 14 = .ok (.iconst (-1), 1) := by decide +kernel
theorem dX8_feign_15 : decode cX8_feign 15 = .ok (.ireturn, 1) := by decide +kernel
theorem dX8_feign_16 : decode cX8_feign 16 = .ok (.iload_n 2, 1) := by decide +kernel
theorem dX8_feign_17 : decode cX8_feign 17 = .ok (.invokestatic 161, 3) := by decide +kernel
theorem dX8_feign_20 : decode cX8_feign 20 = .ok (.ifCond .ne 6, 3) := by decide +kernel
theorem dX8_feign_23 : decode cX8_feign 23 = .ok (.bipush (-2), 2) := by decide +kernel
theorem dX8_feign_25 : decode cX8_feign 25 = .ok (.ireturn, 1) := by decide +kernel
theorem dX8_feign_26 : decode cX8_feign 26 = .ok (.aload_n 0, 1) := by decide +kernel
theorem dX8_feign_27 : decode cX8_feign 27 = .ok (.getfield 39, 3) := by decide +kernel
theorem dX8_feign_30 : decode cX8_feign 30 = .ok (.aload_n 0, 1) := by decide +kernel
theorem dX8_feign_31 : decode cX8_feign 31 = .ok (.getfield 10, 3) := by decide +kernel
theorem dX8_feign_34 : decode cX8_feign 34 = .ok (.getfield 72, 3) := by decide +kernel
theorem dX8_feign_37 : decode cX8_feign 37 = .ok (.iload_n 1, 1) := by decide +kernel
theorem dX8_feign_38 : decode cX8_feign 38 = .ok (.iload_n 2, 1) := by decide +kernel
theorem dX8_feign_39 : decode cX8_feign 39 = .ok (.invokevirtual 168, 3) := by decide +kernel
theorem dX8_feign_42 : decode cX8_feign 42 = .ok (.ireturn, 1) := by decide +kernel
set_option maxRecDepth 20000 in
theorem ggX8_rests_X8_isHouse : GoodIn wsX8_rests wsX8_isHouse := goodIn_r _ [7, 8, 9, 6, 10] (by decide +kernel) (by decide +kernel)
set_option maxRecDepth 20000 in
theorem gX8_rests_X8_isHouse : GoodIn wsX8_rests (va_wsS RX8 68 yX8_isHouse wsX8_isHouse) := goodIn_app (goodIn_of _ (by decide +kernel)) ggX8_rests_X8_isHouse
set_option maxRecDepth 20000 in
theorem ggX8_rests_X8_isDish : GoodIn wsX8_rests wsX8_isDish := goodIn_r _ [13] (by decide +kernel) (by decide +kernel)
set_option maxRecDepth 20000 in
theorem gX8_rests_X8_isDish : GoodIn wsX8_rests (va_wsS RX8 161 yX8_isDish wsX8_isDish) := goodIn_app (goodIn_of _ (by decide +kernel)) ggX8_rests_X8_isDish
set_option maxRecDepth 20000 in
theorem ggX8_rests_X8_isCrowded : GoodIn wsX8_rests wsX8_isCrowded := goodIn_r _ [17, 2, 3, 18, 19, 20, 21, 22, 23, 24, 25, 6, 26, 27, 28, 29, 30, 31, 32, 33, 124, 125, 126, 127, 128, 129, 130, 131, 132, 133, 134, 135, 136, 137, 138, 139, 140, 141, 142, 143, 144] (by decide +kernel) (by decide +kernel)
set_option maxRecDepth 20000 in
theorem gX8_rests_X8_isCrowded : GoodIn wsX8_rests (wsV RX8 172 RX8 yX8_isCrowded wsX8_isCrowded) := goodIn_app (goodIn_of _ (by decide +kernel)) ggX8_rests_X8_isCrowded
set_option maxRecDepth 20000 in
theorem ggX8_rests_X2_rowsAtRest : GoodIn wsX8_rests wsX2_rowsAtRest := goodIn_r _ [38, 39, 40, 41, 42, 43, 21, 44, 45, 46, 23, 24, 47, 48, 6, 49, 50, 51, 52, 53, 54, 55, 56, 57, 58, 19, 20, 22, 25, 26, 59, 28, 29, 30, 31, 32, 33, 60, 61, 62, 63, 64, 65, 66, 67, 68, 69, 70, 71, 72, 73, 74, 75, 76, 77, 78, 79, 80, 81, 82, 83, 84, 85, 86, 87, 88, 89, 90, 91, 92, 93, 94, 95, 96, 97, 98, 99, 100, 101, 102, 37, 103, 104, 105, 106, 107, 108, 109, 110, 111, 112, 113, 114, 115, 116, 117, 118, 119, 120, 121, 122, 123, 145, 146, 139, 140, 141, 142, 143, 144] (by decide +kernel) (by decide +kernel)
set_option maxRecDepth 20000 in
theorem gX8_rests_X2_rowsAtRest : GoodIn wsX8_rests (wsV RX8 175 RX2 yX2_rowsAtRest wsX2_rowsAtRest) := goodIn_app (goodIn_of _ (by decide +kernel)) ggX8_rests_X2_rowsAtRest
theorem dX8_rests_0 : decode cX8_rests 0 = .ok (.iload_n 1, 1) := by decide +kernel
theorem dX8_rests_1 : decode cX8_rests 1 = .ok (.invokestatic 68, 3) := by decide +kernel
theorem dX8_rests_4 : decode cX8_rests 4 = .ok (.ifCond .ne 5, 3) := by decide +kernel
theorem dX8_rests_7 : decode cX8_rests 7 = .ok (.iconst (-1), 1) := by decide +kernel
theorem dX8_rests_8 : decode cX8_rests 8 = .ok (.ireturn, 1) := by decide +kernel
theorem dX8_rests_9 : decode cX8_rests 9 = .ok (.iload_n 2, 1) := by decide +kernel
theorem dX8_rests_10 : decode cX8_rests 10 = .ok (.invokestatic 161, 3) := by decide +kernel
theorem dX8_rests_13 : decode cX8_rests 13 = .ok (.ifCond .ne 6, 3) := by decide +kernel
theorem dX8_rests_16 : decode cX8_rests 16 = .ok (.bipush (-2), 2) := by decide +kernel
theorem dX8_rests_18 : decode cX8_rests 18 = .ok (.ireturn, 1) := by decide +kernel
theorem dX8_rests_19 : decode cX8_rests 19 = .ok (.aload_n 0, 1) := by decide +kernel
theorem dX8_rests_20 : decode cX8_rests 20 = .ok (.iload_n 1, 1) := by decide +kernel
theorem dX8_rests_21 : decode cX8_rests 21 = .ok (.invokevirtual 172, 3) := by decide +kernel
theorem dX8_rests_24 : decode cX8_rests 24 = .ok (.ifCond .eq 6, 3) := by decide +kernel
theorem dX8_rests_27 : decode cX8_rests 27 = .ok (.bipush (-4), 2) := by decide +kernel
theorem dX8_rests_29 : decode cX8_rests 29 = .ok (.ireturn, 1) := by decide +kernel
theorem dX8_rests_30 : decode cX8_rests 30 = .ok (.aload_n 0, 1) := by decide +kernel
theorem dX8_rests_31 : decode cX8_rests 31 = .ok (.getfield 39, 3) := by decide +kernel
theorem dX8_rests_34 : decode cX8_rests 34 = .ok (.aload_n 0, 1) := by decide +kernel
theorem dX8_rests_35 : decode cX8_rests 35 = .ok (.getfield 10, 3) := by decide +kernel
theorem dX8_rests_38 : decode cX8_rests 38 = .ok (.getfield 72, 3) := by decide +kernel
theorem dX8_rests_41 : decode cX8_rests 41 = .ok (.iload_n 1, 1) := by decide +kernel
theorem dX8_rests_42 : decode cX8_rests 42 = .ok (.iload_n 2, 1) := by decide +kernel
theorem dX8_rests_43 : decode cX8_rests 43 = .ok (.iload_n 3, 1) := by decide +kernel
theorem dX8_rests_44 : decode cX8_rests 44 = .ok (.invokevirtual 175, 3) := by decide +kernel
theorem dX8_rests_47 : decode cX8_rests 47 = .ok (.ireturn, 1) := by decide +kernel
set_option maxRecDepth 20000 in
theorem ggX8_round_X1_has : GoodIn wsX8_round wsX1_has := goodIn_r _ [8, 9, 10, 11, 12, 167, 168, 169, 170, 171, 172] (by decide +kernel) (by decide +kernel)
set_option maxRecDepth 20000 in
theorem gX8_round_X1_has : GoodIn wsX8_round (wsV RX8 82 RX1 yX1_has wsX1_has) := goodIn_app (goodIn_of _ (by decide +kernel)) ggX8_round_X1_has
set_option maxRecDepth 20000 in
theorem ggX8_round_X8_isWithin : GoodIn wsX8_round wsX8_isWithin := goodIn_r _ [15] (by decide +kernel) (by decide +kernel)
set_option maxRecDepth 20000 in
theorem gX8_round_X8_isWithin : GoodIn wsX8_round (va_wsS RX8 64 yX8_isWithin wsX8_isWithin) := goodIn_app (goodIn_of _ (by decide +kernel)) ggX8_round_X8_isWithin
set_option maxRecDepth 20000 in
theorem ggX8_round_X8_power : GoodIn wsX8_round wsX8_power := goodIn_r _ [18] (by decide +kernel) (by decide +kernel)
set_option maxRecDepth 20000 in
theorem gX8_round_X8_power : GoodIn wsX8_round (va_wsS RX8 179 yX8_power wsX8_power) := goodIn_app (goodIn_of _ (by decide +kernel)) ggX8_round_X8_power
set_option maxRecDepth 20000 in
theorem ggX8_round_X6_walk : GoodIn wsX8_round wsX6_walk := goodIn_r _ [23, 24, 25, 26, 27, 28, 29, 22, 30, 31, 32, 33, 34, 35, 36, 37, 38, 39, 40, 7, 41, 42, 43, 44, 9, 45, 46, 11, 47, 48, 49, 50, 51, 52, 53, 54, 55, 56, 57, 58, 59, 60, 61, 62, 10, 12, 63, 64, 65, 66, 67, 68, 69, 70, 5, 6, 8, 71, 72, 73, 74, 75, 76, 77, 78, 79, 80, 81, 82, 83, 84, 85, 86, 87, 88, 89, 90, 91, 92, 93, 94, 95, 96, 97, 98, 99, 100, 101, 102, 103, 104, 105, 106, 107, 108, 109, 110, 111, 112, 113, 114, 115, 116, 117, 118, 119, 120, 121, 122, 123, 124, 125, 126, 127, 128, 129, 130, 131, 132, 133, 134, 135, 136, 137, 138, 139, 140, 141, 142, 143, 144, 145, 146, 147, 173, 174, 175, 176, 177, 178, 179, 180, 181, 167, 168, 169, 170, 171, 172] (by decide +kernel) (by decide +kernel)
set_option maxRecDepth 20000 in
theorem gX8_round_X6_walk : GoodIn wsX8_round (wsV RX8 182 RX6 yX6_walk wsX6_walk) := goodIn_app (goodIn_of _ (by decide +kernel)) ggX8_round_X6_walk
set_option maxRecDepth 20000 in
theorem ggX8_round_X6_firstStop : GoodIn wsX8_round wsX6_firstStop := goodIn_r _ [151, 24, 63, 11, 64, 173, 174, 175, 176, 177, 178, 179, 180, 181] (by decide +kernel) (by decide +kernel)
set_option maxRecDepth 20000 in
theorem gX8_round_X6_firstStop : GoodIn wsX8_round (wsV RX8 186 RX6 yX6_firstStop wsX6_firstStop) := goodIn_app (goodIn_of _ (by decide +kernel)) ggX8_round_X6_firstStop
theorem dX8_round_0 : decode cX8_round 0 = .ok (.aload_n 0, 1) := by decide +kernel
theorem dX8_round_1 : decode cX8_round 1 = .ok (.getfield 10, 3) := by decide +kernel
theorem dX8_round_4 : decode cX8_round 4 = .ok (.getfield 72, 3) := by decide +kernel
theorem dX8_round_7 : decode cX8_round 7 = .ok (.iload_n 1, 1) := by decide +kernel
theorem dX8_round_8 : decode cX8_round 8 = .ok (.invokevirtual 82, 3) := by decide +kernel
theorem dX8_round_11 : decode cX8_round 11 = .ok (.ifCond .ne 5, 3) := by decide +kernel
theorem dX8_round_14 : decode cX8_round 14 = .ok (.iconst (-1), 1) := by decide +kernel
theorem dX8_round_15 : decode cX8_round 15 = .ok (.ireturn, 1) := by decide +kernel
theorem dX8_round_16 : decode cX8_round 16 = .ok (.iload_n 2, 1) := by decide +kernel
theorem dX8_round_17 : decode cX8_round 17 = .ok (.iconst 5, 1) := by decide +kernel
theorem dX8_round_18 : decode cX8_round 18 = .ok (.invokestatic 64, 3) := by decide +kernel
theorem dX8_round_21 : decode cX8_round 21 = .ok (.ifCond .eq 22, 3) := by decide +kernel
theorem dX8_round_24 : decode cX8_round 24 = .ok (.iload_n 3, 1) := by decide +kernel
theorem dX8_round_25 : decode cX8_round 25 = .ok (.sipush 999, 3) := by decide +kernel
theorem dX8_round_28 : decode cX8_round 28 = .ok (.invokestatic 64, 3) := by decide +kernel
theorem dX8_round_31 : decode cX8_round 31 = .ok (.ifCond .eq 12, 3) := by decide +kernel
theorem dX8_round_34 : decode cX8_round 34 = .ok (.iload 4, 2) := by decide +kernel
theorem dX8_round_36 : decode cX8_round 36 = .ok (.iconst 1, 1) := by decide +kernel
theorem dX8_round_37 : decode cX8_round 37 = .ok (.invokestatic 64, 3) := by decide +kernel
theorem dX8_round_40 : decode cX8_round 40 = .ok (.ifCond .ne 6, 3) := by decide +kernel
theorem dX8_round_43 : decode cX8_round 43 = .ok (.bipush (-2), 2) := by decide +kernel
theorem dX8_round_45 : decode cX8_round 45 = .ok (.ireturn, 1) := by decide +kernel
theorem dX8_round_46 : decode cX8_round 46 = .ok (.bipush 21, 2) := by decide +kernel
theorem dX8_round_48 : decode cX8_round 48 = .ok (.istore 5, 2) := by decide +kernel
theorem dX8_round_50 : decode cX8_round 50 = .ok (.bipush (-6), 2) := by decide +kernel
theorem dX8_round_52 : decode cX8_round 52 = .ok (.istore 6, 2) := by decide +kernel
theorem dX8_round_54 : decode cX8_round 54 = .ok (.iconst 3, 1) := by decide +kernel
theorem dX8_round_55 : decode cX8_round 55 = .ok (.iload_n 2, 1) := by decide +kernel
theorem dX8_round_56 : decode cX8_round 56 = .ok (.invokestatic 179, 3) := by decide +kernel
theorem dX8_round_59 : decode cX8_round 59 = .ok (.istore 7, 2) := by decide +kernel
theorem dX8_round_61 : decode cX8_round 61 = .ok (.iconst 0, 1) := by decide +kernel
theorem dX8_round_62 : decode cX8_round 62 = .ok (.istore 8, 2) := by decide +kernel
theorem dX8_round_64 : decode cX8_round 64 = .ok (.iload 8, 2) := by decide +kernel
theorem dX8_round_66 : decode cX8_round 66 = .ok (.iload 7, 2) := by decide +kernel
theorem dX8_round_68 : decode cX8_round 68 = .ok (.if_icmp .ge 59, 3) := by decide +kernel
theorem dX8_round_71 : decode cX8_round 71 = .ok (.aload_n 0, 1) := by decide +kernel
theorem dX8_round_72 : decode cX8_round 72 = .ok (.getfield 32, 3) := by decide +kernel
theorem dX8_round_75 : decode cX8_round 75 = .ok (.aload_n 0, 1) := by decide +kernel
theorem dX8_round_76 : decode cX8_round 76 = .ok (.getfield 10, 3) := by decide +kernel
theorem dX8_round_79 : decode cX8_round 79 = .ok (.getfield 72, 3) := by decide +kernel
theorem dX8_round_82 : decode cX8_round 82 = .ok (.iload_n 1, 1) := by decide +kernel
theorem dX8_round_83 : decode cX8_round 83 = .ok (.iload_n 2, 1) := by decide +kernel
theorem dX8_round_84 : decode cX8_round 84 = .ok (.iload_n 3, 1) := by decide +kernel
theorem dX8_round_85 : decode cX8_round 85 = .ok (.iload 8, 2) := by decide +kernel
theorem dX8_round_87 : decode cX8_round 87 = .ok (.invokevirtual 182, 3) := by decide +kernel
theorem dX8_round_90 : decode cX8_round 90 = .ok (.istore 9, 2) := by decide +kernel
theorem dX8_round_92 : decode cX8_round 92 = .ok (.iload 9, 2) := by decide +kernel
theorem dX8_round_94 : decode cX8_round 94 = .ok (.iload 5, 2) := by decide +kernel
theorem dX8_round_96 : decode cX8_round 96 = .ok (.if_icmp .ge 25, 3) := by decide +kernel
theorem dX8_round_99 : decode cX8_round 99 = .ok (.iload 9, 2) := by decide +kernel
theorem dX8_round_101 : decode cX8_round 101 = .ok (.istore 5, 2) := by decide +kernel
theorem dX8_round_103 : decode cX8_round 103 = .ok (.iload_n 2, 1) := by decide +kernel
theorem dX8_round_104 : decode cX8_round 104 = .ok (.ifCond .ne 8, 3) := by decide +kernel
theorem dX8_round_107 : decode cX8_round 107 = .ok (.bipush (-6), 2) := by decide +kernel
theorem dX8_round_109 : decode cX8_round 109 = .ok (.goto 10, 3) := by decide +kernel
theorem dX8_round_112 : decode cX8_round 112 = .ok (.aload_n 0, 1) := by decide +kernel
theorem dX8_round_113 : decode cX8_round 113 = .ok (.getfield 32, 3) := by decide +kernel
theorem dX8_round_116 : decode cX8_round 116 = .ok (.invokevirtual 186, 3) := by decide +kernel
theorem dX8_round_119 : decode cX8_round 119 = .ok (.istore 6, 2) := by decide +kernel
theorem dX8_round_121 : decode cX8_round 121 = .ok (.iinc 8 1, 3) := by decide +kernel
theorem dX8_round_124 : decode cX8_round 124 = .ok (.goto (-60), 3) := by decide +kernel
theorem dX8_round_127 : decode cX8_round 127 = .ok (.iload 4, 2) := by decide +kernel
theorem dX8_round_129 : decode cX8_round 129 = .ok (.ifCond .ne 8, 3) := by decide +kernel
theorem dX8_round_132 : decode cX8_round 132 = .ok (.iload 5, 2) := by decide +kernel
theorem dX8_round_134 : decode cX8_round 134 = .ok (.goto 5, 3) := by decide +kernel
theorem dX8_round_137 : decode cX8_round 137 = .ok (.iload 6, 2) := by decide +kernel
theorem dX8_round_139 : decode cX8_round 139 = .ok (.ireturn, 1) := by decide +kernel
set_option maxRecDepth 20000 in
theorem ggX8_rules_X8_isHouse : GoodIn wsX8_rules wsX8_isHouse := goodIn_r _ [7, 8, 9, 6, 10] (by decide +kernel) (by decide +kernel)
set_option maxRecDepth 20000 in
theorem gX8_rules_X8_isHouse : GoodIn wsX8_rules (va_wsS RX8 68 yX8_isHouse wsX8_isHouse) := goodIn_app (goodIn_of _ (by decide +kernel)) ggX8_rules_X8_isHouse
set_option maxRecDepth 20000 in
theorem ggX8_rules_X8_isDish : GoodIn wsX8_rules wsX8_isDish := goodIn_r _ [13] (by decide +kernel) (by decide +kernel)
set_option maxRecDepth 20000 in
theorem gX8_rules_X8_isDish : GoodIn wsX8_rules (va_wsS RX8 161 yX8_isDish wsX8_isDish) := goodIn_app (goodIn_of _ (by decide +kernel)) ggX8_rules_X8_isDish
set_option maxRecDepth 20000 in
theorem ggX8_rules_X8_isWithin : GoodIn wsX8_rules wsX8_isWithin := goodIn_r _ [10] (by decide +kernel) (by decide +kernel)
set_option maxRecDepth 20000 in
theorem gX8_rules_X8_isWithin : GoodIn wsX8_rules (va_wsS RX8 64 yX8_isWithin wsX8_isWithin) := goodIn_app (goodIn_of _ (by decide +kernel)) ggX8_rules_X8_isWithin
set_option maxRecDepth 20000 in
theorem ggX8_rules_X1_inside : GoodIn wsX8_rules wsX1_inside := goodIn_r _ [18, 19, 20, 21, 6, 22, 98, 99, 100, 101, 102, 103] (by decide +kernel) (by decide +kernel)
set_option maxRecDepth 20000 in
theorem gX8_rules_X1_inside : GoodIn wsX8_rules (wsV RX8 189 RX1 yX1_inside wsX1_inside) := goodIn_app (goodIn_of _ (by decide +kernel)) ggX8_rules_X1_inside
set_option maxRecDepth 20000 in
theorem ggX8_rules_X4_servedByRule : GoodIn wsX8_rules wsX4_servedByRule := goodIn_r _ [27, 28, 29, 30, 31, 32, 17, 33, 34, 35, 36, 37, 38, 39, 15, 16, 18, 19, 20, 21, 6, 22, 40, 41, 42, 43, 44, 45, 46, 47, 48, 49, 50, 51, 52, 53, 54, 55, 56, 57, 58, 59, 60, 61, 62, 63, 64, 65, 66, 67, 68, 69, 70, 104, 98, 99, 100, 101, 102, 103] (by decide +kernel) (by decide +kernel)
set_option maxRecDepth 20000 in
theorem gX8_rules_X4_servedByRule : GoodIn wsX8_rules (wsV RX8 192 RX4 yX4_servedByRule wsX4_servedByRule) := goodIn_app (goodIn_of _ (by decide +kernel)) ggX8_rules_X4_servedByRule
set_option maxRecDepth 20000 in
theorem ggX8_rules_X1_hungerLeft : GoodIn wsX8_rules wsX1_hungerLeft := goodIn_r _ [74, 21, 6, 22, 75, 76, 77, 17, 78, 38, 52, 53, 54, 55, 56, 57, 98, 99, 100, 101, 102, 103] (by decide +kernel) (by decide +kernel)
set_option maxRecDepth 20000 in
theorem gX8_rules_X1_hungerLeft : GoodIn wsX8_rules (wsV RX8 195 RX1 yX1_hungerLeft wsX1_hungerLeft) := goodIn_app (goodIn_of _ (by decide +kernel)) ggX8_rules_X1_hungerLeft
set_option maxRecDepth 20000 in
theorem ggX8_rules_X1_greatestLeft : GoodIn wsX8_rules wsX1_greatestLeft := goodIn_r _ [82, 52, 53, 54, 55, 21, 6, 22, 75, 76, 77, 17, 78, 38, 56, 57, 98, 99, 100, 101, 102, 103] (by decide +kernel) (by decide +kernel)
set_option maxRecDepth 20000 in
theorem gX8_rules_X1_greatestLeft : GoodIn wsX8_rules (wsV RX8 198 RX1 yX1_greatestLeft wsX1_greatestLeft) := goodIn_app (goodIn_of _ (by decide +kernel)) ggX8_rules_X1_greatestLeft
theorem dX8_rules_0 : decode cX8_rules 0 = .ok (.iload_n 1, 1) := by decide +kernel
theorem dX8_rules_1 : decode cX8_rules 1 = .ok (.invokestatic 68, 3) := by decide +kernel
theorem dX8_rules_4 : decode cX8_rules 4 = .ok (.ifCond .ne 5, 3) := by decide +kernel
theorem dX8_rules_7 : decode cX8_rules 7 = .ok (.iconst (-1), 1) := by decide +kernel
theorem dX8_rules_8 : decode cX8_rules 8 = .ok (.ireturn, 1) := by decide +kernel
theorem dX8_rules_9 : decode cX8_rules 9 = .ok (.iload_n 2, 1) := by decide +kernel
theorem dX8_rules_10 : decode cX8_rules 10 = .ok (.invokestatic 161, 3) := by decide +kernel
theorem dX8_rules_13 : decode cX8_rules 13 = .ok (.ifCond .eq 20, 3) := by decide +kernel
theorem dX8_rules_16 : decode cX8_rules 16 = .ok (.iload_n 3, 1) := by decide +kernel
theorem dX8_rules_17 : decode cX8_rules 17 = .ok (.iconst 2, 1) := by decide +kernel
theorem dX8_rules_18 : decode cX8_rules 18 = .ok (.invokestatic 64, 3) := by decide +kernel
theorem dX8_rules_21 : decode cX8_rules 21 = .ok (.ifCond .eq 12, 3) := by decide +kernel
theorem dX8_rules_24 : decode cX8_rules 24 = .ok (.iload 4, 2) := by decide +kernel
theorem dX8_rules_26 : decode cX8_rules 26 = .ok (.iconst 1, 1) := by decide +kernel
theorem dX8_rules_27 : decode cX8_rules 27 = .ok (.invokestatic 64, 3) := by decide +kernel
theorem dX8_rules_30 : decode cX8_rules 30 = .ok (.ifCond .ne 6, 3) := by decide +kernel
theorem dX8_rules_33 : decode cX8_rules 33 = .ok (.bipush (-2), 2) := by decide +kernel
theorem dX8_rules_35 : decode cX8_rules 35 = .ok (.ireturn, 1) := by decide +kernel
theorem dX8_rules_36 : decode cX8_rules 36 = .ok (.aload_n 0, 1) := by decide +kernel
theorem dX8_rules_37 : decode cX8_rules 37 = .ok (.getfield 10, 3) := by decide +kernel
theorem dX8_rules_40 : decode cX8_rules 40 = .ok (.getfield 72, 3) := by decide +kernel
theorem dX8_rules_43 : decode cX8_rules 43 = .ok (.iload_n 1, 1) := by decide +kernel
theorem dX8_rules_44 : decode cX8_rules 44 = .ok (.invokevirtual 189, 3) := by decide +kernel
theorem dX8_rules_47 : decode cX8_rules 47 = .ok (.istore 5, 2) := by decide +kernel
theorem dX8_rules_49 : decode cX8_rules 49 = .ok (.aload_n 0, 1) := by decide +kernel
theorem dX8_rules_50 : decode cX8_rules 50 = .ok (.getfield 60, 3) := by decide +kernel
theorem dX8_rules_53 : decode cX8_rules 53 = .ok (.aload_n 0, 1) := by decide +kernel
theorem dX8_rules_54 : decode cX8_rules 54 = .ok (.getfield 10, 3) := by decide +kernel
theorem dX8_rules_57 : decode cX8_rules 57 = .ok (.getfield 72, 3) := by decide +kernel
theorem dX8_rules_60 : decode cX8_rules 60 = .ok (.iload_n 1, 1) := by decide +kernel
theorem dX8_rules_61 : decode cX8_rules 61 = .ok (.iload_n 2, 1) := by decide +kernel
theorem dX8_rules_62 : decode cX8_rules 62 = .ok (.iload_n 3, 1) := by decide +kernel
theorem dX8_rules_63 : decode cX8_rules 63 = .ok (.invokevirtual 192, 3) := by decide +kernel
theorem dX8_rules_66 : decode cX8_rules 66 = .ok (.istore 6, 2) := by decide +kernel
theorem dX8_rules_68 : decode cX8_rules 68 = .ok (.iload 4, 2) := by decide +kernel
theorem dX8_rules_70 : decode cX8_rules 70 = .ok (.ifCond .ne 20, 3) := by decide +kernel
theorem dX8_rules_73 : decode cX8_rules 73 = .ok (.aload_n 0, 1) := by decide +kernel
theorem dX8_rules_74 : decode cX8_rules 74 = .ok (.getfield 10, 3) := by decide +kernel
theorem dX8_rules_77 : decode cX8_rules 77 = .ok (.getfield 72, 3) := by decide +kernel
theorem dX8_rules_80 : decode cX8_rules 80 = .ok (.iload 5, 2) := by decide +kernel
theorem dX8_rules_82 : decode cX8_rules 82 = .ok (.iload 6, 2) := by decide +kernel
theorem dX8_rules_84 : decode cX8_rules 84 = .ok (.invokevirtual 195, 3) := by decide +kernel
theorem dX8_rules_87 : decode cX8_rules 87 = .ok (.goto 17, 3) := by decide +kernel
theorem dX8_rules_90 : decode cX8_rules 90 = .ok (.aload_n 0, 1) := by decide +kernel
theorem dX8_rules_91 : decode cX8_rules 91 = .ok (.getfield 10, 3) := by decide +kernel
theorem dX8_rules_94 : decode cX8_rules 94 = .ok (.getfield 72, 3) := by decide +kernel
theorem dX8_rules_97 : decode cX8_rules 97 = .ok (.iload 5, 2) := by decide +kernel
theorem dX8_rules_99 : decode cX8_rules 99 = .ok (.iload 6, 2) := by decide +kernel
theorem dX8_rules_101 : decode cX8_rules 101 = .ok (.invokevirtual 198, 3) := by decide +kernel
theorem dX8_rules_104 : decode cX8_rules 104 = .ok (.ireturn, 1) := by decide +kernel
set_option maxRecDepth 20000 in
theorem ggX8_seen_X8_isDish : GoodIn wsX8_seen wsX8_isDish := goodIn_r _ [5] (by decide +kernel) (by decide +kernel)
set_option maxRecDepth 20000 in
theorem gX8_seen_X8_isDish : GoodIn wsX8_seen (va_wsS RX8 161 yX8_isDish wsX8_isDish) := goodIn_app (goodIn_of _ (by decide +kernel)) ggX8_seen_X8_isDish
set_option maxRecDepth 20000 in
theorem ggX8_seen_X8_isWithin : GoodIn wsX8_seen wsX8_isWithin := goodIn_r _ [8] (by decide +kernel) (by decide +kernel)
set_option maxRecDepth 20000 in
theorem gX8_seen_X8_isWithin : GoodIn wsX8_seen (va_wsS RX8 64 yX8_isWithin wsX8_isWithin) := goodIn_app (goodIn_of _ (by decide +kernel)) ggX8_seen_X8_isWithin
set_option maxRecDepth 20000 in
theorem ggX8_seen_X0_addSight : GoodIn wsX8_seen wsX0_addSight := goodIn_r _ [13, 14, 15, 16, 17, 4, 18, 28, 29, 30, 31, 32, 33] (by decide +kernel) (by decide +kernel)
set_option maxRecDepth 20000 in
theorem gX8_seen_X0_addSight : GoodIn wsX8_seen (wsV RX8 201 RX0 yX0_addSight wsX0_addSight) := goodIn_app (goodIn_of _ (by decide +kernel)) ggX8_seen_X0_addSight
theorem dX8_seen_0 : decode cX8_seen 0 = .ok (.iload_n 1, 1) := by decide +kernel
theorem dX8_seen_1 : decode cX8_seen 1 = .ok (.invokestatic 161, 3) := by decide +kernel
theorem dX8_seen_4 : decode cX8_seen 4 = .ok (.ifCond .eq 12, 3) := by decide +kernel
theorem dX8_seen_7 : decode cX8_seen 7 = .ok (.iload_n 2, 1) := by decide +kernel
theorem dX8_seen_8 : decode cX8_seen 8 = .ok (.bipush 63, 2) := by decide +kernel
theorem dX8_seen_10 : decode cX8_seen 10 = .ok (.invokestatic 64, 3) := by decide +kernel
theorem dX8_seen_13 : decode cX8_seen 13 = .ok (.ifCond .ne 6, 3) := by decide +kernel
theorem dX8_seen_16 : decode cX8_seen 16 = .ok (.bipush (-2), 2) := by decide +kernel
theorem dX8_seen_18 : decode cX8_seen 18 = .ok (.ireturn, 1) := by decide +kernel
theorem dX8_seen_19 : decode cX8_seen 19 = .ok (.aload_n 0, 1) := by decide +kernel
theorem dX8_seen_20 : decode cX8_seen 20 = .ok (.getfield 10, 3) := by decide +kernel
theorem dX8_seen_23 : decode cX8_seen 23 = .ok (.iload_n 1, 1) := by decide +kernel
theorem dX8_seen_24 : decode cX8_seen 24 = .ok (.iload_n 2, 1) := by decide +kernel
theorem dX8_seen_25 : decode cX8_seen 25 = .ok (.invokevirtual 201, 3) := by decide +kernel
theorem dX8_seen_28 : decode cX8_seen 28 = .ok (.ireturn, 1) := by decide +kernel
theorem dX8_forget_0 : decode cX8_forget 0 = .ok (.aload_n 0, 1) := by decide +kernel
theorem dX8_forget_1 : decode cX8_forget 1 = .ok (.getfield 10, 3) := by decide +kernel
theorem dX8_forget_4 : decode cX8_forget 4 = .ok (.getfield 204, 3) := by decide +kernel
theorem dX8_forget_7 : decode cX8_forget 7 = .ok (.istore_n 1, 1) := by decide +kernel
theorem dX8_forget_8 : decode cX8_forget 8 = .ok (.aload_n 0, 1) := by decide +kernel
theorem dX8_forget_9 : decode cX8_forget 9 = .ok (.getfield 10, 3) := by decide +kernel
theorem dX8_forget_12 : decode cX8_forget 12 = .ok (.iconst 0, 1) := by decide +kernel
theorem dX8_forget_13 : decode cX8_forget 13 = .ok (.putfield 204, 3) := by decide +kernel
theorem dX8_forget_16 : decode cX8_forget 16 = .ok (.iload_n 1, 1) := by decide +kernel
theorem dX8_forget_17 : decode cX8_forget 17 = .ok (.ireturn, 1) := by decide +kernel
set_option maxRecDepth 20000 in
theorem ggX8_worlds_X1_inside : GoodIn wsX8_worlds wsX1_inside := goodIn_r _ [9, 10, 11, 12, 13, 14, 144, 145, 146, 147, 148, 149] (by decide +kernel) (by decide +kernel)
set_option maxRecDepth 20000 in
theorem gX8_worlds_X1_inside : GoodIn wsX8_worlds (wsV RX8 189 RX1 yX1_inside wsX1_inside) := goodIn_app (goodIn_of _ (by decide +kernel)) ggX8_worlds_X1_inside
set_option maxRecDepth 20000 in
theorem ggX8_worlds_X8_holds : GoodIn wsX8_worlds wsX8_holds := goodIn_r _ [14] (by decide +kernel) (by decide +kernel)
set_option maxRecDepth 20000 in
theorem gX8_worlds_X8_holds : GoodIn wsX8_worlds (va_wsS RX8 207 yX8_holds wsX8_holds) := goodIn_app (goodIn_of _ (by decide +kernel)) ggX8_worlds_X8_holds
set_option maxRecDepth 20000 in
theorem ggX8_worlds_X8_isWithin : GoodIn wsX8_worlds wsX8_isWithin := goodIn_r _ [18] (by decide +kernel) (by decide +kernel)
set_option maxRecDepth 20000 in
theorem gX8_worlds_X8_isWithin : GoodIn wsX8_worlds (va_wsS RX8 64 yX8_isWithin wsX8_isWithin) := goodIn_app (goodIn_of _ (by decide +kernel)) ggX8_worlds_X8_isWithin
set_option maxRecDepth 20000 in
theorem ggX8_worlds_X8_isCrowded : GoodIn wsX8_worlds wsX8_isCrowded := goodIn_r _ [22, 1, 2, 5, 6, 7, 8, 9, 10, 11, 12, 13, 14, 23, 24, 25, 26, 27, 28, 29, 123, 124, 125, 126, 127, 128, 129, 130, 131, 132, 133, 134, 135, 136, 137, 144, 145, 146, 147, 148, 149] (by decide +kernel) (by decide +kernel)
set_option maxRecDepth 20000 in
theorem gX8_worlds_X8_isCrowded : GoodIn wsX8_worlds (wsV RX8 172 RX8 yX8_isCrowded wsX8_isCrowded) := goodIn_app (goodIn_of _ (by decide +kernel)) ggX8_worlds_X8_isCrowded
set_option maxRecDepth 20000 in
theorem ggX8_worlds_X7_look : GoodIn wsX8_worlds wsX7_look := goodIn_r _ [34, 35, 36, 37, 38, 39, 40, 41, 42, 43, 44, 45, 8, 46, 47, 48, 10, 11, 49, 50, 13, 51, 52, 53, 54, 55, 56, 57, 58, 59, 60, 61, 62, 63, 64, 6, 7, 9, 12, 14, 65, 24, 25, 26, 27, 28, 29, 66, 67, 68, 69, 15, 70, 71, 72, 73, 74, 75, 76, 77, 78, 79, 80, 81, 82, 83, 84, 85, 86, 87, 88, 89, 90, 91, 92, 93, 94, 95, 96, 97, 98, 99, 100, 101, 102, 103, 104, 105, 106, 107, 108, 109, 110, 111, 112, 113, 114, 115, 33, 116, 117, 118, 138, 139, 140, 141, 142, 143, 132, 133, 134, 135, 136, 137, 144, 145, 146, 147, 148, 149] (by decide +kernel) (by decide +kernel)
set_option maxRecDepth 20000 in
theorem gX8_worlds_X7_look : GoodIn wsX8_worlds (wsV RX8 210 RX7 yX7_look wsX7_look) := goodIn_app (goodIn_of _ (by decide +kernel)) ggX8_worlds_X7_look
set_option maxRecDepth 20000 in
theorem ggX8_worlds_X7_hungerOf : GoodIn wsX8_worlds wsX7_hungerOf := goodIn_r _ [122, 40, 38, 37, 93, 13, 94, 138, 139, 140, 141, 142, 143] (by decide +kernel) (by decide +kernel)
set_option maxRecDepth 20000 in
theorem gX8_worlds_X7_hungerOf : GoodIn wsX8_worlds (wsV RX8 217 RX7 yX7_hungerOf wsX7_hungerOf) := goodIn_app (goodIn_of _ (by decide +kernel)) ggX8_worlds_X7_hungerOf
theorem dX8_worlds_0 : decode cX8_worlds 0 = .ok (.iload_n 1, 1) := by decide +kernel
theorem dX8_worlds_1 : decode cX8_worlds 1 = .ok (.iconst (-1), 1) := by decide +kernel
theorem dX8_worlds_2 : decode cX8_worlds 2 = .ok (.if_icmp .eq 23, 3) := by decide +kernel
theorem dX8_worlds_5 : decode cX8_worlds 5 = .ok (.aload_n 0, 1) := by decide +kernel
theorem dX8_worlds_6 : decode cX8_worlds 6 = .ok (.getfield 10, 3) := by decide +kernel
theorem dX8_worlds_9 : decode cX8_worlds 9 = .ok (.getfield 72, 3) := by decide +kernel
theorem dX8_worlds_12 : decode cX8_worlds 12 = .ok (.iconst 0, 1) := by decide +kernel
theorem dX8_worlds_13 : decode cX8_worlds 13 = .ok (.invokevirtual 189, 3) := by decide +kernel
theorem dX8_worlds_16 : decode cX8_worlds 16 = .ok (.iload_n 1, 1) := by decide +kernel
theorem dX8_worlds_17 : decode cX8_worlds 17 = .ok (.invokestatic 207, 3) := by decide +kernel
theorem dX8_worlds_20 : decode cX8_worlds 20 = .ok (.ifCond .ne 5, 3) := by decide +kernel
theorem dX8_worlds_23 : decode cX8_worlds 23 = .ok (.iconst (-1), 1) := by decide +kernel
theorem dX8_worlds_24 : decode cX8_worlds 24 = .ok (.ireturn, 1) := by decide +kernel
theorem dX8_worlds_25 : decode cX8_worlds 25 = .ok (.iload_n 2, 1) := by decide +kernel
theorem dX8_worlds_26 : decode cX8_worlds 26 = .ok (.iconst 1, 1) := by decide +kernel
theorem dX8_worlds_27 : decode cX8_worlds 27 = .ok (.invokestatic 64, 3) := by decide +kernel
theorem dX8_worlds_30 : decode cX8_worlds 30 = .ok (.ifCond .ne 6, 3) := by decide +kernel
theorem dX8_worlds_33 : decode cX8_worlds 33 = .ok (.bipush (-2), 2) := by decide +kernel
theorem dX8_worlds_35 : decode cX8_worlds 35 = .ok (.ireturn, 1) := by decide +kernel
theorem dX8_worlds_36 : decode cX8_worlds 36 = .ok (.aload_n 0, 1) := by decide +kernel
theorem dX8_worlds_37 : decode cX8_worlds 37 = .ok (.iconst 0, 1) := by decide +kernel
theorem dX8_worlds_38 : decode cX8_worlds 38 = .ok (.invokevirtual 172, 3) := by decide +kernel
theorem dX8_worlds_41 : decode cX8_worlds 41 = .ok (.ifCond .eq 6, 3) := by decide +kernel
theorem dX8_worlds_44 : decode cX8_worlds 44 = .ok (.bipush (-4), 2) := by decide +kernel
theorem dX8_worlds_46 : decode cX8_worlds 46 = .ok (.ireturn, 1) := by decide +kernel
theorem dX8_worlds_47 : decode cX8_worlds 47 = .ok (.aload_n 0, 1) := by decide +kernel
theorem dX8_worlds_48 : decode cX8_worlds 48 = .ok (.getfield 46, 3) := by decide +kernel
theorem dX8_worlds_51 : decode cX8_worlds 51 = .ok (.aload_n 0, 1) := by decide +kernel
theorem dX8_worlds_52 : decode cX8_worlds 52 = .ok (.getfield 10, 3) := by decide +kernel
theorem dX8_worlds_55 : decode cX8_worlds 55 = .ok (.invokevirtual 210, 3) := by decide +kernel
theorem dX8_worlds_58 : decode cX8_worlds 58 = .ok (.iload_n 1, 1) := by decide +kernel
theorem dX8_worlds_59 : decode cX8_worlds 59 = .ok (.iconst (-1), 1) := by decide +kernel
theorem dX8_worlds_60 : decode cX8_worlds 60 = .ok (.if_icmp .ne 11, 3) := by decide +kernel
theorem dX8_worlds_63 : decode cX8_worlds 63 = .ok (.aload_n 0, 1) := by decide +kernel
theorem dX8_worlds_64 : decode cX8_worlds 64 = .ok (.getfield 46, 3) := by decide +kernel
theorem dX8_worlds_67 : decode cX8_worlds 67 = .ok (.getfield 214, 3) := by decide +kernel
theorem dX8_worlds_70 : decode cX8_worlds 70 = .ok (.ireturn, 1) := by decide +kernel
theorem dX8_worlds_71 : decode cX8_worlds 71 = .ok (.aload_n 0, 1) := by decide +kernel
theorem dX8_worlds_72 : decode cX8_worlds 72 = .ok (.getfield 46, 3) := by decide +kernel
theorem dX8_worlds_75 : decode cX8_worlds 75 = .ok (.iload_n 1, 1) := by decide +kernel
theorem dX8_worlds_76 : decode cX8_worlds 76 = .ok (.iload_n 2, 1) := by decide +kernel
theorem dX8_worlds_77 : decode cX8_worlds 77 = .ok (.iconst 1, 1) := by decide +kernel
theorem dX8_worlds_78 : decode cX8_worlds 78 = .ok (.if_icmp .ne 7, 3) := by decide +kernel
theorem dX8_worlds_81 : decode cX8_worlds 81 = .ok (.iconst 1, 1) := by decide +kernel
theorem dX8_worlds_82 : decode cX8_worlds 82 = .ok (.goto 4, 3) := by decide +kernel
theorem dX8_worlds_85 : decode cX8_worlds 85 = .ok (.iconst 0, 1) := by decide +kernel
theorem dX8_worlds_86 : decode cX8_worlds 86 = .ok (.invokevirtual 217, 3) := by decide +kernel
theorem dX8_worlds_89 : decode cX8_worlds 89 = .ok (.ireturn, 1) := by decide +kernel
set_option maxRecDepth 20000 in
theorem ggX8_tells_X8_isWithin : GoodIn wsX8_tells wsX8_isWithin := goodIn_r _ [7] (by decide +kernel) (by decide +kernel)
set_option maxRecDepth 20000 in
theorem gX8_tells_X8_isWithin : GoodIn wsX8_tells (va_wsS RX8 64 yX8_isWithin wsX8_isWithin) := goodIn_app (goodIn_of _ (by decide +kernel)) ggX8_tells_X8_isWithin
set_option maxRecDepth 20000 in
theorem ggX8_tells_X8_isCrowded : GoodIn wsX8_tells wsX8_isCrowded := goodIn_r _ [11, 2, 12, 13, 14, 15, 16, 17, 18, 19, 20, 6, 21, 22, 23, 24, 25, 26, 27, 28, 128, 129, 130, 131, 132, 133, 134, 135, 136, 143, 144, 145, 146, 147, 148, 149, 150, 151, 152, 153, 154] (by decide +kernel) (by decide +kernel)
set_option maxRecDepth 20000 in
theorem gX8_tells_X8_isCrowded : GoodIn wsX8_tells (wsV RX8 172 RX8 yX8_isCrowded wsX8_isCrowded) := goodIn_app (goodIn_of _ (by decide +kernel)) ggX8_tells_X8_isCrowded
set_option maxRecDepth 20000 in
theorem ggX8_tells_X7_look : GoodIn wsX8_tells wsX7_look := goodIn_r _ [33, 34, 35, 36, 37, 38, 39, 40, 41, 42, 43, 44, 16, 45, 46, 47, 18, 19, 48, 49, 6, 50, 51, 52, 53, 54, 55, 56, 57, 58, 59, 60, 61, 62, 63, 14, 15, 17, 20, 21, 64, 23, 24, 25, 26, 27, 28, 65, 66, 67, 68, 69, 70, 71, 72, 73, 74, 75, 76, 77, 78, 79, 80, 81, 82, 83, 84, 85, 86, 87, 88, 89, 90, 91, 92, 93, 94, 95, 96, 97, 98, 99, 100, 101, 102, 103, 104, 105, 106, 107, 108, 109, 110, 111, 112, 113, 114, 115, 32, 116, 117, 118, 137, 138, 139, 140, 141, 142, 143, 144, 145, 146, 147, 148, 149, 150, 151, 152, 153, 154] (by decide +kernel) (by decide +kernel)
set_option maxRecDepth 20000 in
theorem gX8_tells_X7_look : GoodIn wsX8_tells (wsV RX8 210 RX7 yX7_look wsX7_look) := goodIn_app (goodIn_of _ (by decide +kernel)) ggX8_tells_X7_look
set_option maxRecDepth 20000 in
theorem ggX8_tells_X7_tellingDish : GoodIn wsX8_tells wsX7_tellingDish := goodIn_r _ [122, 123, 124, 125, 32, 126, 38, 118, 91, 53, 92, 93, 6, 94, 137, 138, 139, 140, 141, 142] (by decide +kernel) (by decide +kernel)
set_option maxRecDepth 20000 in
theorem gX8_tells_X7_tellingDish : GoodIn wsX8_tells (wsV RX8 221 RX7 yX7_tellingDish wsX7_tellingDish) := goodIn_app (goodIn_of _ (by decide +kernel)) ggX8_tells_X7_tellingDish
set_option maxRecDepth 20000 in
theorem ggX8_tells_X7_mostLeft : GoodIn wsX8_tells wsX7_mostLeft := goodIn_r _ [126, 38, 118, 91, 53, 92, 93, 6, 94, 137, 138, 139, 140, 141, 142] (by decide +kernel) (by decide +kernel)
set_option maxRecDepth 20000 in
theorem gX8_tells_X7_mostLeft : GoodIn wsX8_tells (wsV RX8 224 RX7 yX7_mostLeft wsX7_mostLeft) := goodIn_app (goodIn_of _ (by decide +kernel)) ggX8_tells_X7_mostLeft
theorem dX8_tells_0 : decode cX8_tells 0 = .ok (.iload_n 1, 1) := by decide +kernel
theorem dX8_tells_1 : decode cX8_tells 1 = .ok (.iconst 1, 1) := by decide +kernel
theorem dX8_tells_2 : decode cX8_tells 2 = .ok (.invokestatic 64, 3) := by decide +kernel
theorem dX8_tells_5 : decode cX8_tells 5 = .ok (.ifCond .ne 6, 3) := by decide +kernel
theorem dX8_tells_8 : decode cX8_tells 8 = .ok (.bipush (-2), 2) := by decide +kernel
theorem dX8_tells_10 : decode cX8_tells 10 = .ok (.ireturn, 1) := by decide +kernel
theorem dX8_tells_11 : decode cX8_tells 11 = .ok (.aload_n 0, 1) := by decide +kernel
theorem dX8_tells_12 : decode cX8_tells 12 = .ok (.iconst 0, 1) := by decide +kernel
theorem dX8_tells_13 : decode cX8_tells 13 = .ok (.invokevirtual 172, 3) := by decide +kernel
theorem dX8_tells_16 : decode cX8_tells 16 = .ok (.ifCond .eq 6, 3) := by decide +kernel
theorem dX8_tells_19 : decode cX8_tells 19 = .ok (.bipush (-4), 2) := by decide +kernel
theorem dX8_tells_21 : decode cX8_tells 21 = .ok (.ireturn, 1) := by decide +kernel
theorem dX8_tells_22 : decode cX8_tells 22 = .ok (.aload_n 0, 1) := by decide +kernel
theorem dX8_tells_23 : decode cX8_tells 23 = .ok (.getfield 46, 3) := by decide +kernel
theorem dX8_tells_26 : decode cX8_tells 26 = .ok (.aload_n 0, 1) := by decide +kernel
theorem dX8_tells_27 : decode cX8_tells 27 = .ok (.getfield 10, 3) := by decide +kernel
theorem dX8_tells_30 : decode cX8_tells 30 = .ok (.invokevirtual 210, 3) := by decide +kernel
theorem dX8_tells_33 : decode cX8_tells 33 = .ok (.aload_n 0, 1) := by decide +kernel
theorem dX8_tells_34 : decode cX8_tells 34 = .ok (.getfield 46, 3) := by decide +kernel
theorem dX8_tells_37 : decode cX8_tells 37 = .ok (.getfield 214, 3) := by decide +kernel
theorem dX8_tells_40 : decode cX8_tells 40 = .ok (.ifCond .ne 6, 3) := by decide +kernel
theorem dX8_tells_43 : decode cX8_tells 43 = .ok (.bipush (-6), 2) := by decide +kernel
theorem dX8_tells_45 : decode cX8_tells 45 = .ok (.ireturn, 1) := by decide +kernel
theorem dX8_tells_46 : decode cX8_tells 46 = .ok (.aload_n 0, 1) := by decide +kernel
theorem dX8_tells_47 : decode cX8_tells 47 = .ok (.getfield 46, 3) := by decide +kernel
theorem dX8_tells_50 : decode cX8_tells 50 = .ok (.invokevirtual 221, 3) := by decide +kernel
theorem dX8_tells_53 : decode cX8_tells 53 = .ok (.istore_n 2, 1) := by decide +kernel
theorem dX8_tells_54 : decode cX8_tells 54 = .ok (.iload_n 1, 1) := by decide +kernel
theorem dX8_tells_55 : decode cX8_tells 55 = .ok (.ifCond .ne 7, 3) := by decide +kernel
theorem dX8_tells_58 : decode cX8_tells 58 = .ok (.iload_n 2, 1) := by decide +kernel
theorem dX8_tells_59 : decode cX8_tells 59 = .ok (.goto 11, 3) := by decide +kernel
theorem dX8_tells_62 : decode cX8_tells 62 = .ok (.aload_n 0, 1) := by decide +kernel
theorem dX8_tells_63 : decode cX8_tells 63 = .ok (.getfield 46, 3) := by decide +kernel
theorem dX8_tells_66 : decode cX8_tells 66 = .ok (.iload_n 2, 1) := by decide +kernel
theorem dX8_tells_67 : decode cX8_tells 67 = .ok (.invokevirtual 224, 3) := by decide +kernel
theorem dX8_tells_70 : decode cX8_tells 70 = .ok (.ireturn, 1) := by decide +kernel
set_option maxRecDepth 20000 in
theorem ggX8_portions_X8_isWithin : GoodIn wsX8_portions wsX8_isWithin := goodIn_r _ [8] (by decide +kernel) (by decide +kernel)
set_option maxRecDepth 20000 in
theorem gX8_portions_X8_isWithin : GoodIn wsX8_portions (va_wsS RX8 64 yX8_isWithin wsX8_isWithin) := goodIn_app (goodIn_of _ (by decide +kernel)) ggX8_portions_X8_isWithin
set_option maxRecDepth 20000 in
theorem ggX8_portions_X4_firstGainer : GoodIn wsX8_portions wsX4_firstGainer := goodIn_r _ [13, 14, 15, 16, 17, 18, 19, 20, 21, 22, 23, 24, 25, 26, 27, 28, 7, 29, 30, 31, 32, 33, 34, 35, 36, 37, 38, 39, 40, 41, 42, 43, 44, 12, 45, 46, 47, 48, 49, 50, 51, 52, 53, 54, 55, 56, 57, 58, 59, 75, 76, 77, 78, 79, 80, 81] (by decide +kernel) (by decide +kernel)
set_option maxRecDepth 20000 in
theorem gX8_portions_X4_firstGainer : GoodIn wsX8_portions (wsV RX8 228 RX4 yX4_firstGainer wsX4_firstGainer) := goodIn_app (goodIn_of _ (by decide +kernel)) ggX8_portions_X4_firstGainer
theorem dX8_portions_0 : decode cX8_portions 0 = .ok (.iload_n 1, 1) := by decide +kernel
theorem dX8_portions_1 : decode cX8_portions 1 = .ok (.ldc 227, 2) := by decide +kernel
theorem dX8_portions_3 : decode cX8_portions 3 = .ok (.invokestatic 64, 3) := by decide +kernel
theorem dX8_portions_6 : decode cX8_portions 6 = .ok (.ifCond .eq 11, 3) := by decide +kernel
theorem dX8_portions_9 : decode cX8_portions 9 = .ok (.iload_n 2, 1) := by decide +kernel
theorem dX8_portions_10 : decode cX8_portions 10 = .ok (.iconst 1, 1) := by decide +kernel
theorem dX8_portions_11 : decode cX8_portions 11 = .ok (.invokestatic 64, 3) := by decide +kernel
theorem dX8_portions_14 : decode cX8_portions 14 = .ok (.ifCond .ne 6, 3) := by decide +kernel
theorem dX8_portions_17 : decode cX8_portions 17 = .ok (.bipush (-2), 2) := by decide +kernel
theorem dX8_portions_19 : decode cX8_portions 19 = .ok (.ireturn, 1) := by decide +kernel
theorem dX8_portions_20 : decode cX8_portions 20 = .ok (.aload_n 0, 1) := by decide +kernel
theorem dX8_portions_21 : decode cX8_portions 21 = .ok (.getfield 60, 3) := by decide +kernel
theorem dX8_portions_24 : decode cX8_portions 24 = .ok (.aload_n 0, 1) := by decide +kernel
theorem dX8_portions_25 : decode cX8_portions 25 = .ok (.getfield 10, 3) := by decide +kernel
theorem dX8_portions_28 : decode cX8_portions 28 = .ok (.getfield 72, 3) := by decide +kernel
theorem dX8_portions_31 : decode cX8_portions 31 = .ok (.iload_n 1, 1) := by decide +kernel
theorem dX8_portions_32 : decode cX8_portions 32 = .ok (.invokevirtual 228, 3) := by decide +kernel
theorem dX8_portions_35 : decode cX8_portions 35 = .ok (.istore_n 3, 1) := by decide +kernel
theorem dX8_portions_36 : decode cX8_portions 36 = .ok (.iload_n 2, 1) := by decide +kernel
theorem dX8_portions_37 : decode cX8_portions 37 = .ok (.iconst 1, 1) := by decide +kernel
theorem dX8_portions_38 : decode cX8_portions 38 = .ok (.if_icmp .ne 5, 3) := by decide +kernel
theorem dX8_portions_41 : decode cX8_portions 41 = .ok (.iload_n 3, 1) := by decide +kernel
theorem dX8_portions_42 : decode cX8_portions 42 = .ok (.ireturn, 1) := by decide +kernel
theorem dX8_portions_43 : decode cX8_portions 43 = .ok (.iload_n 3, 1) := by decide +kernel
theorem dX8_portions_44 : decode cX8_portions 44 = .ok (.bipush (-6), 2) := by decide +kernel
theorem dX8_portions_46 : decode cX8_portions 46 = .ok (.if_icmp .ne 7, 3) := by decide +kernel
theorem dX8_portions_49 : decode cX8_portions 49 = .ok (.iconst 1, 1) := by decide +kernel
theorem dX8_portions_50 : decode cX8_portions 50 = .ok (.goto 4, 3) := by decide +kernel
theorem dX8_portions_53 : decode cX8_portions 53 = .ok (.iconst 0, 1) := by decide +kernel
theorem dX8_portions_54 : decode cX8_portions 54 = .ok (.ireturn, 1) := by decide +kernel
set_option maxRecDepth 20000 in
theorem ggX8_seats_X8_isHouse : GoodIn wsX8_seats wsX8_isHouse := goodIn_r _ [8, 9, 10, 7, 11] (by decide +kernel) (by decide +kernel)
set_option maxRecDepth 20000 in
theorem gX8_seats_X8_isHouse : GoodIn wsX8_seats (va_wsS RX8 68 yX8_isHouse wsX8_isHouse) := goodIn_app (goodIn_of _ (by decide +kernel)) ggX8_seats_X8_isHouse
set_option maxRecDepth 20000 in
theorem ggX8_seats_X1_inside : GoodIn wsX8_seats wsX1_inside := goodIn_r _ [16, 17, 18, 19, 7, 20, 74, 75, 76, 77, 78, 79] (by decide +kernel) (by decide +kernel)
set_option maxRecDepth 20000 in
theorem gX8_seats_X1_inside : GoodIn wsX8_seats (wsV RX8 189 RX1 yX1_inside wsX1_inside) := goodIn_app (goodIn_of _ (by decide +kernel)) ggX8_seats_X1_inside
set_option maxRecDepth 20000 in
theorem ggX8_seats_X5_arrange : GoodIn wsX8_seats wsX5_arrange := goodIn_r _ [25, 26, 27, 28, 24, 29, 30, 19, 7, 20, 31, 32, 33, 34, 35, 36, 37, 38, 80] (by decide +kernel) (by decide +kernel)
set_option maxRecDepth 20000 in
theorem gX8_seats_X5_arrange : GoodIn wsX8_seats (wsV RX8 235 RX5 yX5_arrange wsX5_arrange) := goodIn_app (goodIn_of _ (by decide +kernel)) ggX8_seats_X5_arrange
set_option maxRecDepth 20000 in
theorem ggX8_seats_X5_rowsOf : GoodIn wsX8_seats wsX5_rowsOf := goodIn_r _ [42, 33, 34, 35, 24, 36, 30, 19, 7, 20, 31, 32, 80] (by decide +kernel) (by decide +kernel)
set_option maxRecDepth 20000 in
theorem gX8_seats_X5_rowsOf : GoodIn wsX8_seats (wsV RX8 239 RX5 yX5_rowsOf wsX5_rowsOf) := goodIn_app (goodIn_of _ (by decide +kernel)) ggX8_seats_X5_rowsOf
set_option maxRecDepth 20000 in
theorem ggX8_seats_X5_whoSits : GoodIn wsX8_seats wsX5_whoSits := goodIn_r _ [46, 47, 48, 49, 50, 51, 52, 53, 54, 40, 41, 24, 42, 33, 34, 35, 36, 30, 19, 7, 20, 31, 32, 55, 56, 57, 58, 80] (by decide +kernel) (by decide +kernel)
set_option maxRecDepth 20000 in
theorem gX8_seats_X5_whoSits : GoodIn wsX8_seats (wsV RX8 242 RX5 yX5_whoSits wsX5_whoSits) := goodIn_app (goodIn_of _ (by decide +kernel)) ggX8_seats_X5_whoSits
theorem dX8_seats_0 : decode cX8_seats 0 = .ok (.iload_n 1, 1) := by decide +kernel
theorem dX8_seats_1 : decode cX8_seats 1 = .ok (.invokestatic 68, 3) := by decide +kernel
theorem dX8_seats_4 : decode cX8_seats 4 = .ok (.ifCond .ne 5, 3) := by decide +kernel
theorem dX8_seats_7 : decode cX8_seats 7 = .ok (.iconst (-1), 1) := by decide +kernel
theorem dX8_seats_8 : decode cX8_seats 8 = .ok (.ireturn, 1) := by decide +kernel
theorem dX8_seats_9 : decode cX8_seats 9 = .ok (.aload_n 0, 1) := by decide +kernel
theorem dX8_seats_10 : decode cX8_seats 10 = .ok (.getfield 10, 3) := by decide +kernel
theorem dX8_seats_13 : decode cX8_seats 13 = .ok (.getfield 72, 3) := by decide +kernel
theorem dX8_seats_16 : decode cX8_seats 16 = .ok (.iload_n 1, 1) := by decide +kernel
theorem dX8_seats_17 : decode cX8_seats 17 = .ok (.invokevirtual 189, 3) := by decide +kernel
theorem dX8_seats_20 : decode cX8_seats 20 = .ok (.istore_n 3, 1) := by decide +kernel
theorem dX8_seats_21 : decode cX8_seats 21 = .ok (.aload_n 0, 1) := by decide +kernel
theorem dX8_seats_22 : decode cX8_seats 22 = .ok (.getfield 53, 3) := by decide +kernel
theorem dX8_seats_25 : decode cX8_seats 25 = .ok (.aload_n 0, 1) := by decide +kernel
theorem dX8_seats_26 : decode cX8_seats 26 = .ok (.getfield 10, 3) := by decide +kernel
theorem dX8_seats_29 : decode cX8_seats 29 = .ok (.getfield 232, 3) := by decide +kernel
theorem dX8_seats_32 : decode cX8_seats 32 = .ok (.iload_n 3, 1) := by decide +kernel
theorem dX8_seats_33 : decode cX8_seats 33 = .ok (.invokevirtual 235, 3) := by decide +kernel
theorem dX8_seats_36 : decode cX8_seats 36 = .ok (.iload_n 2, 1) := by decide +kernel
theorem dX8_seats_37 : decode cX8_seats 37 = .ok (.iconst (-1), 1) := by decide +kernel
theorem dX8_seats_38 : decode cX8_seats 38 = .ok (.if_icmp .ne 14, 3) := by decide +kernel
theorem dX8_seats_41 : decode cX8_seats 41 = .ok (.aload_n 0, 1) := by decide +kernel
theorem dX8_seats_42 : decode cX8_seats 42 = .ok (.getfield 53, 3) := by decide +kernel
theorem dX8_seats_45 : decode cX8_seats 45 = .ok (.iload_n 3, 1) := by decide +kernel
theorem dX8_seats_46 : decode cX8_seats 46 = .ok (.invokevirtual 239, 3) := by decide +kernel
theorem dX8_seats_49 : decode cX8_seats 49 = .ok (.goto 19, 3) := by decide +kernel
theorem dX8_seats_52 : decode cX8_seats 52 = .ok (.aload_n 0, 1) := by decide +kernel
theorem dX8_seats_53 : decode cX8_seats 53 = .ok (.getfield 53, 3) := by decide +kernel
theorem dX8_seats_56 : decode cX8_seats 56 = .ok (.aload_n 0, 1) := by decide +kernel
theorem dX8_seats_57 : decode cX8_seats 57 = .ok (.getfield 10, 3) := by decide +kernel
theorem dX8_seats_60 : decode cX8_seats 60 = .ok (.getfield 232, 3) := by decide +kernel
theorem dX8_seats_63 : decode cX8_seats 63 = .ok (.iload_n 3, 1) := by decide +kernel
theorem dX8_seats_64 : decode cX8_seats 64 = .ok (.iload_n 2, 1) := by decide +kernel
theorem dX8_seats_65 : decode cX8_seats 65 = .ok (.invokevirtual 242, 3) := by decide +kernel
theorem dX8_seats_68 : decode cX8_seats 68 = .ok (.ireturn, 1) := by decide +kernel
set_option maxRecDepth 20000 in
theorem ggX8_belch_X1_has : GoodIn wsX8_belch wsX1_has := goodIn_r _ [11, 12, 13, 14, 15, 98, 99, 100, 101, 102, 103] (by decide +kernel) (by decide +kernel)
set_option maxRecDepth 20000 in
theorem gX8_belch_X1_has : GoodIn wsX8_belch (wsV RX8 82 RX1 yX1_has wsX1_has) := goodIn_app (goodIn_of _ (by decide +kernel)) ggX8_belch_X1_has
set_option maxRecDepth 20000 in
theorem ggX8_belch_X8_isDish : GoodIn wsX8_belch wsX8_isDish := goodIn_r _ [18] (by decide +kernel) (by decide +kernel)
set_option maxRecDepth 20000 in
theorem gX8_belch_X8_isDish : GoodIn wsX8_belch (va_wsS RX8 161 yX8_isDish wsX8_isDish) := goodIn_app (goodIn_of _ (by decide +kernel)) ggX8_belch_X8_isDish
set_option maxRecDepth 20000 in
theorem ggX8_belch_X8_isWithin : GoodIn wsX8_belch wsX8_isWithin := goodIn_r _ [21] (by decide +kernel) (by decide +kernel)
set_option maxRecDepth 20000 in
theorem gX8_belch_X8_isWithin : GoodIn wsX8_belch (va_wsS RX8 64 yX8_isWithin wsX8_isWithin) := goodIn_app (goodIn_of _ (by decide +kernel)) ggX8_belch_X8_isWithin
set_option maxRecDepth 20000 in
theorem ggX8_belch_X8_at : GoodIn wsX8_belch wsX8_at := goodIn_r _ [24] (by decide +kernel) (by decide +kernel)
set_option maxRecDepth 20000 in
theorem gX8_belch_X8_at : GoodIn wsX8_belch (va_wsS RX8 136 yX8_at wsX8_at) := goodIn_app (goodIn_of _ (by decide +kernel)) ggX8_belch_X8_at
set_option maxRecDepth 20000 in
theorem ggX8_belch_X1_feigners : GoodIn wsX8_belch wsX1_feigners := goodIn_r _ [28, 29, 30, 31, 32, 10, 33, 34, 12, 13, 14, 15, 35, 36, 98, 99, 100, 101, 102, 103] (by decide +kernel) (by decide +kernel)
set_option maxRecDepth 20000 in
theorem gX8_belch_X1_feigners : GoodIn wsX8_belch (wsV RX8 250 RX1 yX1_feigners wsX1_feigners) := goodIn_app (goodIn_of _ (by decide +kernel)) ggX8_belch_X1_feigners
set_option maxRecDepth 20000 in
theorem ggX8_belch_X4_chances : GoodIn wsX8_belch wsX4_chances := goodIn_r _ [41, 42, 43, 23, 14, 24, 44, 26, 27, 10, 28, 29, 30, 31, 32, 33, 34, 12, 13, 15, 35, 36, 45, 46, 47, 48, 49, 50, 51, 52, 40, 53, 54, 55, 56, 57, 58, 59, 60, 61, 62, 63, 64, 22, 65, 66, 67, 68, 69, 70, 71, 72, 73, 74, 75, 76, 77, 98, 99, 100, 101, 102, 103, 104] (by decide +kernel) (by decide +kernel)
set_option maxRecDepth 20000 in
theorem gX8_belch_X4_chances : GoodIn wsX8_belch (wsV RX8 253 RX4 yX4_chances wsX4_chances) := goodIn_app (goodIn_of _ (by decide +kernel)) ggX8_belch_X4_chances
set_option maxRecDepth 20000 in
theorem ggX8_belch_J6_bitCount_0f7a4 : GoodIn wsX8_belch wsJ6_bitCount_0f7a4 := goodIn_r _ [72, 73, 74, 75] (by decide +kernel) (by decide +kernel)
set_option maxRecDepth 20000 in
theorem gX8_belch_J6_bitCount_0f7a4 : GoodIn wsX8_belch (va_wsS RX8 256 yJ6_bitCount_0f7a4 wsJ6_bitCount_0f7a4) := goodIn_app (goodIn_of _ (by decide +kernel)) ggX8_belch_J6_bitCount_0f7a4
set_option maxRecDepth 20000 in
theorem ggX8_belch_X8_power : GoodIn wsX8_belch wsX8_power := goodIn_r _ [77] (by decide +kernel) (by decide +kernel)
set_option maxRecDepth 20000 in
theorem gX8_belch_X8_power : GoodIn wsX8_belch (va_wsS RX8 179 yX8_power wsX8_power) := goodIn_app (goodIn_of _ (by decide +kernel)) ggX8_belch_X8_power
set_option maxRecDepth 20000 in
theorem ggX8_belch_X8_lowestTerm : GoodIn wsX8_belch wsX8_lowestTerm := goodIn_r _ [82] (by decide +kernel) (by decide +kernel)
set_option maxRecDepth 20000 in
theorem gX8_belch_X8_lowestTerm : GoodIn wsX8_belch (va_wsS RX8 261 yX8_lowestTerm wsX8_lowestTerm) := goodIn_app (goodIn_of _ (by decide +kernel)) ggX8_belch_X8_lowestTerm
theorem dX8_belch_0 : decode cX8_belch 0 = .ok (.aload_n 0, 1) := by decide +kernel
theorem dX8_belch_1 : decode cX8_belch 1 = .ok (.getfield 10, 3) := by decide +kernel
theorem dX8_belch_4 : decode cX8_belch 4 = .ok (.getfield 72, 3) := by decide +kernel
theorem dX8_belch_7 : decode cX8_belch 7 = .ok (.iload_n 1, 1) := by decide +kernel
theorem dX8_belch_8 : decode cX8_belch 8 = .ok (.invokevirtual 82, 3) := by decide +kernel
theorem dX8_belch_11 : decode cX8_belch 11 = .ok (.ifCond .ne 7, 3) := by decide +kernel
theorem dX8_belch_14 : decode cX8_belch 14 = .ok (.ldc2_w 246, 3) := by decide +kernel
theorem dX8_belch_17 : decode cX8_belch 17 = .ok (.lreturn, 1) := by decide +kernel
theorem dX8_belch_18 : decode cX8_belch 18 = .ok (.iload_n 2, 1) := by decide +kernel
theorem dX8_belch_19 : decode cX8_belch 19 = .ok (.invokestatic 161, 3) := by decide +kernel
theorem dX8_belch_22 : decode cX8_belch 22 = .ok (.ifCond .eq 21, 3) := by decide +kernel
theorem dX8_belch_25 : decode cX8_belch 25 = .ok (.iload_n 3, 1) := by decide +kernel
theorem dX8_belch_26 : decode cX8_belch 26 = .ok (.bipush 10, 2) := by decide +kernel
theorem dX8_belch_28 : decode cX8_belch 28 = .ok (.invokestatic 64, 3) := by decide +kernel
theorem dX8_belch_31 : decode cX8_belch 31 = .ok (.ifCond .eq 12, 3) := by decide +kernel
theorem dX8_belch_34 : decode cX8_belch 34 = .ok (.iload 4, 2) := by decide +kernel
theorem dX8_belch_36 : decode cX8_belch 36 = .ok (.iconst 1, 1) := by decide +kernel
theorem dX8_belch_37 : decode cX8_belch 37 = .ok (.invokestatic 64, 3) := by decide +kernel
theorem dX8_belch_40 : decode cX8_belch 40 = .ok (.ifCond .ne 7, 3) := by decide +kernel
theorem dX8_belch_43 : decode cX8_belch 43 = .ok (.ldc2_w 248, 3) := by decide +kernel
theorem dX8_belch_46 : decode cX8_belch 46 = .ok (.lreturn, 1) := by decide +kernel
theorem dX8_belch_47 : decode cX8_belch 47 = .ok (.aload_n 0, 1) := by decide +kernel
theorem dX8_belch_48 : decode cX8_belch 48 = .ok (.getfield 10, 3) := by decide +kernel
theorem dX8_belch_51 : decode cX8_belch 51 = .ok (.getfield 72, 3) := by decide +kernel
theorem dX8_belch_54 : decode cX8_belch 54 = .ok (.aload_n 0, 1) := by decide +kernel
theorem dX8_belch_55 : decode cX8_belch 55 = .ok (.getfield 10, 3) := by decide +kernel
theorem dX8_belch_58 : decode cX8_belch 58 = .ok (.getfield 72, 3) := by decide +kernel
theorem dX8_belch_61 : decode cX8_belch 61 = .ok (.getfield 143, 3) := by decide +kernel
theorem dX8_belch_64 : decode cX8_belch 64 = .ok (.iload_n 1, 1) := by decide +kernel
theorem dX8_belch_65 : decode cX8_belch 65 = .ok (.invokestatic 136, 3) := by decide +kernel
theorem dX8_belch_68 : decode cX8_belch 68 = .ok (.invokevirtual 250, 3) := by decide +kernel
theorem dX8_belch_71 : decode cX8_belch 71 = .ok (.istore 5, 2) := by decide +kernel
theorem dX8_belch_73 : decode cX8_belch 73 = .ok (.aload_n 0, 1) := by decide +kernel
theorem dX8_belch_74 : decode cX8_belch 74 = .ok (.getfield 60, 3) := by decide +kernel
theorem dX8_belch_77 : decode cX8_belch 77 = .ok (.aload_n 0, 1) := by decide +kernel
theorem dX8_belch_78 : decode cX8_belch 78 = .ok (.getfield 10, 3) := by decide +kernel
theorem dX8_belch_81 : decode cX8_belch 81 = .ok (.getfield 72, 3) := by decide +kernel
theorem dX8_belch_84 : decode cX8_belch 84 = .ok (.iload_n 1, 1) := by decide +kernel
theorem dX8_belch_85 : decode cX8_belch 85 = .ok (.iload_n 2, 1) := by decide +kernel
theorem dX8_belch_86 : decode cX8_belch 86 = .ok (.iload_n 3, 1) := by decide +kernel
theorem dX8_belch_87 : decode cX8_belch 87 = .ok (.invokevirtual 253, 3) := by decide +kernel
theorem dX8_belch_90 : decode cX8_belch 90 = .ok (.istore 6, 2) := by decide +kernel
theorem dX8_belch_92 : decode cX8_belch 92 = .ok (.bipush 10, 2) := by decide +kernel
theorem dX8_belch_94 : decode cX8_belch 94 = .ok (.iload 5, 2) := by decide +kernel
theorem dX8_belch_96 : decode cX8_belch 96 = .ok (.invokestatic 256, 3) := by decide +kernel
theorem dX8_belch_99 : decode cX8_belch 99 = .ok (.invokestatic 179, 3) := by decide +kernel
theorem dX8_belch_102 : decode cX8_belch 102 = .ok (.istore 7, 2) := by decide +kernel
theorem dX8_belch_104 : decode cX8_belch 104 = .ok (.iload 6, 2) := by decide +kernel
theorem dX8_belch_106 : decode cX8_belch 106 = .ok (.iload 7, 2) := by decide +kernel
theorem dX8_belch_108 : decode cX8_belch 108 = .ok (.iload 4, 2) := by decide +kernel
theorem dX8_belch_110 : decode cX8_belch 110 = .ok (.invokestatic 261, 3) := by decide +kernel
theorem dX8_belch_113 : decode cX8_belch 113 = .ok (.lreturn, 1) := by decide +kernel
set_option maxRecDepth 20000 in
theorem ggX8_host_X6_play : GoodIn wsX8_host wsX6_play := goodIn_r _ [10, 11, 12, 13, 14, 15, 16, 17, 9, 18, 19, 20, 21, 22, 23, 24, 25, 26, 27, 28, 29, 30, 31, 32, 33, 34, 35, 36, 37, 38, 39, 40, 41, 42, 43, 44, 45, 46, 47, 48, 49, 50, 51, 52, 53, 54, 55, 56, 57, 58, 59, 60, 61, 62, 63, 64, 65, 66, 67, 68, 69, 70, 71, 72, 73, 74, 75, 76, 77, 78, 79, 80, 81, 82, 83, 84, 85, 86, 87, 88, 89, 90, 91, 92, 93, 94, 95, 96, 97, 98, 99, 100, 101, 102, 103, 104, 105, 106, 107, 108, 109, 110, 111, 112, 113, 114, 115, 116, 117, 118, 119, 120, 121, 122, 123, 124, 125, 126, 127, 128, 129, 130, 131, 132, 133, 134, 135, 136, 137, 138, 139, 140, 141, 142, 143, 144, 145, 146, 147, 148, 149, 150, 151, 152, 153, 154, 155, 156, 157, 158, 159, 160, 161, 162, 163, 164, 165, 166, 167, 196, 197, 187, 188, 189, 190, 191, 192, 193, 194, 195, 198, 199, 200, 201, 202, 203] (by decide +kernel) (by decide +kernel)
set_option maxRecDepth 20000 in
theorem gX8_host_X6_play : GoodIn wsX8_host (wsV RX8 114 RX6 yX6_play wsX6_play) := goodIn_app (goodIn_of _ (by decide +kernel)) ggX8_host_X6_play
set_option maxRecDepth 20000 in
theorem ggX8_host_X1_starved : GoodIn wsX8_host wsX1_starved := goodIn_r _ [171, 29, 32, 99, 35, 100, 198, 199, 200, 201, 202, 203] (by decide +kernel) (by decide +kernel)
set_option maxRecDepth 20000 in
theorem gX8_host_X1_starved : GoodIn wsX8_host (wsV RX8 158 RX1 yX1_starved wsX1_starved) := goodIn_app (goodIn_of _ (by decide +kernel)) ggX8_host_X1_starved
theorem dX8_host_0 : decode cX8_host 0 = .ok (.aload_n 0, 1) := by decide +kernel
theorem dX8_host_1 : decode cX8_host 1 = .ok (.getfield 32, 3) := by decide +kernel
theorem dX8_host_4 : decode cX8_host 4 = .ok (.aload_n 0, 1) := by decide +kernel
theorem dX8_host_5 : decode cX8_host 5 = .ok (.getfield 25, 3) := by decide +kernel
theorem dX8_host_8 : decode cX8_host 8 = .ok (.aload_n 0, 1) := by decide +kernel
theorem dX8_host_9 : decode cX8_host 9 = .ok (.getfield 10, 3) := by decide +kernel
theorem dX8_host_12 : decode cX8_host 12 = .ok (.getfield 72, 3) := by decide +kernel
theorem dX8_host_15 : decode cX8_host 15 = .ok (.iconst 0, 1) := by decide +kernel
theorem dX8_host_16 : decode cX8_host 16 = .ok (.invokevirtual 114, 3) := by decide +kernel
theorem dX8_host_19 : decode cX8_host 19 = .ok (.ifCond .ne 6, 3) := by decide +kernel
theorem dX8_host_22 : decode cX8_host 22 = .ok (.bipush (-5), 2) := by decide +kernel
theorem dX8_host_24 : decode cX8_host 24 = .ok (.ireturn, 1) := by decide +kernel
theorem dX8_host_25 : decode cX8_host 25 = .ok (.aload_n 0, 1) := by decide +kernel
theorem dX8_host_26 : decode cX8_host 26 = .ok (.getfield 32, 3) := by decide +kernel
theorem dX8_host_29 : decode cX8_host 29 = .ok (.getfield 124, 3) := by decide +kernel
theorem dX8_host_32 : decode cX8_host 32 = .ok (.invokevirtual 158, 3) := by decide +kernel
theorem dX8_host_35 : decode cX8_host 35 = .ok (.istore_n 1, 1) := by decide +kernel
theorem dX8_host_36 : decode cX8_host 36 = .ok (.bipush 9, 2) := by decide +kernel
theorem dX8_host_38 : decode cX8_host 38 = .ok (.istore_n 2, 1) := by decide +kernel
theorem dX8_host_39 : decode cX8_host 39 = .ok (.iload_n 2, 1) := by decide +kernel
theorem dX8_host_40 : decode cX8_host 40 = .ok (.ifCond .le 48, 3) := by decide +kernel
theorem dX8_host_43 : decode cX8_host 43 = .ok (.aload_n 0, 1) := by decide +kernel
theorem dX8_host_44 : decode cX8_host 44 = .ok (.getfield 32, 3) := by decide +kernel
theorem dX8_host_47 : decode cX8_host 47 = .ok (.aload_n 0, 1) := by decide +kernel
theorem dX8_host_48 : decode cX8_host 48 = .ok (.getfield 25, 3) := by decide +kernel
theorem dX8_host_51 : decode cX8_host 51 = .ok (.aload_n 0, 1) := by decide +kernel
theorem dX8_host_52 : decode cX8_host 52 = .ok (.getfield 10, 3) := by decide +kernel
theorem dX8_host_55 : decode cX8_host 55 = .ok (.getfield 72, 3) := by decide +kernel
theorem dX8_host_58 : decode cX8_host 58 = .ok (.iload_n 2, 1) := by decide +kernel
theorem dX8_host_59 : decode cX8_host 59 = .ok (.invokevirtual 114, 3) := by decide +kernel
theorem dX8_host_62 : decode cX8_host 62 = .ok (.pop, 1) := by decide +kernel
theorem dX8_host_63 : decode cX8_host 63 = .ok (.aload_n 0, 1) := by decide +kernel
theorem dX8_host_64 : decode cX8_host 64 = .ok (.getfield 32, 3) := by decide +kernel
theorem dX8_host_67 : decode cX8_host 67 = .ok (.getfield 124, 3) := by decide +kernel
theorem dX8_host_70 : decode cX8_host 70 = .ok (.invokevirtual 158, 3) := by decide +kernel
theorem dX8_host_73 : decode cX8_host 73 = .ok (.iload_n 1, 1) := by decide +kernel
theorem dX8_host_74 : decode cX8_host 74 = .ok (.iconst (-1), 1) := by decide +kernel
theorem dX8_host_75 : decode cX8_host 75 = .ok (.ixor, 1) := by decide +kernel
theorem dX8_host_76 : decode cX8_host 76 = .ok (.iand, 1) := by decide +kernel
theorem dX8_host_77 : decode cX8_host 77 = .ok (.ifCond .ne 5, 3) := by decide +kernel
theorem dX8_host_80 : decode cX8_host 80 = .ok (.iload_n 2, 1) := by decide +kernel
theorem dX8_host_81 : decode cX8_host 81 = .ok (.ireturn, 1) := by decide +kernel
theorem dX8_host_82 : decode cX8_host 82 = .ok (.iinc 2 (-1), 3) := by decide +kernel
theorem dX8_host_85 : decode cX8_host 85 = .ok (.goto (-46), 3) := by decide +kernel
theorem dX8_host_88 : decode cX8_host 88 = .ok (.iconst 0, 1) := by decide +kernel
theorem dX8_host_89 : decode cX8_host 89 = .ok (.ireturn, 1) := by decide +kernel
set_option maxRecDepth 20000 in
theorem ggX8_year_X8_isWithin : GoodIn wsX8_year wsX8_isWithin := goodIn_r _ [10] (by decide +kernel) (by decide +kernel)
set_option maxRecDepth 20000 in
theorem gX8_year_X8_isWithin : GoodIn wsX8_year (va_wsS RX8 64 yX8_isWithin wsX8_isWithin) := goodIn_app (goodIn_of _ (by decide +kernel)) ggX8_year_X8_isWithin
set_option maxRecDepth 20000 in
theorem ggX8_year_X6_draw : GoodIn wsX8_year wsX6_draw := goodIn_r _ [15, 16, 17, 18, 19, 14, 20, 21, 22, 23, 24, 25, 26, 27, 28, 29, 30, 31, 32, 33, 34, 35, 36, 37, 38, 39, 9, 40, 41, 42, 43, 44, 45, 46, 47, 48, 49, 50, 51, 52, 53, 54, 55, 56, 57, 58, 59, 60, 61, 62, 63, 64, 65, 66, 67, 68, 69, 70, 71, 72, 73, 74, 75, 76, 77, 78, 79, 80, 81, 82, 83, 84, 85, 86, 87, 88, 89, 90, 91, 92, 93, 94, 95, 96, 97, 98, 99, 100, 101, 102, 103, 104, 105, 106, 107, 108, 109, 110, 111, 112, 113, 114, 115, 116, 117, 118, 119, 120, 121, 122, 123, 124, 125, 126, 127, 128, 129, 130, 131, 132, 133, 134, 135, 136, 137, 138, 139, 140, 141, 142, 143, 144, 145, 146, 147, 148, 172, 173, 174, 175, 176, 177, 178, 179, 180, 181, 182, 183, 184, 185, 186] (by decide +kernel) (by decide +kernel)
set_option maxRecDepth 20000 in
theorem gX8_year_X6_draw : GoodIn wsX8_year (wsV RX8 265 RX6 yX6_draw wsX6_draw) := goodIn_app (goodIn_of _ (by decide +kernel)) ggX8_year_X6_draw
set_option maxRecDepth 20000 in
theorem ggX8_year_X6_portionsOfAll : GoodIn wsX8_year wsX6_portionsOfAll := goodIn_r _ [152, 22, 172, 173, 174, 175, 176, 177, 178, 179, 180] (by decide +kernel) (by decide +kernel)
set_option maxRecDepth 20000 in
theorem gX8_year_X6_portionsOfAll : GoodIn wsX8_year (wsV RX8 269 RX6 yX6_portionsOfAll wsX6_portionsOfAll) := goodIn_app (goodIn_of _ (by decide +kernel)) ggX8_year_X6_portionsOfAll
set_option maxRecDepth 20000 in
theorem ggX8_year_X1_hungerLeft : GoodIn wsX8_year wsX1_hungerLeft := goodIn_r _ [156, 79, 9, 80, 145, 146, 147, 32, 148, 34, 115, 116, 43, 117, 66, 67, 181, 182, 183, 184, 185, 186] (by decide +kernel) (by decide +kernel)
set_option maxRecDepth 20000 in
theorem gX8_year_X1_hungerLeft : GoodIn wsX8_year (wsV RX8 195 RX1 yX1_hungerLeft wsX1_hungerLeft) := goodIn_app (goodIn_of _ (by decide +kernel)) ggX8_year_X1_hungerLeft
theorem dX8_year_0 : decode cX8_year 0 = .ok (.iload_n 1, 1) := by decide +kernel
theorem dX8_year_1 : decode cX8_year 1 = .ok (.sipush 9999, 3) := by decide +kernel
theorem dX8_year_4 : decode cX8_year 4 = .ok (.invokestatic 64, 3) := by decide +kernel
theorem dX8_year_7 : decode cX8_year 7 = .ok (.ifCond .eq 22, 3) := by decide +kernel
theorem dX8_year_10 : decode cX8_year 10 = .ok (.iload_n 2, 1) := by decide +kernel
theorem dX8_year_11 : decode cX8_year 11 = .ok (.iconst 1, 1) := by decide +kernel
theorem dX8_year_12 : decode cX8_year 12 = .ok (.if_icmp .lt 17, 3) := by decide +kernel
theorem dX8_year_15 : decode cX8_year 15 = .ok (.iload_n 2, 1) := by decide +kernel
theorem dX8_year_16 : decode cX8_year 16 = .ok (.bipush 99, 2) := by decide +kernel
theorem dX8_year_18 : decode cX8_year 18 = .ok (.if_icmp .gt 11, 3) := by decide +kernel
theorem dX8_year_21 : decode cX8_year 21 = .ok (.iload_n 3, 1) := by decide +kernel
theorem dX8_year_22 : decode cX8_year 22 = .ok (.iconst 2, 1) := by decide +kernel
theorem dX8_year_23 : decode cX8_year 23 = .ok (.invokestatic 64, 3) := by decide +kernel
theorem dX8_year_26 : decode cX8_year 26 = .ok (.ifCond .ne 6, 3) := by decide +kernel
theorem dX8_year_29 : decode cX8_year 29 = .ok (.bipush (-2), 2) := by decide +kernel
theorem dX8_year_31 : decode cX8_year 31 = .ok (.ireturn, 1) := by decide +kernel
theorem dX8_year_32 : decode cX8_year 32 = .ok (.aload_n 0, 1) := by decide +kernel
theorem dX8_year_33 : decode cX8_year 33 = .ok (.getfield 32, 3) := by decide +kernel
theorem dX8_year_36 : decode cX8_year 36 = .ok (.aload_n 0, 1) := by decide +kernel
theorem dX8_year_37 : decode cX8_year 37 = .ok (.getfield 10, 3) := by decide +kernel
theorem dX8_year_40 : decode cX8_year 40 = .ok (.getfield 72, 3) := by decide +kernel
theorem dX8_year_43 : decode cX8_year 43 = .ok (.iload_n 1, 1) := by decide +kernel
theorem dX8_year_44 : decode cX8_year 44 = .ok (.iload_n 2, 1) := by decide +kernel
theorem dX8_year_45 : decode cX8_year 45 = .ok (.invokevirtual 265, 3) := by decide +kernel
theorem dX8_year_48 : decode cX8_year 48 = .ok (.iload_n 3, 1) := by decide +kernel
theorem dX8_year_49 : decode cX8_year 49 = .ok (.ifCond .ne 11, 3) := by decide +kernel
theorem dX8_year_52 : decode cX8_year 52 = .ok (.aload_n 0, 1) := by decide +kernel
theorem dX8_year_53 : decode cX8_year 53 = .ok (.getfield 32, 3) := by decide +kernel
theorem dX8_year_56 : decode cX8_year 56 = .ok (.invokevirtual 269, 3) := by decide +kernel
theorem dX8_year_59 : decode cX8_year 59 = .ok (.ireturn, 1) := by decide +kernel
theorem dX8_year_60 : decode cX8_year 60 = .ok (.iload_n 3, 1) := by decide +kernel
theorem dX8_year_61 : decode cX8_year 61 = .ok (.iconst 1, 1) := by decide +kernel
theorem dX8_year_62 : decode cX8_year 62 = .ok (.if_icmp .ne 13, 3) := by decide +kernel
theorem dX8_year_65 : decode cX8_year 65 = .ok (.aload_n 0, 1) := by decide +kernel
theorem dX8_year_66 : decode cX8_year 66 = .ok (.getfield 32, 3) := by decide +kernel
theorem dX8_year_69 : decode cX8_year 69 = .ok (.getfield 152, 3) := by decide +kernel
theorem dX8_year_72 : decode cX8_year 72 = .ok (.goto 24, 3) := by decide +kernel
theorem dX8_year_75 : decode cX8_year 75 = .ok (.aload_n 0, 1) := by decide +kernel
theorem dX8_year_76 : decode cX8_year 76 = .ok (.getfield 32, 3) := by decide +kernel
theorem dX8_year_79 : decode cX8_year 79 = .ok (.getfield 124, 3) := by decide +kernel
theorem dX8_year_82 : decode cX8_year 82 = .ok (.aload_n 0, 1) := by decide +kernel
theorem dX8_year_83 : decode cX8_year 83 = .ok (.getfield 32, 3) := by decide +kernel
theorem dX8_year_86 : decode cX8_year 86 = .ok (.getfield 124, 3) := by decide +kernel
theorem dX8_year_89 : decode cX8_year 89 = .ok (.getfield 272, 3) := by decide +kernel
theorem dX8_year_92 : decode cX8_year 92 = .ok (.iconst 0, 1) := by decide +kernel
theorem dX8_year_93 : decode cX8_year 93 = .ok (.invokevirtual 195, 3) := by decide +kernel
theorem dX8_year_96 : decode cX8_year 96 = .ok (.ireturn, 1) := by decide +kernel
set_option maxRecDepth 20000 in
theorem ggX8_image_X8_isWithin : GoodIn wsX8_image wsX8_isWithin := goodIn_r _ [8] (by decide +kernel) (by decide +kernel)
set_option maxRecDepth 20000 in
theorem gX8_image_X8_isWithin : GoodIn wsX8_image (va_wsS RX8 64 yX8_isWithin wsX8_isWithin) := goodIn_app (goodIn_of _ (by decide +kernel)) ggX8_image_X8_isWithin
set_option maxRecDepth 20000 in
theorem ggX8_image_X0_become : GoodIn wsX8_image wsX0_become := goodIn_r _ [13, 14, 15, 16, 17, 18, 19, 20, 21, 22, 23, 24, 25, 26, 27, 28, 29, 7, 30, 31, 32, 33, 34, 35, 36, 37, 38, 48, 49, 50, 51, 52, 53, 54, 55, 56, 57, 58, 59] (by decide +kernel) (by decide +kernel)
set_option maxRecDepth 20000 in
theorem gX8_image_X0_become : GoodIn wsX8_image (wsV RX8 275 RX0 yX0_become wsX0_become) := goodIn_app (goodIn_of _ (by decide +kernel)) ggX8_image_X0_become
theorem dX8_image_0 : decode cX8_image 0 = .ok (.iload_n 1, 1) := by decide +kernel
theorem dX8_image_1 : decode cX8_image 1 = .ok (.iconst 1, 1) := by decide +kernel
theorem dX8_image_2 : decode cX8_image 2 = .ok (.invokestatic 64, 3) := by decide +kernel
theorem dX8_image_5 : decode cX8_image 5 = .ok (.ifCond .ne 6, 3) := by decide +kernel
theorem dX8_image_8 : decode cX8_image 8 = .ok (.bipush (-2), 2) := by decide +kernel
theorem dX8_image_10 : decode cX8_image 10 = .ok (.ireturn, 1) := by decide +kernel
theorem dX8_image_11 : decode cX8_image 11 = .ok (.iload_n 1, 1) := by decide +kernel
theorem dX8_image_12 : decode cX8_image 12 = .ok (.ifCond .ne 10, 3) := by decide +kernel
theorem dX8_image_15 : decode cX8_image 15 = .ok (.aload_n 0, 1) := by decide +kernel
theorem dX8_image_16 : decode cX8_image 16 = .ok (.getfield 16, 3) := by decide +kernel
theorem dX8_image_19 : decode cX8_image 19 = .ok (.goto 7, 3) := by decide +kernel
theorem dX8_image_22 : decode cX8_image 22 = .ok (.aload_n 0, 1) := by decide +kernel
theorem dX8_image_23 : decode cX8_image 23 = .ok (.getfield 19, 3) := by decide +kernel
theorem dX8_image_26 : decode cX8_image 26 = .ok (.astore_n 2, 1) := by decide +kernel
theorem dX8_image_27 : decode cX8_image 27 = .ok (.aload_n 2, 1) := by decide +kernel
theorem dX8_image_28 : decode cX8_image 28 = .ok (.aload_n 0, 1) := by decide +kernel
theorem dX8_image_29 : decode cX8_image 29 = .ok (.getfield 10, 3) := by decide +kernel
theorem dX8_image_32 : decode cX8_image 32 = .ok (.invokevirtual 275, 3) := by decide +kernel
theorem dX8_image_35 : decode cX8_image 35 = .ok (.aload_n 2, 1) := by decide +kernel
theorem dX8_image_36 : decode cX8_image 36 = .ok (.iconst 1, 1) := by decide +kernel
theorem dX8_image_37 : decode cX8_image 37 = .ok (.putfield 277, 3) := by decide +kernel
theorem dX8_image_40 : decode cX8_image 40 = .ok (.iconst 1, 1) := by decide +kernel
theorem dX8_image_41 : decode cX8_image 41 = .ok (.ireturn, 1) := by decide +kernel
set_option maxRecDepth 20000 in
theorem ggX8_restore_X8_isWithin : GoodIn wsX8_restore wsX8_isWithin := goodIn_r _ [8] (by decide +kernel) (by decide +kernel)
set_option maxRecDepth 20000 in
theorem gX8_restore_X8_isWithin : GoodIn wsX8_restore (va_wsS RX8 64 yX8_isWithin wsX8_isWithin) := goodIn_app (goodIn_of _ (by decide +kernel)) ggX8_restore_X8_isWithin
set_option maxRecDepth 20000 in
theorem ggX8_restore_X0_become : GoodIn wsX8_restore wsX0_become := goodIn_r _ [13, 14, 15, 16, 17, 18, 19, 20, 21, 22, 23, 24, 25, 26, 27, 28, 29, 7, 30, 31, 32, 33, 34, 35, 36, 37, 38, 48, 49, 50, 51, 52, 53, 54, 55, 56, 57, 58, 59] (by decide +kernel) (by decide +kernel)
set_option maxRecDepth 20000 in
theorem gX8_restore_X0_become : GoodIn wsX8_restore (wsV RX8 275 RX0 yX0_become wsX0_become) := goodIn_app (goodIn_of _ (by decide +kernel)) ggX8_restore_X0_become
theorem dX8_restore_0 : decode cX8_restore 0 = .ok (.iload_n 1, 1) := by decide +kernel
theorem dX8_restore_1 : decode cX8_restore 1 = .ok (.iconst 1, 1) := by decide +kernel
theorem dX8_restore_2 : decode cX8_restore 2 = .ok (.invokestatic 64, 3) := by decide +kernel
theorem dX8_restore_5 : decode cX8_restore 5 = .ok (.ifCond .ne 6, 3) := by decide +kernel
theorem dX8_restore_8 : decode cX8_restore 8 = .ok (.bipush (-2), 2) := by decide +kernel
theorem dX8_restore_10 : decode cX8_restore 10 = .ok (.ireturn, 1) := by decide +kernel
theorem dX8_restore_11 : decode cX8_restore 11 = .ok (.iload_n 1, 1) := by decide +kernel
theorem dX8_restore_12 : decode cX8_restore 12 = .ok (.ifCond .ne 10, 3) := by decide +kernel
theorem dX8_restore_15 : decode cX8_restore 15 = .ok (.aload_n 0, 1) := by decide +kernel
theorem dX8_restore_16 : decode cX8_restore 16 = .ok (.getfield 16, 3) := by decide +kernel
theorem dX8_restore_19 : decode cX8_restore 19 = .ok (.goto 7, 3) := by decide +kernel
theorem dX8_restore_22 : decode cX8_restore 22 = .ok (.aload_n 0, 1) := by decide +kernel
theorem dX8_restore_23 : decode cX8_restore 23 = .ok (.getfield 19, 3) := by decide +kernel
theorem dX8_restore_26 : decode cX8_restore 26 = .ok (.astore_n 2, 1) := by decide +kernel
theorem dX8_restore_27 : decode cX8_restore 27 = .ok (.aload_n 2, 1) := by decide +kernel
theorem dX8_restore_28 : decode cX8_restore 28 = .ok (.getfield 277, 3) := by decide +kernel
theorem dX8_restore_31 : decode cX8_restore 31 = .ok (.ifCond .ne 6, 3) := by decide +kernel
theorem dX8_restore_34 : decode cX8_restore 34 = .ok (.bipush (-3), 2) := by decide +kernel
theorem dX8_restore_36 : decode cX8_restore 36 = .ok (.ireturn, 1) := by decide +kernel
theorem dX8_restore_37 : decode cX8_restore 37 = .ok (.aload_n 0, 1) := by decide +kernel
theorem dX8_restore_38 : decode cX8_restore 38 = .ok (.getfield 10, 3) := by decide +kernel
theorem dX8_restore_41 : decode cX8_restore 41 = .ok (.aload_n 2, 1) := by decide +kernel
theorem dX8_restore_42 : decode cX8_restore 42 = .ok (.invokevirtual 275, 3) := by decide +kernel
theorem dX8_restore_45 : decode cX8_restore 45 = .ok (.iconst 1, 1) := by decide +kernel
theorem dX8_restore_46 : decode cX8_restore 46 = .ok (.ireturn, 1) := by decide +kernel
set_option maxRecDepth 20000 in
theorem ggX8_told_X0_countFeuds : GoodIn wsX8_told wsX0_countFeuds := goodIn_r _ [12, 13, 14, 15, 16, 17, 18, 19, 20, 52, 53, 54, 55, 56, 57] (by decide +kernel) (by decide +kernel)
set_option maxRecDepth 20000 in
theorem gX8_told_X0_countFeuds : GoodIn wsX8_told (wsV RX8 101 RX0 yX0_countFeuds wsX0_countFeuds) := goodIn_app (goodIn_of _ (by decide +kernel)) ggX8_told_X0_countFeuds
set_option maxRecDepth 20000 in
theorem ggX8_told_X8_toldFeint : GoodIn wsX8_told wsX8_toldFeint := goodIn_r _ [25, 3, 4, 26, 27, 28, 24, 29, 30, 31, 32, 33, 34, 35, 36, 37, 38, 39, 40, 41, 42, 43, 44, 45, 46, 47, 48, 49, 52, 53, 54, 55, 56, 57, 58, 59, 60, 61, 62, 63] (by decide +kernel) (by decide +kernel)
set_option maxRecDepth 20000 in
theorem gX8_told_X8_toldFeint : GoodIn wsX8_told (wsV RX8 284 RX8 yX8_toldFeint wsX8_toldFeint) := goodIn_app (goodIn_of _ (by decide +kernel)) ggX8_told_X8_toldFeint
theorem dX8_told_0 : decode cX8_told 0 = .ok (.iload_n 1, 1) := by decide +kernel
theorem dX8_told_1 : decode cX8_told 1 = .ok (.tableswitch 81 0 4 #[35, 43, 54, 65, 73], 35) := by decide +kernel
theorem dX8_told_36 : decode cX8_told 36 = .ok (.aload_n 0, 1) := by decide +kernel
theorem dX8_told_37 : decode cX8_told 37 = .ok (.getfield 25, 3) := by decide +kernel
theorem dX8_told_40 : decode cX8_told 40 = .ok (.getfield 281, 3) := by decide +kernel
theorem dX8_told_43 : decode cX8_told 43 = .ok (.ireturn, 1) := by decide +kernel
theorem dX8_told_44 : decode cX8_told 44 = .ok (.aload_n 0, 1) := by decide +kernel
theorem dX8_told_45 : decode cX8_told 45 = .ok (.getfield 10, 3) := by decide +kernel
theorem dX8_told_48 : decode cX8_told 48 = .ok (.getfield 72, 3) := by decide +kernel
theorem dX8_told_51 : decode cX8_told 51 = .ok (.getfield 272, 3) := by decide +kernel
theorem dX8_told_54 : decode cX8_told 54 = .ok (.ireturn, 1) := by decide +kernel
theorem dX8_told_55 : decode cX8_told 55 = .ok (.aload_n 0, 1) := by decide +kernel
theorem dX8_told_56 : decode cX8_told 56 = .ok (.getfield 10, 3) := by decide +kernel
theorem dX8_told_59 : decode cX8_told 59 = .ok (.getfield 72, 3) := by decide +kernel
theorem dX8_told_62 : decode cX8_told 62 = .ok (.getfield 93, 3) := by decide +kernel
theorem dX8_told_65 : decode cX8_told 65 = .ok (.ireturn, 1) := by decide +kernel
theorem dX8_told_66 : decode cX8_told 66 = .ok (.aload_n 0, 1) := by decide +kernel
theorem dX8_told_67 : decode cX8_told 67 = .ok (.getfield 10, 3) := by decide +kernel
theorem dX8_told_70 : decode cX8_told 70 = .ok (.getfield 204, 3) := by decide +kernel
theorem dX8_told_73 : decode cX8_told 73 = .ok (.ireturn, 1) := by decide +kernel
theorem dX8_told_74 : decode cX8_told 74 = .ok (.aload_n 0, 1) := by decide +kernel
theorem dX8_told_75 : decode cX8_told 75 = .ok (.getfield 10, 3) := by decide +kernel
theorem dX8_told_78 : decode cX8_told 78 = .ok (.invokevirtual 101, 3) := by decide +kernel
theorem dX8_told_81 : decode cX8_told 81 = .ok (.ireturn, 1) := by decide +kernel
theorem dX8_told_82 : decode cX8_told 82 = .ok (.aload_n 0, 1) := by decide +kernel
theorem dX8_told_83 : decode cX8_told 83 = .ok (.iload_n 1, 1) := by decide +kernel
theorem dX8_told_84 : decode cX8_told 84 = .ok (.invokevirtual 284, 3) := by decide +kernel
theorem dX8_told_87 : decode cX8_told 87 = .ok (.ireturn, 1) := by decide +kernel
set_option maxRecDepth 20000 in
theorem ggX8_toldFeint_X8_isWithin : GoodIn wsX8_toldFeint wsX8_isWithin := goodIn_r _ [7] (by decide +kernel) (by decide +kernel)
set_option maxRecDepth 20000 in
theorem gX8_toldFeint_X8_isWithin : GoodIn wsX8_toldFeint (va_wsS RX8 64 yX8_isWithin wsX8_isWithin) := goodIn_app (goodIn_of _ (by decide +kernel)) ggX8_toldFeint_X8_isWithin
set_option maxRecDepth 20000 in
theorem ggX8_toldFeint_X1_has : GoodIn wsX8_toldFeint wsX1_has := goodIn_r _ [12, 13, 14, 6, 15, 34, 35, 36, 37, 38, 39] (by decide +kernel) (by decide +kernel)
set_option maxRecDepth 20000 in
theorem gX8_toldFeint_X1_has : GoodIn wsX8_toldFeint (wsV RX8 82 RX1 yX1_has wsX1_has) := goodIn_app (goodIn_of _ (by decide +kernel)) ggX8_toldFeint_X1_has
set_option maxRecDepth 20000 in
theorem ggX8_toldFeint_X8_at : GoodIn wsX8_toldFeint wsX8_at := goodIn_r _ [18] (by decide +kernel) (by decide +kernel)
set_option maxRecDepth 20000 in
theorem gX8_toldFeint_X8_at : GoodIn wsX8_toldFeint (va_wsS RX8 136 yX8_at wsX8_at) := goodIn_app (goodIn_of _ (by decide +kernel)) ggX8_toldFeint_X8_at
theorem dX8_toldFeint_0 : decode cX8_toldFeint 0 = .ok (.iload_n 1, 1) := by decide +kernel
theorem dX8_toldFeint_1 : decode cX8_toldFeint 1 = .ok (.bipush 15, 2) := by decide +kernel
theorem dX8_toldFeint_3 : decode cX8_toldFeint 3 = .ok (.invokestatic 64, 3) := by decide +kernel
theorem dX8_toldFeint_6 : decode cX8_toldFeint 6 = .ok (.ifCond .eq 20, 3) := by decide +kernel
theorem dX8_toldFeint_9 : decode cX8_toldFeint 9 = .ok (.aload_n 0, 1) := by decide +kernel
theorem dX8_toldFeint_10 : decode cX8_toldFeint 10 = .ok (.getfield 10, 3) := by decide +kernel
theorem dX8_toldFeint_13 : decode cX8_toldFeint 13 = .ok (.getfield 72, 3) := by decide +kernel
theorem dX8_toldFeint_16 : decode cX8_toldFeint 16 = .ok (.iload_n 1, 1) := by decide +kernel
theorem dX8_toldFeint_17 : decode cX8_toldFeint 17 = .ok (.bipush 10, 2) := by decide +kernel
theorem dX8_toldFeint_19 : decode cX8_toldFeint 19 = .ok (.isub, 1) := by decide +kernel
theorem dX8_toldFeint_20 : decode cX8_toldFeint 20 = .ok (.invokevirtual 82, 3) := by decide +kernel
theorem dX8_toldFeint_23 : decode cX8_toldFeint 23 = .ok (.ifCond .ne 6, 3) := by decide +kernel
theorem dX8_toldFeint_26 : decode cX8_toldFeint 26 = .ok (.bipush (-2), 2) := by decide +kernel
theorem dX8_toldFeint_28 : decode cX8_toldFeint 28 = .ok (.ireturn, 1) := by decide +kernel
theorem dX8_toldFeint_29 : decode cX8_toldFeint 29 = .ok (.aload_n 0, 1) := by decide +kernel
theorem dX8_toldFeint_30 : decode cX8_toldFeint 30 = .ok (.getfield 10, 3) := by decide +kernel
theorem dX8_toldFeint_33 : decode cX8_toldFeint 33 = .ok (.getfield 72, 3) := by decide +kernel
theorem dX8_toldFeint_36 : decode cX8_toldFeint 36 = .ok (.getfield 287, 3) := by decide +kernel
theorem dX8_toldFeint_39 : decode cX8_toldFeint 39 = .ok (.iload_n 1, 1) := by decide +kernel
theorem dX8_toldFeint_40 : decode cX8_toldFeint 40 = .ok (.bipush 10, 2) := by decide +kernel
theorem dX8_toldFeint_42 : decode cX8_toldFeint 42 = .ok (.isub, 1) := by decide +kernel
theorem dX8_toldFeint_43 : decode cX8_toldFeint 43 = .ok (.invokestatic 136, 3) := by decide +kernel
theorem dX8_toldFeint_46 : decode cX8_toldFeint 46 = .ok (.ireturn, 1) := by decide +kernel
set_option maxRecDepth 20000 in
theorem ggX8_isCrowded_X1_inside : GoodIn wsX8_isCrowded wsX1_inside := goodIn_r _ [7, 8, 9, 10, 11, 12, 35, 36, 37, 38, 39, 40] (by decide +kernel) (by decide +kernel)
set_option maxRecDepth 20000 in
theorem gX8_isCrowded_X1_inside : GoodIn wsX8_isCrowded (wsV RX8 189 RX1 yX1_inside wsX1_inside) := goodIn_app (goodIn_of _ (by decide +kernel)) ggX8_isCrowded_X1_inside
set_option maxRecDepth 20000 in
theorem ggX8_isCrowded_J6_bitCount_0f7a4 : GoodIn wsX8_isCrowded wsJ6_bitCount_0f7a4 := goodIn_r _ [16, 17, 18, 19] (by decide +kernel) (by decide +kernel)
set_option maxRecDepth 20000 in
theorem gX8_isCrowded_J6_bitCount_0f7a4 : GoodIn wsX8_isCrowded (va_wsS RX8 256 yJ6_bitCount_0f7a4 wsJ6_bitCount_0f7a4) := goodIn_app (goodIn_of _ (by decide +kernel)) ggX8_isCrowded_J6_bitCount_0f7a4
theorem dX8_isCrowded_0 : decode cX8_isCrowded 0 = .ok (.aload_n 0, 1) := by decide +kernel
theorem dX8_isCrowded_1 : decode cX8_isCrowded 1 = .ok (.getfield 10, 3) := by decide +kernel
theorem dX8_isCrowded_4 : decode cX8_isCrowded 4 = .ok (.getfield 72, 3) := by decide +kernel
theorem dX8_isCrowded_7 : decode cX8_isCrowded 7 = .ok (.iload_n 1, 1) := by decide +kernel
theorem dX8_isCrowded_8 : decode cX8_isCrowded 8 = .ok (.invokevirtual 189, 3) := by decide +kernel
theorem dX8_isCrowded_11 : decode cX8_isCrowded 11 = .ok (.invokestatic 256, 3) := by decide +kernel
theorem dX8_isCrowded_14 : decode cX8_isCrowded 14 = .ok (.iconst 4, 1) := by decide +kernel
theorem dX8_isCrowded_15 : decode cX8_isCrowded 15 = .ok (.if_icmp .le 7, 3) := by decide +kernel
theorem dX8_isCrowded_18 : decode cX8_isCrowded 18 = .ok (.iconst 1, 1) := by decide +kernel
theorem dX8_isCrowded_19 : decode cX8_isCrowded 19 = .ok (.goto 4, 3) := by decide +kernel
theorem dX8_isCrowded_22 : decode cX8_isCrowded 22 = .ok (.iconst 0, 1) := by decide +kernel
theorem dX8_isCrowded_23 : decode cX8_isCrowded 23 = .ok (.ireturn, 1) := by decide +kernel
set_option maxRecDepth 20000 in
theorem ggX8_isHouse_X8_isWithin : GoodIn wsX8_isHouse wsX8_isWithin := goodIn_r _ [4] (by decide +kernel) (by decide +kernel)
set_option maxRecDepth 20000 in
theorem gX8_isHouse_X8_isWithin : GoodIn wsX8_isHouse (va_wsS RX8 64 yX8_isWithin wsX8_isWithin) := goodIn_app (goodIn_of _ (by decide +kernel)) ggX8_isHouse_X8_isWithin
theorem dX8_isHouse_0 : decode cX8_isHouse 0 = .ok (.iload_n 0, 1) := by decide +kernel
theorem dX8_isHouse_1 : decode cX8_isHouse 1 = .ok (.iconst 2, 1) := by decide +kernel
theorem dX8_isHouse_2 : decode cX8_isHouse 2 = .ok (.invokestatic 64, 3) := by decide +kernel
theorem dX8_isHouse_5 : decode cX8_isHouse 5 = .ok (.ireturn, 1) := by decide +kernel
theorem dX8_isDish_0 : decode cX8_isDish 0 = .ok (.iload_n 0, 1) := by decide +kernel
theorem dX8_isDish_1 : decode cX8_isDish 1 = .ok (.iconst 1, 1) := by decide +kernel
theorem dX8_isDish_2 : decode cX8_isDish 2 = .ok (.if_icmp .lt 13, 3) := by decide +kernel
theorem dX8_isDish_5 : decode cX8_isDish 5 = .ok (.iload_n 0, 1) := by decide +kernel
theorem dX8_isDish_6 : decode cX8_isDish 6 = .ok (.bipush 9, 2) := by decide +kernel
theorem dX8_isDish_8 : decode cX8_isDish 8 = .ok (.if_icmp .gt 7, 3) := by decide +kernel
theorem dX8_isDish_11 : decode cX8_isDish 11 = .ok (.iconst 1, 1) := by decide +kernel
theorem dX8_isDish_12 : decode cX8_isDish 12 = .ok (.goto 4, 3) := by decide +kernel
theorem dX8_isDish_15 : decode cX8_isDish 15 = .ok (.iconst 0, 1) := by decide +kernel
theorem dX8_isDish_16 : decode cX8_isDish 16 = .ok (.ireturn, 1) := by decide +kernel
theorem dX8_isWithin_0 : decode cX8_isWithin 0 = .ok (.iload_n 0, 1) := by decide +kernel
theorem dX8_isWithin_1 : decode cX8_isWithin 1 = .ok (.ifCond .lt 12, 3) := by decide +kernel
theorem dX8_isWithin_4 : decode cX8_isWithin 4 = .ok (.iload_n 0, 1) := by decide +kernel
theorem dX8_isWithin_5 : decode cX8_isWithin 5 = .ok (.iload_n 1, 1) := by decide +kernel
theorem dX8_isWithin_6 : decode cX8_isWithin 6 = .ok (.if_icmp .gt 7, 3) := by decide +kernel
theorem dX8_isWithin_9 : decode cX8_isWithin 9 = .ok (.iconst 1, 1) := by decide +kernel
theorem dX8_isWithin_10 : decode cX8_isWithin 10 = .ok (.goto 4, 3) := by decide +kernel
theorem dX8_isWithin_13 : decode cX8_isWithin 13 = .ok (.iconst 0, 1) := by decide +kernel
theorem dX8_isWithin_14 : decode cX8_isWithin 14 = .ok (.ireturn, 1) := by decide +kernel
theorem dX8_holds_0 : decode cX8_holds 0 = .ok (.iload_n 1, 1) := by decide +kernel
theorem dX8_holds_1 : decode cX8_holds 1 = .ok (.ifCond .lt 22, 3) := by decide +kernel
