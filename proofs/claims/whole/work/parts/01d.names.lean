theorem dX8_holds_4 : decode cX8_holds 4 = .ok (.iload_n 1, 1) := by decide +kernel
theorem dX8_holds_5 : decode cX8_holds 5 = .ok (.bipush 6, 2) := by decide +kernel
theorem dX8_holds_7 : decode cX8_holds 7 = .ok (.if_icmp .ge 16, 3) := by decide +kernel
theorem dX8_holds_10 : decode cX8_holds 10 = .ok (.iload_n 0, 1) := by decide +kernel
theorem dX8_holds_11 : decode cX8_holds 11 = .ok (.iload_n 1, 1) := by decide +kernel
theorem dX8_holds_12 : decode cX8_holds 12 = .ok (.ishr, 1) := by decide +kernel
theorem dX8_holds_13 : decode cX8_holds 13 = .ok (.iconst 1, 1) := by decide +kernel
theorem dX8_holds_14 : decode cX8_holds 14 = .ok (.iand, 1) := by decide +kernel
theorem dX8_holds_15 : decode cX8_holds 15 = .ok (.iconst 1, 1) := by decide +kernel
theorem dX8_holds_16 : decode cX8_holds 16 = .ok (.if_icmp .ne 7, 3) := by decide +kernel
theorem dX8_holds_19 : decode cX8_holds 19 = .ok (.iconst 1, 1) := by decide +kernel
theorem dX8_holds_20 : decode cX8_holds 20 = .ok (.goto 4, 3) := by decide +kernel
theorem dX8_holds_23 : decode cX8_holds 23 = .ok (.iconst 0, 1) := by decide +kernel
theorem dX8_holds_24 : decode cX8_holds 24 = .ok (.ireturn, 1) := by decide +kernel
theorem dX8_at_0 : decode cX8_at 0 = .ok (.iload_n 1, 1) := by decide +kernel
theorem dX8_at_1 : decode cX8_at 1 = .ok (.ifCond .lt 15, 3) := by decide +kernel
theorem dX8_at_4 : decode cX8_at 4 = .ok (.iload_n 1, 1) := by decide +kernel
theorem dX8_at_5 : decode cX8_at 5 = .ok (.aload_n 0, 1) := by decide +kernel
theorem dX8_at_6 : decode cX8_at 6 = .ok (.arraylength, 1) := by decide +kernel
theorem dX8_at_7 : decode cX8_at 7 = .ok (.if_icmp .ge 9, 3) := by decide +kernel
theorem dX8_at_10 : decode cX8_at 10 = .ok (.aload_n 0, 1) := by decide +kernel
theorem dX8_at_11 : decode cX8_at 11 = .ok (.iload_n 1, 1) := by decide +kernel
theorem dX8_at_12 : decode cX8_at 12 = .ok (.iaload, 1) := by decide +kernel
theorem dX8_at_13 : decode cX8_at 13 = .ok (.goto 4, 3) := by decide +kernel
theorem dX8_at_16 : decode cX8_at 16 = .ok (.iconst 0, 1) := by decide +kernel
theorem dX8_at_17 : decode cX8_at 17 = .ok (.ireturn, 1) := by decide +kernel
theorem dX8_put_0 : decode cX8_put 0 = .ok (.iload_n 1, 1) := by decide +kernel
theorem dX8_put_1 : decode cX8_put 1 = .ok (.ifCond .lt 13, 3) := by decide +kernel
theorem dX8_put_4 : decode cX8_put 4 = .ok (.iload_n 1, 1) := by decide +kernel
theorem dX8_put_5 : decode cX8_put 5 = .ok (.aload_n 0, 1) := by decide +kernel
theorem dX8_put_6 : decode cX8_put 6 = .ok (.arraylength, 1) := by decide +kernel
theorem dX8_put_7 : decode cX8_put 7 = .ok (.if_icmp .ge 7, 3) := by decide +kernel
theorem dX8_put_10 : decode cX8_put 10 = .ok (.aload_n 0, 1) := by decide +kernel
theorem dX8_put_11 : decode cX8_put 11 = .ok (.iload_n 1, 1) := by decide +kernel
theorem dX8_put_12 : decode cX8_put 12 = .ok (.iload_n 2, 1) := by decide +kernel
theorem dX8_put_13 : decode cX8_put 13 = .ok (.iastore, 1) := by decide +kernel
theorem dX8_put_14 : decode cX8_put 14 = .ok (.return_, 1) := by decide +kernel
theorem dX8_copyRow_0 : decode cX8_copyRow 0 = .ok (.aload_n 0, 1) := by decide +kernel
theorem dX8_copyRow_1 : decode cX8_copyRow 1 = .ok (.iconst 0, 1) := by decide +kernel
theorem dX8_copyRow_2 : decode cX8_copyRow 2 = .ok (.aload_n 1, 1) := by decide +kernel
theorem dX8_copyRow_3 : decode cX8_copyRow 3 = .ok (.iconst 0, 1) := by decide +kernel
theorem dX8_copyRow_4 : decode cX8_copyRow 4 = .ok (.aload_n 0, 1) := by decide +kernel
theorem dX8_copyRow_5 : decode cX8_copyRow 5 = .ok (.arraylength, 1) := by decide +kernel
theorem dX8_copyRow_6 : decode cX8_copyRow 6 = .ok (.aload_n 1, 1) := by decide +kernel
theorem dX8_copyRow_7 : decode cX8_copyRow 7 = .ok (.arraylength, 1) := by decide +kernel
theorem dX8_copyRow_8 : decode cX8_copyRow 8 = .ok (.invokestatic 290, 3) := by decide +kernel
theorem dX8_copyRow_11 : decode cX8_copyRow 11 = .ok (.invokestatic 295, 3) := by decide +kernel
theorem dX8_copyRow_14 : decode cX8_copyRow 14 = .ok (.return_, 1) := by decide +kernel
theorem dX8_thoseWithAny_0 : decode cX8_thoseWithAny 0 = .ok (.iconst 0, 1) := by decide +kernel
theorem dX8_thoseWithAny_1 : decode cX8_thoseWithAny 1 = .ok (.istore_n 1, 1) := by decide +kernel
theorem dX8_thoseWithAny_2 : decode cX8_thoseWithAny 2 = .ok (.iconst 0, 1) := by decide +kernel
theorem dX8_thoseWithAny_3 : decode cX8_thoseWithAny 3 = .ok (.istore_n 2, 1) := by decide +kernel
theorem dX8_thoseWithAny_4 : decode cX8_thoseWithAny 4 = .ok (.iload_n 2, 1) := by decide +kernel
theorem dX8_thoseWithAny_5 : decode cX8_thoseWithAny 5 = .ok (.aload_n 0, 1) := by decide +kernel
theorem dX8_thoseWithAny_6 : decode cX8_thoseWithAny 6 = .ok (.arraylength, 1) := by decide +kernel
theorem dX8_thoseWithAny_7 : decode cX8_thoseWithAny 7 = .ok (.if_icmp .ge 21, 3) := by decide +kernel
theorem dX8_thoseWithAny_10 : decode cX8_thoseWithAny 10 = .ok (.aload_n 0, 1) := by decide +kernel
theorem dX8_thoseWithAny_11 : decode cX8_thoseWithAny 11 = .ok (.iload_n 2, 1) := by decide +kernel
theorem dX8_thoseWithAny_12 : decode cX8_thoseWithAny 12 = .ok (.iaload, 1) := by decide +kernel
theorem dX8_thoseWithAny_13 : decode cX8_thoseWithAny 13 = .ok (.ifCond .le 9, 3) := by decide +kernel
theorem dX8_thoseWithAny_16 : decode cX8_thoseWithAny 16 = .ok (.iload_n 1, 1) := by decide +kernel
theorem dX8_thoseWithAny_17 : decode cX8_thoseWithAny 17 = .ok (.iconst 1, 1) := by decide +kernel
theorem dX8_thoseWithAny_18 : decode cX8_thoseWithAny 18 = .ok (.iload_n 2, 1) := by decide +kernel
theorem dX8_thoseWithAny_19 : decode cX8_thoseWithAny 19 = .ok (.ishl, 1) := by decide +kernel
theorem dX8_thoseWithAny_20 : decode cX8_thoseWithAny 20 = .ok (.ior, 1) := by decide +kernel
theorem dX8_thoseWithAny_21 : decode cX8_thoseWithAny 21 = .ok (.istore_n 1, 1) := by decide +kernel
theorem dX8_thoseWithAny_22 : decode cX8_thoseWithAny 22 = .ok (.iinc 2 1, 3) := by decide +kernel
theorem dX8_thoseWithAny_25 : decode cX8_thoseWithAny 25 = .ok (.goto (-21), 3) := by decide +kernel
theorem dX8_thoseWithAny_28 : decode cX8_thoseWithAny 28 = .ok (.iload_n 1, 1) := by decide +kernel
theorem dX8_thoseWithAny_29 : decode cX8_thoseWithAny 29 = .ok (.ireturn, 1) := by decide +kernel
theorem dX8_power_0 : decode cX8_power 0 = .ok (.iconst 1, 1) := by decide +kernel
theorem dX8_power_1 : decode cX8_power 1 = .ok (.istore_n 2, 1) := by decide +kernel
theorem dX8_power_2 : decode cX8_power 2 = .ok (.iconst 0, 1) := by decide +kernel
theorem dX8_power_3 : decode cX8_power 3 = .ok (.istore_n 3, 1) := by decide +kernel
theorem dX8_power_4 : decode cX8_power 4 = .ok (.iload_n 3, 1) := by decide +kernel
theorem dX8_power_5 : decode cX8_power 5 = .ok (.iload_n 1, 1) := by decide +kernel
theorem dX8_power_6 : decode cX8_power 6 = .ok (.if_icmp .ge 13, 3) := by decide +kernel
theorem dX8_power_9 : decode cX8_power 9 = .ok (.iload_n 2, 1) := by decide +kernel
theorem dX8_power_10 : decode cX8_power 10 = .ok (.iload_n 0, 1) := by decide +kernel
theorem dX8_power_11 : decode cX8_power 11 = .ok (.imul, 1) := by decide +kernel
theorem dX8_power_12 : decode cX8_power 12 = .ok (.istore_n 2, 1) := by decide +kernel
theorem dX8_power_13 : decode cX8_power 13 = .ok (.iinc 3 1, 3) := by decide +kernel
theorem dX8_power_16 : decode cX8_power 16 = .ok (.goto (-12), 3) := by decide +kernel
theorem dX8_power_19 : decode cX8_power 19 = .ok (.iload_n 2, 1) := by decide +kernel
theorem dX8_power_20 : decode cX8_power 20 = .ok (.ireturn, 1) := by decide +kernel
set_option maxRecDepth 20000 in
theorem ggX8_spread_X8_holds : GoodIn wsX8_spread wsX8_holds := goodIn_r _ [4] (by decide +kernel) (by decide +kernel)
set_option maxRecDepth 20000 in
theorem gX8_spread_X8_holds : GoodIn wsX8_spread (va_wsS RX8 207 yX8_holds wsX8_holds) := goodIn_app (goodIn_of _ (by decide +kernel)) ggX8_spread_X8_holds
theorem dX8_spread_0 : decode cX8_spread 0 = .ok (.iload_n 2, 1) := by decide +kernel
theorem dX8_spread_1 : decode cX8_spread 1 = .ok (.istore 5, 2) := by decide +kernel
theorem dX8_spread_3 : decode cX8_spread 3 = .ok (.aload_n 0, 1) := by decide +kernel
theorem dX8_spread_4 : decode cX8_spread 4 = .ok (.arraylength, 1) := by decide +kernel
theorem dX8_spread_5 : decode cX8_spread 5 = .ok (.iconst 1, 1) := by decide +kernel
theorem dX8_spread_6 : decode cX8_spread 6 = .ok (.isub, 1) := by decide +kernel
theorem dX8_spread_7 : decode cX8_spread 7 = .ok (.istore 6, 2) := by decide +kernel
theorem dX8_spread_9 : decode cX8_spread 9 = .ok (.iload 6, 2) := by decide +kernel
theorem dX8_spread_11 : decode cX8_spread 11 = .ok (.ifCond .lt 39, 3) := by decide +kernel
theorem dX8_spread_14 : decode cX8_spread 14 = .ok (.iload_n 3, 1) := by decide +kernel
theorem dX8_spread_15 : decode cX8_spread 15 = .ok (.ifCond .le 35, 3) := by decide +kernel
theorem dX8_spread_18 : decode cX8_spread 18 = .ok (.iload_n 1, 1) := by decide +kernel
theorem dX8_spread_19 : decode cX8_spread 19 = .ok (.iload 6, 2) := by decide +kernel
theorem dX8_spread_21 : decode cX8_spread 21 = .ok (.invokestatic 207, 3) := by decide +kernel
theorem dX8_spread_24 : decode cX8_spread 24 = .ok (.ifCond .eq 20, 3) := by decide +kernel
theorem dX8_spread_27 : decode cX8_spread 27 = .ok (.aload_n 0, 1) := by decide +kernel
theorem dX8_spread_28 : decode cX8_spread 28 = .ok (.iload 6, 2) := by decide +kernel
theorem dX8_spread_30 : decode cX8_spread 30 = .ok (.iload 5, 2) := by decide +kernel
theorem dX8_spread_32 : decode cX8_spread 32 = .ok (.iload_n 3, 1) := by decide +kernel
theorem dX8_spread_33 : decode cX8_spread 33 = .ok (.irem, 1) := by decide +kernel
theorem dX8_spread_34 : decode cX8_spread 34 = .ok (.iload 4, 2) := by decide +kernel
theorem dX8_spread_36 : decode cX8_spread 36 = .ok (.imul, 1) := by decide +kernel
theorem dX8_spread_37 : decode cX8_spread 37 = .ok (.iastore, 1) := by decide +kernel
theorem dX8_spread_38 : decode cX8_spread 38 = .ok (.iload 5, 2) := by decide +kernel
theorem dX8_spread_40 : decode cX8_spread 40 = .ok (.iload_n 3, 1) := by decide +kernel
theorem dX8_spread_41 : decode cX8_spread 41 = .ok (.idiv, 1) := by decide +kernel
theorem dX8_spread_42 : decode cX8_spread 42 = .ok (.istore 5, 2) := by decide +kernel
theorem dX8_spread_44 : decode cX8_spread 44 = .ok (.iinc 6 (-1), 3) := by decide +kernel
theorem dX8_spread_47 : decode cX8_spread 47 = .ok (.goto (-38), 3) := by decide +kernel
theorem dX8_spread_50 : decode cX8_spread 50 = .ok (.return_, 1) := by decide +kernel
set_option maxRecDepth 20000 in
theorem ggX8_placeOf_X8_at : GoodIn wsX8_placeOf wsX8_at := goodIn_r _ [4] (by decide +kernel) (by decide +kernel)
set_option maxRecDepth 20000 in
theorem gX8_placeOf_X8_at : GoodIn wsX8_placeOf (va_wsS RX8 136 yX8_at wsX8_at) := goodIn_app (goodIn_of _ (by decide +kernel)) ggX8_placeOf_X8_at
set_option maxRecDepth 20000 in
theorem ggX8_placeOf_X8_holds : GoodIn wsX8_placeOf wsX8_holds := goodIn_r _ [7] (by decide +kernel) (by decide +kernel)
set_option maxRecDepth 20000 in
theorem gX8_placeOf_X8_holds : GoodIn wsX8_placeOf (va_wsS RX8 207 yX8_holds wsX8_holds) := goodIn_app (goodIn_of _ (by decide +kernel)) ggX8_placeOf_X8_holds
theorem dX8_placeOf_0 : decode cX8_placeOf 0 = .ok (.aload_n 1, 1) := by decide +kernel
theorem dX8_placeOf_1 : decode cX8_placeOf 1 = .ok (.iload_n 0, 1) := by decide +kernel
theorem dX8_placeOf_2 : decode cX8_placeOf 2 = .ok (.invokestatic 136, 3) := by decide +kernel
theorem dX8_placeOf_5 : decode cX8_placeOf 5 = .ok (.istore_n 3, 1) := by decide +kernel
theorem dX8_placeOf_6 : decode cX8_placeOf 6 = .ok (.iconst 0, 1) := by decide +kernel
theorem dX8_placeOf_7 : decode cX8_placeOf 7 = .ok (.istore 4, 2) := by decide +kernel
theorem dX8_placeOf_9 : decode cX8_placeOf 9 = .ok (.iconst 0, 1) := by decide +kernel
theorem dX8_placeOf_10 : decode cX8_placeOf 10 = .ok (.istore 5, 2) := by decide +kernel
theorem dX8_placeOf_12 : decode cX8_placeOf 12 = .ok (.iload 5, 2) := by decide +kernel
theorem dX8_placeOf_14 : decode cX8_placeOf 14 = .ok (.aload_n 1, 1) := by decide +kernel
theorem dX8_placeOf_15 : decode cX8_placeOf 15 = .ok (.arraylength, 1) := by decide +kernel
theorem dX8_placeOf_16 : decode cX8_placeOf 16 = .ok (.if_icmp .ge 55, 3) := by decide +kernel
theorem dX8_placeOf_19 : decode cX8_placeOf 19 = .ok (.aload_n 1, 1) := by decide +kernel
theorem dX8_placeOf_20 : decode cX8_placeOf 20 = .ok (.iload 5, 2) := by decide +kernel
theorem dX8_placeOf_22 : decode cX8_placeOf 22 = .ok (.iaload, 1) := by decide +kernel
theorem dX8_placeOf_23 : decode cX8_placeOf 23 = .ok (.iload_n 3, 1) := by decide +kernel
theorem dX8_placeOf_24 : decode cX8_placeOf 24 = .ok (.if_icmp .lt 17, 3) := by decide +kernel
theorem dX8_placeOf_27 : decode cX8_placeOf 27 = .ok (.aload_n 1, 1) := by decide +kernel
theorem dX8_placeOf_28 : decode cX8_placeOf 28 = .ok (.iload 5, 2) := by decide +kernel
theorem dX8_placeOf_30 : decode cX8_placeOf 30 = .ok (.iaload, 1) := by decide +kernel
theorem dX8_placeOf_31 : decode cX8_placeOf 31 = .ok (.iload_n 3, 1) := by decide +kernel
theorem dX8_placeOf_32 : decode cX8_placeOf 32 = .ok (.if_icmp .ne 13, 3) := by decide +kernel
theorem dX8_placeOf_35 : decode cX8_placeOf 35 = .ok (.iload 5, 2) := by decide +kernel
theorem dX8_placeOf_37 : decode cX8_placeOf 37 = .ok (.iload_n 0, 1) := by decide +kernel
theorem dX8_placeOf_38 : decode cX8_placeOf 38 = .ok (.if_icmp .ge 7, 3) := by decide +kernel
theorem dX8_placeOf_41 : decode cX8_placeOf 41 = .ok (.iconst 1, 1) := by decide +kernel
theorem dX8_placeOf_42 : decode cX8_placeOf 42 = .ok (.goto 4, 3) := by decide +kernel
theorem dX8_placeOf_45 : decode cX8_placeOf 45 = .ok (.iconst 0, 1) := by decide +kernel
theorem dX8_placeOf_46 : decode cX8_placeOf 46 = .ok (.istore 6, 2) := by decide +kernel
theorem dX8_placeOf_48 : decode cX8_placeOf 48 = .ok (.iload 6, 2) := by decide +kernel
theorem dX8_placeOf_50 : decode cX8_placeOf 50 = .ok (.ifCond .eq 15, 3) := by decide +kernel
theorem dX8_placeOf_53 : decode cX8_placeOf 53 = .ok (.iload_n 2, 1) := by decide +kernel
theorem dX8_placeOf_54 : decode cX8_placeOf 54 = .ok (.iload 5, 2) := by decide +kernel
theorem dX8_placeOf_56 : decode cX8_placeOf 56 = .ok (.invokestatic 207, 3) := by decide +kernel
theorem dX8_placeOf_59 : decode cX8_placeOf 59 = .ok (.ifCond .eq 6, 3) := by decide +kernel
theorem dX8_placeOf_62 : decode cX8_placeOf 62 = .ok (.iinc 4 1, 3) := by decide +kernel
theorem dX8_placeOf_65 : decode cX8_placeOf 65 = .ok (.iinc 5 1, 3) := by decide +kernel
theorem dX8_placeOf_68 : decode cX8_placeOf 68 = .ok (.goto (-56), 3) := by decide +kernel
theorem dX8_placeOf_71 : decode cX8_placeOf 71 = .ok (.iload 4, 2) := by decide +kernel
theorem dX8_placeOf_73 : decode cX8_placeOf 73 = .ok (.ireturn, 1) := by decide +kernel
set_option maxRecDepth 20000 in
theorem ggX8_firstBy_X8_holds : GoodIn wsX8_firstBy wsX8_holds := goodIn_r _ [4] (by decide +kernel) (by decide +kernel)
set_option maxRecDepth 20000 in
theorem gX8_firstBy_X8_holds : GoodIn wsX8_firstBy (va_wsS RX8 207 yX8_holds wsX8_holds) := goodIn_app (goodIn_of _ (by decide +kernel)) ggX8_firstBy_X8_holds
set_option maxRecDepth 20000 in
theorem ggX8_firstBy_X8_placeOf : GoodIn wsX8_firstBy wsX8_placeOf := goodIn_r _ [7, 8, 9, 3, 10, 1, 2, 4] (by decide +kernel) (by decide +kernel)
set_option maxRecDepth 20000 in
theorem gX8_firstBy_X8_placeOf : GoodIn wsX8_firstBy (va_wsS RX8 301 yX8_placeOf wsX8_placeOf) := goodIn_app (goodIn_of _ (by decide +kernel)) ggX8_firstBy_X8_placeOf
theorem dX8_firstBy_0 : decode cX8_firstBy 0 = .ok (.iconst 0, 1) := by decide +kernel
theorem dX8_firstBy_1 : decode cX8_firstBy 1 = .ok (.istore_n 3, 1) := by decide +kernel
theorem dX8_firstBy_2 : decode cX8_firstBy 2 = .ok (.iconst 0, 1) := by decide +kernel
theorem dX8_firstBy_3 : decode cX8_firstBy 3 = .ok (.istore 4, 2) := by decide +kernel
theorem dX8_firstBy_5 : decode cX8_firstBy 5 = .ok (.iload 4, 2) := by decide +kernel
theorem dX8_firstBy_7 : decode cX8_firstBy 7 = .ok (.aload_n 0, 1) := by decide +kernel
theorem dX8_firstBy_8 : decode cX8_firstBy 8 = .ok (.arraylength, 1) := by decide +kernel
theorem dX8_firstBy_9 : decode cX8_firstBy 9 = .ok (.if_icmp .ge 36, 3) := by decide +kernel
theorem dX8_firstBy_12 : decode cX8_firstBy 12 = .ok (.iload_n 1, 1) := by decide +kernel
theorem dX8_firstBy_13 : decode cX8_firstBy 13 = .ok (.iload 4, 2) := by decide +kernel
theorem dX8_firstBy_15 : decode cX8_firstBy 15 = .ok (.invokestatic 207, 3) := by decide +kernel
theorem dX8_firstBy_18 : decode cX8_firstBy 18 = .ok (.ifCond .eq 21, 3) := by decide +kernel
theorem dX8_firstBy_21 : decode cX8_firstBy 21 = .ok (.iload 4, 2) := by decide +kernel
theorem dX8_firstBy_23 : decode cX8_firstBy 23 = .ok (.aload_n 0, 1) := by decide +kernel
theorem dX8_firstBy_24 : decode cX8_firstBy 24 = .ok (.iload_n 1, 1) := by decide +kernel
theorem dX8_firstBy_25 : decode cX8_firstBy 25 = .ok (.invokestatic 301, 3) := by decide +kernel
theorem dX8_firstBy_28 : decode cX8_firstBy 28 = .ok (.iload_n 2, 1) := by decide +kernel
theorem dX8_firstBy_29 : decode cX8_firstBy 29 = .ok (.if_icmp .ge 10, 3) := by decide +kernel
theorem dX8_firstBy_32 : decode cX8_firstBy 32 = .ok (.iload_n 3, 1) := by decide +kernel
theorem dX8_firstBy_33 : decode cX8_firstBy 33 = .ok (.iconst 1, 1) := by decide +kernel
theorem dX8_firstBy_34 : decode cX8_firstBy 34 = .ok (.iload 4, 2) := by decide +kernel
theorem dX8_firstBy_36 : decode cX8_firstBy 36 = .ok (.ishl, 1) := by decide +kernel
theorem dX8_firstBy_37 : decode cX8_firstBy 37 = .ok (.ior, 1) := by decide +kernel
theorem dX8_firstBy_38 : decode cX8_firstBy 38 = .ok (.istore_n 3, 1) := by decide +kernel
theorem dX8_firstBy_39 : decode cX8_firstBy 39 = .ok (.iinc 4 1, 3) := by decide +kernel
theorem dX8_firstBy_42 : decode cX8_firstBy 42 = .ok (.goto (-37), 3) := by decide +kernel
theorem dX8_firstBy_45 : decode cX8_firstBy 45 = .ok (.iload_n 3, 1) := by decide +kernel
theorem dX8_firstBy_46 : decode cX8_firstBy 46 = .ok (.ireturn, 1) := by decide +kernel
theorem dX8_lowestTerm_0 : decode cX8_lowestTerm 0 = .ok (.iload_n 0, 1) := by decide +kernel
theorem dX8_lowestTerm_1 : decode cX8_lowestTerm 1 = .ok (.istore_n 3, 1) := by decide +kernel
theorem dX8_lowestTerm_2 : decode cX8_lowestTerm 2 = .ok (.iload_n 1, 1) := by decide +kernel
theorem dX8_lowestTerm_3 : decode cX8_lowestTerm 3 = .ok (.istore 4, 2) := by decide +kernel
theorem dX8_lowestTerm_5 : decode cX8_lowestTerm 5 = .ok (.iconst 0, 1) := by decide +kernel
theorem dX8_lowestTerm_6 : decode cX8_lowestTerm 6 = .ok (.istore 5, 2) := by decide +kernel
theorem dX8_lowestTerm_8 : decode cX8_lowestTerm 8 = .ok (.iload 5, 2) := by decide +kernel
theorem dX8_lowestTerm_10 : decode cX8_lowestTerm 10 = .ok (.bipush 6, 2) := by decide +kernel
theorem dX8_lowestTerm_12 : decode cX8_lowestTerm 12 = .ok (.if_icmp .ge 55, 3) := by decide +kernel
theorem dX8_lowestTerm_15 : decode cX8_lowestTerm 15 = .ok (.iload_n 3, 1) := by decide +kernel
theorem dX8_lowestTerm_16 : decode cX8_lowestTerm 16 = .ok (.iconst 2, 1) := by decide +kernel
theorem dX8_lowestTerm_17 : decode cX8_lowestTerm 17 = .ok (.irem, 1) := by decide +kernel
theorem dX8_lowestTerm_18 : decode cX8_lowestTerm 18 = .ok (.ifCond .ne 20, 3) := by decide +kernel
theorem dX8_lowestTerm_21 : decode cX8_lowestTerm 21 = .ok (.iload 4, 2) := by decide +kernel
theorem dX8_lowestTerm_23 : decode cX8_lowestTerm 23 = .ok (.iconst 2, 1) := by decide +kernel
theorem dX8_lowestTerm_24 : decode cX8_lowestTerm 24 = .ok (.irem, 1) := by decide +kernel
theorem dX8_lowestTerm_25 : decode cX8_lowestTerm 25 = .ok (.ifCond .ne 13, 3) := by decide +kernel
theorem dX8_lowestTerm_28 : decode cX8_lowestTerm 28 = .ok (.iload_n 3, 1) := by decide +kernel
theorem dX8_lowestTerm_29 : decode cX8_lowestTerm 29 = .ok (.iconst 2, 1) := by decide +kernel
theorem dX8_lowestTerm_30 : decode cX8_lowestTerm 30 = .ok (.idiv, 1) := by decide +kernel
theorem dX8_lowestTerm_31 : decode cX8_lowestTerm 31 = .ok (.istore_n 3, 1) := by decide +kernel
theorem dX8_lowestTerm_32 : decode cX8_lowestTerm 32 = .ok (.iload 4, 2) := by decide +kernel
theorem dX8_lowestTerm_34 : decode cX8_lowestTerm 34 = .ok (.iconst 2, 1) := by decide +kernel
theorem dX8_lowestTerm_35 : decode cX8_lowestTerm 35 = .ok (.idiv, 1) := by decide +kernel
theorem dX8_lowestTerm_36 : decode cX8_lowestTerm 36 = .ok (.istore 4, 2) := by decide +kernel
theorem dX8_lowestTerm_38 : decode cX8_lowestTerm 38 = .ok (.iload_n 3, 1) := by decide +kernel
theorem dX8_lowestTerm_39 : decode cX8_lowestTerm 39 = .ok (.iconst 5, 1) := by decide +kernel
theorem dX8_lowestTerm_40 : decode cX8_lowestTerm 40 = .ok (.irem, 1) := by decide +kernel
theorem dX8_lowestTerm_41 : decode cX8_lowestTerm 41 = .ok (.ifCond .ne 20, 3) := by decide +kernel
theorem dX8_lowestTerm_44 : decode cX8_lowestTerm 44 = .ok (.iload 4, 2) := by decide +kernel
theorem dX8_lowestTerm_46 : decode cX8_lowestTerm 46 = .ok (.iconst 5, 1) := by decide +kernel
theorem dX8_lowestTerm_47 : decode cX8_lowestTerm 47 = .ok (.irem, 1) := by decide +kernel
theorem dX8_lowestTerm_48 : decode cX8_lowestTerm 48 = .ok (.ifCond .ne 13, 3) := by decide +kernel
theorem dX8_lowestTerm_51 : decode cX8_lowestTerm 51 = .ok (.iload_n 3, 1) := by decide +kernel
theorem dX8_lowestTerm_52 : decode cX8_lowestTerm 52 = .ok (.iconst 5, 1) := by decide +kernel
theorem dX8_lowestTerm_53 : decode cX8_lowestTerm 53 = .ok (.idiv, 1) := by decide +kernel
theorem dX8_lowestTerm_54 : decode cX8_lowestTerm 54 = .ok (.istore_n 3, 1) := by decide +kernel
theorem dX8_lowestTerm_55 : decode cX8_lowestTerm 55 = .ok (.iload 4, 2) := by decide +kernel
theorem dX8_lowestTerm_57 : decode cX8_lowestTerm 57 = .ok (.iconst 5, 1) := by decide +kernel
theorem dX8_lowestTerm_58 : decode cX8_lowestTerm 58 = .ok (.idiv, 1) := by decide +kernel
theorem dX8_lowestTerm_59 : decode cX8_lowestTerm 59 = .ok (.istore 4, 2) := by decide +kernel
theorem dX8_lowestTerm_61 : decode cX8_lowestTerm 61 = .ok (.iinc 5 1, 3) := by decide +kernel
theorem dX8_lowestTerm_64 : decode cX8_lowestTerm 64 = .ok (.goto (-56), 3) := by decide +kernel
theorem dX8_lowestTerm_67 : decode cX8_lowestTerm 67 = .ok (.iload_n 2, 1) := by decide +kernel
theorem dX8_lowestTerm_68 : decode cX8_lowestTerm 68 = .ok (.ifCond .ne 8, 3) := by decide +kernel
theorem dX8_lowestTerm_71 : decode cX8_lowestTerm 71 = .ok (.iload_n 3, 1) := by decide +kernel
theorem dX8_lowestTerm_72 : decode cX8_lowestTerm 72 = .ok (.i2l, 1) := by decide +kernel
theorem dX8_lowestTerm_73 : decode cX8_lowestTerm 73 = .ok (.goto 6, 3) := by decide +kernel
theorem dX8_lowestTerm_76 : decode cX8_lowestTerm 76 = .ok (.iload 4, 2) := by decide +kernel
theorem dX8_lowestTerm_78 : decode cX8_lowestTerm 78 = .ok (.i2l, 1) := by decide +kernel
theorem dX8_lowestTerm_79 : decode cX8_lowestTerm 79 = .ok (.lreturn, 1) := by decide +kernel
theorem dX9_init_0 : decode cX9_init 0 = .ok (.aload_n 0, 1) := by decide +kernel
theorem dX9_init_1 : decode cX9_init 1 = .ok (.invokespecial 1, 3) := by decide +kernel
theorem dX9_init_4 : decode cX9_init 4 = .ok (.aload_n 0, 1) := by decide +kernel
theorem dX9_init_5 : decode cX9_init 5 = .ok (.bipush 6, 2) := by decide +kernel
theorem dX9_init_7 : decode cX9_init 7 = .ok (.newarray .int, 2) := by decide +kernel
theorem dX9_init_9 : decode cX9_init 9 = .ok (.putfield 7, 3) := by decide +kernel
theorem dX9_init_12 : decode cX9_init 12 = .ok (.aload_n 0, 1) := by decide +kernel
theorem dX9_init_13 : decode cX9_init 13 = .ok (.bipush 6, 2) := by decide +kernel
theorem dX9_init_15 : decode cX9_init 15 = .ok (.newarray .int, 2) := by decide +kernel
theorem dX9_init_17 : decode cX9_init 17 = .ok (.putfield 13, 3) := by decide +kernel
theorem dX9_init_20 : decode cX9_init 20 = .ok (.aload_n 0, 1) := by decide +kernel
theorem dX9_init_21 : decode cX9_init 21 = .ok (.bipush 6, 2) := by decide +kernel
theorem dX9_init_23 : decode cX9_init 23 = .ok (.newarray .int, 2) := by decide +kernel
theorem dX9_init_25 : decode cX9_init 25 = .ok (.putfield 16, 3) := by decide +kernel
theorem dX9_init_28 : decode cX9_init 28 = .ok (.aload_n 0, 1) := by decide +kernel
theorem dX9_init_29 : decode cX9_init 29 = .ok (.bipush 9, 2) := by decide +kernel
theorem dX9_init_31 : decode cX9_init 31 = .ok (.putfield 19, 3) := by decide +kernel
theorem dX9_init_34 : decode cX9_init 34 = .ok (.aload_n 0, 1) := by decide +kernel
theorem dX9_init_35 : decode cX9_init 35 = .ok (.bipush 6, 2) := by decide +kernel
theorem dX9_init_37 : decode cX9_init 37 = .ok (.newarray .int, 2) := by decide +kernel
theorem dX9_init_39 : decode cX9_init 39 = .ok (.putfield 23, 3) := by decide +kernel
theorem dX9_init_42 : decode cX9_init 42 = .ok (.aload_n 0, 1) := by decide +kernel
theorem dX9_init_43 : decode cX9_init 43 = .ok (.bipush 16, 2) := by decide +kernel
theorem dX9_init_45 : decode cX9_init 45 = .ok (.newarray .int, 2) := by decide +kernel
theorem dX9_init_47 : decode cX9_init 47 = .ok (.putfield 26, 3) := by decide +kernel
theorem dX9_init_50 : decode cX9_init 50 = .ok (.aload_n 0, 1) := by decide +kernel
theorem dX9_init_51 : decode cX9_init 51 = .ok (.bipush 60, 2) := by decide +kernel
theorem dX9_init_53 : decode cX9_init 53 = .ok (.newarray .int, 2) := by decide +kernel
theorem dX9_init_55 : decode cX9_init 55 = .ok (.putfield 29, 3) := by decide +kernel
theorem dX9_init_58 : decode cX9_init 58 = .ok (.aload_n 0, 1) := by decide +kernel
theorem dX9_init_59 : decode cX9_init 59 = .ok (.bipush 6, 2) := by decide +kernel
theorem dX9_init_61 : decode cX9_init 61 = .ok (.newarray .int, 2) := by decide +kernel
theorem dX9_init_63 : decode cX9_init 63 = .ok (.putfield 32, 3) := by decide +kernel
theorem dX9_init_66 : decode cX9_init 66 = .ok (.aload_n 0, 1) := by decide +kernel
theorem dX9_init_67 : decode cX9_init 67 = .ok (.bipush 6, 2) := by decide +kernel
theorem dX9_init_69 : decode cX9_init 69 = .ok (.newarray .int, 2) := by decide +kernel
theorem dX9_init_71 : decode cX9_init 71 = .ok (.putfield 35, 3) := by decide +kernel
theorem dX9_init_74 : decode cX9_init 74 = .ok (.aload_n 0, 1) := by decide +kernel
theorem dX9_init_75 : decode cX9_init 75 = .ok (.bipush 6, 2) := by decide +kernel
theorem dX9_init_77 : decode cX9_init 77 = .ok (.newarray .int, 2) := by decide +kernel
theorem dX9_init_79 : decode cX9_init 79 = .ok (.putfield 38, 3) := by decide +kernel
theorem dX9_init_82 : decode cX9_init 82 = .ok (.aload_n 0, 1) := by decide +kernel
theorem dX9_init_83 : decode cX9_init 83 = .ok (.bipush 6, 2) := by decide +kernel
theorem dX9_init_85 : decode cX9_init 85 = .ok (.newarray .int, 2) := by decide +kernel
theorem dX9_init_87 : decode cX9_init 87 = .ok (.putfield 41, 3) := by decide +kernel
theorem dX9_init_90 : decode cX9_init 90 = .ok (.aload_n 0, 1) := by decide +kernel
theorem dX9_init_91 : decode cX9_init 91 = .ok (.bipush 6, 2) := by decide +kernel
theorem dX9_init_93 : decode cX9_init 93 = .ok (.newarray .int, 2) := by decide +kernel
theorem dX9_init_95 : decode cX9_init 95 = .ok (.putfield 44, 3) := by decide +kernel
theorem dX9_init_98 : decode cX9_init 98 = .ok (.aload_n 0, 1) := by decide +kernel
theorem dX9_init_99 : decode cX9_init 99 = .ok (.bipush 6, 2) := by decide +kernel
theorem dX9_init_101 : decode cX9_init 101 = .ok (.newarray .int, 2) := by decide +kernel
theorem dX9_init_103 : decode cX9_init 103 = .ok (.putfield 47, 3) := by decide +kernel
theorem dX9_init_106 : decode cX9_init 106 = .ok (.aload_n 0, 1) := by decide +kernel
theorem dX9_init_107 : decode cX9_init 107 = .ok (.bipush 6, 2) := by decide +kernel
theorem dX9_init_109 : decode cX9_init 109 = .ok (.newarray .int, 2) := by decide +kernel
theorem dX9_init_111 : decode cX9_init 111 = .ok (.putfield 50, 3) := by decide +kernel
theorem dX9_init_114 : decode cX9_init 114 = .ok (.aload_n 0, 1) := by decide +kernel
theorem dX9_init_115 : decode cX9_init 115 = .ok (.sipush 640, 3) := by decide +kernel
theorem dX9_init_118 : decode cX9_init 118 = .ok (.newarray .int, 2) := by decide +kernel
theorem dX9_init_120 : decode cX9_init 120 = .ok (.putfield 53, 3) := by decide +kernel
theorem dX9_init_123 : decode cX9_init 123 = .ok (.aload_n 0, 1) := by decide +kernel
theorem dX9_init_124 : decode cX9_init 124 = .ok (.bipush 6, 2) := by decide +kernel
theorem dX9_init_126 : decode cX9_init 126 = .ok (.newarray .int, 2) := by decide +kernel
theorem dX9_init_128 : decode cX9_init 128 = .ok (.putfield 56, 3) := by decide +kernel
theorem dX9_init_131 : decode cX9_init 131 = .ok (.aload_n 0, 1) := by decide +kernel
theorem dX9_init_132 : decode cX9_init 132 = .ok (.bipush 6, 2) := by decide +kernel
theorem dX9_init_134 : decode cX9_init 134 = .ok (.newarray .int, 2) := by decide +kernel
theorem dX9_init_136 : decode cX9_init 136 = .ok (.putfield 59, 3) := by decide +kernel
theorem dX9_init_139 : decode cX9_init 139 = .ok (.aload_n 0, 1) := by decide +kernel
theorem dX9_init_140 : decode cX9_init 140 = .ok (.bipush 100, 2) := by decide +kernel
theorem dX9_init_142 : decode cX9_init 142 = .ok (.newarray .int, 2) := by decide +kernel
theorem dX9_init_144 : decode cX9_init 144 = .ok (.putfield 62, 3) := by decide +kernel
theorem dX9_init_147 : decode cX9_init 147 = .ok (.aload_n 0, 1) := by decide +kernel
theorem dX9_init_148 : decode cX9_init 148 = .ok (.iconst 2, 1) := by decide +kernel
theorem dX9_init_149 : decode cX9_init 149 = .ok (.newarray .boolean, 2) := by decide +kernel
theorem dX9_init_151 : decode cX9_init 151 = .ok (.putfield 65, 3) := by decide +kernel
theorem dX9_init_154 : decode cX9_init 154 = .ok (.aload_n 0, 1) := by decide +kernel
theorem dX9_init_155 : decode cX9_init 155 = .ok (.iconst 0, 1) := by decide +kernel
theorem dX9_init_156 : decode cX9_init 156 = .ok (.putfield 69, 3) := by decide +kernel
theorem dX9_init_159 : decode cX9_init 159 = .ok (.return_, 1) := by decide +kernel
theorem dX9_in_0 : decode cX9_in 0 = .ok (.iload_n 0, 1) := by decide +kernel
theorem dX9_in_1 : decode cX9_in 1 = .ok (.iload_n 1, 1) := by decide +kernel
theorem dX9_in_2 : decode cX9_in 2 = .ok (.if_icmp .lt 12, 3) := by decide +kernel
theorem dX9_in_5 : decode cX9_in 5 = .ok (.iload_n 0, 1) := by decide +kernel
theorem dX9_in_6 : decode cX9_in 6 = .ok (.iload_n 2, 1) := by decide +kernel
theorem dX9_in_7 : decode cX9_in 7 = .ok (.if_icmp .gt 7, 3) := by decide +kernel
theorem dX9_in_10 : decode cX9_in 10 = .ok (.iconst 1, 1) := by decide +kernel
theorem dX9_in_11 : decode cX9_in 11 = .ok (.goto 4, 3) := by decide +kernel
theorem dX9_in_14 : decode cX9_in 14 = .ok (.iconst 0, 1) := by decide +kernel
theorem dX9_in_15 : decode cX9_in 15 = .ok (.ireturn, 1) := by decide +kernel
theorem dX9_has_0 : decode cX9_has 0 = .ok (.iload_n 0, 1) := by decide +kernel
theorem dX9_has_1 : decode cX9_has 1 = .ok (.iload_n 1, 1) := by decide +kernel
theorem dX9_has_2 : decode cX9_has 2 = .ok (.ishr, 1) := by decide +kernel
theorem dX9_has_3 : decode cX9_has 3 = .ok (.iconst 1, 1) := by decide +kernel
theorem dX9_has_4 : decode cX9_has 4 = .ok (.iand, 1) := by decide +kernel
theorem dX9_has_5 : decode cX9_has 5 = .ok (.iconst 1, 1) := by decide +kernel
theorem dX9_has_6 : decode cX9_has 6 = .ok (.if_icmp .ne 7, 3) := by decide +kernel
theorem dX9_has_9 : decode cX9_has 9 = .ok (.iconst 1, 1) := by decide +kernel
theorem dX9_has_10 : decode cX9_has 10 = .ok (.goto 4, 3) := by decide +kernel
theorem dX9_has_13 : decode cX9_has 13 = .ok (.iconst 0, 1) := by decide +kernel
theorem dX9_has_14 : decode cX9_has 14 = .ok (.ireturn, 1) := by decide +kernel
theorem dX9_bits_0 : decode cX9_bits 0 = .ok (.iconst 0, 1) := by decide +kernel
theorem dX9_bits_1 : decode cX9_bits 1 = .ok (.istore_n 1, 1) := by decide +kernel
theorem dX9_bits_2 : decode cX9_bits 2 = .ok (.iconst 0, 1) := by decide +kernel
theorem dX9_bits_3 : decode cX9_bits 3 = .ok (.istore_n 2, 1) := by decide +kernel
theorem dX9_bits_4 : decode cX9_bits 4 = .ok (.iload_n 2, 1) := by decide +kernel
theorem dX9_bits_5 : decode cX9_bits 5 = .ok (.bipush 6, 2) := by decide +kernel
theorem dX9_bits_7 : decode cX9_bits 7 = .ok (.if_icmp .ge 17, 3) := by decide +kernel
theorem dX9_bits_10 : decode cX9_bits 10 = .ok (.iload_n 1, 1) := by decide +kernel
theorem dX9_bits_11 : decode cX9_bits 11 = .ok (.iload_n 0, 1) := by decide +kernel
theorem dX9_bits_12 : decode cX9_bits 12 = .ok (.iload_n 2, 1) := by decide +kernel
theorem dX9_bits_13 : decode cX9_bits 13 = .ok (.ishr, 1) := by decide +kernel
theorem dX9_bits_14 : decode cX9_bits 14 = .ok (.iconst 1, 1) := by decide +kernel
theorem dX9_bits_15 : decode cX9_bits 15 = .ok (.iand, 1) := by decide +kernel
theorem dX9_bits_16 : decode cX9_bits 16 = .ok (.iadd, 1) := by decide +kernel
theorem dX9_bits_17 : decode cX9_bits 17 = .ok (.istore_n 1, 1) := by decide +kernel
theorem dX9_bits_18 : decode cX9_bits 18 = .ok (.iinc 2 1, 3) := by decide +kernel
theorem dX9_bits_21 : decode cX9_bits 21 = .ok (.goto (-17), 3) := by decide +kernel
theorem dX9_bits_24 : decode cX9_bits 24 = .ok (.iload_n 1, 1) := by decide +kernel
theorem dX9_bits_25 : decode cX9_bits 25 = .ok (.ireturn, 1) := by decide +kernel
set_option maxRecDepth 20000 in
theorem ggX9_isThere_X9_in : GoodIn wsX9_isThere wsX9_in := goodIn_r _ [5] (by decide +kernel) (by decide +kernel)
set_option maxRecDepth 20000 in
theorem gX9_isThere_X9_in : GoodIn wsX9_isThere (va_wsS RX9 72 yX9_in wsX9_in) := goodIn_app (goodIn_of _ (by decide +kernel)) ggX9_isThere_X9_in
set_option maxRecDepth 20000 in
theorem ggX9_isThere_X9_has : GoodIn wsX9_isThere wsX9_has := goodIn_r _ [8] (by decide +kernel) (by decide +kernel)
set_option maxRecDepth 20000 in
theorem gX9_isThere_X9_has : GoodIn wsX9_isThere (va_wsS RX9 76 yX9_has wsX9_has) := goodIn_app (goodIn_of _ (by decide +kernel)) ggX9_isThere_X9_has
theorem dX9_isThere_0 : decode cX9_isThere 0 = .ok (.iload_n 1, 1) := by decide +kernel
theorem dX9_isThere_1 : decode cX9_isThere 1 = .ok (.iconst 0, 1) := by decide +kernel
theorem dX9_isThere_2 : decode cX9_isThere 2 = .ok (.iconst 5, 1) := by decide +kernel
theorem dX9_isThere_3 : decode cX9_isThere 3 = .ok (.invokestatic 72, 3) := by decide +kernel
theorem dX9_isThere_6 : decode cX9_isThere 6 = .ok (.ifCond .eq 18, 3) := by decide +kernel
theorem dX9_isThere_9 : decode cX9_isThere 9 = .ok (.aload_n 0, 1) := by decide +kernel
theorem dX9_isThere_10 : decode cX9_isThere 10 = .ok (.getfield 69, 3) := by decide +kernel
theorem dX9_isThere_13 : decode cX9_isThere 13 = .ok (.iload_n 1, 1) := by decide +kernel
theorem dX9_isThere_14 : decode cX9_isThere 14 = .ok (.invokestatic 76, 3) := by decide +kernel
theorem dX9_isThere_17 : decode cX9_isThere 17 = .ok (.ifCond .eq 7, 3) := by decide +kernel
theorem dX9_isThere_20 : decode cX9_isThere 20 = .ok (.iconst 1, 1) := by decide +kernel
theorem dX9_isThere_21 : decode cX9_isThere 21 = .ok (.goto 4, 3) := by decide +kernel
theorem dX9_isThere_24 : decode cX9_isThere 24 = .ok (.iconst 0, 1) := by decide +kernel
theorem dX9_isThere_25 : decode cX9_isThere 25 = .ok (.ireturn, 1) := by decide +kernel
set_option maxRecDepth 20000 in
theorem ggX9_guest_X9_in : GoodIn wsX9_guest wsX9_in := goodIn_r _ [8] (by decide +kernel) (by decide +kernel)
set_option maxRecDepth 20000 in
theorem gX9_guest_X9_in : GoodIn wsX9_guest (va_wsS RX9 72 yX9_in wsX9_in) := goodIn_app (goodIn_of _ (by decide +kernel)) ggX9_guest_X9_in
set_option maxRecDepth 20000 in
theorem ggX9_guest_X9_bits : GoodIn wsX9_guest wsX9_bits := goodIn_r _ [11] (by decide +kernel) (by decide +kernel)
set_option maxRecDepth 20000 in
theorem gX9_guest_X9_bits : GoodIn wsX9_guest (va_wsS RX9 80 yX9_bits wsX9_bits) := goodIn_app (goodIn_of _ (by decide +kernel)) ggX9_guest_X9_bits
theorem dX9_guest_0 : decode cX9_guest 0 = .ok (.iload_n 1, 1) := by decide +kernel
theorem dX9_guest_1 : decode cX9_guest 1 = .ok (.iconst 0, 1) := by decide +kernel
theorem dX9_guest_2 : decode cX9_guest 2 = .ok (.iconst 5, 1) := by decide +kernel
theorem dX9_guest_3 : decode cX9_guest 3 = .ok (.invokestatic 72, 3) := by decide +kernel
theorem dX9_guest_6 : decode cX9_guest 6 = .ok (.ifCond .ne 5, 3) := by decide +kernel
theorem dX9_guest_9 : decode cX9_guest 9 = .ok (.iconst (-1), 1) := by decide +kernel
theorem dX9_guest_10 : decode cX9_guest 10 = .ok (.ireturn, 1) := by decide +kernel
theorem dX9_guest_11 : decode cX9_guest 11 = .ok (.iload_n 2, 1) := by decide +kernel
theorem dX9_guest_12 : decode cX9_guest 12 = .ok (.iconst 0, 1) := by decide +kernel
theorem dX9_guest_13 : decode cX9_guest 13 = .ok (.bipush 20, 2) := by decide +kernel
theorem dX9_guest_15 : decode cX9_guest 15 = .ok (.invokestatic 72, 3) := by decide +kernel
theorem dX9_guest_18 : decode cX9_guest 18 = .ok (.ifCond .eq 23, 3) := by decide +kernel
theorem dX9_guest_21 : decode cX9_guest 21 = .ok (.iload_n 3, 1) := by decide +kernel
theorem dX9_guest_22 : decode cX9_guest 22 = .ok (.iconst 0, 1) := by decide +kernel
theorem dX9_guest_23 : decode cX9_guest 23 = .ok (.bipush 9, 2) := by decide +kernel
theorem dX9_guest_25 : decode cX9_guest 25 = .ok (.invokestatic 72, 3) := by decide +kernel
theorem dX9_guest_28 : decode cX9_guest 28 = .ok (.ifCond .eq 13, 3) := by decide +kernel
theorem dX9_guest_31 : decode cX9_guest 31 = .ok (.iload 4, 2) := by decide +kernel
theorem dX9_guest_33 : decode cX9_guest 33 = .ok (.iconst 0, 1) := by decide +kernel
theorem dX9_guest_34 : decode cX9_guest 34 = .ok (.iconst 2, 1) := by decide +kernel
theorem dX9_guest_35 : decode cX9_guest 35 = .ok (.invokestatic 72, 3) := by decide +kernel
theorem dX9_guest_38 : decode cX9_guest 38 = .ok (.ifCond .ne 6, 3) := by decide +kernel
theorem dX9_guest_41 : decode cX9_guest 41 = .ok (.bipush (-2), 2) := by decide +kernel
theorem dX9_guest_43 : decode cX9_guest 43 = .ok (.ireturn, 1) := by decide +kernel
theorem dX9_guest_44 : decode cX9_guest 44 = .ok (.aload_n 0, 1) := by decide +kernel
theorem dX9_guest_45 : decode cX9_guest 45 = .ok (.dup, 1) := by decide +kernel
theorem dX9_guest_46 : decode cX9_guest 46 = .ok (.getfield 69, 3) := by decide +kernel
theorem dX9_guest_49 : decode cX9_guest 49 = .ok (.iconst 1, 1) := by decide +kernel
theorem dX9_guest_50 : decode cX9_guest 50 = .ok (.iload_n 1, 1) := by decide +kernel
theorem dX9_guest_51 : decode cX9_guest 51 = .ok (.ishl, 1) := by decide +kernel
theorem dX9_guest_52 : decode cX9_guest 52 = .ok (.ior, 1) := by decide +kernel
theorem dX9_guest_53 : decode cX9_guest 53 = .ok (.putfield 69, 3) := by decide +kernel
theorem dX9_guest_56 : decode cX9_guest 56 = .ok (.aload_n 0, 1) := by decide +kernel
theorem dX9_guest_57 : decode cX9_guest 57 = .ok (.getfield 7, 3) := by decide +kernel
theorem dX9_guest_60 : decode cX9_guest 60 = .ok (.iload_n 1, 1) := by decide +kernel
theorem dX9_guest_61 : decode cX9_guest 61 = .ok (.iload_n 2, 1) := by decide +kernel
theorem dX9_guest_62 : decode cX9_guest 62 = .ok (.iastore, 1) := by decide +kernel
theorem dX9_guest_63 : decode cX9_guest 63 = .ok (.aload_n 0, 1) := by decide +kernel
theorem dX9_guest_64 : decode cX9_guest 64 = .ok (.getfield 13, 3) := by decide +kernel
theorem dX9_guest_67 : decode cX9_guest 67 = .ok (.iload_n 1, 1) := by decide +kernel
theorem dX9_guest_68 : decode cX9_guest 68 = .ok (.iload_n 3, 1) := by decide +kernel
theorem dX9_guest_69 : decode cX9_guest 69 = .ok (.iastore, 1) := by decide +kernel
theorem dX9_guest_70 : decode cX9_guest 70 = .ok (.aload_n 0, 1) := by decide +kernel
theorem dX9_guest_71 : decode cX9_guest 71 = .ok (.getfield 16, 3) := by decide +kernel
theorem dX9_guest_74 : decode cX9_guest 74 = .ok (.iload_n 1, 1) := by decide +kernel
theorem dX9_guest_75 : decode cX9_guest 75 = .ok (.iload 4, 2) := by decide +kernel
theorem dX9_guest_77 : decode cX9_guest 77 = .ok (.iastore, 1) := by decide +kernel
theorem dX9_guest_78 : decode cX9_guest 78 = .ok (.aload_n 0, 1) := by decide +kernel
theorem dX9_guest_79 : decode cX9_guest 79 = .ok (.getfield 69, 3) := by decide +kernel
theorem dX9_guest_82 : decode cX9_guest 82 = .ok (.invokestatic 80, 3) := by decide +kernel
theorem dX9_guest_85 : decode cX9_guest 85 = .ok (.ireturn, 1) := by decide +kernel
set_option maxRecDepth 20000 in
theorem ggX9_leave_X9_isThere : GoodIn wsX9_leave wsX9_isThere := goodIn_r _ [7, 1, 8, 9, 6, 10, 11, 12, 13, 17, 18, 19, 20, 21, 22, 23, 24, 25, 26, 27, 28, 29, 30, 31, 32, 33, 34, 35, 36, 37, 38, 39, 40, 41, 42, 43] (by decide +kernel) (by decide +kernel)
set_option maxRecDepth 20000 in
theorem gX9_leave_X9_isThere : GoodIn wsX9_leave (wsV RX9 84 RX9 yX9_isThere wsX9_isThere) := goodIn_app (goodIn_of _ (by decide +kernel)) ggX9_leave_X9_isThere
set_option maxRecDepth 20000 in
theorem ggX9_leave_X9_bits : GoodIn wsX9_leave wsX9_bits := goodIn_r _ [16] (by decide +kernel) (by decide +kernel)
set_option maxRecDepth 20000 in
theorem gX9_leave_X9_bits : GoodIn wsX9_leave (va_wsS RX9 80 yX9_bits wsX9_bits) := goodIn_app (goodIn_of _ (by decide +kernel)) ggX9_leave_X9_bits
theorem dX9_leave_0 : decode cX9_leave 0 = .ok (.aload_n 0, 1) := by decide +kernel
theorem dX9_leave_1 : decode cX9_leave 1 = .ok (.iload_n 1, 1) := by decide +kernel
theorem dX9_leave_2 : decode cX9_leave 2 = .ok (.invokevirtual 84, 3) := by decide +kernel
theorem dX9_leave_5 : decode cX9_leave 5 = .ok (.ifCond .ne 5, 3) := by decide +kernel
theorem dX9_leave_8 : decode cX9_leave 8 = .ok (.iconst (-1), 1) := by decide +kernel
theorem dX9_leave_9 : decode cX9_leave 9 = .ok (.ireturn, 1) := by decide +kernel
theorem dX9_leave_10 : decode cX9_leave 10 = .ok (.aload_n 0, 1) := by decide +kernel
theorem dX9_leave_11 : decode cX9_leave 11 = .ok (.dup, 1) := by decide +kernel
theorem dX9_leave_12 : decode cX9_leave 12 = .ok (.getfield 69, 3) := by decide +kernel
theorem dX9_leave_15 : decode cX9_leave 15 = .ok (.iconst 1, 1) := by decide +kernel
theorem dX9_leave_16 : decode cX9_leave 16 = .ok (.iload_n 1, 1) := by decide +kernel
theorem dX9_leave_17 : decode cX9_leave 17 = .ok (.ishl, 1) := by decide +kernel
theorem dX9_leave_18 : decode cX9_leave 18 = .ok (.iconst (-1), 1) := by decide +kernel
theorem dX9_leave_19 : decode cX9_leave 19 = .ok (.ixor, 1) := by decide +kernel
theorem dX9_leave_20 : decode cX9_leave 20 = .ok (.iand, 1) := by decide +kernel
theorem dX9_leave_21 : decode cX9_leave 21 = .ok (.putfield 69, 3) := by decide +kernel
theorem dX9_leave_24 : decode cX9_leave 24 = .ok (.aload_n 0, 1) := by decide +kernel
theorem dX9_leave_25 : decode cX9_leave 25 = .ok (.getfield 23, 3) := by decide +kernel
theorem dX9_leave_28 : decode cX9_leave 28 = .ok (.iload_n 1, 1) := by decide +kernel
theorem dX9_leave_29 : decode cX9_leave 29 = .ok (.iconst 0, 1) := by decide +kernel
theorem dX9_leave_30 : decode cX9_leave 30 = .ok (.iastore, 1) := by decide +kernel
theorem dX9_leave_31 : decode cX9_leave 31 = .ok (.iconst 0, 1) := by decide +kernel
theorem dX9_leave_32 : decode cX9_leave 32 = .ok (.istore_n 2, 1) := by decide +kernel
theorem dX9_leave_33 : decode cX9_leave 33 = .ok (.iload_n 2, 1) := by decide +kernel
theorem dX9_leave_34 : decode cX9_leave 34 = .ok (.bipush 6, 2) := by decide +kernel
theorem dX9_leave_36 : decode cX9_leave 36 = .ok (.if_icmp .ge 23, 3) := by decide +kernel
theorem dX9_leave_39 : decode cX9_leave 39 = .ok (.aload_n 0, 1) := by decide +kernel
theorem dX9_leave_40 : decode cX9_leave 40 = .ok (.getfield 23, 3) := by decide +kernel
theorem dX9_leave_43 : decode cX9_leave 43 = .ok (.iload_n 2, 1) := by decide +kernel
theorem dX9_leave_44 : decode cX9_leave 44 = .ok (.dup2, 1) := by decide +kernel
theorem dX9_leave_45 : decode cX9_leave 45 = .ok (.iaload, 1) := by decide +kernel
theorem dX9_leave_46 : decode cX9_leave 46 = .ok (.iconst 1, 1) := by decide +kernel
theorem dX9_leave_47 : decode cX9_leave 47 = .ok (.iload_n 1, 1) := by decide +kernel
theorem dX9_leave_48 : decode cX9_leave 48 = .ok (.ishl, 1) := by decide +kernel
theorem dX9_leave_49 : decode cX9_leave 49 = .ok (.iconst (-1), 1) := by decide +kernel
theorem dX9_leave_50 : decode cX9_leave 50 = .ok (.ixor, 1) := by decide +kernel
theorem dX9_leave_51 : decode cX9_leave 51 = .ok (.iand, 1) := by decide +kernel
theorem dX9_leave_52 : decode cX9_leave 52 = .ok (.iastore, 1) := by decide +kernel
theorem dX9_leave_53 : decode cX9_leave 53 = .ok (.iinc 2 1, 3) := by decide +kernel
theorem dX9_leave_56 : decode cX9_leave 56 = .ok (.goto (-23), 3) := by decide +kernel
theorem dX9_leave_59 : decode cX9_leave 59 = .ok (.aload_n 0, 1) := by decide +kernel
theorem dX9_leave_60 : decode cX9_leave 60 = .ok (.getfield 69, 3) := by decide +kernel
theorem dX9_leave_63 : decode cX9_leave 63 = .ok (.invokestatic 80, 3) := by decide +kernel
theorem dX9_leave_66 : decode cX9_leave 66 = .ok (.ireturn, 1) := by decide +kernel
set_option maxRecDepth 20000 in
theorem ggX9_keen_X9_in : GoodIn wsX9_keen wsX9_in := goodIn_r _ [5] (by decide +kernel) (by decide +kernel)
set_option maxRecDepth 20000 in
theorem gX9_keen_X9_in : GoodIn wsX9_keen (va_wsS RX9 72 yX9_in wsX9_in) := goodIn_app (goodIn_of _ (by decide +kernel)) ggX9_keen_X9_in
theorem dX9_keen_0 : decode cX9_keen 0 = .ok (.iload_n 1, 1) := by decide +kernel
theorem dX9_keen_1 : decode cX9_keen 1 = .ok (.iconst 0, 1) := by decide +kernel
theorem dX9_keen_2 : decode cX9_keen 2 = .ok (.bipush 9, 2) := by decide +kernel
theorem dX9_keen_4 : decode cX9_keen 4 = .ok (.invokestatic 72, 3) := by decide +kernel
theorem dX9_keen_7 : decode cX9_keen 7 = .ok (.ifCond .ne 6, 3) := by decide +kernel
theorem dX9_keen_10 : decode cX9_keen 10 = .ok (.bipush (-2), 2) := by decide +kernel
theorem dX9_keen_12 : decode cX9_keen 12 = .ok (.ireturn, 1) := by decide +kernel
theorem dX9_keen_13 : decode cX9_keen 13 = .ok (.aload_n 0, 1) := by decide +kernel
theorem dX9_keen_14 : decode cX9_keen 14 = .ok (.getfield 19, 3) := by decide +kernel
theorem dX9_keen_17 : decode cX9_keen 17 = .ok (.istore_n 2, 1) := by decide +kernel
theorem dX9_keen_18 : decode cX9_keen 18 = .ok (.aload_n 0, 1) := by decide +kernel
theorem dX9_keen_19 : decode cX9_keen 19 = .ok (.iload_n 1, 1) := by decide +kernel
theorem dX9_keen_20 : decode cX9_keen 20 = .ok (.putfield 19, 3) := by decide +kernel
theorem dX9_keen_23 : decode cX9_keen 23 = .ok (.iload_n 2, 1) := by decide +kernel
theorem dX9_keen_24 : decode cX9_keen 24 = .ok (.ireturn, 1) := by decide +kernel
set_option maxRecDepth 20000 in
theorem ggX9_manyFeuds_X9_bits : GoodIn wsX9_manyFeuds wsX9_bits := goodIn_r _ [5] (by decide +kernel) (by decide +kernel)
set_option maxRecDepth 20000 in
theorem gX9_manyFeuds_X9_bits : GoodIn wsX9_manyFeuds (va_wsS RX9 80 yX9_bits wsX9_bits) := goodIn_app (goodIn_of _ (by decide +kernel)) ggX9_manyFeuds_X9_bits
theorem dX9_manyFeuds_0 : decode cX9_manyFeuds 0 = .ok (.iconst 0, 1) := by decide +kernel
theorem dX9_manyFeuds_1 : decode cX9_manyFeuds 1 = .ok (.istore_n 1, 1) := by decide +kernel
theorem dX9_manyFeuds_2 : decode cX9_manyFeuds 2 = .ok (.iconst 0, 1) := by decide +kernel
theorem dX9_manyFeuds_3 : decode cX9_manyFeuds 3 = .ok (.istore_n 2, 1) := by decide +kernel
theorem dX9_manyFeuds_4 : decode cX9_manyFeuds 4 = .ok (.iload_n 2, 1) := by decide +kernel
theorem dX9_manyFeuds_5 : decode cX9_manyFeuds 5 = .ok (.bipush 6, 2) := by decide +kernel
theorem dX9_manyFeuds_7 : decode cX9_manyFeuds 7 = .ok (.if_icmp .ge 21, 3) := by decide +kernel
theorem dX9_manyFeuds_10 : decode cX9_manyFeuds 10 = .ok (.iload_n 1, 1) := by decide +kernel
theorem dX9_manyFeuds_11 : decode cX9_manyFeuds 11 = .ok (.aload_n 0, 1) := by decide +kernel
theorem dX9_manyFeuds_12 : decode cX9_manyFeuds 12 = .ok (.getfield 23, 3) := by decide +kernel
theorem dX9_manyFeuds_15 : decode cX9_manyFeuds 15 = .ok (.iload_n 2, 1) := by decide +kernel
theorem dX9_manyFeuds_16 : decode cX9_manyFeuds 16 = .ok (.iaload, 1) := by decide +kernel
theorem dX9_manyFeuds_17 : decode cX9_manyFeuds 17 = .ok (.invokestatic 80, 3) := by decide +kernel
theorem dX9_manyFeuds_20 : decode cX9_manyFeuds 20 = .ok (.iadd, 1) := by decide +kernel
theorem dX9_manyFeuds_21 : decode cX9_manyFeuds 21 = .ok (.istore_n 1, 1) := by decide +kernel
theorem dX9_manyFeuds_22 : decode cX9_manyFeuds 22 = .ok (.iinc 2 1, 3) := by decide +kernel
theorem dX9_manyFeuds_25 : decode cX9_manyFeuds 25 = .ok (.goto (-21), 3) := by decide +kernel
theorem dX9_manyFeuds_28 : decode cX9_manyFeuds 28 = .ok (.iload_n 1, 1) := by decide +kernel
theorem dX9_manyFeuds_29 : decode cX9_manyFeuds 29 = .ok (.iconst 2, 1) := by decide +kernel
theorem dX9_manyFeuds_30 : decode cX9_manyFeuds 30 = .ok (.idiv, 1) := by decide +kernel
theorem dX9_manyFeuds_31 : decode cX9_manyFeuds 31 = .ok (.ireturn, 1) := by decide +kernel
set_option maxRecDepth 20000 in
theorem ggX9_feud_X9_isThere : GoodIn wsX9_feud wsX9_isThere := goodIn_r _ [6, 7, 8, 9, 5, 10, 11, 12, 13, 21, 22, 23, 24, 25, 26, 27, 28, 29, 30, 31, 32, 33, 34, 35, 36, 37, 38, 39, 40, 41, 42, 43, 44, 45, 46, 47] (by decide +kernel) (by decide +kernel)
set_option maxRecDepth 20000 in
theorem gX9_feud_X9_isThere : GoodIn wsX9_feud (wsV RX9 84 RX9 yX9_isThere wsX9_isThere) := goodIn_app (goodIn_of _ (by decide +kernel)) ggX9_feud_X9_isThere
set_option maxRecDepth 20000 in
theorem ggX9_feud_X9_manyFeuds : GoodIn wsX9_feud wsX9_manyFeuds := goodIn_r _ [17, 1, 18, 19, 5, 20, 21, 22, 23, 24, 25, 26, 27, 28, 29, 30, 31, 32, 33, 34, 35, 36, 37, 38, 39, 40, 41, 42, 43, 44, 45, 46, 47] (by decide +kernel) (by decide +kernel)
set_option maxRecDepth 20000 in
theorem gX9_feud_X9_manyFeuds : GoodIn wsX9_feud (wsV RX9 88 RX9 yX9_manyFeuds wsX9_manyFeuds) := goodIn_app (goodIn_of _ (by decide +kernel)) ggX9_feud_X9_manyFeuds
theorem dX9_feud_0 : decode cX9_feud 0 = .ok (.aload_n 0, 1) := by decide +kernel
theorem dX9_feud_1 : decode cX9_feud 1 = .ok (.iload_n 1, 1) := by decide +kernel
theorem dX9_feud_2 : decode cX9_feud 2 = .ok (.invokevirtual 84, 3) := by decide +kernel
theorem dX9_feud_5 : decode cX9_feud 5 = .ok (.ifCond .eq 16, 3) := by decide +kernel
theorem dX9_feud_8 : decode cX9_feud 8 = .ok (.aload_n 0, 1) := by decide +kernel
theorem dX9_feud_9 : decode cX9_feud 9 = .ok (.iload_n 2, 1) := by decide +kernel
theorem dX9_feud_10 : decode cX9_feud 10 = .ok (.invokevirtual 84, 3) := by decide +kernel
theorem dX9_feud_13 : decode cX9_feud 13 = .ok (.ifCond .eq 8, 3) := by decide +kernel
theorem dX9_feud_16 : decode cX9_feud 16 = .ok (.iload_n 1, 1) := by decide +kernel
theorem dX9_feud_17 : decode cX9_feud 17 = .ok (.iload_n 2, 1) := by decide +kernel
theorem dX9_feud_18 : decode cX9_feud 18 = .ok (.if_icmp .ne 5, 3) := by decide +kernel
theorem dX9_feud_21 : decode cX9_feud 21 = .ok (.iconst (-1), 1) := by decide +kernel
theorem dX9_feud_22 : decode cX9_feud 22 = .ok (.ireturn, 1) := by decide +kernel
theorem dX9_feud_23 : decode cX9_feud 23 = .ok (.aload_n 0, 1) := by decide +kernel
theorem dX9_feud_24 : decode cX9_feud 24 = .ok (.getfield 23, 3) := by decide +kernel
theorem dX9_feud_27 : decode cX9_feud 27 = .ok (.iload_n 1, 1) := by decide +kernel
theorem dX9_feud_28 : decode cX9_feud 28 = .ok (.iload_n 3, 1) := by decide +kernel
theorem dX9_feud_29 : decode cX9_feud 29 = .ok (.ifCond .eq 16, 3) := by decide +kernel
theorem dX9_feud_32 : decode cX9_feud 32 = .ok (.aload_n 0, 1) := by decide +kernel
theorem dX9_feud_33 : decode cX9_feud 33 = .ok (.getfield 23, 3) := by decide +kernel
theorem dX9_feud_36 : decode cX9_feud 36 = .ok (.iload_n 1, 1) := by decide +kernel
theorem dX9_feud_37 : decode cX9_feud 37 = .ok (.iaload, 1) := by decide +kernel
theorem dX9_feud_38 : decode cX9_feud 38 = .ok (.iconst 1, 1) := by decide +kernel
theorem dX9_feud_39 : decode cX9_feud 39 = .ok (.iload_n 2, 1) := by decide +kernel
theorem dX9_feud_40 : decode cX9_feud 40 = .ok (.ishl, 1) := by decide +kernel
theorem dX9_feud_41 : decode cX9_feud 41 = .ok (.ior, 1) := by decide +kernel
theorem dX9_feud_42 : decode cX9_feud 42 = .ok (.goto 15, 3) := by decide +kernel
theorem dX9_feud_45 : decode cX9_feud 45 = .ok (.aload_n 0, 1) := by decide +kernel
theorem dX9_feud_46 : decode cX9_feud 46 = .ok (.getfield 23, 3) := by decide +kernel
theorem dX9_feud_49 : decode cX9_feud 49 = .ok (.iload_n 1, 1) := by decide +kernel
theorem dX9_feud_50 : decode cX9_feud 50 = .ok (.iaload, 1) := by decide +kernel
theorem dX9_feud_51 : decode cX9_feud 51 = .ok (.iconst 1, 1) := by decide +kernel
theorem dX9_feud_52 : decode cX9_feud 52 = .ok (.iload_n 2, 1) := by decide +kernel
theorem dX9_feud_53 : decode cX9_feud 53 = .ok (.ishl, 1) := by decide +kernel
theorem dX9_feud_54 : decode cX9_feud 54 = .ok (.iconst (-1), 1) := by decide +kernel
theorem dX9_feud_55 : decode cX9_feud 55 = .ok (.ixor, 1) := by decide +kernel
theorem dX9_feud_56 : decode cX9_feud 56 = .ok (.iand, 1) := by decide +kernel
theorem dX9_feud_57 : decode cX9_feud 57 = .ok (.iastore, 1) := by decide +kernel
theorem dX9_feud_58 : decode cX9_feud 58 = .ok (.aload_n 0, 1) := by decide +kernel
theorem dX9_feud_59 : decode cX9_feud 59 = .ok (.getfield 23, 3) := by decide +kernel
theorem dX9_feud_62 : decode cX9_feud 62 = .ok (.iload_n 2, 1) := by decide +kernel
theorem dX9_feud_63 : decode cX9_feud 63 = .ok (.iload_n 3, 1) := by decide +kernel
theorem dX9_feud_64 : decode cX9_feud 64 = .ok (.ifCond .eq 16, 3) := by decide +kernel
theorem dX9_feud_67 : decode cX9_feud 67 = .ok (.aload_n 0, 1) := by decide +kernel
theorem dX9_feud_68 : decode cX9_feud 68 = .ok (.getfield 23, 3) := by decide +kernel
theorem dX9_feud_71 : decode cX9_feud 71 = .ok (.iload_n 2, 1) := by decide +kernel
theorem dX9_feud_72 : decode cX9_feud 72 = .ok (.iaload, 1) := by decide +kernel
theorem dX9_feud_73 : decode cX9_feud 73 = .ok (.iconst 1, 1) := by decide +kernel
theorem dX9_feud_74 : decode cX9_feud 74 = .ok (.iload_n 1, 1) := by decide +kernel
theorem dX9_feud_75 : decode cX9_feud 75 = .ok (.ishl, 1) := by decide +kernel
theorem dX9_feud_76 : decode cX9_feud 76 = .ok (.ior, 1) := by decide +kernel
theorem dX9_feud_77 : decode cX9_feud 77 = .ok (.goto 15, 3) := by decide +kernel
theorem dX9_feud_80 : decode cX9_feud 80 = .ok (.aload_n 0, 1) := by decide +kernel
theorem dX9_feud_81 : decode cX9_feud 81 = .ok (.getfield 23, 3) := by decide +kernel
theorem dX9_feud_84 : decode cX9_feud 84 = .ok (.iload_n 2, 1) := by decide +kernel
theorem dX9_feud_85 : decode cX9_feud 85 = .ok (.iaload, 1) := by decide +kernel
theorem dX9_feud_86 : decode cX9_feud 86 = .ok (.iconst 1, 1) := by decide +kernel
theorem dX9_feud_87 : decode cX9_feud 87 = .ok (.iload_n 1, 1) := by decide +kernel
theorem dX9_feud_88 : decode cX9_feud 88 = .ok (.ishl, 1) := by decide +kernel
theorem dX9_feud_89 : decode cX9_feud 89 = .ok (.iconst (-1), 1) := by decide +kernel
theorem dX9_feud_90 : decode cX9_feud 90 = .ok (.ixor, 1) := by decide +kernel
theorem dX9_feud_91 : decode cX9_feud 91 = .ok (.iand, 1) := by decide +kernel
theorem dX9_feud_92 : decode cX9_feud 92 = .ok (.iastore, 1) := by decide +kernel
theorem dX9_feud_93 : decode cX9_feud 93 = .ok (.aload_n 0, 1) := by decide +kernel
theorem dX9_feud_94 : decode cX9_feud 94 = .ok (.invokevirtual 88, 3) := by decide +kernel
theorem dX9_feud_97 : decode cX9_feud 97 = .ok (.ireturn, 1) := by decide +kernel
set_option maxRecDepth 20000 in
theorem ggX9_say_X9_in : GoodIn wsX9_say wsX9_in := goodIn_r _ [6] (by decide +kernel) (by decide +kernel)
set_option maxRecDepth 20000 in
theorem gX9_say_X9_in : GoodIn wsX9_say (va_wsS RX9 72 yX9_in wsX9_in) := goodIn_app (goodIn_of _ (by decide +kernel)) ggX9_say_X9_in
theorem dX9_say_0 : decode cX9_say 0 = .ok (.iload_n 1, 1) := by decide +kernel
theorem dX9_say_1 : decode cX9_say 1 = .ok (.bipush 33, 2) := by decide +kernel
theorem dX9_say_3 : decode cX9_say 3 = .ok (.bipush 126, 2) := by decide +kernel
theorem dX9_say_5 : decode cX9_say 5 = .ok (.invokestatic 72, 3) := by decide +kernel
theorem dX9_say_8 : decode cX9_say 8 = .ok (.ifCond .ne 6, 3) := by decide +kernel
theorem dX9_say_11 : decode cX9_say 11 = .ok (.bipush (-2), 2) := by decide +kernel
theorem dX9_say_13 : decode cX9_say 13 = .ok (.ireturn, 1) := by decide +kernel
theorem dX9_say_14 : decode cX9_say 14 = .ok (.aload_n 0, 1) := by decide +kernel
theorem dX9_say_15 : decode cX9_say 15 = .ok (.getfield 92, 3) := by decide +kernel
theorem dX9_say_18 : decode cX9_say 18 = .ok (.bipush 60, 2) := by decide +kernel
theorem dX9_say_20 : decode cX9_say 20 = .ok (.if_icmp .ne 6, 3) := by decide +kernel
theorem dX9_say_23 : decode cX9_say 23 = .ok (.bipush (-4), 2) := by decide +kernel
theorem dX9_say_25 : decode cX9_say 25 = .ok (.ireturn, 1) := by decide +kernel
theorem dX9_say_26 : decode cX9_say 26 = .ok (.aload_n 0, 1) := by decide +kernel
theorem dX9_say_27 : decode cX9_say 27 = .ok (.getfield 29, 3) := by decide +kernel
theorem dX9_say_30 : decode cX9_say 30 = .ok (.aload_n 0, 1) := by decide +kernel
theorem dX9_say_31 : decode cX9_say 31 = .ok (.getfield 92, 3) := by decide +kernel
theorem dX9_say_34 : decode cX9_say 34 = .ok (.iload_n 1, 1) := by decide +kernel
theorem dX9_say_35 : decode cX9_say 35 = .ok (.iastore, 1) := by decide +kernel
theorem dX9_say_36 : decode cX9_say 36 = .ok (.aload_n 0, 1) := by decide +kernel
theorem dX9_say_37 : decode cX9_say 37 = .ok (.dup, 1) := by decide +kernel
theorem dX9_say_38 : decode cX9_say 38 = .ok (.getfield 92, 3) := by decide +kernel
theorem dX9_say_41 : decode cX9_say 41 = .ok (.iconst 1, 1) := by decide +kernel
theorem dX9_say_42 : decode cX9_say 42 = .ok (.iadd, 1) := by decide +kernel
theorem dX9_say_43 : decode cX9_say 43 = .ok (.putfield 92, 3) := by decide +kernel
theorem dX9_say_46 : decode cX9_say 46 = .ok (.aload_n 0, 1) := by decide +kernel
theorem dX9_say_47 : decode cX9_say 47 = .ok (.getfield 92, 3) := by decide +kernel
theorem dX9_say_50 : decode cX9_say 50 = .ok (.ireturn, 1) := by decide +kernel
theorem dX9_wipe_0 : decode cX9_wipe 0 = .ok (.aload_n 0, 1) := by decide +kernel
theorem dX9_wipe_1 : decode cX9_wipe 1 = .ok (.getfield 92, 3) := by decide +kernel
theorem dX9_wipe_4 : decode cX9_wipe 4 = .ok (.istore_n 1, 1) := by decide +kernel
theorem dX9_wipe_5 : decode cX9_wipe 5 = .ok (.aload_n 0, 1) := by decide +kernel
theorem dX9_wipe_6 : decode cX9_wipe 6 = .ok (.iconst 0, 1) := by decide +kernel
theorem dX9_wipe_7 : decode cX9_wipe 7 = .ok (.putfield 92, 3) := by decide +kernel
theorem dX9_wipe_10 : decode cX9_wipe 10 = .ok (.iload_n 1, 1) := by decide +kernel
theorem dX9_wipe_11 : decode cX9_wipe 11 = .ok (.ireturn, 1) := by decide +kernel
set_option maxRecDepth 20000 in
theorem ggX9_faultOf_X9_in : GoodIn wsX9_faultOf wsX9_in := goodIn_r _ [6] (by decide +kernel) (by decide +kernel)
set_option maxRecDepth 20000 in
theorem gX9_faultOf_X9_in : GoodIn wsX9_faultOf (va_wsS RX9 72 yX9_in wsX9_in) := goodIn_app (goodIn_of _ (by decide +kernel)) ggX9_faultOf_X9_in
theorem dX9_faultOf_0 : decode cX9_faultOf 0 = .ok (.iconst 0, 1) := by decide +kernel
theorem dX9_faultOf_1 : decode cX9_faultOf 1 = .ok (.istore_n 1, 1) := by decide +kernel
theorem dX9_faultOf_2 : decode cX9_faultOf 2 = .ok (.iconst 0, 1) := by decide +kernel
theorem dX9_faultOf_3 : decode cX9_faultOf 3 = .ok (.istore_n 2, 1) := by decide +kernel
theorem dX9_faultOf_4 : decode cX9_faultOf 4 = .ok (.iload_n 2, 1) := by decide +kernel
theorem dX9_faultOf_5 : decode cX9_faultOf 5 = .ok (.aload_n 0, 1) := by decide +kernel
theorem dX9_faultOf_6 : decode cX9_faultOf 6 = .ok (.getfield 92, 3) := by decide +kernel
theorem dX9_faultOf_9 : decode cX9_faultOf 9 = .ok (.if_icmp .ge 138, 3) := by decide +kernel
theorem dX9_faultOf_12 : decode cX9_faultOf 12 = .ok (.aload_n 0, 1) := by decide +kernel
theorem dX9_faultOf_13 : decode cX9_faultOf 13 = .ok (.getfield 29, 3) := by decide +kernel
theorem dX9_faultOf_16 : decode cX9_faultOf 16 = .ok (.iload_n 2, 1) := by decide +kernel
theorem dX9_faultOf_17 : decode cX9_faultOf 17 = .ok (.iaload, 1) := by decide +kernel
theorem dX9_faultOf_18 : decode cX9_faultOf 18 = .ok (.istore_n 3, 1) := by decide +kernel
theorem dX9_faultOf_19 : decode cX9_faultOf 19 = .ok (.iload_n 3, 1) := by decide +kernel
theorem dX9_faultOf_20 : decode cX9_faultOf 20 = .ok (.bipush 97, 2) := by decide +kernel
theorem dX9_faultOf_22 : decode cX9_faultOf 22 = .ok (.bipush 99, 2) := by decide +kernel
theorem dX9_faultOf_24 : decode cX9_faultOf 24 = .ok (.invokestatic 72, 3) := by decide +kernel
theorem dX9_faultOf_27 : decode cX9_faultOf 27 = .ok (.istore 4, 2) := by decide +kernel
theorem dX9_faultOf_29 : decode cX9_faultOf 29 = .ok (.iload_n 3, 1) := by decide +kernel
theorem dX9_faultOf_30 : decode cX9_faultOf 30 = .ok (.bipush 65, 2) := by decide +kernel
theorem dX9_faultOf_32 : decode cX9_faultOf 32 = .ok (.bipush 70, 2) := by decide +kernel
theorem dX9_faultOf_34 : decode cX9_faultOf 34 = .ok (.invokestatic 72, 3) := by decide +kernel
theorem dX9_faultOf_37 : decode cX9_faultOf 37 = .ok (.istore 5, 2) := by decide +kernel
theorem dX9_faultOf_39 : decode cX9_faultOf 39 = .ok (.iload_n 1, 1) := by decide +kernel
theorem dX9_faultOf_40 : decode cX9_faultOf 40 = .ok (.ifCond .ne 27, 3) := by decide +kernel
theorem dX9_faultOf_43 : decode cX9_faultOf 43 = .ok (.iload 4, 2) := by decide +kernel
theorem dX9_faultOf_45 : decode cX9_faultOf 45 = .ok (.ifCond .ne 14, 3) := by decide +kernel
theorem dX9_faultOf_48 : decode cX9_faultOf 48 = .ok (.iload 5, 2) := by decide +kernel
theorem dX9_faultOf_50 : decode cX9_faultOf 50 = .ok (.ifCond .ne 9, 3) := by decide +kernel
theorem dX9_faultOf_53 : decode cX9_faultOf 53 = .ok (.iload_n 3, 1) := by decide +kernel
theorem dX9_faultOf_54 : decode cX9_faultOf 54 = .ok (.bipush 46, 2) := by decide +kernel
theorem dX9_faultOf_56 : decode cX9_faultOf 56 = .ok (.if_icmp .ne 7, 3) := by decide +kernel
theorem dX9_faultOf_59 : decode cX9_faultOf 59 = .ok (.iconst 1, 1) := by decide +kernel
theorem dX9_faultOf_60 : decode cX9_faultOf 60 = .ok (.goto 44, 3) := by decide +kernel
theorem dX9_faultOf_63 : decode cX9_faultOf 63 = .ok (.iconst 0, 1) := by decide +kernel
theorem dX9_faultOf_64 : decode cX9_faultOf 64 = .ok (.goto 40, 3) := by decide +kernel
theorem dX9_faultOf_67 : decode cX9_faultOf 67 = .ok (.iload_n 1, 1) := by decide +kernel
theorem dX9_faultOf_68 : decode cX9_faultOf 68 = .ok (.iconst 1, 1) := by decide +kernel
theorem dX9_faultOf_69 : decode cX9_faultOf 69 = .ok (.if_icmp .ne 14, 3) := by decide +kernel
theorem dX9_faultOf_72 : decode cX9_faultOf 72 = .ok (.iload_n 3, 1) := by decide +kernel
theorem dX9_faultOf_73 : decode cX9_faultOf 73 = .ok (.bipush 49, 2) := by decide +kernel
theorem dX9_faultOf_75 : decode cX9_faultOf 75 = .ok (.bipush 57, 2) := by decide +kernel
theorem dX9_faultOf_77 : decode cX9_faultOf 77 = .ok (.invokestatic 72, 3) := by decide +kernel
theorem dX9_faultOf_80 : decode cX9_faultOf 80 = .ok (.goto 24, 3) := by decide +kernel
theorem dX9_faultOf_83 : decode cX9_faultOf 83 = .ok (.iload 4, 2) := by decide +kernel
theorem dX9_faultOf_85 : decode cX9_faultOf 85 = .ok (.ifCond .ne 14, 3) := by decide +kernel
theorem dX9_faultOf_88 : decode cX9_faultOf 88 = .ok (.iload_n 3, 1) := by decide +kernel
theorem dX9_faultOf_89 : decode cX9_faultOf 89 = .ok (.bipush 48, 2) := by decide +kernel
theorem dX9_faultOf_91 : decode cX9_faultOf 91 = .ok (.bipush 57, 2) := by decide +kernel
theorem dX9_faultOf_93 : decode cX9_faultOf 93 = .ok (.invokestatic 72, 3) := by decide +kernel
theorem dX9_faultOf_96 : decode cX9_faultOf 96 = .ok (.ifCond .eq 7, 3) := by decide +kernel
theorem dX9_faultOf_99 : decode cX9_faultOf 99 = .ok (.iconst 1, 1) := by decide +kernel
theorem dX9_faultOf_100 : decode cX9_faultOf 100 = .ok (.goto 4, 3) := by decide +kernel
theorem dX9_faultOf_103 : decode cX9_faultOf 103 = .ok (.iconst 0, 1) := by decide +kernel
theorem dX9_faultOf_104 : decode cX9_faultOf 104 = .ok (.istore 6, 2) := by decide +kernel
theorem dX9_faultOf_106 : decode cX9_faultOf 106 = .ok (.iload 6, 2) := by decide +kernel
theorem dX9_faultOf_108 : decode cX9_faultOf 108 = .ok (.ifCond .ne 5, 3) := by decide +kernel
theorem dX9_faultOf_111 : decode cX9_faultOf 111 = .ok (.iload_n 2, 1) := by decide +kernel
theorem dX9_faultOf_112 : decode cX9_faultOf 112 = .ok (.ireturn, 1) := by decide +kernel
theorem dX9_faultOf_113 : decode cX9_faultOf 113 = .ok (.iload_n 1, 1) := by decide +kernel
theorem dX9_faultOf_114 : decode cX9_faultOf 114 = .ok (.ifCond .eq 7, 3) := by decide +kernel
theorem dX9_faultOf_117 : decode cX9_faultOf 117 = .ok (.iconst 0, 1) := by decide +kernel
theorem dX9_faultOf_118 : decode cX9_faultOf 118 = .ok (.goto 22, 3) := by decide +kernel
theorem dX9_faultOf_121 : decode cX9_faultOf 121 = .ok (.iload 4, 2) := by decide +kernel
theorem dX9_faultOf_123 : decode cX9_faultOf 123 = .ok (.ifCond .eq 7, 3) := by decide +kernel
theorem dX9_faultOf_126 : decode cX9_faultOf 126 = .ok (.iconst 1, 1) := by decide +kernel
theorem dX9_faultOf_127 : decode cX9_faultOf 127 = .ok (.goto 13, 3) := by decide +kernel
theorem dX9_faultOf_130 : decode cX9_faultOf 130 = .ok (.iload 5, 2) := by decide +kernel
theorem dX9_faultOf_132 : decode cX9_faultOf 132 = .ok (.ifCond .eq 7, 3) := by decide +kernel
theorem dX9_faultOf_135 : decode cX9_faultOf 135 = .ok (.iconst 2, 1) := by decide +kernel
theorem dX9_faultOf_136 : decode cX9_faultOf 136 = .ok (.goto 4, 3) := by decide +kernel
theorem dX9_faultOf_139 : decode cX9_faultOf 139 = .ok (.iconst 0, 1) := by decide +kernel
theorem dX9_faultOf_140 : decode cX9_faultOf 140 = .ok (.istore_n 1, 1) := by decide +kernel
theorem dX9_faultOf_141 : decode cX9_faultOf 141 = .ok (.iinc 2 1, 3) := by decide +kernel
theorem dX9_faultOf_144 : decode cX9_faultOf 144 = .ok (.goto (-140), 3) := by decide +kernel
theorem dX9_faultOf_147 : decode cX9_faultOf 147 = .ok (.iload_n 1, 1) := by decide +kernel
theorem dX9_faultOf_148 : decode cX9_faultOf 148 = .ok (.ifCond .ne 8, 3) := by decide +kernel
theorem dX9_faultOf_151 : decode cX9_faultOf 151 = .ok (.bipush (-6), 2) := by decide +kernel
theorem dX9_faultOf_153 : decode cX9_faultOf 153 = .ok (.goto 7, 3) := by decide +kernel
theorem dX9_faultOf_156 : decode cX9_faultOf 156 = .ok (.aload_n 0, 1) := by decide +kernel
theorem dX9_faultOf_157 : decode cX9_faultOf 157 = .ok (.getfield 92, 3) := by decide +kernel
theorem dX9_faultOf_160 : decode cX9_faultOf 160 = .ok (.ireturn, 1) := by decide +kernel
set_option maxRecDepth 20000 in
theorem ggX9_fault_X9_faultOf : GoodIn wsX9_fault wsX9_faultOf := goodIn_r _ [5, 6, 7, 8, 9, 4, 10, 11, 12, 13, 14, 15, 16, 17, 18, 19, 20, 21, 22, 23, 24, 25, 26, 27, 28, 29, 30, 31, 32, 33, 34, 35, 36, 37] (by decide +kernel) (by decide +kernel)
set_option maxRecDepth 20000 in
theorem gX9_fault_X9_faultOf : GoodIn wsX9_fault (wsV RX9 95 RX9 yX9_faultOf wsX9_faultOf) := goodIn_app (goodIn_of _ (by decide +kernel)) ggX9_fault_X9_faultOf
theorem dX9_fault_0 : decode cX9_fault 0 = .ok (.aload_n 0, 1) := by decide +kernel
theorem dX9_fault_1 : decode cX9_fault 1 = .ok (.invokevirtual 95, 3) := by decide +kernel
theorem dX9_fault_4 : decode cX9_fault 4 = .ok (.ireturn, 1) := by decide +kernel
theorem dX9_asNow_0 : decode cX9_asNow 0 = .ok (.iconst 0, 1) := by decide +kernel
theorem dX9_asNow_1 : decode cX9_asNow 1 = .ok (.istore_n 1, 1) := by decide +kernel
theorem dX9_asNow_2 : decode cX9_asNow 2 = .ok (.iload_n 1, 1) := by decide +kernel
theorem dX9_asNow_3 : decode cX9_asNow 3 = .ok (.bipush 6, 2) := by decide +kernel
theorem dX9_asNow_5 : decode cX9_asNow 5 = .ok (.if_icmp .ge 59, 3) := by decide +kernel
theorem dX9_asNow_8 : decode cX9_asNow 8 = .ok (.aload_n 0, 1) := by decide +kernel
theorem dX9_asNow_9 : decode cX9_asNow 9 = .ok (.getfield 32, 3) := by decide +kernel
theorem dX9_asNow_12 : decode cX9_asNow 12 = .ok (.iload_n 1, 1) := by decide +kernel
theorem dX9_asNow_13 : decode cX9_asNow 13 = .ok (.aload_n 0, 1) := by decide +kernel
theorem dX9_asNow_14 : decode cX9_asNow 14 = .ok (.getfield 7, 3) := by decide +kernel
theorem dX9_asNow_17 : decode cX9_asNow 17 = .ok (.iload_n 1, 1) := by decide +kernel
theorem dX9_asNow_18 : decode cX9_asNow 18 = .ok (.iaload, 1) := by decide +kernel
theorem dX9_asNow_19 : decode cX9_asNow 19 = .ok (.iastore, 1) := by decide +kernel
theorem dX9_asNow_20 : decode cX9_asNow 20 = .ok (.aload_n 0, 1) := by decide +kernel
theorem dX9_asNow_21 : decode cX9_asNow 21 = .ok (.getfield 35, 3) := by decide +kernel
theorem dX9_asNow_24 : decode cX9_asNow 24 = .ok (.iload_n 1, 1) := by decide +kernel
theorem dX9_asNow_25 : decode cX9_asNow 25 = .ok (.aload_n 0, 1) := by decide +kernel
theorem dX9_asNow_26 : decode cX9_asNow 26 = .ok (.getfield 13, 3) := by decide +kernel
theorem dX9_asNow_29 : decode cX9_asNow 29 = .ok (.iload_n 1, 1) := by decide +kernel
theorem dX9_asNow_30 : decode cX9_asNow 30 = .ok (.iaload, 1) := by decide +kernel
theorem dX9_asNow_31 : decode cX9_asNow 31 = .ok (.iastore, 1) := by decide +kernel
theorem dX9_asNow_32 : decode cX9_asNow 32 = .ok (.aload_n 0, 1) := by decide +kernel
theorem dX9_asNow_33 : decode cX9_asNow 33 = .ok (.getfield 38, 3) := by decide +kernel
theorem dX9_asNow_36 : decode cX9_asNow 36 = .ok (.iload_n 1, 1) := by decide +kernel
theorem dX9_asNow_37 : decode cX9_asNow 37 = .ok (.aload_n 0, 1) := by decide +kernel
theorem dX9_asNow_38 : decode cX9_asNow 38 = .ok (.getfield 16, 3) := by decide +kernel
theorem dX9_asNow_41 : decode cX9_asNow 41 = .ok (.iload_n 1, 1) := by decide +kernel
theorem dX9_asNow_42 : decode cX9_asNow 42 = .ok (.iaload, 1) := by decide +kernel
theorem dX9_asNow_43 : decode cX9_asNow 43 = .ok (.iastore, 1) := by decide +kernel
theorem dX9_asNow_44 : decode cX9_asNow 44 = .ok (.aload_n 0, 1) := by decide +kernel
theorem dX9_asNow_45 : decode cX9_asNow 45 = .ok (.getfield 41, 3) := by decide +kernel
theorem dX9_asNow_48 : decode cX9_asNow 48 = .ok (.iload_n 1, 1) := by decide +kernel
theorem dX9_asNow_49 : decode cX9_asNow 49 = .ok (.iconst 0, 1) := by decide +kernel
theorem dX9_asNow_50 : decode cX9_asNow 50 = .ok (.iastore, 1) := by decide +kernel
theorem dX9_asNow_51 : decode cX9_asNow 51 = .ok (.aload_n 0, 1) := by decide +kernel
theorem dX9_asNow_52 : decode cX9_asNow 52 = .ok (.getfield 44, 3) := by decide +kernel
theorem dX9_asNow_55 : decode cX9_asNow 55 = .ok (.iload_n 1, 1) := by decide +kernel
theorem dX9_asNow_56 : decode cX9_asNow 56 = .ok (.iconst 0, 1) := by decide +kernel
theorem dX9_asNow_57 : decode cX9_asNow 57 = .ok (.iastore, 1) := by decide +kernel
theorem dX9_asNow_58 : decode cX9_asNow 58 = .ok (.iinc 1 1, 3) := by decide +kernel
theorem dX9_asNow_61 : decode cX9_asNow 61 = .ok (.goto (-59), 3) := by decide +kernel
theorem dX9_asNow_64 : decode cX9_asNow 64 = .ok (.return_, 1) := by decide +kernel
theorem dX9_counts_0 : decode cX9_counts 0 = .ok (.aload_n 0, 1) := by decide +kernel
theorem dX9_counts_1 : decode cX9_counts 1 = .ok (.getfield 35, 3) := by decide +kernel
theorem dX9_counts_4 : decode cX9_counts 4 = .ok (.iload_n 1, 1) := by decide +kernel
theorem dX9_counts_5 : decode cX9_counts 5 = .ok (.iaload, 1) := by decide +kernel
theorem dX9_counts_6 : decode cX9_counts 6 = .ok (.aload_n 0, 1) := by decide +kernel
theorem dX9_counts_7 : decode cX9_counts 7 = .ok (.getfield 32, 3) := by decide +kernel
theorem dX9_counts_10 : decode cX9_counts 10 = .ok (.iload_n 1, 1) := by decide +kernel
theorem dX9_counts_11 : decode cX9_counts 11 = .ok (.iaload, 1) := by decide +kernel
theorem dX9_counts_12 : decode cX9_counts 12 = .ok (.if_icmp .ge 12, 3) := by decide +kernel
theorem dX9_counts_15 : decode cX9_counts 15 = .ok (.aload_n 0, 1) := by decide +kernel
theorem dX9_counts_16 : decode cX9_counts 16 = .ok (.getfield 35, 3) := by decide +kernel
theorem dX9_counts_19 : decode cX9_counts 19 = .ok (.iload_n 1, 1) := by decide +kernel
theorem dX9_counts_20 : decode cX9_counts 20 = .ok (.iaload, 1) := by decide +kernel
theorem dX9_counts_21 : decode cX9_counts 21 = .ok (.goto 9, 3) := by decide +kernel
theorem dX9_counts_24 : decode cX9_counts 24 = .ok (.aload_n 0, 1) := by decide +kernel
theorem dX9_counts_25 : decode cX9_counts 25 = .ok (.getfield 32, 3) := by decide +kernel
theorem dX9_counts_28 : decode cX9_counts 28 = .ok (.iload_n 1, 1) := by decide +kernel
theorem dX9_counts_29 : decode cX9_counts 29 = .ok (.iaload, 1) := by decide +kernel
theorem dX9_counts_30 : decode cX9_counts 30 = .ok (.ireturn, 1) := by decide +kernel
set_option maxRecDepth 20000 in
theorem ggX9_isIn_X9_has : GoodIn wsX9_isIn wsX9_has := goodIn_r _ [6] (by decide +kernel) (by decide +kernel)
set_option maxRecDepth 20000 in
theorem gX9_isIn_X9_has : GoodIn wsX9_isIn (va_wsS RX9 76 yX9_has wsX9_has) := goodIn_app (goodIn_of _ (by decide +kernel)) ggX9_isIn_X9_has
theorem dX9_isIn_0 : decode cX9_isIn 0 = .ok (.aload_n 0, 1) := by decide +kernel
theorem dX9_isIn_1 : decode cX9_isIn 1 = .ok (.getfield 69, 3) := by decide +kernel
theorem dX9_isIn_4 : decode cX9_isIn 4 = .ok (.iload_n 1, 1) := by decide +kernel
theorem dX9_isIn_5 : decode cX9_isIn 5 = .ok (.invokestatic 76, 3) := by decide +kernel
theorem dX9_isIn_8 : decode cX9_isIn 8 = .ok (.ifCond .eq 17, 3) := by decide +kernel
theorem dX9_isIn_11 : decode cX9_isIn 11 = .ok (.aload_n 0, 1) := by decide +kernel
theorem dX9_isIn_12 : decode cX9_isIn 12 = .ok (.getfield 38, 3) := by decide +kernel
theorem dX9_isIn_15 : decode cX9_isIn 15 = .ok (.iload_n 1, 1) := by decide +kernel
theorem dX9_isIn_16 : decode cX9_isIn 16 = .ok (.iaload, 1) := by decide +kernel
theorem dX9_isIn_17 : decode cX9_isIn 17 = .ok (.iload_n 2, 1) := by decide +kernel
theorem dX9_isIn_18 : decode cX9_isIn 18 = .ok (.if_icmp .ne 7, 3) := by decide +kernel
theorem dX9_isIn_21 : decode cX9_isIn 21 = .ok (.iconst 1, 1) := by decide +kernel
theorem dX9_isIn_22 : decode cX9_isIn 22 = .ok (.goto 4, 3) := by decide +kernel
theorem dX9_isIn_25 : decode cX9_isIn 25 = .ok (.iconst 0, 1) := by decide +kernel
theorem dX9_isIn_26 : decode cX9_isIn 26 = .ok (.ireturn, 1) := by decide +kernel
set_option maxRecDepth 20000 in
theorem ggX9_inHouse_X9_isIn : GoodIn wsX9_inHouse wsX9_isIn := goodIn_r _ [5, 6, 7, 8, 9, 4, 10, 11, 12, 13, 14, 15, 16, 17, 18, 19, 20, 21, 22, 23, 24, 25, 26, 27, 28, 29, 30, 31, 32, 33, 34, 35, 36, 37] (by decide +kernel) (by decide +kernel)
set_option maxRecDepth 20000 in
theorem gX9_inHouse_X9_isIn : GoodIn wsX9_inHouse (wsV RX9 98 RX9 yX9_isIn wsX9_isIn) := goodIn_app (goodIn_of _ (by decide +kernel)) ggX9_inHouse_X9_isIn
theorem dX9_inHouse_0 : decode cX9_inHouse 0 = .ok (.iconst 0, 1) := by decide +kernel
theorem dX9_inHouse_1 : decode cX9_inHouse 1 = .ok (.istore_n 2, 1) := by decide +kernel
theorem dX9_inHouse_2 : decode cX9_inHouse 2 = .ok (.iconst 0, 1) := by decide +kernel
theorem dX9_inHouse_3 : decode cX9_inHouse 3 = .ok (.istore_n 3, 1) := by decide +kernel
theorem dX9_inHouse_4 : decode cX9_inHouse 4 = .ok (.iload_n 3, 1) := by decide +kernel
theorem dX9_inHouse_5 : decode cX9_inHouse 5 = .ok (.bipush 6, 2) := by decide +kernel
theorem dX9_inHouse_7 : decode cX9_inHouse 7 = .ok (.if_icmp .ge 28, 3) := by decide +kernel
theorem dX9_inHouse_10 : decode cX9_inHouse 10 = .ok (.iload_n 2, 1) := by decide +kernel
theorem dX9_inHouse_11 : decode cX9_inHouse 11 = .ok (.aload_n 0, 1) := by decide +kernel
theorem dX9_inHouse_12 : decode cX9_inHouse 12 = .ok (.iload_n 3, 1) := by decide +kernel
theorem dX9_inHouse_13 : decode cX9_inHouse 13 = .ok (.iload_n 1, 1) := by decide +kernel
theorem dX9_inHouse_14 : decode cX9_inHouse 14 = .ok (.invokevirtual 98, 3) := by decide +kernel
theorem dX9_inHouse_17 : decode cX9_inHouse 17 = .ok (.ifCond .eq 9, 3) := by decide +kernel
theorem dX9_inHouse_20 : decode cX9_inHouse 20 = .ok (.iconst 1, 1) := by decide +kernel
theorem dX9_inHouse_21 : decode cX9_inHouse 21 = .ok (.iload_n 3, 1) := by decide +kernel
theorem dX9_inHouse_22 : decode cX9_inHouse 22 = .ok (.ishl, 1) := by decide +kernel
theorem dX9_inHouse_23 : decode cX9_inHouse 23 = .ok (.goto 4, 3) := by decide +kernel
theorem dX9_inHouse_26 : decode cX9_inHouse 26 = .ok (.iconst 0, 1) := by decide +kernel
theorem dX9_inHouse_27 : decode cX9_inHouse 27 = .ok (.ior, 1) := by decide +kernel
theorem dX9_inHouse_28 : decode cX9_inHouse 28 = .ok (.istore_n 2, 1) := by decide +kernel
theorem dX9_inHouse_29 : decode cX9_inHouse 29 = .ok (.iinc 3 1, 3) := by decide +kernel
theorem dX9_inHouse_32 : decode cX9_inHouse 32 = .ok (.goto (-28), 3) := by decide +kernel
theorem dX9_inHouse_35 : decode cX9_inHouse 35 = .ok (.iload_n 2, 1) := by decide +kernel
theorem dX9_inHouse_36 : decode cX9_inHouse 36 = .ok (.ireturn, 1) := by decide +kernel
set_option maxRecDepth 20000 in
theorem ggX9_turn_X9_counts : GoodIn wsX9_turn wsX9_counts := goodIn_r _ [6, 7, 1, 8, 9, 10, 11, 12, 13, 14, 15, 16, 17, 18, 19, 20, 21, 22, 23, 24, 25, 26, 27, 28, 29, 30, 31, 32, 33, 34] (by decide +kernel) (by decide +kernel)
set_option maxRecDepth 20000 in
theorem gX9_turn_X9_counts : GoodIn wsX9_turn (wsV RX9 101 RX9 yX9_counts wsX9_counts) := goodIn_app (goodIn_of _ (by decide +kernel)) ggX9_turn_X9_counts
theorem dX9_turn_0 : decode cX9_turn 0 = .ok (.iload_n 2, 1) := by decide +kernel
theorem dX9_turn_1 : decode cX9_turn 1 = .ok (.ifCond .ne 18, 3) := by decide +kernel
theorem dX9_turn_4 : decode cX9_turn 4 = .ok (.aload_n 0, 1) := by decide +kernel
theorem dX9_turn_5 : decode cX9_turn 5 = .ok (.getfield 32, 3) := by decide +kernel
theorem dX9_turn_8 : decode cX9_turn 8 = .ok (.iload_n 1, 1) := by decide +kernel
theorem dX9_turn_9 : decode cX9_turn 9 = .ok (.iaload, 1) := by decide +kernel
theorem dX9_turn_10 : decode cX9_turn 10 = .ok (.aload_n 0, 1) := by decide +kernel
theorem dX9_turn_11 : decode cX9_turn 11 = .ok (.iload_n 1, 1) := by decide +kernel
theorem dX9_turn_12 : decode cX9_turn 12 = .ok (.invokevirtual 101, 3) := by decide +kernel
theorem dX9_turn_15 : decode cX9_turn 15 = .ok (.isub, 1) := by decide +kernel
theorem dX9_turn_16 : decode cX9_turn 16 = .ok (.goto 21, 3) := by decide +kernel
theorem dX9_turn_19 : decode cX9_turn 19 = .ok (.iload_n 2, 1) := by decide +kernel
theorem dX9_turn_20 : decode cX9_turn 20 = .ok (.iconst 1, 1) := by decide +kernel
theorem dX9_turn_21 : decode cX9_turn 21 = .ok (.if_icmp .ne 7, 3) := by decide +kernel
theorem dX9_turn_24 : decode cX9_turn 24 = .ok (.iconst 0, 1) := by decide +kernel
theorem dX9_turn_25 : decode cX9_turn 25 = .ok (.goto 12, 3) := by decide +kernel
theorem dX9_turn_28 : decode cX9_turn 28 = .ok (.bipush 20, 2) := by decide +kernel
theorem dX9_turn_30 : decode cX9_turn 30 = .ok (.aload_n 0, 1) := by decide +kernel
theorem dX9_turn_31 : decode cX9_turn 31 = .ok (.getfield 32, 3) := by decide +kernel
theorem dX9_turn_34 : decode cX9_turn 34 = .ok (.iload_n 1, 1) := by decide +kernel
theorem dX9_turn_35 : decode cX9_turn 35 = .ok (.iaload, 1) := by decide +kernel
theorem dX9_turn_36 : decode cX9_turn 36 = .ok (.isub, 1) := by decide +kernel
theorem dX9_turn_37 : decode cX9_turn 37 = .ok (.ireturn, 1) := by decide +kernel
set_option maxRecDepth 20000 in
theorem ggX9_isCaught_X9_counts : GoodIn wsX9_isCaught wsX9_counts := goodIn_r _ [7, 8, 1, 9, 10, 11, 12, 13, 14, 15, 16, 17, 18, 19, 20, 21, 22, 23, 24, 25, 26, 27, 28, 29, 30, 31, 32, 33, 34, 35] (by decide +kernel) (by decide +kernel)
set_option maxRecDepth 20000 in
theorem gX9_isCaught_X9_counts : GoodIn wsX9_isCaught (wsV RX9 101 RX9 yX9_counts wsX9_counts) := goodIn_app (goodIn_of _ (by decide +kernel)) ggX9_isCaught_X9_counts
theorem dX9_isCaught_0 : decode cX9_isCaught 0 = .ok (.iload_n 2, 1) := by decide +kernel
theorem dX9_isCaught_1 : decode cX9_isCaught 1 = .ok (.ifCond .ne 28, 3) := by decide +kernel
theorem dX9_isCaught_4 : decode cX9_isCaught 4 = .ok (.aload_n 0, 1) := by decide +kernel
theorem dX9_isCaught_5 : decode cX9_isCaught 5 = .ok (.getfield 32, 3) := by decide +kernel
theorem dX9_isCaught_8 : decode cX9_isCaught 8 = .ok (.iload_n 1, 1) := by decide +kernel
theorem dX9_isCaught_9 : decode cX9_isCaught 9 = .ok (.iaload, 1) := by decide +kernel
theorem dX9_isCaught_10 : decode cX9_isCaught 10 = .ok (.ifCond .le 19, 3) := by decide +kernel
theorem dX9_isCaught_13 : decode cX9_isCaught 13 = .ok (.aload_n 0, 1) := by decide +kernel
theorem dX9_isCaught_14 : decode cX9_isCaught 14 = .ok (.iload_n 1, 1) := by decide +kernel
theorem dX9_isCaught_15 : decode cX9_isCaught 15 = .ok (.invokevirtual 101, 3) := by decide +kernel
theorem dX9_isCaught_18 : decode cX9_isCaught 18 = .ok (.aload_n 0, 1) := by decide +kernel
theorem dX9_isCaught_19 : decode cX9_isCaught 19 = .ok (.getfield 19, 3) := by decide +kernel
theorem dX9_isCaught_22 : decode cX9_isCaught 22 = .ok (.if_icmp .le 7, 3) := by decide +kernel
theorem dX9_isCaught_25 : decode cX9_isCaught 25 = .ok (.iconst 1, 1) := by decide +kernel
theorem dX9_isCaught_26 : decode cX9_isCaught 26 = .ok (.goto 4, 3) := by decide +kernel
theorem dX9_isCaught_29 : decode cX9_isCaught 29 = .ok (.iconst 0, 1) := by decide +kernel
theorem dX9_isCaught_30 : decode cX9_isCaught 30 = .ok (.ireturn, 1) := by decide +kernel
set_option maxRecDepth 20000 in
theorem ggX9_servedBy_X9_isIn : GoodIn wsX9_servedBy wsX9_isIn := goodIn_r _ [6, 7, 8, 9, 10, 5, 11, 26, 27, 28, 29, 30, 31, 32, 33, 34, 35, 36, 37, 38, 39, 40, 41, 42, 43, 44, 45, 46, 47, 48, 49, 50, 51, 52] (by decide +kernel) (by decide +kernel)
set_option maxRecDepth 20000 in
theorem gX9_servedBy_X9_isIn : GoodIn wsX9_servedBy (wsV RX9 98 RX9 yX9_isIn wsX9_isIn) := goodIn_app (goodIn_of _ (by decide +kernel)) ggX9_servedBy_X9_isIn
set_option maxRecDepth 20000 in
theorem ggX9_servedBy_X9_has : GoodIn wsX9_servedBy wsX9_has := goodIn_r _ [11] (by decide +kernel) (by decide +kernel)
set_option maxRecDepth 20000 in
theorem gX9_servedBy_X9_has : GoodIn wsX9_servedBy (va_wsS RX9 76 yX9_has wsX9_has) := goodIn_app (goodIn_of _ (by decide +kernel)) ggX9_servedBy_X9_has
set_option maxRecDepth 20000 in
theorem ggX9_servedBy_X9_isCaught : GoodIn wsX9_servedBy wsX9_isCaught := goodIn_r _ [15, 1, 16, 17, 18, 19, 5, 20, 21, 26, 27, 28, 29, 30, 31, 32, 33, 34, 35, 36, 37, 38, 39, 40, 41, 42, 43, 44, 45, 46, 47, 48, 49, 50, 51, 52] (by decide +kernel) (by decide +kernel)
set_option maxRecDepth 20000 in
theorem gX9_servedBy_X9_isCaught : GoodIn wsX9_servedBy (wsV RX9 104 RX9 yX9_isCaught wsX9_isCaught) := goodIn_app (goodIn_of _ (by decide +kernel)) ggX9_servedBy_X9_isCaught
set_option maxRecDepth 20000 in
theorem ggX9_servedBy_X9_turn : GoodIn wsX9_servedBy wsX9_turn := goodIn_r _ [25, 1, 17, 18, 19, 5, 20, 21, 26, 27, 28, 29, 30, 31, 32, 33, 34, 35, 36, 37, 38, 39, 40, 41, 42, 43, 44, 45, 46, 47, 48, 49, 50, 51, 52] (by decide +kernel) (by decide +kernel)
set_option maxRecDepth 20000 in
theorem gX9_servedBy_X9_turn : GoodIn wsX9_servedBy (wsV RX9 107 RX9 yX9_turn wsX9_turn) := goodIn_app (goodIn_of _ (by decide +kernel)) ggX9_servedBy_X9_turn
theorem dX9_servedBy_0 : decode cX9_servedBy 0 = .ok (.iconst 0, 1) := by decide +kernel
theorem dX9_servedBy_1 : decode cX9_servedBy 1 = .ok (.istore 4, 2) := by decide +kernel
theorem dX9_servedBy_3 : decode cX9_servedBy 3 = .ok (.iconst 0, 1) := by decide +kernel
theorem dX9_servedBy_4 : decode cX9_servedBy 4 = .ok (.istore 5, 2) := by decide +kernel
theorem dX9_servedBy_6 : decode cX9_servedBy 6 = .ok (.iload 5, 2) := by decide +kernel
theorem dX9_servedBy_8 : decode cX9_servedBy 8 = .ok (.iload_n 2, 1) := by decide +kernel
theorem dX9_servedBy_9 : decode cX9_servedBy 9 = .ok (.if_icmp .ge 130, 3) := by decide +kernel
theorem dX9_servedBy_12 : decode cX9_servedBy 12 = .ok (.bipush (-6), 2) := by decide +kernel
theorem dX9_servedBy_14 : decode cX9_servedBy 14 = .ok (.istore 6, 2) := by decide +kernel
theorem dX9_servedBy_16 : decode cX9_servedBy 16 = .ok (.iconst 0, 1) := by decide +kernel
theorem dX9_servedBy_17 : decode cX9_servedBy 17 = .ok (.istore 7, 2) := by decide +kernel
theorem dX9_servedBy_19 : decode cX9_servedBy 19 = .ok (.iload 7, 2) := by decide +kernel
theorem dX9_servedBy_21 : decode cX9_servedBy 21 = .ok (.bipush 6, 2) := by decide +kernel
theorem dX9_servedBy_23 : decode cX9_servedBy 23 = .ok (.if_icmp .ge 92, 3) := by decide +kernel
theorem dX9_servedBy_26 : decode cX9_servedBy 26 = .ok (.aload_n 0, 1) := by decide +kernel
theorem dX9_servedBy_27 : decode cX9_servedBy 27 = .ok (.iload 7, 2) := by decide +kernel
theorem dX9_servedBy_29 : decode cX9_servedBy 29 = .ok (.iload_n 1, 1) := by decide +kernel
theorem dX9_servedBy_30 : decode cX9_servedBy 30 = .ok (.invokevirtual 98, 3) := by decide +kernel
theorem dX9_servedBy_33 : decode cX9_servedBy 33 = .ok (.ifCond .eq 37, 3) := by decide +kernel
theorem dX9_servedBy_36 : decode cX9_servedBy 36 = .ok (.aload_n 0, 1) := by decide +kernel
theorem dX9_servedBy_37 : decode cX9_servedBy 37 = .ok (.getfield 32, 3) := by decide +kernel
theorem dX9_servedBy_40 : decode cX9_servedBy 40 = .ok (.iload 7, 2) := by decide +kernel
theorem dX9_servedBy_42 : decode cX9_servedBy 42 = .ok (.iaload, 1) := by decide +kernel
theorem dX9_servedBy_43 : decode cX9_servedBy 43 = .ok (.ifCond .le 27, 3) := by decide +kernel
theorem dX9_servedBy_46 : decode cX9_servedBy 46 = .ok (.iload 4, 2) := by decide +kernel
theorem dX9_servedBy_48 : decode cX9_servedBy 48 = .ok (.iload 7, 2) := by decide +kernel
theorem dX9_servedBy_50 : decode cX9_servedBy 50 = .ok (.invokestatic 76, 3) := by decide +kernel
theorem dX9_servedBy_53 : decode cX9_servedBy 53 = .ok (.ifCond .ne 17, 3) := by decide +kernel
theorem dX9_servedBy_56 : decode cX9_servedBy 56 = .ok (.aload_n 0, 1) := by decide +kernel
theorem dX9_servedBy_57 : decode cX9_servedBy 57 = .ok (.iload 7, 2) := by decide +kernel
theorem dX9_servedBy_59 : decode cX9_servedBy 59 = .ok (.iload_n 3, 1) := by decide +kernel
theorem dX9_servedBy_60 : decode cX9_servedBy 60 = .ok (.invokevirtual 104, 3) := by decide +kernel
theorem dX9_servedBy_63 : decode cX9_servedBy 63 = .ok (.ifCond .ne 7, 3) := by decide +kernel
theorem dX9_servedBy_66 : decode cX9_servedBy 66 = .ok (.iconst 1, 1) := by decide +kernel
theorem dX9_servedBy_67 : decode cX9_servedBy 67 = .ok (.goto 4, 3) := by decide +kernel
theorem dX9_servedBy_70 : decode cX9_servedBy 70 = .ok (.iconst 0, 1) := by decide +kernel
theorem dX9_servedBy_71 : decode cX9_servedBy 71 = .ok (.istore 8, 2) := by decide +kernel
theorem dX9_servedBy_73 : decode cX9_servedBy 73 = .ok (.iload 8, 2) := by decide +kernel
theorem dX9_servedBy_75 : decode cX9_servedBy 75 = .ok (.ifCond .eq 30, 3) := by decide +kernel
theorem dX9_servedBy_78 : decode cX9_servedBy 78 = .ok (.iload 6, 2) := by decide +kernel
theorem dX9_servedBy_80 : decode cX9_servedBy 80 = .ok (.ifCond .lt 20, 3) := by decide +kernel
theorem dX9_servedBy_83 : decode cX9_servedBy 83 = .ok (.aload_n 0, 1) := by decide +kernel
theorem dX9_servedBy_84 : decode cX9_servedBy 84 = .ok (.iload 7, 2) := by decide +kernel
theorem dX9_servedBy_86 : decode cX9_servedBy 86 = .ok (.iload_n 3, 1) := by decide +kernel
theorem dX9_servedBy_87 : decode cX9_servedBy 87 = .ok (.invokevirtual 107, 3) := by decide +kernel
theorem dX9_servedBy_90 : decode cX9_servedBy 90 = .ok (.aload_n 0, 1) := by decide +kernel
theorem dX9_servedBy_91 : decode cX9_servedBy 91 = .ok (.iload 6, 2) := by decide +kernel
theorem dX9_servedBy_93 : decode cX9_servedBy 93 = .ok (.iload_n 3, 1) := by decide +kernel
theorem dX9_servedBy_94 : decode cX9_servedBy 94 = .ok (.invokevirtual 107, 3) := by decide +kernel
theorem dX9_servedBy_97 : decode cX9_servedBy 97 = .ok (.if_icmp .ge 8, 3) := by decide +kernel
theorem dX9_servedBy_100 : decode cX9_servedBy 100 = .ok (.iload 7, 2) := by decide +kernel
theorem dX9_servedBy_102 : decode cX9_servedBy 102 = .ok (.goto 5, 3) := by decide +kernel
theorem dX9_servedBy_105 : decode cX9_servedBy 105 = .ok (.iload 6, 2) := by decide +kernel
theorem dX9_servedBy_107 : decode cX9_servedBy 107 = .ok (.istore 6, 2) := by decide +kernel
theorem dX9_servedBy_109 : decode cX9_servedBy 109 = .ok (.iinc 7 1, 3) := by decide +kernel
theorem dX9_servedBy_112 : decode cX9_servedBy 112 = .ok (.goto (-93), 3) := by decide +kernel
theorem dX9_servedBy_115 : decode cX9_servedBy 115 = .ok (.iload 4, 2) := by decide +kernel
theorem dX9_servedBy_117 : decode cX9_servedBy 117 = .ok (.iload 6, 2) := by decide +kernel
theorem dX9_servedBy_119 : decode cX9_servedBy 119 = .ok (.ifCond .ge 7, 3) := by decide +kernel
theorem dX9_servedBy_122 : decode cX9_servedBy 122 = .ok (.iconst 0, 1) := by decide +kernel
theorem dX9_servedBy_123 : decode cX9_servedBy 123 = .ok (.goto 7, 3) := by decide +kernel
theorem dX9_servedBy_126 : decode cX9_servedBy 126 = .ok (.iconst 1, 1) := by decide +kernel
theorem dX9_servedBy_127 : decode cX9_servedBy 127 = .ok (.iload 6, 2) := by decide +kernel
theorem dX9_servedBy_129 : decode cX9_servedBy 129 = .ok (.ishl, 1) := by decide +kernel
theorem dX9_servedBy_130 : decode cX9_servedBy 130 = .ok (.ior, 1) := by decide +kernel
theorem dX9_servedBy_131 : decode cX9_servedBy 131 = .ok (.istore 4, 2) := by decide +kernel
theorem dX9_servedBy_133 : decode cX9_servedBy 133 = .ok (.iinc 5 1, 3) := by decide +kernel
theorem dX9_servedBy_136 : decode cX9_servedBy 136 = .ok (.goto (-130), 3) := by decide +kernel
theorem dX9_servedBy_139 : decode cX9_servedBy 139 = .ok (.iload 4, 2) := by decide +kernel
theorem dX9_servedBy_141 : decode cX9_servedBy 141 = .ok (.ireturn, 1) := by decide +kernel
set_option maxRecDepth 20000 in
theorem ggX9_dish_X9_servedBy : GoodIn wsX9_dish wsX9_servedBy := goodIn_r _ [9, 2, 10, 11, 12, 8, 13, 14, 15, 16, 17, 18, 19, 20, 21, 22, 23, 24, 25, 26, 27, 28, 29, 30, 31, 32, 36, 37, 38, 39, 40, 41, 42, 43, 44, 45, 46, 47, 48, 49, 50, 51, 52, 53, 54, 55, 56, 57, 58, 59, 60, 61, 62] (by decide +kernel) (by decide +kernel)
set_option maxRecDepth 20000 in
theorem gX9_dish_X9_servedBy : GoodIn wsX9_dish (wsV RX9 111 RX9 yX9_servedBy wsX9_servedBy) := goodIn_app (goodIn_of _ (by decide +kernel)) ggX9_dish_X9_servedBy
set_option maxRecDepth 20000 in
theorem ggX9_dish_X9_isIn : GoodIn wsX9_dish wsX9_isIn := goodIn_r _ [13, 14, 15, 16, 17, 8, 18, 36, 37, 38, 39, 40, 41, 42, 43, 44, 45, 46, 47, 48, 49, 50, 51, 52, 53, 54, 55, 56, 57, 58, 59, 60, 61, 62] (by decide +kernel) (by decide +kernel)
set_option maxRecDepth 20000 in
theorem gX9_dish_X9_isIn : GoodIn wsX9_dish (wsV RX9 98 RX9 yX9_isIn wsX9_isIn) := goodIn_app (goodIn_of _ (by decide +kernel)) ggX9_dish_X9_isIn
set_option maxRecDepth 20000 in
theorem ggX9_dish_X9_isCaught : GoodIn wsX9_dish wsX9_isCaught := goodIn_r _ [22, 2, 23, 24, 25, 26, 8, 27, 28, 36, 37, 38, 39, 40, 41, 42, 43, 44, 45, 46, 47, 48, 49, 50, 51, 52, 53, 54, 55, 56, 57, 58, 59, 60, 61, 62] (by decide +kernel) (by decide +kernel)
set_option maxRecDepth 20000 in
theorem gX9_dish_X9_isCaught : GoodIn wsX9_dish (wsV RX9 104 RX9 yX9_isCaught wsX9_isCaught) := goodIn_app (goodIn_of _ (by decide +kernel)) ggX9_dish_X9_isCaught
set_option maxRecDepth 20000 in
theorem ggX9_dish_X9_has : GoodIn wsX9_dish wsX9_has := goodIn_r _ [18] (by decide +kernel) (by decide +kernel)
set_option maxRecDepth 20000 in
theorem gX9_dish_X9_has : GoodIn wsX9_dish (va_wsS RX9 76 yX9_has wsX9_has) := goodIn_app (goodIn_of _ (by decide +kernel)) ggX9_dish_X9_has
set_option maxRecDepth 20000 in
theorem ggX9_dish_X9_bits : GoodIn wsX9_dish wsX9_bits := goodIn_r _ [35] (by decide +kernel) (by decide +kernel)
set_option maxRecDepth 20000 in
theorem gX9_dish_X9_bits : GoodIn wsX9_dish (va_wsS RX9 80 yX9_bits wsX9_bits) := goodIn_app (goodIn_of _ (by decide +kernel)) ggX9_dish_X9_bits
theorem dX9_dish_0 : decode cX9_dish 0 = .ok (.aload_n 0, 1) := by decide +kernel
theorem dX9_dish_1 : decode cX9_dish 1 = .ok (.iload_n 1, 1) := by decide +kernel
theorem dX9_dish_2 : decode cX9_dish 2 = .ok (.iload_n 2, 1) := by decide +kernel
theorem dX9_dish_3 : decode cX9_dish 3 = .ok (.iconst 0, 1) := by decide +kernel
theorem dX9_dish_4 : decode cX9_dish 4 = .ok (.invokevirtual 111, 3) := by decide +kernel
theorem dX9_dish_7 : decode cX9_dish 7 = .ok (.istore_n 3, 1) := by decide +kernel
theorem dX9_dish_8 : decode cX9_dish 8 = .ok (.iconst 0, 1) := by decide +kernel
theorem dX9_dish_9 : decode cX9_dish 9 = .ok (.istore 4, 2) := by decide +kernel
theorem dX9_dish_11 : decode cX9_dish 11 = .ok (.iload 4, 2) := by decide +kernel
theorem dX9_dish_13 : decode cX9_dish 13 = .ok (.bipush 6, 2) := by decide +kernel
theorem dX9_dish_15 : decode cX9_dish 15 = .ok (.if_icmp .ge 95, 3) := by decide +kernel
theorem dX9_dish_18 : decode cX9_dish 18 = .ok (.aload_n 0, 1) := by decide +kernel
theorem dX9_dish_19 : decode cX9_dish 19 = .ok (.getfield 44, 3) := by decide +kernel
theorem dX9_dish_22 : decode cX9_dish 22 = .ok (.iload 4, 2) := by decide +kernel
theorem dX9_dish_24 : decode cX9_dish 24 = .ok (.dup2, 1) := by decide +kernel
theorem dX9_dish_25 : decode cX9_dish 25 = .ok (.iaload, 1) := by decide +kernel
theorem dX9_dish_26 : decode cX9_dish 26 = .ok (.aload_n 0, 1) := by decide +kernel
theorem dX9_dish_27 : decode cX9_dish 27 = .ok (.iload 4, 2) := by decide +kernel
theorem dX9_dish_29 : decode cX9_dish 29 = .ok (.iload_n 1, 1) := by decide +kernel
theorem dX9_dish_30 : decode cX9_dish 30 = .ok (.invokevirtual 98, 3) := by decide +kernel
theorem dX9_dish_33 : decode cX9_dish 33 = .ok (.ifCond .eq 17, 3) := by decide +kernel
theorem dX9_dish_36 : decode cX9_dish 36 = .ok (.aload_n 0, 1) := by decide +kernel
theorem dX9_dish_37 : decode cX9_dish 37 = .ok (.iload 4, 2) := by decide +kernel
theorem dX9_dish_39 : decode cX9_dish 39 = .ok (.iconst 0, 1) := by decide +kernel
theorem dX9_dish_40 : decode cX9_dish 40 = .ok (.invokevirtual 104, 3) := by decide +kernel
theorem dX9_dish_43 : decode cX9_dish 43 = .ok (.ifCond .eq 7, 3) := by decide +kernel
theorem dX9_dish_46 : decode cX9_dish 46 = .ok (.iconst 1, 1) := by decide +kernel
theorem dX9_dish_47 : decode cX9_dish 47 = .ok (.goto 4, 3) := by decide +kernel
theorem dX9_dish_50 : decode cX9_dish 50 = .ok (.iconst 0, 1) := by decide +kernel
theorem dX9_dish_51 : decode cX9_dish 51 = .ok (.iadd, 1) := by decide +kernel
theorem dX9_dish_52 : decode cX9_dish 52 = .ok (.iastore, 1) := by decide +kernel
theorem dX9_dish_53 : decode cX9_dish 53 = .ok (.iload_n 3, 1) := by decide +kernel
theorem dX9_dish_54 : decode cX9_dish 54 = .ok (.iload 4, 2) := by decide +kernel
theorem dX9_dish_56 : decode cX9_dish 56 = .ok (.invokestatic 76, 3) := by decide +kernel
theorem dX9_dish_59 : decode cX9_dish 59 = .ok (.ifCond .eq 45, 3) := by decide +kernel
theorem dX9_dish_62 : decode cX9_dish 62 = .ok (.aload_n 0, 1) := by decide +kernel
theorem dX9_dish_63 : decode cX9_dish 63 = .ok (.getfield 32, 3) := by decide +kernel
theorem dX9_dish_66 : decode cX9_dish 66 = .ok (.iload 4, 2) := by decide +kernel
theorem dX9_dish_68 : decode cX9_dish 68 = .ok (.aload_n 0, 1) := by decide +kernel
theorem dX9_dish_69 : decode cX9_dish 69 = .ok (.getfield 32, 3) := by decide +kernel
theorem dX9_dish_72 : decode cX9_dish 72 = .ok (.iload 4, 2) := by decide +kernel
theorem dX9_dish_74 : decode cX9_dish 74 = .ok (.iaload, 1) := by decide +kernel
theorem dX9_dish_75 : decode cX9_dish 75 = .ok (.iconst 2, 1) := by decide +kernel
theorem dX9_dish_76 : decode cX9_dish 76 = .ok (.if_icmp .le 15, 3) := by decide +kernel
theorem dX9_dish_79 : decode cX9_dish 79 = .ok (.aload_n 0, 1) := by decide +kernel
theorem dX9_dish_80 : decode cX9_dish 80 = .ok (.getfield 32, 3) := by decide +kernel
theorem dX9_dish_83 : decode cX9_dish 83 = .ok (.iload 4, 2) := by decide +kernel
theorem dX9_dish_85 : decode cX9_dish 85 = .ok (.iaload, 1) := by decide +kernel
theorem dX9_dish_86 : decode cX9_dish 86 = .ok (.iconst 2, 1) := by decide +kernel
theorem dX9_dish_87 : decode cX9_dish 87 = .ok (.isub, 1) := by decide +kernel
theorem dX9_dish_88 : decode cX9_dish 88 = .ok (.goto 4, 3) := by decide +kernel
theorem dX9_dish_91 : decode cX9_dish 91 = .ok (.iconst 0, 1) := by decide +kernel
theorem dX9_dish_92 : decode cX9_dish 92 = .ok (.iastore, 1) := by decide +kernel
theorem dX9_dish_93 : decode cX9_dish 93 = .ok (.aload_n 0, 1) := by decide +kernel
theorem dX9_dish_94 : decode cX9_dish 94 = .ok (.getfield 41, 3) := by decide +kernel
theorem dX9_dish_97 : decode cX9_dish 97 = .ok (.iload 4, 2) := by decide +kernel
theorem dX9_dish_99 : decode cX9_dish 99 = .ok (.dup2, 1) := by decide +kernel
theorem dX9_dish_100 : decode cX9_dish 100 = .ok (.iaload, 1) := by decide +kernel
theorem dX9_dish_101 : decode cX9_dish 101 = .ok (.iconst 1, 1) := by decide +kernel
theorem dX9_dish_102 : decode cX9_dish 102 = .ok (.iadd, 1) := by decide +kernel
theorem dX9_dish_103 : decode cX9_dish 103 = .ok (.iastore, 1) := by decide +kernel
theorem dX9_dish_104 : decode cX9_dish 104 = .ok (.iinc 4 1, 3) := by decide +kernel
theorem dX9_dish_107 : decode cX9_dish 107 = .ok (.goto (-96), 3) := by decide +kernel
theorem dX9_dish_110 : decode cX9_dish 110 = .ok (.aload_n 0, 1) := by decide +kernel
theorem dX9_dish_111 : decode cX9_dish 111 = .ok (.dup, 1) := by decide +kernel
theorem dX9_dish_112 : decode cX9_dish 112 = .ok (.getfield 115, 3) := by decide +kernel
theorem dX9_dish_115 : decode cX9_dish 115 = .ok (.iload_n 2, 1) := by decide +kernel
theorem dX9_dish_116 : decode cX9_dish 116 = .ok (.iload_n 3, 1) := by decide +kernel
theorem dX9_dish_117 : decode cX9_dish 117 = .ok (.invokestatic 80, 3) := by decide +kernel
theorem dX9_dish_120 : decode cX9_dish 120 = .ok (.isub, 1) := by decide +kernel
theorem dX9_dish_121 : decode cX9_dish 121 = .ok (.iadd, 1) := by decide +kernel
theorem dX9_dish_122 : decode cX9_dish 122 = .ok (.putfield 115, 3) := by decide +kernel
theorem dX9_dish_125 : decode cX9_dish 125 = .ok (.iload_n 3, 1) := by decide +kernel
theorem dX9_dish_126 : decode cX9_dish 126 = .ok (.invokestatic 80, 3) := by decide +kernel
theorem dX9_dish_129 : decode cX9_dish 129 = .ok (.ireturn, 1) := by decide +kernel
theorem dX9_hungrier_0 : decode cX9_hungrier 0 = .ok (.aload_n 0, 1) := by decide +kernel
theorem dX9_hungrier_1 : decode cX9_hungrier 1 = .ok (.getfield 32, 3) := by decide +kernel
theorem dX9_hungrier_4 : decode cX9_hungrier 4 = .ok (.iload_n 1, 1) := by decide +kernel
theorem dX9_hungrier_5 : decode cX9_hungrier 5 = .ok (.dup2, 1) := by decide +kernel
theorem dX9_hungrier_6 : decode cX9_hungrier 6 = .ok (.iaload, 1) := by decide +kernel
theorem dX9_hungrier_7 : decode cX9_hungrier 7 = .ok (.aload_n 0, 1) := by decide +kernel
theorem dX9_hungrier_8 : decode cX9_hungrier 8 = .ok (.getfield 32, 3) := by decide +kernel
theorem dX9_hungrier_11 : decode cX9_hungrier 11 = .ok (.iload_n 1, 1) := by decide +kernel
theorem dX9_hungrier_12 : decode cX9_hungrier 12 = .ok (.iaload, 1) := by decide +kernel
theorem dX9_hungrier_13 : decode cX9_hungrier 13 = .ok (.bipush 20, 2) := by decide +kernel
theorem dX9_hungrier_15 : decode cX9_hungrier 15 = .ok (.if_icmp .ge 7, 3) := by decide +kernel
theorem dX9_hungrier_18 : decode cX9_hungrier 18 = .ok (.iconst 1, 1) := by decide +kernel
theorem dX9_hungrier_19 : decode cX9_hungrier 19 = .ok (.goto 4, 3) := by decide +kernel
theorem dX9_hungrier_22 : decode cX9_hungrier 22 = .ok (.iconst 0, 1) := by decide +kernel
theorem dX9_hungrier_23 : decode cX9_hungrier 23 = .ok (.iadd, 1) := by decide +kernel
theorem dX9_hungrier_24 : decode cX9_hungrier 24 = .ok (.iastore, 1) := by decide +kernel
theorem dX9_hungrier_25 : decode cX9_hungrier 25 = .ok (.return_, 1) := by decide +kernel
set_option maxRecDepth 20000 in
theorem ggX9_hour_X9_has : GoodIn wsX9_hour wsX9_has := goodIn_r _ [5] (by decide +kernel) (by decide +kernel)
set_option maxRecDepth 20000 in
theorem gX9_hour_X9_has : GoodIn wsX9_hour (va_wsS RX9 76 yX9_has wsX9_has) := goodIn_app (goodIn_of _ (by decide +kernel)) ggX9_hour_X9_has
set_option maxRecDepth 20000 in
theorem ggX9_hour_X9_hungrier : GoodIn wsX9_hour wsX9_hungrier := goodIn_r _ [9, 10, 11, 12, 13, 14, 15, 16, 17, 18, 19, 20, 21, 22, 23, 24, 25, 26, 27, 28, 29, 30, 31, 32, 33, 34, 35, 36, 37] (by decide +kernel) (by decide +kernel)
set_option maxRecDepth 20000 in
theorem gX9_hour_X9_hungrier : GoodIn wsX9_hour (wsV RX9 118 RX9 yX9_hungrier wsX9_hungrier) := goodIn_app (goodIn_of _ (by decide +kernel)) ggX9_hour_X9_hungrier
theorem dX9_hour_0 : decode cX9_hour 0 = .ok (.iconst 0, 1) := by decide +kernel
theorem dX9_hour_1 : decode cX9_hour 1 = .ok (.istore_n 1, 1) := by decide +kernel
theorem dX9_hour_2 : decode cX9_hour 2 = .ok (.iload_n 1, 1) := by decide +kernel
theorem dX9_hour_3 : decode cX9_hour 3 = .ok (.bipush 6, 2) := by decide +kernel
theorem dX9_hour_5 : decode cX9_hour 5 = .ok (.if_icmp .ge 25, 3) := by decide +kernel
theorem dX9_hour_8 : decode cX9_hour 8 = .ok (.aload_n 0, 1) := by decide +kernel
theorem dX9_hour_9 : decode cX9_hour 9 = .ok (.getfield 69, 3) := by decide +kernel
theorem dX9_hour_12 : decode cX9_hour 12 = .ok (.iload_n 1, 1) := by decide +kernel
theorem dX9_hour_13 : decode cX9_hour 13 = .ok (.invokestatic 76, 3) := by decide +kernel
theorem dX9_hour_16 : decode cX9_hour 16 = .ok (.ifCond .eq 8, 3) := by decide +kernel
theorem dX9_hour_19 : decode cX9_hour 19 = .ok (.aload_n 0, 1) := by decide +kernel
theorem dX9_hour_20 : decode cX9_hour 20 = .ok (.iload_n 1, 1) := by decide +kernel
theorem dX9_hour_21 : decode cX9_hour 21 = .ok (.invokevirtual 118, 3) := by decide +kernel
theorem dX9_hour_24 : decode cX9_hour 24 = .ok (.iinc 1 1, 3) := by decide +kernel
theorem dX9_hour_27 : decode cX9_hour 27 = .ok (.goto (-25), 3) := by decide +kernel
theorem dX9_hour_30 : decode cX9_hour 30 = .ok (.return_, 1) := by decide +kernel
set_option maxRecDepth 20000 in
theorem ggX9_whyNotGo_X9_isThere : GoodIn wsX9_whyNotGo wsX9_isThere := goodIn_r _ [6, 7, 8, 9, 5, 10, 11, 12, 13, 14, 15, 16, 17, 18, 19, 20, 21, 22, 23, 24, 25, 26, 27, 28, 29, 30, 31, 32, 33, 34, 35, 36, 37, 38, 39, 40] (by decide +kernel) (by decide +kernel)
set_option maxRecDepth 20000 in
theorem gX9_whyNotGo_X9_isThere : GoodIn wsX9_whyNotGo (wsV RX9 84 RX9 yX9_isThere wsX9_isThere) := goodIn_app (goodIn_of _ (by decide +kernel)) ggX9_whyNotGo_X9_isThere
theorem dX9_whyNotGo_0 : decode cX9_whyNotGo 0 = .ok (.aload_n 0, 1) := by decide +kernel
theorem dX9_whyNotGo_1 : decode cX9_whyNotGo 1 = .ok (.iload_n 1, 1) := by decide +kernel
theorem dX9_whyNotGo_2 : decode cX9_whyNotGo 2 = .ok (.invokevirtual 84, 3) := by decide +kernel
theorem dX9_whyNotGo_5 : decode cX9_whyNotGo 5 = .ok (.ifCond .ne 7, 3) := by decide +kernel
theorem dX9_whyNotGo_8 : decode cX9_whyNotGo 8 = .ok (.iconst 1, 1) := by decide +kernel
theorem dX9_whyNotGo_9 : decode cX9_whyNotGo 9 = .ok (.goto 18, 3) := by decide +kernel
theorem dX9_whyNotGo_12 : decode cX9_whyNotGo 12 = .ok (.aload_n 0, 1) := by decide +kernel
theorem dX9_whyNotGo_13 : decode cX9_whyNotGo 13 = .ok (.getfield 38, 3) := by decide +kernel
theorem dX9_whyNotGo_16 : decode cX9_whyNotGo 16 = .ok (.iload_n 1, 1) := by decide +kernel
theorem dX9_whyNotGo_17 : decode cX9_whyNotGo 17 = .ok (.iaload, 1) := by decide +kernel
theorem dX9_whyNotGo_18 : decode cX9_whyNotGo 18 = .ok (.iload_n 2, 1) := by decide +kernel
theorem dX9_whyNotGo_19 : decode cX9_whyNotGo 19 = .ok (.if_icmp .ne 7, 3) := by decide +kernel
theorem dX9_whyNotGo_22 : decode cX9_whyNotGo 22 = .ok (.iconst 2, 1) := by decide +kernel
theorem dX9_whyNotGo_23 : decode cX9_whyNotGo 23 = .ok (.goto 4, 3) := by decide +kernel
theorem dX9_whyNotGo_26 : decode cX9_whyNotGo 26 = .ok (.iconst 0, 1) := by decide +kernel
theorem dX9_whyNotGo_27 : decode cX9_whyNotGo 27 = .ok (.ireturn, 1) := by decide +kernel
set_option maxRecDepth 20000 in
theorem ggX9_go_X9_hungrier : GoodIn wsX9_go wsX9_hungrier := goodIn_r _ [6, 7, 8, 9, 10, 11, 12, 13, 14, 15, 16, 17, 18, 19, 20, 21, 22, 23, 24, 25, 26, 27, 28, 29, 30, 31, 32, 33, 34] (by decide +kernel) (by decide +kernel)
set_option maxRecDepth 20000 in
theorem gX9_go_X9_hungrier : GoodIn wsX9_go (wsV RX9 118 RX9 yX9_hungrier wsX9_hungrier) := goodIn_app (goodIn_of _ (by decide +kernel)) ggX9_go_X9_hungrier
theorem dX9_go_0 : decode cX9_go 0 = .ok (.aload_n 0, 1) := by decide +kernel
theorem dX9_go_1 : decode cX9_go 1 = .ok (.getfield 38, 3) := by decide +kernel
theorem dX9_go_4 : decode cX9_go 4 = .ok (.iload_n 1, 1) := by decide +kernel
theorem dX9_go_5 : decode cX9_go 5 = .ok (.iload_n 2, 1) := by decide +kernel
theorem dX9_go_6 : decode cX9_go 6 = .ok (.iastore, 1) := by decide +kernel
theorem dX9_go_7 : decode cX9_go 7 = .ok (.aload_n 0, 1) := by decide +kernel
theorem dX9_go_8 : decode cX9_go 8 = .ok (.iload_n 1, 1) := by decide +kernel
theorem dX9_go_9 : decode cX9_go 9 = .ok (.invokevirtual 118, 3) := by decide +kernel
theorem dX9_go_12 : decode cX9_go 12 = .ok (.return_, 1) := by decide +kernel
set_option maxRecDepth 20000 in
theorem ggX9_goNight_X9_asNow : GoodIn wsX9_goNight wsX9_asNow := goodIn_r _ [12, 13, 14, 7, 15, 16, 17, 18, 19, 79, 80, 81, 82, 83, 84, 85, 86, 87, 88, 89, 90, 91, 92, 93, 94, 95, 96, 97, 98, 99, 100, 101, 102, 103, 104, 105] (by decide +kernel) (by decide +kernel)
set_option maxRecDepth 20000 in
theorem gX9_goNight_X9_asNow : GoodIn wsX9_goNight (wsV RX9 122 RX9 yX9_asNow wsX9_asNow) := goodIn_app (goodIn_of _ (by decide +kernel)) ggX9_goNight_X9_asNow
set_option maxRecDepth 20000 in
theorem ggX9_goNight_X9_hour : GoodIn wsX9_goNight wsX9_hour := goodIn_r _ [23, 24, 25, 26, 11, 27, 28, 29, 30, 31, 13, 79, 80, 81, 82, 83, 84, 85, 86, 87, 88, 89, 90, 91, 92, 93, 94, 95, 96, 97, 98, 99, 100, 101, 102, 103, 104, 105] (by decide +kernel) (by decide +kernel)
set_option maxRecDepth 20000 in
theorem gX9_goNight_X9_hour : GoodIn wsX9_goNight (wsV RX9 134 RX9 yX9_hour wsX9_hour) := goodIn_app (goodIn_of _ (by decide +kernel)) ggX9_goNight_X9_hour
set_option maxRecDepth 20000 in
theorem ggX9_goNight_X9_inHouse : GoodIn wsX9_goNight wsX9_inHouse := goodIn_r _ [35, 36, 37, 38, 11, 39, 24, 16, 25, 26, 27, 79, 80, 81, 82, 83, 84, 85, 86, 87, 88, 89, 90, 91, 92, 93, 94, 95, 96, 97, 98, 99, 100, 101, 102, 103, 104, 105] (by decide +kernel) (by decide +kernel)
set_option maxRecDepth 20000 in
theorem gX9_goNight_X9_inHouse : GoodIn wsX9_goNight (wsV RX9 137 RX9 yX9_inHouse wsX9_inHouse) := goodIn_app (goodIn_of _ (by decide +kernel)) ggX9_goNight_X9_inHouse
set_option maxRecDepth 20000 in
theorem ggX9_goNight_X9_dish : GoodIn wsX9_goNight wsX9_dish := goodIn_r _ [43, 19, 13, 18, 2, 44, 45, 46, 11, 47, 36, 37, 38, 39, 24, 16, 25, 26, 27, 48, 49, 50, 51, 52, 53, 54, 55, 56, 7, 57, 58, 59, 60, 61, 62, 63, 79, 80, 81, 82, 83, 84, 85, 86, 87, 88, 89, 90, 91, 92, 93, 94, 95, 96, 97, 98, 99, 100, 101, 102, 103, 104, 105] (by decide +kernel) (by decide +kernel)
set_option maxRecDepth 20000 in
theorem gX9_goNight_X9_dish : GoodIn wsX9_goNight (wsV RX9 140 RX9 yX9_dish wsX9_dish) := goodIn_app (goodIn_of _ (by decide +kernel)) ggX9_goNight_X9_dish
set_option maxRecDepth 20000 in
theorem ggX9_goNight_X9_whyNotGo : GoodIn wsX9_goNight wsX9_whyNotGo := goodIn_r _ [67, 16, 68, 69, 70, 11, 71, 24, 72, 73, 74, 25, 26, 27, 79, 80, 81, 82, 83, 84, 85, 86, 87, 88, 89, 90, 91, 92, 93, 94, 95, 96, 97, 98, 99, 100, 101, 102, 103, 104, 105] (by decide +kernel) (by decide +kernel)
set_option maxRecDepth 20000 in
theorem gX9_goNight_X9_whyNotGo : GoodIn wsX9_goNight (wsV RX9 143 RX9 yX9_whyNotGo wsX9_whyNotGo) := goodIn_app (goodIn_of _ (by decide +kernel)) ggX9_goNight_X9_whyNotGo
set_option maxRecDepth 20000 in
theorem ggX9_goNight_X9_isThere : GoodIn wsX9_goNight wsX9_isThere := goodIn_r _ [71, 24, 72, 73, 11, 74, 25, 26, 27, 79, 80, 81, 82, 83, 84, 85, 86, 87, 88, 89, 90, 91, 92, 93, 94, 95, 96, 97, 98, 99, 100, 101, 102, 103, 104, 105] (by decide +kernel) (by decide +kernel)
set_option maxRecDepth 20000 in
theorem gX9_goNight_X9_isThere : GoodIn wsX9_goNight (wsV RX9 84 RX9 yX9_isThere wsX9_isThere) := goodIn_app (goodIn_of _ (by decide +kernel)) ggX9_goNight_X9_isThere
set_option maxRecDepth 20000 in
theorem ggX9_goNight_X9_go : GoodIn wsX9_goNight wsX9_go := goodIn_r _ [78, 16, 28, 29, 30, 11, 31, 13, 79, 80, 81, 82, 83, 84, 85, 86, 87, 88, 89, 90, 91, 92, 93, 94, 95, 96, 97, 98, 99, 100, 101, 102, 103, 104, 105] (by decide +kernel) (by decide +kernel)
set_option maxRecDepth 20000 in
theorem gX9_goNight_X9_go : GoodIn wsX9_goNight (wsV RX9 146 RX9 yX9_go wsX9_go) := goodIn_app (goodIn_of _ (by decide +kernel)) ggX9_goNight_X9_go
theorem dX9_goNight_0 : decode cX9_goNight 0 = .ok (.aload_n 0, 1) := by decide +kernel
theorem dX9_goNight_1 : decode cX9_goNight 1 = .ok (.invokevirtual 122, 3) := by decide +kernel
theorem dX9_goNight_4 : decode cX9_goNight 4 = .ok (.aload_n 0, 1) := by decide +kernel
theorem dX9_goNight_5 : decode cX9_goNight 5 = .ok (.iconst 0, 1) := by decide +kernel
theorem dX9_goNight_6 : decode cX9_goNight 6 = .ok (.putfield 125, 3) := by decide +kernel
theorem dX9_goNight_9 : decode cX9_goNight 9 = .ok (.aload_n 0, 1) := by decide +kernel
theorem dX9_goNight_10 : decode cX9_goNight 10 = .ok (.iconst 0, 1) := by decide +kernel
theorem dX9_goNight_11 : decode cX9_goNight 11 = .ok (.putfield 115, 3) := by decide +kernel
theorem dX9_goNight_14 : decode cX9_goNight 14 = .ok (.aload_n 0, 1) := by decide +kernel
theorem dX9_goNight_15 : decode cX9_goNight 15 = .ok (.bipush (-6), 2) := by decide +kernel
theorem dX9_goNight_17 : decode cX9_goNight 17 = .ok (.putfield 128, 3) := by decide +kernel
theorem dX9_goNight_20 : decode cX9_goNight 20 = .ok (.iconst 0, 1) := by decide +kernel
theorem dX9_goNight_21 : decode cX9_goNight 21 = .ok (.istore_n 2, 1) := by decide +kernel
theorem dX9_goNight_22 : decode cX9_goNight 22 = .ok (.iload_n 2, 1) := by decide +kernel
theorem dX9_goNight_23 : decode cX9_goNight 23 = .ok (.aload_n 0, 1) := by decide +kernel
theorem dX9_goNight_24 : decode cX9_goNight 24 = .ok (.getfield 92, 3) := by decide +kernel
theorem dX9_goNight_27 : decode cX9_goNight 27 = .ok (.if_icmp .ge 264, 3) := by decide +kernel
theorem dX9_goNight_30 : decode cX9_goNight 30 = .ok (.aload_n 0, 1) := by decide +kernel
theorem dX9_goNight_31 : decode cX9_goNight 31 = .ok (.getfield 29, 3) := by decide +kernel
theorem dX9_goNight_34 : decode cX9_goNight 34 = .ok (.iload_n 2, 1) := by decide +kernel
theorem dX9_goNight_35 : decode cX9_goNight 35 = .ok (.iaload, 1) := by decide +kernel
theorem dX9_goNight_36 : decode cX9_goNight 36 = .ok (.istore_n 3, 1) := by decide +kernel
theorem dX9_goNight_37 : decode cX9_goNight 37 = .ok (.aload_n 0, 1) := by decide +kernel
theorem dX9_goNight_38 : decode cX9_goNight 38 = .ok (.iconst 0, 1) := by decide +kernel
theorem dX9_goNight_39 : decode cX9_goNight 39 = .ok (.putfield 131, 3) := by decide +kernel
theorem dX9_goNight_42 : decode cX9_goNight 42 = .ok (.iload_n 3, 1) := by decide +kernel
theorem dX9_goNight_43 : decode cX9_goNight 43 = .ok (.bipush 46, 2) := by decide +kernel
theorem dX9_goNight_45 : decode cX9_goNight 45 = .ok (.if_icmp .ne 13, 3) := by decide +kernel
theorem dX9_goNight_48 : decode cX9_goNight 48 = .ok (.aload_n 0, 1) := by decide +kernel
theorem dX9_goNight_49 : decode cX9_goNight 49 = .ok (.invokevirtual 134, 3) := by decide +kernel
theorem dX9_goNight_52 : decode cX9_goNight 52 = .ok (.iinc 2 1, 3) := by decide +kernel
theorem dX9_goNight_55 : decode cX9_goNight 55 = .ok (.goto 211, 3) := by decide +kernel
theorem dX9_goNight_58 : decode cX9_goNight 58 = .ok (.iload_n 3, 1) := by decide +kernel
theorem dX9_goNight_59 : decode cX9_goNight 59 = .ok (.bipush 97, 2) := by decide +kernel
theorem dX9_goNight_61 : decode cX9_goNight 61 = .ok (.if_icmp .lt 100, 3) := by decide +kernel
theorem dX9_goNight_64 : decode cX9_goNight 64 = .ok (.aload_n 0, 1) := by decide +kernel
theorem dX9_goNight_65 : decode cX9_goNight 65 = .ok (.getfield 29, 3) := by decide +kernel
theorem dX9_goNight_68 : decode cX9_goNight 68 = .ok (.iload_n 2, 1) := by decide +kernel
theorem dX9_goNight_69 : decode cX9_goNight 69 = .ok (.iconst 1, 1) := by decide +kernel
theorem dX9_goNight_70 : decode cX9_goNight 70 = .ok (.iadd, 1) := by decide +kernel
theorem dX9_goNight_71 : decode cX9_goNight 71 = .ok (.iaload, 1) := by decide +kernel
theorem dX9_goNight_72 : decode cX9_goNight 72 = .ok (.bipush 48, 2) := by decide +kernel
theorem dX9_goNight_74 : decode cX9_goNight 74 = .ok (.isub, 1) := by decide +kernel
theorem dX9_goNight_75 : decode cX9_goNight 75 = .ok (.istore 4, 2) := by decide +kernel
theorem dX9_goNight_77 : decode cX9_goNight 77 = .ok (.aload_n 0, 1) := by decide +kernel
theorem dX9_goNight_78 : decode cX9_goNight 78 = .ok (.aload_n 0, 1) := by decide +kernel
theorem dX9_goNight_79 : decode cX9_goNight 79 = .ok (.iload_n 3, 1) := by decide +kernel
theorem dX9_goNight_80 : decode cX9_goNight 80 = .ok (.bipush 97, 2) := by decide +kernel
theorem dX9_goNight_82 : decode cX9_goNight 82 = .ok (.isub, 1) := by decide +kernel
theorem dX9_goNight_83 : decode cX9_goNight 83 = .ok (.invokevirtual 137, 3) := by decide +kernel
theorem dX9_goNight_86 : decode cX9_goNight 86 = .ok (.ifCond .ne 7, 3) := by decide +kernel
theorem dX9_goNight_89 : decode cX9_goNight 89 = .ok (.iconst 3, 1) := by decide +kernel
theorem dX9_goNight_90 : decode cX9_goNight 90 = .ok (.goto 4, 3) := by decide +kernel
theorem dX9_goNight_93 : decode cX9_goNight 93 = .ok (.iconst 0, 1) := by decide +kernel
theorem dX9_goNight_94 : decode cX9_goNight 94 = .ok (.putfield 131, 3) := by decide +kernel
theorem dX9_goNight_97 : decode cX9_goNight 97 = .ok (.aload_n 0, 1) := by decide +kernel
theorem dX9_goNight_98 : decode cX9_goNight 98 = .ok (.getfield 131, 3) := by decide +kernel
theorem dX9_goNight_101 : decode cX9_goNight 101 = .ok (.ifCond .ne 54, 3) := by decide +kernel
theorem dX9_goNight_104 : decode cX9_goNight 104 = .ok (.aload_n 0, 1) := by decide +kernel
theorem dX9_goNight_105 : decode cX9_goNight 105 = .ok (.iload_n 3, 1) := by decide +kernel
theorem dX9_goNight_106 : decode cX9_goNight 106 = .ok (.bipush 97, 2) := by decide +kernel
theorem dX9_goNight_108 : decode cX9_goNight 108 = .ok (.isub, 1) := by decide +kernel
theorem dX9_goNight_109 : decode cX9_goNight 109 = .ok (.iload 4, 2) := by decide +kernel
theorem dX9_goNight_111 : decode cX9_goNight 111 = .ok (.iload_n 1, 1) := by decide +kernel
theorem dX9_goNight_112 : decode cX9_goNight 112 = .ok (.if_icmp .le 10, 3) := by decide +kernel
theorem dX9_goNight_115 : decode cX9_goNight 115 = .ok (.iload 4, 2) := by decide +kernel
theorem dX9_goNight_117 : decode cX9_goNight 117 = .ok (.iload_n 1, 1) := by decide +kernel
theorem dX9_goNight_118 : decode cX9_goNight 118 = .ok (.isub, 1) := by decide +kernel
theorem dX9_goNight_119 : decode cX9_goNight 119 = .ok (.goto 4, 3) := by decide +kernel
theorem dX9_goNight_122 : decode cX9_goNight 122 = .ok (.iconst 0, 1) := by decide +kernel
theorem dX9_goNight_123 : decode cX9_goNight 123 = .ok (.invokevirtual 140, 3) := by decide +kernel
theorem dX9_goNight_126 : decode cX9_goNight 126 = .ok (.istore 5, 2) := by decide +kernel
theorem dX9_goNight_128 : decode cX9_goNight 128 = .ok (.aload_n 0, 1) := by decide +kernel
theorem dX9_goNight_129 : decode cX9_goNight 129 = .ok (.iload 5, 2) := by decide +kernel
theorem dX9_goNight_131 : decode cX9_goNight 131 = .ok (.ifCond .ne 17, 3) := by decide +kernel
theorem dX9_goNight_134 : decode cX9_goNight 134 = .ok (.aload_n 0, 1) := by decide +kernel
theorem dX9_goNight_135 : decode cX9_goNight 135 = .ok (.getfield 128, 3) := by decide +kernel
theorem dX9_goNight_138 : decode cX9_goNight 138 = .ok (.ifCond .ge 10, 3) := by decide +kernel
theorem dX9_goNight_141 : decode cX9_goNight 141 = .ok (.aload_n 0, 1) := by decide +kernel
theorem dX9_goNight_142 : decode cX9_goNight 142 = .ok (.getfield 125, 3) := by decide +kernel
theorem dX9_goNight_145 : decode cX9_goNight 145 = .ok (.goto 7, 3) := by decide +kernel
theorem dX9_goNight_148 : decode cX9_goNight 148 = .ok (.aload_n 0, 1) := by decide +kernel
theorem dX9_goNight_149 : decode cX9_goNight 149 = .ok (.getfield 128, 3) := by decide +kernel
theorem dX9_goNight_152 : decode cX9_goNight 152 = .ok (.putfield 128, 3) := by decide +kernel
theorem dX9_goNight_155 : decode cX9_goNight 155 = .ok (.iinc 2 2, 3) := by decide +kernel
theorem dX9_goNight_158 : decode cX9_goNight 158 = .ok (.goto 108, 3) := by decide +kernel
theorem dX9_goNight_161 : decode cX9_goNight 161 = .ok (.iload_n 3, 1) := by decide +kernel
theorem dX9_goNight_162 : decode cX9_goNight 162 = .ok (.bipush 65, 2) := by decide +kernel
theorem dX9_goNight_164 : decode cX9_goNight 164 = .ok (.isub, 1) := by decide +kernel
theorem dX9_goNight_165 : decode cX9_goNight 165 = .ok (.istore 4, 2) := by decide +kernel
theorem dX9_goNight_167 : decode cX9_goNight 167 = .ok (.aload_n 0, 1) := by decide +kernel
theorem dX9_goNight_168 : decode cX9_goNight 168 = .ok (.getfield 29, 3) := by decide +kernel
theorem dX9_goNight_171 : decode cX9_goNight 171 = .ok (.iload_n 2, 1) := by decide +kernel
theorem dX9_goNight_172 : decode cX9_goNight 172 = .ok (.iconst 1, 1) := by decide +kernel
theorem dX9_goNight_173 : decode cX9_goNight 173 = .ok (.iadd, 1) := by decide +kernel
theorem dX9_goNight_174 : decode cX9_goNight 174 = .ok (.iaload, 1) := by decide +kernel
theorem dX9_goNight_175 : decode cX9_goNight 175 = .ok (.istore 5, 2) := by decide +kernel
theorem dX9_goNight_177 : decode cX9_goNight 177 = .ok (.aload_n 0, 1) := by decide +kernel
theorem dX9_goNight_178 : decode cX9_goNight 178 = .ok (.iload 5, 2) := by decide +kernel
theorem dX9_goNight_180 : decode cX9_goNight 180 = .ok (.bipush 97, 2) := by decide +kernel
theorem dX9_goNight_182 : decode cX9_goNight 182 = .ok (.if_icmp .lt 17, 3) := by decide +kernel
theorem dX9_goNight_185 : decode cX9_goNight 185 = .ok (.aload_n 0, 1) := by decide +kernel
theorem dX9_goNight_186 : decode cX9_goNight 186 = .ok (.iload 4, 2) := by decide +kernel
theorem dX9_goNight_188 : decode cX9_goNight 188 = .ok (.iload 5, 2) := by decide +kernel
theorem dX9_goNight_190 : decode cX9_goNight 190 = .ok (.bipush 97, 2) := by decide +kernel
theorem dX9_goNight_192 : decode cX9_goNight 192 = .ok (.isub, 1) := by decide +kernel
theorem dX9_goNight_193 : decode cX9_goNight 193 = .ok (.invokevirtual 143, 3) := by decide +kernel
theorem dX9_goNight_196 : decode cX9_goNight 196 = .ok (.goto 17, 3) := by decide +kernel
theorem dX9_goNight_199 : decode cX9_goNight 199 = .ok (.aload_n 0, 1) := by decide +kernel
theorem dX9_goNight_200 : decode cX9_goNight 200 = .ok (.iload 4, 2) := by decide +kernel
theorem dX9_goNight_202 : decode cX9_goNight 202 = .ok (.invokevirtual 84, 3) := by decide +kernel
theorem dX9_goNight_205 : decode cX9_goNight 205 = .ok (.ifCond .eq 7, 3) := by decide +kernel
theorem dX9_goNight_208 : decode cX9_goNight 208 = .ok (.iconst 0, 1) := by decide +kernel
theorem dX9_goNight_209 : decode cX9_goNight 209 = .ok (.goto 4, 3) := by decide +kernel
theorem dX9_goNight_212 : decode cX9_goNight 212 = .ok (.iconst 1, 1) := by decide +kernel
theorem dX9_goNight_213 : decode cX9_goNight 213 = .ok (.putfield 131, 3) := by decide +kernel
theorem dX9_goNight_216 : decode cX9_goNight 216 = .ok (.aload_n 0, 1) := by decide +kernel
theorem dX9_goNight_217 : decode cX9_goNight 217 = .ok (.getfield 131, 3) := by decide +kernel
theorem dX9_goNight_220 : decode cX9_goNight 220 = .ok (.ifCond .ne 24, 3) := by decide +kernel
theorem dX9_goNight_223 : decode cX9_goNight 223 = .ok (.iload 5, 2) := by decide +kernel
theorem dX9_goNight_225 : decode cX9_goNight 225 = .ok (.bipush 97, 2) := by decide +kernel
theorem dX9_goNight_227 : decode cX9_goNight 227 = .ok (.if_icmp .lt 17, 3) := by decide +kernel
theorem dX9_goNight_230 : decode cX9_goNight 230 = .ok (.aload_n 0, 1) := by decide +kernel
theorem dX9_goNight_231 : decode cX9_goNight 231 = .ok (.iload 4, 2) := by decide +kernel
theorem dX9_goNight_233 : decode cX9_goNight 233 = .ok (.iload 5, 2) := by decide +kernel
theorem dX9_goNight_235 : decode cX9_goNight 235 = .ok (.bipush 97, 2) := by decide +kernel
theorem dX9_goNight_237 : decode cX9_goNight 237 = .ok (.isub, 1) := by decide +kernel
theorem dX9_goNight_238 : decode cX9_goNight 238 = .ok (.invokevirtual 146, 3) := by decide +kernel
theorem dX9_goNight_241 : decode cX9_goNight 241 = .ok (.goto 22, 3) := by decide +kernel
theorem dX9_goNight_244 : decode cX9_goNight 244 = .ok (.aload_n 0, 1) := by decide +kernel
theorem dX9_goNight_245 : decode cX9_goNight 245 = .ok (.getfield 131, 3) := by decide +kernel
theorem dX9_goNight_248 : decode cX9_goNight 248 = .ok (.ifCond .ne 15, 3) := by decide +kernel
theorem dX9_goNight_251 : decode cX9_goNight 251 = .ok (.aload_n 0, 1) := by decide +kernel
theorem dX9_goNight_252 : decode cX9_goNight 252 = .ok (.getfield 35, 3) := by decide +kernel
theorem dX9_goNight_255 : decode cX9_goNight 255 = .ok (.iload 4, 2) := by decide +kernel
theorem dX9_goNight_257 : decode cX9_goNight 257 = .ok (.iload 5, 2) := by decide +kernel
theorem dX9_goNight_259 : decode cX9_goNight 259 = .ok (.bipush 48, 2) := by decide +kernel
theorem dX9_goNight_261 : decode cX9_goNight 261 = .ok (.isub, 1) := by decide +kernel
theorem dX9_goNight_262 : decode cX9_goNight 262 = .ok (.iastore, 1) := by decide +kernel
theorem dX9_goNight_263 : decode cX9_goNight 263 = .ok (.iinc 2 2, 3) := by decide +kernel
theorem dX9_goNight_266 : decode cX9_goNight 266 = .ok (.aload_n 0, 1) := by decide +kernel
theorem dX9_goNight_267 : decode cX9_goNight 267 = .ok (.getfield 131, 3) := by decide +kernel
theorem dX9_goNight_270 : decode cX9_goNight 270 = .ok (.ifCond .le 8, 3) := by decide +kernel
theorem dX9_goNight_273 : decode cX9_goNight 273 = .ok (.aload_n 0, 1) := by decide +kernel
theorem dX9_goNight_274 : decode cX9_goNight 274 = .ok (.getfield 125, 3) := by decide +kernel
theorem dX9_goNight_277 : decode cX9_goNight 277 = .ok (.ireturn, 1) := by decide +kernel
theorem dX9_goNight_278 : decode cX9_goNight 278 = .ok (.aload_n 0, 1) := by decide +kernel
theorem dX9_goNight_279 : decode cX9_goNight 279 = .ok (.dup, 1) := by decide +kernel
theorem dX9_goNight_280 : decode cX9_goNight 280 = .ok (.getfield 125, 3) := by decide +kernel
theorem dX9_goNight_283 : decode cX9_goNight 283 = .ok (.iconst 1, 1) := by decide +kernel
theorem dX9_goNight_284 : decode cX9_goNight 284 = .ok (.iadd, 1) := by decide +kernel
theorem dX9_goNight_285 : decode cX9_goNight 285 = .ok (.putfield 125, 3) := by decide +kernel
theorem dX9_goNight_288 : decode cX9_goNight 288 = .ok (.goto (-266), 3) := by decide +kernel
theorem dX9_goNight_291 : decode cX9_goNight 291 = .ok (.bipush (-6), 2) := by decide +kernel
theorem dX9_goNight_293 : decode cX9_goNight 293 = .ok (.ireturn, 1) := by decide +kernel
set_option maxRecDepth 20000 in
theorem ggX9_judge_X9_in : GoodIn wsX9_judge wsX9_in := goodIn_r _ [5] (by decide +kernel) (by decide +kernel)
set_option maxRecDepth 20000 in
theorem gX9_judge_X9_in : GoodIn wsX9_judge (va_wsS RX9 72 yX9_in wsX9_in) := goodIn_app (goodIn_of _ (by decide +kernel)) ggX9_judge_X9_in
set_option maxRecDepth 20000 in
theorem ggX9_judge_X9_faultOf : GoodIn wsX9_judge wsX9_faultOf := goodIn_r _ [9, 10, 11, 2, 3, 4, 5, 87, 88, 89, 90, 91, 92, 93, 94, 95, 96, 97, 98, 99, 100, 101, 102, 103, 104, 105, 106, 107, 108, 109, 110, 111, 112, 113] (by decide +kernel) (by decide +kernel)
set_option maxRecDepth 20000 in
theorem gX9_judge_X9_faultOf : GoodIn wsX9_judge (wsV RX9 95 RX9 yX9_faultOf wsX9_faultOf) := goodIn_app (goodIn_of _ (by decide +kernel)) ggX9_judge_X9_faultOf
set_option maxRecDepth 20000 in
theorem ggX9_judge_X9_goNight : GoodIn wsX9_judge wsX9_goNight := goodIn_r _ [15, 16, 17, 18, 10, 11, 1, 19, 20, 21, 22, 4, 23, 24, 25, 26, 27, 28, 29, 30, 31, 32, 33, 34, 35, 36, 37, 38, 39, 40, 41, 42, 43, 44, 45, 46, 47, 48, 49, 50, 51, 52, 53, 54, 55, 56, 57, 58, 59, 60, 61, 62, 63, 64, 65, 66, 67, 68, 69, 70, 71, 72, 73, 74, 75, 76, 77, 78, 79, 80, 81, 82, 2, 3, 5, 83, 84, 85, 86, 87, 88, 89, 90, 91, 92, 93, 94, 95, 96, 97, 98, 99, 100, 101, 102, 103, 104, 105, 106, 107, 108, 109, 110, 111, 112, 113] (by decide +kernel) (by decide +kernel)
set_option maxRecDepth 20000 in
theorem gX9_judge_X9_goNight : GoodIn wsX9_judge (wsV RX9 150 RX9 yX9_goNight wsX9_goNight) := goodIn_app (goodIn_of _ (by decide +kernel)) ggX9_judge_X9_goNight
theorem dX9_judge_0 : decode cX9_judge 0 = .ok (.iload_n 1, 1) := by decide +kernel
theorem dX9_judge_1 : decode cX9_judge 1 = .ok (.iconst 0, 1) := by decide +kernel
theorem dX9_judge_2 : decode cX9_judge 2 = .ok (.iconst 1, 1) := by decide +kernel
theorem dX9_judge_3 : decode cX9_judge 3 = .ok (.invokestatic 72, 3) := by decide +kernel
theorem dX9_judge_6 : decode cX9_judge 6 = .ok (.ifCond .ne 6, 3) := by decide +kernel
theorem dX9_judge_9 : decode cX9_judge 9 = .ok (.bipush (-2), 2) := by decide +kernel
theorem dX9_judge_11 : decode cX9_judge 11 = .ok (.ireturn, 1) := by decide +kernel
theorem dX9_judge_12 : decode cX9_judge 12 = .ok (.aload_n 0, 1) := by decide +kernel
theorem dX9_judge_13 : decode cX9_judge 13 = .ok (.invokevirtual 95, 3) := by decide +kernel
theorem dX9_judge_16 : decode cX9_judge 16 = .ok (.ifCond .lt 6, 3) := by decide +kernel
theorem dX9_judge_19 : decode cX9_judge 19 = .ok (.bipush (-5), 2) := by decide +kernel
theorem dX9_judge_21 : decode cX9_judge 21 = .ok (.ireturn, 1) := by decide +kernel
theorem dX9_judge_22 : decode cX9_judge 22 = .ok (.aload_n 0, 1) := by decide +kernel
theorem dX9_judge_23 : decode cX9_judge 23 = .ok (.iconst 0, 1) := by decide +kernel
theorem dX9_judge_24 : decode cX9_judge 24 = .ok (.invokevirtual 150, 3) := by decide +kernel
theorem dX9_judge_27 : decode cX9_judge 27 = .ok (.istore_n 2, 1) := by decide +kernel
theorem dX9_judge_28 : decode cX9_judge 28 = .ok (.iload_n 2, 1) := by decide +kernel
theorem dX9_judge_29 : decode cX9_judge 29 = .ok (.ifCond .lt 7, 3) := by decide +kernel
theorem dX9_judge_32 : decode cX9_judge 32 = .ok (.iload_n 1, 1) := by decide +kernel
theorem dX9_judge_33 : decode cX9_judge 33 = .ok (.ifCond .ne 7, 3) := by decide +kernel
theorem dX9_judge_36 : decode cX9_judge 36 = .ok (.iload_n 2, 1) := by decide +kernel
theorem dX9_judge_37 : decode cX9_judge 37 = .ok (.goto 7, 3) := by decide +kernel
theorem dX9_judge_40 : decode cX9_judge 40 = .ok (.aload_n 0, 1) := by decide +kernel
theorem dX9_judge_41 : decode cX9_judge 41 = .ok (.getfield 131, 3) := by decide +kernel
theorem dX9_judge_44 : decode cX9_judge 44 = .ok (.ireturn, 1) := by decide +kernel
set_option maxRecDepth 20000 in
theorem ggX9_barOfNight_X9_faultOf : GoodIn wsX9_barOfNight wsX9_faultOf := goodIn_r _ [5, 6, 7, 8, 9, 4, 10, 87, 88, 89, 90, 91, 92, 93, 94, 95, 96, 97, 98, 99, 100, 101, 102, 103, 104, 105, 106, 107, 108, 109, 110, 111, 112, 113] (by decide +kernel) (by decide +kernel)
set_option maxRecDepth 20000 in
theorem gX9_barOfNight_X9_faultOf : GoodIn wsX9_barOfNight (wsV RX9 95 RX9 yX9_faultOf wsX9_faultOf) := goodIn_app (goodIn_of _ (by decide +kernel)) ggX9_barOfNight_X9_faultOf
set_option maxRecDepth 20000 in
theorem ggX9_barOfNight_X9_goNight : GoodIn wsX9_barOfNight wsX9_goNight := goodIn_r _ [14, 15, 16, 17, 6, 7, 18, 19, 20, 21, 22, 4, 23, 24, 25, 26, 27, 28, 29, 30, 31, 32, 33, 34, 35, 36, 37, 38, 39, 40, 41, 42, 43, 44, 45, 46, 47, 48, 49, 50, 51, 52, 53, 54, 55, 56, 57, 58, 59, 60, 61, 62, 63, 64, 65, 66, 67, 68, 69, 70, 71, 72, 73, 74, 75, 76, 77, 78, 79, 80, 81, 82, 8, 9, 10, 83, 84, 85, 86, 87, 88, 89, 90, 91, 92, 93, 94, 95, 96, 97, 98, 99, 100, 101, 102, 103, 104, 105, 106, 107, 108, 109, 110, 111, 112, 113] (by decide +kernel) (by decide +kernel)
set_option maxRecDepth 20000 in
theorem gX9_barOfNight_X9_goNight : GoodIn wsX9_barOfNight (wsV RX9 150 RX9 yX9_goNight wsX9_goNight) := goodIn_app (goodIn_of _ (by decide +kernel)) ggX9_barOfNight_X9_goNight
theorem dX9_barOfNight_0 : decode cX9_barOfNight 0 = .ok (.aload_n 0, 1) := by decide +kernel
theorem dX9_barOfNight_1 : decode cX9_barOfNight 1 = .ok (.invokevirtual 95, 3) := by decide +kernel
theorem dX9_barOfNight_4 : decode cX9_barOfNight 4 = .ok (.ifCond .ge 11, 3) := by decide +kernel
theorem dX9_barOfNight_7 : decode cX9_barOfNight 7 = .ok (.aload_n 0, 1) := by decide +kernel
theorem dX9_barOfNight_8 : decode cX9_barOfNight 8 = .ok (.iconst 0, 1) := by decide +kernel
theorem dX9_barOfNight_9 : decode cX9_barOfNight 9 = .ok (.invokevirtual 150, 3) := by decide +kernel
theorem dX9_barOfNight_12 : decode cX9_barOfNight 12 = .ok (.ifCond .lt 8, 3) := by decide +kernel
theorem dX9_barOfNight_15 : decode cX9_barOfNight 15 = .ok (.bipush (-5), 2) := by decide +kernel
theorem dX9_barOfNight_17 : decode cX9_barOfNight 17 = .ok (.goto 4, 3) := by decide +kernel
theorem dX9_barOfNight_20 : decode cX9_barOfNight 20 = .ok (.iconst 0, 1) := by decide +kernel
theorem dX9_barOfNight_21 : decode cX9_barOfNight 21 = .ok (.ireturn, 1) := by decide +kernel
set_option maxRecDepth 20000 in
theorem ggX9_done_X9_barOfNight : GoodIn wsX9_done wsX9_barOfNight := goodIn_r _ [13, 14, 15, 16, 12, 17, 7, 18, 19, 20, 21, 22, 23, 24, 25, 8, 26, 27, 28, 4, 29, 30, 31, 32, 2, 1, 3, 6, 5, 33, 34, 35, 36, 37, 38, 39, 40, 41, 42, 43, 44, 45, 46, 47, 48, 49, 50, 51, 52, 53, 54, 55, 56, 57, 58, 59, 60, 61, 62, 63, 64, 65, 66, 67, 68, 69, 70, 71, 72, 73, 74, 75, 76, 77, 78, 79, 80, 81, 82, 83, 84, 85, 86, 87, 88, 89, 90, 91, 92, 93, 94, 95, 96, 97, 98, 99, 100, 101, 102, 103, 104, 105, 106, 107, 108, 109, 110, 111, 112, 113, 114, 115, 116, 117] (by decide +kernel) (by decide +kernel)
set_option maxRecDepth 20000 in
theorem gX9_done_X9_barOfNight : GoodIn wsX9_done (wsV RX9 153 RX9 yX9_barOfNight wsX9_barOfNight) := goodIn_app (goodIn_of _ (by decide +kernel)) ggX9_done_X9_barOfNight
theorem dX9_done_0 : decode cX9_done 0 = .ok (.aload_n 0, 1) := by decide +kernel
theorem dX9_done_1 : decode cX9_done 1 = .ok (.invokevirtual 153, 3) := by decide +kernel
theorem dX9_done_4 : decode cX9_done 4 = .ok (.ifCond .ge 6, 3) := by decide +kernel
theorem dX9_done_7 : decode cX9_done 7 = .ok (.bipush (-5), 2) := by decide +kernel
theorem dX9_done_9 : decode cX9_done 9 = .ok (.ireturn, 1) := by decide +kernel
theorem dX9_done_10 : decode cX9_done 10 = .ok (.iconst 0, 1) := by decide +kernel
theorem dX9_done_11 : decode cX9_done 11 = .ok (.istore_n 1, 1) := by decide +kernel
theorem dX9_done_12 : decode cX9_done 12 = .ok (.iload_n 1, 1) := by decide +kernel
theorem dX9_done_13 : decode cX9_done 13 = .ok (.bipush 6, 2) := by decide +kernel
theorem dX9_done_15 : decode cX9_done 15 = .ok (.if_icmp .ge 45, 3) := by decide +kernel
theorem dX9_done_18 : decode cX9_done 18 = .ok (.aload_n 0, 1) := by decide +kernel
theorem dX9_done_19 : decode cX9_done 19 = .ok (.getfield 7, 3) := by decide +kernel
theorem dX9_done_22 : decode cX9_done 22 = .ok (.iload_n 1, 1) := by decide +kernel
theorem dX9_done_23 : decode cX9_done 23 = .ok (.aload_n 0, 1) := by decide +kernel
theorem dX9_done_24 : decode cX9_done 24 = .ok (.getfield 32, 3) := by decide +kernel
theorem dX9_done_27 : decode cX9_done 27 = .ok (.iload_n 1, 1) := by decide +kernel
theorem dX9_done_28 : decode cX9_done 28 = .ok (.iaload, 1) := by decide +kernel
theorem dX9_done_29 : decode cX9_done 29 = .ok (.iastore, 1) := by decide +kernel
theorem dX9_done_30 : decode cX9_done 30 = .ok (.aload_n 0, 1) := by decide +kernel
theorem dX9_done_31 : decode cX9_done 31 = .ok (.getfield 13, 3) := by decide +kernel
theorem dX9_done_34 : decode cX9_done 34 = .ok (.iload_n 1, 1) := by decide +kernel
theorem dX9_done_35 : decode cX9_done 35 = .ok (.aload_n 0, 1) := by decide +kernel
theorem dX9_done_36 : decode cX9_done 36 = .ok (.getfield 35, 3) := by decide +kernel
theorem dX9_done_39 : decode cX9_done 39 = .ok (.iload_n 1, 1) := by decide +kernel
theorem dX9_done_40 : decode cX9_done 40 = .ok (.iaload, 1) := by decide +kernel
theorem dX9_done_41 : decode cX9_done 41 = .ok (.iastore, 1) := by decide +kernel
theorem dX9_done_42 : decode cX9_done 42 = .ok (.aload_n 0, 1) := by decide +kernel
theorem dX9_done_43 : decode cX9_done 43 = .ok (.getfield 16, 3) := by decide +kernel
theorem dX9_done_46 : decode cX9_done 46 = .ok (.iload_n 1, 1) := by decide +kernel
theorem dX9_done_47 : decode cX9_done 47 = .ok (.aload_n 0, 1) := by decide +kernel
theorem dX9_done_48 : decode cX9_done 48 = .ok (.getfield 38, 3) := by decide +kernel
theorem dX9_done_51 : decode cX9_done 51 = .ok (.iload_n 1, 1) := by decide +kernel
theorem dX9_done_52 : decode cX9_done 52 = .ok (.iaload, 1) := by decide +kernel
theorem dX9_done_53 : decode cX9_done 53 = .ok (.iastore, 1) := by decide +kernel
theorem dX9_done_54 : decode cX9_done 54 = .ok (.iinc 1 1, 3) := by decide +kernel
theorem dX9_done_57 : decode cX9_done 57 = .ok (.goto (-45), 3) := by decide +kernel
theorem dX9_done_60 : decode cX9_done 60 = .ok (.aload_n 0, 1) := by decide +kernel
theorem dX9_done_61 : decode cX9_done 61 = .ok (.iconst 0, 1) := by decide +kernel
theorem dX9_done_62 : decode cX9_done 62 = .ok (.putfield 92, 3) := by decide +kernel
theorem dX9_done_65 : decode cX9_done 65 = .ok (.aload_n 0, 1) := by decide +kernel
theorem dX9_done_66 : decode cX9_done 66 = .ok (.getfield 125, 3) := by decide +kernel
theorem dX9_done_69 : decode cX9_done 69 = .ok (.ireturn, 1) := by decide +kernel
set_option maxRecDepth 20000 in
theorem ggX9_state_X9_isThere : GoodIn wsX9_state wsX9_isThere := goodIn_r _ [7, 8, 9, 10, 6, 11, 12, 13, 14, 29, 30, 31, 32, 33, 34, 35, 36, 37, 38, 39, 40, 41, 42, 43, 44, 45, 46, 47, 48, 49, 50, 51, 52, 53, 54, 55] (by decide +kernel) (by decide +kernel)
set_option maxRecDepth 20000 in
theorem gX9_state_X9_isThere : GoodIn wsX9_state (wsV RX9 84 RX9 yX9_isThere wsX9_isThere) := goodIn_app (goodIn_of _ (by decide +kernel)) ggX9_state_X9_isThere
set_option maxRecDepth 20000 in
theorem ggX9_state_X9_asNow : GoodIn wsX9_state wsX9_asNow := goodIn_r _ [18, 1, 19, 20, 21, 2, 22, 23, 24, 29, 30, 31, 32, 33, 34, 35, 36, 37, 38, 39, 40, 41, 42, 43, 44, 45, 46, 47, 48, 49, 50, 51, 52, 53, 54, 55] (by decide +kernel) (by decide +kernel)
set_option maxRecDepth 20000 in
theorem gX9_state_X9_asNow : GoodIn wsX9_state (wsV RX9 122 RX9 yX9_asNow wsX9_asNow) := goodIn_app (goodIn_of _ (by decide +kernel)) ggX9_state_X9_asNow
set_option maxRecDepth 20000 in
theorem ggX9_state_X9_counts : GoodIn wsX9_state wsX9_counts := goodIn_r _ [28, 20, 1, 29, 30, 31, 32, 33, 34, 35, 36, 37, 38, 39, 40, 41, 42, 43, 44, 45, 46, 47, 48, 49, 50, 51, 52, 53, 54, 55] (by decide +kernel) (by decide +kernel)
set_option maxRecDepth 20000 in
theorem gX9_state_X9_counts : GoodIn wsX9_state (wsV RX9 101 RX9 yX9_counts wsX9_counts) := goodIn_app (goodIn_of _ (by decide +kernel)) ggX9_state_X9_counts
theorem dX9_state_0 : decode cX9_state 0 = .ok (.aload_n 0, 1) := by decide +kernel
theorem dX9_state_1 : decode cX9_state 1 = .ok (.iload_n 1, 1) := by decide +kernel
theorem dX9_state_2 : decode cX9_state 2 = .ok (.invokevirtual 84, 3) := by decide +kernel
theorem dX9_state_5 : decode cX9_state 5 = .ok (.ifCond .ne 5, 3) := by decide +kernel
theorem dX9_state_8 : decode cX9_state 8 = .ok (.iconst (-1), 1) := by decide +kernel
theorem dX9_state_9 : decode cX9_state 9 = .ok (.ireturn, 1) := by decide +kernel
theorem dX9_state_10 : decode cX9_state 10 = .ok (.aload_n 0, 1) := by decide +kernel
theorem dX9_state_11 : decode cX9_state 11 = .ok (.invokevirtual 122, 3) := by decide +kernel
theorem dX9_state_14 : decode cX9_state 14 = .ok (.iload_n 2, 1) := by decide +kernel
theorem dX9_state_15 : decode cX9_state 15 = .ok (.ifCond .ne 12, 3) := by decide +kernel
theorem dX9_state_18 : decode cX9_state 18 = .ok (.aload_n 0, 1) := by decide +kernel
theorem dX9_state_19 : decode cX9_state 19 = .ok (.getfield 32, 3) := by decide +kernel
theorem dX9_state_22 : decode cX9_state 22 = .ok (.iload_n 1, 1) := by decide +kernel
theorem dX9_state_23 : decode cX9_state 23 = .ok (.iaload, 1) := by decide +kernel
theorem dX9_state_24 : decode cX9_state 24 = .ok (.goto 39, 3) := by decide +kernel
theorem dX9_state_27 : decode cX9_state 27 = .ok (.iload_n 2, 1) := by decide +kernel
theorem dX9_state_28 : decode cX9_state 28 = .ok (.iconst 1, 1) := by decide +kernel
theorem dX9_state_29 : decode cX9_state 29 = .ok (.if_icmp .ne 18, 3) := by decide +kernel
theorem dX9_state_32 : decode cX9_state 32 = .ok (.aload_n 0, 1) := by decide +kernel
theorem dX9_state_33 : decode cX9_state 33 = .ok (.getfield 32, 3) := by decide +kernel
theorem dX9_state_36 : decode cX9_state 36 = .ok (.iload_n 1, 1) := by decide +kernel
theorem dX9_state_37 : decode cX9_state 37 = .ok (.iaload, 1) := by decide +kernel
theorem dX9_state_38 : decode cX9_state 38 = .ok (.aload_n 0, 1) := by decide +kernel
theorem dX9_state_39 : decode cX9_state 39 = .ok (.iload_n 1, 1) := by decide +kernel
theorem dX9_state_40 : decode cX9_state 40 = .ok (.invokevirtual 101, 3) := by decide +kernel
theorem dX9_state_43 : decode cX9_state 43 = .ok (.isub, 1) := by decide +kernel
theorem dX9_state_44 : decode cX9_state 44 = .ok (.goto 19, 3) := by decide +kernel
theorem dX9_state_47 : decode cX9_state 47 = .ok (.iload_n 2, 1) := by decide +kernel
theorem dX9_state_48 : decode cX9_state 48 = .ok (.iconst 2, 1) := by decide +kernel
theorem dX9_state_49 : decode cX9_state 49 = .ok (.if_icmp .ne 12, 3) := by decide +kernel
theorem dX9_state_52 : decode cX9_state 52 = .ok (.aload_n 0, 1) := by decide +kernel
theorem dX9_state_53 : decode cX9_state 53 = .ok (.getfield 38, 3) := by decide +kernel
theorem dX9_state_56 : decode cX9_state 56 = .ok (.iload_n 1, 1) := by decide +kernel
theorem dX9_state_57 : decode cX9_state 57 = .ok (.iaload, 1) := by decide +kernel
theorem dX9_state_58 : decode cX9_state 58 = .ok (.goto 5, 3) := by decide +kernel
theorem dX9_state_61 : decode cX9_state 61 = .ok (.bipush (-2), 2) := by decide +kernel
theorem dX9_state_63 : decode cX9_state 63 = .ok (.ireturn, 1) := by decide +kernel
set_option maxRecDepth 20000 in
theorem ggX9_behind_X9_isThere : GoodIn wsX9_behind wsX9_isThere := goodIn_r _ [9, 10, 11, 12, 8, 13, 14, 15, 16, 91, 92, 93, 94, 95, 96, 97, 98, 99, 100, 101, 102, 103, 104, 105, 106, 107, 108, 109, 110, 111, 112, 113, 114, 115, 116, 117] (by decide +kernel) (by decide +kernel)
set_option maxRecDepth 20000 in
theorem gX9_behind_X9_isThere : GoodIn wsX9_behind (wsV RX9 84 RX9 yX9_isThere wsX9_isThere) := goodIn_app (goodIn_of _ (by decide +kernel)) ggX9_behind_X9_isThere
set_option maxRecDepth 20000 in
theorem ggX9_behind_X9_in : GoodIn wsX9_behind wsX9_in := goodIn_r _ [13] (by decide +kernel) (by decide +kernel)
set_option maxRecDepth 20000 in
theorem gX9_behind_X9_in : GoodIn wsX9_behind (va_wsS RX9 72 yX9_in wsX9_in) := goodIn_app (goodIn_of _ (by decide +kernel)) ggX9_behind_X9_in
set_option maxRecDepth 20000 in
theorem ggX9_behind_X9_barOfNight : GoodIn wsX9_behind wsX9_barOfNight := goodIn_r _ [20, 21, 22, 23, 8, 24, 25, 26, 11, 12, 13, 27, 28, 29, 30, 31, 32, 33, 34, 35, 36, 37, 38, 39, 1, 40, 41, 4, 42, 2, 3, 43, 44, 45, 46, 10, 14, 15, 16, 47, 48, 49, 50, 51, 52, 53, 54, 55, 56, 57, 58, 59, 60, 61, 62, 63, 64, 65, 66, 67, 68, 69, 70, 71, 72, 73, 74, 75, 76, 77, 78, 79, 80, 81, 82, 83, 84, 85, 86, 5, 6, 7, 9, 87, 88, 89, 90, 91, 92, 93, 94, 95, 96, 97, 98, 99, 100, 101, 102, 103, 104, 105, 106, 107, 108, 109, 110, 111, 112, 113, 114, 115, 116, 117] (by decide +kernel) (by decide +kernel)
set_option maxRecDepth 20000 in
theorem gX9_behind_X9_barOfNight : GoodIn wsX9_behind (wsV RX9 153 RX9 yX9_barOfNight wsX9_barOfNight) := goodIn_app (goodIn_of _ (by decide +kernel)) ggX9_behind_X9_barOfNight
theorem dX9_behind_0 : decode cX9_behind 0 = .ok (.aload_n 0, 1) := by decide +kernel
theorem dX9_behind_1 : decode cX9_behind 1 = .ok (.iload_n 1, 1) := by decide +kernel
theorem dX9_behind_2 : decode cX9_behind 2 = .ok (.invokevirtual 84, 3) := by decide +kernel
theorem dX9_behind_5 : decode cX9_behind 5 = .ok (.ifCond .ne 5, 3) := by decide +kernel
theorem dX9_behind_8 : decode cX9_behind 8 = .ok (.iconst (-1), 1) := by decide +kernel
theorem dX9_behind_9 : decode cX9_behind 9 = .ok (.ireturn, 1) := by decide +kernel
theorem dX9_behind_10 : decode cX9_behind 10 = .ok (.iload_n 2, 1) := by decide +kernel
theorem dX9_behind_11 : decode cX9_behind 11 = .ok (.iconst 0, 1) := by decide +kernel
theorem dX9_behind_12 : decode cX9_behind 12 = .ok (.iconst 3, 1) := by decide +kernel
theorem dX9_behind_13 : decode cX9_behind 13 = .ok (.invokestatic 72, 3) := by decide +kernel
theorem dX9_behind_16 : decode cX9_behind 16 = .ok (.ifCond .ne 6, 3) := by decide +kernel
theorem dX9_behind_19 : decode cX9_behind 19 = .ok (.bipush (-2), 2) := by decide +kernel
theorem dX9_behind_21 : decode cX9_behind 21 = .ok (.ireturn, 1) := by decide +kernel
theorem dX9_behind_22 : decode cX9_behind 22 = .ok (.aload_n 0, 1) := by decide +kernel
theorem dX9_behind_23 : decode cX9_behind 23 = .ok (.invokevirtual 153, 3) := by decide +kernel
theorem dX9_behind_26 : decode cX9_behind 26 = .ok (.ifCond .ge 6, 3) := by decide +kernel
theorem dX9_behind_29 : decode cX9_behind 29 = .ok (.bipush (-5), 2) := by decide +kernel
theorem dX9_behind_31 : decode cX9_behind 31 = .ok (.ireturn, 1) := by decide +kernel
theorem dX9_behind_32 : decode cX9_behind 32 = .ok (.iload_n 2, 1) := by decide +kernel
theorem dX9_behind_33 : decode cX9_behind 33 = .ok (.ifCond .ne 12, 3) := by decide +kernel
theorem dX9_behind_36 : decode cX9_behind 36 = .ok (.aload_n 0, 1) := by decide +kernel
theorem dX9_behind_37 : decode cX9_behind 37 = .ok (.getfield 32, 3) := by decide +kernel
theorem dX9_behind_40 : decode cX9_behind 40 = .ok (.iload_n 1, 1) := by decide +kernel
theorem dX9_behind_41 : decode cX9_behind 41 = .ok (.iaload, 1) := by decide +kernel
theorem dX9_behind_42 : decode cX9_behind 42 = .ok (.goto 37, 3) := by decide +kernel
theorem dX9_behind_45 : decode cX9_behind 45 = .ok (.iload_n 2, 1) := by decide +kernel
theorem dX9_behind_46 : decode cX9_behind 46 = .ok (.iconst 1, 1) := by decide +kernel
theorem dX9_behind_47 : decode cX9_behind 47 = .ok (.if_icmp .ne 12, 3) := by decide +kernel
theorem dX9_behind_50 : decode cX9_behind 50 = .ok (.aload_n 0, 1) := by decide +kernel
theorem dX9_behind_51 : decode cX9_behind 51 = .ok (.getfield 41, 3) := by decide +kernel
theorem dX9_behind_54 : decode cX9_behind 54 = .ok (.iload_n 1, 1) := by decide +kernel
theorem dX9_behind_55 : decode cX9_behind 55 = .ok (.iaload, 1) := by decide +kernel
theorem dX9_behind_56 : decode cX9_behind 56 = .ok (.goto 23, 3) := by decide +kernel
theorem dX9_behind_59 : decode cX9_behind 59 = .ok (.iload_n 2, 1) := by decide +kernel
theorem dX9_behind_60 : decode cX9_behind 60 = .ok (.iconst 2, 1) := by decide +kernel
theorem dX9_behind_61 : decode cX9_behind 61 = .ok (.if_icmp .ne 12, 3) := by decide +kernel
theorem dX9_behind_64 : decode cX9_behind 64 = .ok (.aload_n 0, 1) := by decide +kernel
theorem dX9_behind_65 : decode cX9_behind 65 = .ok (.getfield 44, 3) := by decide +kernel
theorem dX9_behind_68 : decode cX9_behind 68 = .ok (.iload_n 1, 1) := by decide +kernel
theorem dX9_behind_69 : decode cX9_behind 69 = .ok (.iaload, 1) := by decide +kernel
theorem dX9_behind_70 : decode cX9_behind 70 = .ok (.goto 9, 3) := by decide +kernel
theorem dX9_behind_73 : decode cX9_behind 73 = .ok (.aload_n 0, 1) := by decide +kernel
theorem dX9_behind_74 : decode cX9_behind 74 = .ok (.getfield 38, 3) := by decide +kernel
theorem dX9_behind_77 : decode cX9_behind 77 = .ok (.iload_n 1, 1) := by decide +kernel
theorem dX9_behind_78 : decode cX9_behind 78 = .ok (.iaload, 1) := by decide +kernel
theorem dX9_behind_79 : decode cX9_behind 79 = .ok (.ireturn, 1) := by decide +kernel
set_option maxRecDepth 20000 in
theorem ggX9_starved_X9_has : GoodIn wsX9_starved wsX9_has := goodIn_r _ [6] (by decide +kernel) (by decide +kernel)
set_option maxRecDepth 20000 in
theorem gX9_starved_X9_has : GoodIn wsX9_starved (va_wsS RX9 76 yX9_has wsX9_has) := goodIn_app (goodIn_of _ (by decide +kernel)) ggX9_starved_X9_has
theorem dX9_starved_0 : decode cX9_starved 0 = .ok (.iconst 0, 1) := by decide +kernel
theorem dX9_starved_1 : decode cX9_starved 1 = .ok (.istore_n 1, 1) := by decide +kernel
theorem dX9_starved_2 : decode cX9_starved 2 = .ok (.iconst 0, 1) := by decide +kernel
theorem dX9_starved_3 : decode cX9_starved 3 = .ok (.istore_n 2, 1) := by decide +kernel
theorem dX9_starved_4 : decode cX9_starved 4 = .ok (.iload_n 2, 1) := by decide +kernel
theorem dX9_starved_5 : decode cX9_starved 5 = .ok (.bipush 6, 2) := by decide +kernel
theorem dX9_starved_7 : decode cX9_starved 7 = .ok (.if_icmp .ge 41, 3) := by decide +kernel
theorem dX9_starved_10 : decode cX9_starved 10 = .ok (.iload_n 1, 1) := by decide +kernel
theorem dX9_starved_11 : decode cX9_starved 11 = .ok (.aload_n 0, 1) := by decide +kernel
theorem dX9_starved_12 : decode cX9_starved 12 = .ok (.getfield 69, 3) := by decide +kernel
theorem dX9_starved_15 : decode cX9_starved 15 = .ok (.iload_n 2, 1) := by decide +kernel
theorem dX9_starved_16 : decode cX9_starved 16 = .ok (.invokestatic 76, 3) := by decide +kernel
theorem dX9_starved_19 : decode cX9_starved 19 = .ok (.ifCond .eq 20, 3) := by decide +kernel
theorem dX9_starved_22 : decode cX9_starved 22 = .ok (.aload_n 0, 1) := by decide +kernel
theorem dX9_starved_23 : decode cX9_starved 23 = .ok (.getfield 32, 3) := by decide +kernel
theorem dX9_starved_26 : decode cX9_starved 26 = .ok (.iload_n 2, 1) := by decide +kernel
theorem dX9_starved_27 : decode cX9_starved 27 = .ok (.iaload, 1) := by decide +kernel
theorem dX9_starved_28 : decode cX9_starved 28 = .ok (.bipush 20, 2) := by decide +kernel
theorem dX9_starved_30 : decode cX9_starved 30 = .ok (.if_icmp .ne 9, 3) := by decide +kernel
theorem dX9_starved_33 : decode cX9_starved 33 = .ok (.iconst 1, 1) := by decide +kernel
theorem dX9_starved_34 : decode cX9_starved 34 = .ok (.iload_n 2, 1) := by decide +kernel
theorem dX9_starved_35 : decode cX9_starved 35 = .ok (.ishl, 1) := by decide +kernel
theorem dX9_starved_36 : decode cX9_starved 36 = .ok (.goto 4, 3) := by decide +kernel
theorem dX9_starved_39 : decode cX9_starved 39 = .ok (.iconst 0, 1) := by decide +kernel
theorem dX9_starved_40 : decode cX9_starved 40 = .ok (.ior, 1) := by decide +kernel
theorem dX9_starved_41 : decode cX9_starved 41 = .ok (.istore_n 1, 1) := by decide +kernel
theorem dX9_starved_42 : decode cX9_starved 42 = .ok (.iinc 2 1, 3) := by decide +kernel
theorem dX9_starved_45 : decode cX9_starved 45 = .ok (.goto (-41), 3) := by decide +kernel
theorem dX9_starved_48 : decode cX9_starved 48 = .ok (.iload_n 1, 1) := by decide +kernel
theorem dX9_starved_49 : decode cX9_starved 49 = .ok (.ireturn, 1) := by decide +kernel
set_option maxRecDepth 20000 in
theorem ggX9_waste_X9_in : GoodIn wsX9_waste wsX9_in := goodIn_r _ [6] (by decide +kernel) (by decide +kernel)
set_option maxRecDepth 20000 in
theorem gX9_waste_X9_in : GoodIn wsX9_waste (va_wsS RX9 72 yX9_in wsX9_in) := goodIn_app (goodIn_of _ (by decide +kernel)) ggX9_waste_X9_in
set_option maxRecDepth 20000 in
theorem ggX9_waste_X9_barOfNight : GoodIn wsX9_waste wsX9_barOfNight := goodIn_r _ [10, 11, 12, 13, 5, 14, 15, 16, 3, 4, 6, 17, 18, 19, 20, 21, 1, 2, 22, 23, 24, 25, 26, 27, 28, 29, 30, 31, 32, 33, 34, 35, 36, 37, 38, 39, 40, 41, 42, 43, 44, 45, 46, 47, 48, 49, 50, 51, 52, 53, 54, 55, 56, 57, 58, 59, 60, 61, 62, 63, 64, 65, 66, 67, 68, 69, 70, 71, 72, 73, 74, 75, 76, 77, 78, 79, 80, 81, 82, 83, 84, 85, 86, 87, 88, 89, 90, 95, 96, 97, 98, 99, 100, 101, 102, 103, 104, 105, 106, 107, 108, 109, 110, 111, 112, 113, 114, 115, 116, 117, 118, 119, 120, 121] (by decide +kernel) (by decide +kernel)
set_option maxRecDepth 20000 in
theorem gX9_waste_X9_barOfNight : GoodIn wsX9_waste (wsV RX9 153 RX9 yX9_barOfNight wsX9_barOfNight) := goodIn_app (goodIn_of _ (by decide +kernel)) ggX9_waste_X9_barOfNight
set_option maxRecDepth 20000 in
theorem ggX9_waste_X9_starved : GoodIn wsX9_waste wsX9_starved := goodIn_r _ [94, 39, 28, 40, 41, 5, 42, 95, 96, 97, 98, 99, 100, 101, 102, 103, 104, 105, 106, 107, 108, 109, 110, 111, 112, 113, 114, 115, 116, 117, 118, 119, 120, 121] (by decide +kernel) (by decide +kernel)
set_option maxRecDepth 20000 in
theorem gX9_waste_X9_starved : GoodIn wsX9_waste (wsV RX9 156 RX9 yX9_starved wsX9_starved) := goodIn_app (goodIn_of _ (by decide +kernel)) ggX9_waste_X9_starved
theorem dX9_waste_0 : decode cX9_waste 0 = .ok (.iload_n 1, 1) := by decide +kernel
theorem dX9_waste_1 : decode cX9_waste 1 = .ok (.iconst 0, 1) := by decide +kernel
theorem dX9_waste_2 : decode cX9_waste 2 = .ok (.iconst 2, 1) := by decide +kernel
theorem dX9_waste_3 : decode cX9_waste 3 = .ok (.invokestatic 72, 3) := by decide +kernel
theorem dX9_waste_6 : decode cX9_waste 6 = .ok (.ifCond .ne 6, 3) := by decide +kernel
theorem dX9_waste_9 : decode cX9_waste 9 = .ok (.bipush (-2), 2) := by decide +kernel
theorem dX9_waste_11 : decode cX9_waste 11 = .ok (.ireturn, 1) := by decide +kernel
theorem dX9_waste_12 : decode cX9_waste 12 = .ok (.aload_n 0, 1) := by decide +kernel
theorem dX9_waste_13 : decode cX9_waste 13 = .ok (.invokevirtual 153, 3) := by decide +kernel
theorem dX9_waste_16 : decode cX9_waste 16 = .ok (.ifCond .ge 6, 3) := by decide +kernel
theorem dX9_waste_19 : decode cX9_waste 19 = .ok (.bipush (-5), 2) := by decide +kernel
theorem dX9_waste_21 : decode cX9_waste 21 = .ok (.ireturn, 1) := by decide +kernel
theorem dX9_waste_22 : decode cX9_waste 22 = .ok (.iload_n 1, 1) := by decide +kernel
theorem dX9_waste_23 : decode cX9_waste 23 = .ok (.ifCond .ne 10, 3) := by decide +kernel
theorem dX9_waste_26 : decode cX9_waste 26 = .ok (.aload_n 0, 1) := by decide +kernel
theorem dX9_waste_27 : decode cX9_waste 27 = .ok (.getfield 115, 3) := by decide +kernel
theorem dX9_waste_30 : decode cX9_waste 30 = .ok (.goto 19, 3) := by decide +kernel
theorem dX9_waste_33 : decode cX9_waste 33 = .ok (.iload_n 1, 1) := by decide +kernel
theorem dX9_waste_34 : decode cX9_waste 34 = .ok (.iconst 1, 1) := by decide +kernel
theorem dX9_waste_35 : decode cX9_waste 35 = .ok (.if_icmp .ne 10, 3) := by decide +kernel
theorem dX9_waste_38 : decode cX9_waste 38 = .ok (.aload_n 0, 1) := by decide +kernel
theorem dX9_waste_39 : decode cX9_waste 39 = .ok (.getfield 128, 3) := by decide +kernel
theorem dX9_waste_42 : decode cX9_waste 42 = .ok (.goto 7, 3) := by decide +kernel
theorem dX9_waste_45 : decode cX9_waste 45 = .ok (.aload_n 0, 1) := by decide +kernel
theorem dX9_waste_46 : decode cX9_waste 46 = .ok (.invokevirtual 156, 3) := by decide +kernel
theorem dX9_waste_49 : decode cX9_waste 49 = .ok (.ireturn, 1) := by decide +kernel
set_option maxRecDepth 20000 in
theorem ggX9_served_X9_in : GoodIn wsX9_served wsX9_in := goodIn_r _ [4] (by decide +kernel) (by decide +kernel)
set_option maxRecDepth 20000 in
theorem gX9_served_X9_in : GoodIn wsX9_served (va_wsS RX9 72 yX9_in wsX9_in) := goodIn_app (goodIn_of _ (by decide +kernel)) ggX9_served_X9_in
set_option maxRecDepth 20000 in
theorem ggX9_served_X9_asNow : GoodIn wsX9_served wsX9_asNow := goodIn_r _ [8, 9, 10, 11, 12, 13, 14, 15, 16, 42, 43, 44, 45, 46, 47, 48, 49, 50, 51, 52, 53, 54, 55, 56, 57, 58, 59, 60, 61, 62, 63, 64, 65, 66, 67, 68] (by decide +kernel) (by decide +kernel)
set_option maxRecDepth 20000 in
theorem gX9_served_X9_asNow : GoodIn wsX9_served (wsV RX9 122 RX9 yX9_asNow wsX9_asNow) := goodIn_app (goodIn_of _ (by decide +kernel)) ggX9_served_X9_asNow
set_option maxRecDepth 20000 in
theorem ggX9_served_X9_servedBy : GoodIn wsX9_served wsX9_servedBy := goodIn_r _ [20, 9, 21, 22, 23, 3, 24, 25, 13, 26, 27, 28, 29, 30, 31, 32, 33, 34, 35, 36, 37, 11, 38, 39, 40, 41, 42, 43, 44, 45, 46, 47, 48, 49, 50, 51, 52, 53, 54, 55, 56, 57, 58, 59, 60, 61, 62, 63, 64, 65, 66, 67, 68] (by decide +kernel) (by decide +kernel)
set_option maxRecDepth 20000 in
theorem gX9_served_X9_servedBy : GoodIn wsX9_served (wsV RX9 111 RX9 yX9_servedBy wsX9_servedBy) := goodIn_app (goodIn_of _ (by decide +kernel)) ggX9_served_X9_servedBy
theorem dX9_served_0 : decode cX9_served 0 = .ok (.iload_n 1, 1) := by decide +kernel
theorem dX9_served_1 : decode cX9_served 1 = .ok (.iconst 0, 1) := by decide +kernel
theorem dX9_served_2 : decode cX9_served 2 = .ok (.iconst 2, 1) := by decide +kernel
theorem dX9_served_3 : decode cX9_served 3 = .ok (.invokestatic 72, 3) := by decide +kernel
theorem dX9_served_6 : decode cX9_served 6 = .ok (.ifCond .ne 5, 3) := by decide +kernel
theorem dX9_served_9 : decode cX9_served 9 = .ok (.iconst (-1), 1) := by decide +kernel
theorem dX9_served_10 : decode cX9_served 10 = .ok (.ireturn, 1) := by decide +kernel
theorem dX9_served_11 : decode cX9_served 11 = .ok (.iload_n 2, 1) := by decide +kernel
theorem dX9_served_12 : decode cX9_served 12 = .ok (.iconst 1, 1) := by decide +kernel
theorem dX9_served_13 : decode cX9_served 13 = .ok (.bipush 9, 2) := by decide +kernel
theorem dX9_served_15 : decode cX9_served 15 = .ok (.invokestatic 72, 3) := by decide +kernel
theorem dX9_served_18 : decode cX9_served 18 = .ok (.ifCond .ne 6, 3) := by decide +kernel
theorem dX9_served_21 : decode cX9_served 21 = .ok (.bipush (-2), 2) := by decide +kernel
theorem dX9_served_23 : decode cX9_served 23 = .ok (.ireturn, 1) := by decide +kernel
theorem dX9_served_24 : decode cX9_served 24 = .ok (.aload_n 0, 1) := by decide +kernel
theorem dX9_served_25 : decode cX9_served 25 = .ok (.invokevirtual 122, 3) := by decide +kernel
theorem dX9_served_28 : decode cX9_served 28 = .ok (.aload_n 0, 1) := by decide +kernel
theorem dX9_served_29 : decode cX9_served 29 = .ok (.iload_n 1, 1) := by decide +kernel
theorem dX9_served_30 : decode cX9_served 30 = .ok (.iload_n 2, 1) := by decide +kernel
theorem dX9_served_31 : decode cX9_served 31 = .ok (.iconst 0, 1) := by decide +kernel
theorem dX9_served_32 : decode cX9_served 32 = .ok (.invokevirtual 111, 3) := by decide +kernel
theorem dX9_served_35 : decode cX9_served 35 = .ok (.ireturn, 1) := by decide +kernel
set_option maxRecDepth 20000 in
theorem ggX9_feign_X9_isThere : GoodIn wsX9_feign wsX9_isThere := goodIn_r _ [7, 8, 9, 10, 6, 11, 12, 13, 14, 46, 47, 48, 49, 50, 51, 52, 53, 54, 55, 56, 57, 58, 59, 60, 61, 62, 63, 64, 65, 66, 67, 68, 69, 70, 71, 72] (by decide +kernel) (by decide +kernel)
set_option maxRecDepth 20000 in
theorem gX9_feign_X9_isThere : GoodIn wsX9_feign (wsV RX9 84 RX9 yX9_isThere wsX9_isThere) := goodIn_app (goodIn_of _ (by decide +kernel)) ggX9_feign_X9_isThere
set_option maxRecDepth 20000 in
theorem ggX9_feign_X9_in : GoodIn wsX9_feign wsX9_in := goodIn_r _ [11] (by decide +kernel) (by decide +kernel)
set_option maxRecDepth 20000 in
theorem gX9_feign_X9_in : GoodIn wsX9_feign (va_wsS RX9 72 yX9_in wsX9_in) := goodIn_app (goodIn_of _ (by decide +kernel)) ggX9_feign_X9_in
set_option maxRecDepth 20000 in
theorem ggX9_feign_X9_asNow : GoodIn wsX9_feign wsX9_asNow := goodIn_r _ [18, 19, 20, 1, 21, 2, 22, 23, 24, 46, 47, 48, 49, 50, 51, 52, 53, 54, 55, 56, 57, 58, 59, 60, 61, 62, 63, 64, 65, 66, 67, 68, 69, 70, 71, 72] (by decide +kernel) (by decide +kernel)
set_option maxRecDepth 20000 in
theorem gX9_feign_X9_asNow : GoodIn wsX9_feign (wsV RX9 122 RX9 yX9_asNow wsX9_asNow) := goodIn_app (goodIn_of _ (by decide +kernel)) ggX9_feign_X9_asNow
set_option maxRecDepth 20000 in
theorem ggX9_feign_X9_servedBy : GoodIn wsX9_feign wsX9_servedBy := goodIn_r _ [28, 19, 29, 30, 31, 6, 32, 8, 2, 12, 13, 14, 33, 34, 35, 36, 37, 38, 39, 40, 41, 1, 42, 43, 44, 45, 46, 47, 48, 49, 50, 51, 52, 53, 54, 55, 56, 57, 58, 59, 60, 61, 62, 63, 64, 65, 66, 67, 68, 69, 70, 71, 72] (by decide +kernel) (by decide +kernel)
set_option maxRecDepth 20000 in
theorem gX9_feign_X9_servedBy : GoodIn wsX9_feign (wsV RX9 111 RX9 yX9_servedBy wsX9_servedBy) := goodIn_app (goodIn_of _ (by decide +kernel)) ggX9_feign_X9_servedBy
set_option maxRecDepth 20000 in
theorem ggX9_feign_X9_has : GoodIn wsX9_feign wsX9_has := goodIn_r _ [14] (by decide +kernel) (by decide +kernel)
set_option maxRecDepth 20000 in
theorem gX9_feign_X9_has : GoodIn wsX9_feign (va_wsS RX9 76 yX9_has wsX9_has) := goodIn_app (goodIn_of _ (by decide +kernel)) ggX9_feign_X9_has
theorem dX9_feign_0 : decode cX9_feign 0 = .ok (.aload_n 0, 1) := by decide +kernel
theorem dX9_feign_1 : decode cX9_feign 1 = .ok (.iload_n 1, 1) := by decide +kernel
theorem dX9_feign_2 : decode cX9_feign 2 = .ok (.invokevirtual 84, 3) := by decide +kernel
theorem dX9_feign_5 : decode cX9_feign 5 = .ok (.ifCond .ne 5, 3) := by decide +kernel
theorem dX9_feign_8 : decode cX9_feign 8 = .ok (.iconst (-1), 1) := by decide +kernel
theorem dX9_feign_9 : decode cX9_feign 9 = .ok (.ireturn, 1) := by decide +kernel
theorem dX9_feign_10 : decode cX9_feign 10 = .ok (.iload_n 2, 1) := by decide +kernel
theorem dX9_feign_11 : decode cX9_feign 11 = .ok (.iconst 1, 1) := by decide +kernel
theorem dX9_feign_12 : decode cX9_feign 12 = .ok (.bipush 9, 2) := by decide +kernel
theorem dX9_feign_14 : decode cX9_feign 14 = .ok (.invokestatic 72, 3) := by decide +kernel
theorem dX9_feign_17 : decode cX9_feign 17 = .ok (.ifCond .ne 6, 3) := by decide +kernel
theorem dX9_feign_20 : decode cX9_feign 20 = .ok (.bipush (-2), 2) := by decide +kernel
theorem dX9_feign_22 : decode cX9_feign 22 = .ok (.ireturn, 1) := by decide +kernel
theorem dX9_feign_23 : decode cX9_feign 23 = .ok (.iconst 0, 1) := by decide +kernel
theorem dX9_feign_24 : decode cX9_feign 24 = .ok (.istore_n 3, 1) := by decide +kernel
theorem dX9_feign_25 : decode cX9_feign 25 = .ok (.iload_n 3, 1) := by decide +kernel
theorem dX9_feign_26 : decode cX9_feign 26 = .ok (.bipush 10, 2) := by decide +kernel
theorem dX9_feign_28 : decode cX9_feign 28 = .ok (.if_icmp .ge 41, 3) := by decide +kernel
theorem dX9_feign_31 : decode cX9_feign 31 = .ok (.aload_n 0, 1) := by decide +kernel
theorem dX9_feign_32 : decode cX9_feign 32 = .ok (.invokevirtual 122, 3) := by decide +kernel
theorem dX9_feign_35 : decode cX9_feign 35 = .ok (.aload_n 0, 1) := by decide +kernel
theorem dX9_feign_36 : decode cX9_feign 36 = .ok (.getfield 35, 3) := by decide +kernel
theorem dX9_feign_39 : decode cX9_feign 39 = .ok (.iload_n 1, 1) := by decide +kernel
theorem dX9_feign_40 : decode cX9_feign 40 = .ok (.iload_n 3, 1) := by decide +kernel
theorem dX9_feign_41 : decode cX9_feign 41 = .ok (.iastore, 1) := by decide +kernel
theorem dX9_feign_42 : decode cX9_feign 42 = .ok (.aload_n 0, 1) := by decide +kernel
theorem dX9_feign_43 : decode cX9_feign 43 = .ok (.aload_n 0, 1) := by decide +kernel
theorem dX9_feign_44 : decode cX9_feign 44 = .ok (.getfield 38, 3) := by decide +kernel
theorem dX9_feign_47 : decode cX9_feign 47 = .ok (.iload_n 1, 1) := by decide +kernel
theorem dX9_feign_48 : decode cX9_feign 48 = .ok (.iaload, 1) := by decide +kernel
theorem dX9_feign_49 : decode cX9_feign 49 = .ok (.iload_n 2, 1) := by decide +kernel
theorem dX9_feign_50 : decode cX9_feign 50 = .ok (.iconst 0, 1) := by decide +kernel
theorem dX9_feign_51 : decode cX9_feign 51 = .ok (.invokevirtual 111, 3) := by decide +kernel
theorem dX9_feign_54 : decode cX9_feign 54 = .ok (.iload_n 1, 1) := by decide +kernel
theorem dX9_feign_55 : decode cX9_feign 55 = .ok (.invokestatic 76, 3) := by decide +kernel
theorem dX9_feign_58 : decode cX9_feign 58 = .ok (.ifCond .eq 5, 3) := by decide +kernel
theorem dX9_feign_61 : decode cX9_feign 61 = .ok (.iload_n 3, 1) := by decide +kernel
theorem dX9_feign_62 : decode cX9_feign 62 = .ok (.ireturn, 1) := by decide +kernel
theorem dX9_feign_63 : decode cX9_feign 63 = .ok (.iinc 3 1, 3) := by decide +kernel
theorem dX9_feign_66 : decode cX9_feign 66 = .ok (.goto (-41), 3) := by decide +kernel
theorem dX9_feign_69 : decode cX9_feign 69 = .ok (.bipush (-6), 2) := by decide +kernel
theorem dX9_feign_71 : decode cX9_feign 71 = .ok (.ireturn, 1) := by decide +kernel
set_option maxRecDepth 20000 in
theorem ggX9_gain_X9_servedBy : GoodIn wsX9_gain wsX9_servedBy := goodIn_r _ [8, 2, 9, 10, 11, 7, 12, 13, 1, 14, 15, 16, 17, 18, 19, 20, 21, 22, 23, 24, 25, 3, 26, 27, 28, 29, 30, 31, 32, 33, 34, 35, 36, 37, 38, 39, 40, 41, 42, 43, 44, 45, 46, 47, 48, 49, 50, 51, 52, 53, 54, 55, 56] (by decide +kernel) (by decide +kernel)
set_option maxRecDepth 20000 in
theorem gX9_gain_X9_servedBy : GoodIn wsX9_gain (wsV RX9 111 RX9 yX9_servedBy wsX9_servedBy) := goodIn_app (goodIn_of _ (by decide +kernel)) ggX9_gain_X9_servedBy
set_option maxRecDepth 20000 in
theorem ggX9_gain_X9_has : GoodIn wsX9_gain wsX9_has := goodIn_r _ [16] (by decide +kernel) (by decide +kernel)
set_option maxRecDepth 20000 in
theorem gX9_gain_X9_has : GoodIn wsX9_gain (va_wsS RX9 76 yX9_has wsX9_has) := goodIn_app (goodIn_of _ (by decide +kernel)) ggX9_gain_X9_has
theorem dX9_gain_0 : decode cX9_gain 0 = .ok (.aload_n 0, 1) := by decide +kernel
theorem dX9_gain_1 : decode cX9_gain 1 = .ok (.aload_n 0, 1) := by decide +kernel
theorem dX9_gain_2 : decode cX9_gain 2 = .ok (.getfield 38, 3) := by decide +kernel
theorem dX9_gain_5 : decode cX9_gain 5 = .ok (.iload_n 1, 1) := by decide +kernel
theorem dX9_gain_6 : decode cX9_gain 6 = .ok (.iaload, 1) := by decide +kernel
theorem dX9_gain_7 : decode cX9_gain 7 = .ok (.iload_n 2, 1) := by decide +kernel
theorem dX9_gain_8 : decode cX9_gain 8 = .ok (.iconst 0, 1) := by decide +kernel
theorem dX9_gain_9 : decode cX9_gain 9 = .ok (.invokevirtual 111, 3) := by decide +kernel
theorem dX9_gain_12 : decode cX9_gain 12 = .ok (.iload_n 1, 1) := by decide +kernel
theorem dX9_gain_13 : decode cX9_gain 13 = .ok (.invokestatic 76, 3) := by decide +kernel
theorem dX9_gain_16 : decode cX9_gain 16 = .ok (.ifCond .eq 26, 3) := by decide +kernel
theorem dX9_gain_19 : decode cX9_gain 19 = .ok (.aload_n 0, 1) := by decide +kernel
theorem dX9_gain_20 : decode cX9_gain 20 = .ok (.getfield 32, 3) := by decide +kernel
theorem dX9_gain_23 : decode cX9_gain 23 = .ok (.iload_n 1, 1) := by decide +kernel
theorem dX9_gain_24 : decode cX9_gain 24 = .ok (.iaload, 1) := by decide +kernel
theorem dX9_gain_25 : decode cX9_gain 25 = .ok (.iconst 2, 1) := by decide +kernel
theorem dX9_gain_26 : decode cX9_gain 26 = .ok (.if_icmp .ge 12, 3) := by decide +kernel
theorem dX9_gain_29 : decode cX9_gain 29 = .ok (.aload_n 0, 1) := by decide +kernel
theorem dX9_gain_30 : decode cX9_gain 30 = .ok (.getfield 32, 3) := by decide +kernel
theorem dX9_gain_33 : decode cX9_gain 33 = .ok (.iload_n 1, 1) := by decide +kernel
theorem dX9_gain_34 : decode cX9_gain 34 = .ok (.iaload, 1) := by decide +kernel
theorem dX9_gain_35 : decode cX9_gain 35 = .ok (.goto 8, 3) := by decide +kernel
theorem dX9_gain_38 : decode cX9_gain 38 = .ok (.iconst 2, 1) := by decide +kernel
theorem dX9_gain_39 : decode cX9_gain 39 = .ok (.goto 4, 3) := by decide +kernel
theorem dX9_gain_42 : decode cX9_gain 42 = .ok (.iconst 0, 1) := by decide +kernel
theorem dX9_gain_43 : decode cX9_gain 43 = .ok (.istore_n 3, 1) := by decide +kernel
theorem dX9_gain_44 : decode cX9_gain 44 = .ok (.iload_n 3, 1) := by decide +kernel
theorem dX9_gain_45 : decode cX9_gain 45 = .ok (.aload_n 0, 1) := by decide +kernel
theorem dX9_gain_46 : decode cX9_gain 46 = .ok (.getfield 35, 3) := by decide +kernel
theorem dX9_gain_49 : decode cX9_gain 49 = .ok (.iload_n 1, 1) := by decide +kernel
theorem dX9_gain_50 : decode cX9_gain 50 = .ok (.iaload, 1) := by decide +kernel
theorem dX9_gain_51 : decode cX9_gain 51 = .ok (.iconst 3, 1) := by decide +kernel
theorem dX9_gain_52 : decode cX9_gain 52 = .ok (.idiv, 1) := by decide +kernel
theorem dX9_gain_53 : decode cX9_gain 53 = .ok (.isub, 1) := by decide +kernel
theorem dX9_gain_54 : decode cX9_gain 54 = .ok (.ireturn, 1) := by decide +kernel
set_option maxRecDepth 20000 in
theorem ggX9_rests_X9_in : GoodIn wsX9_rests wsX9_in := goodIn_r _ [5] (by decide +kernel) (by decide +kernel)
set_option maxRecDepth 20000 in
theorem gX9_rests_X9_in : GoodIn wsX9_rests (va_wsS RX9 72 yX9_in wsX9_in) := goodIn_app (goodIn_of _ (by decide +kernel)) ggX9_rests_X9_in
set_option maxRecDepth 20000 in
theorem ggX9_rests_X9_asNow : GoodIn wsX9_rests wsX9_asNow := goodIn_r _ [9, 10, 11, 1, 12, 13, 14, 15, 16, 53, 54, 55, 56, 57, 58, 59, 60, 61, 62, 63, 64, 65, 66, 67, 68, 69, 70, 71, 72, 73, 74, 75, 76, 77, 78, 79] (by decide +kernel) (by decide +kernel)
set_option maxRecDepth 20000 in
theorem gX9_rests_X9_asNow : GoodIn wsX9_rests (wsV RX9 122 RX9 yX9_asNow wsX9_asNow) := goodIn_app (goodIn_of _ (by decide +kernel)) ggX9_rests_X9_asNow
set_option maxRecDepth 20000 in
theorem ggX9_rests_X9_inHouse : GoodIn wsX9_rests wsX9_inHouse := goodIn_r _ [20, 21, 22, 23, 4, 24, 25, 13, 26, 27, 28, 53, 54, 55, 56, 57, 58, 59, 60, 61, 62, 63, 64, 65, 66, 67, 68, 69, 70, 71, 72, 73, 74, 75, 76, 77, 78, 79] (by decide +kernel) (by decide +kernel)
set_option maxRecDepth 20000 in
theorem gX9_rests_X9_inHouse : GoodIn wsX9_rests (wsV RX9 137 RX9 yX9_inHouse wsX9_inHouse) := goodIn_app (goodIn_of _ (by decide +kernel)) ggX9_rests_X9_inHouse
set_option maxRecDepth 20000 in
theorem ggX9_rests_X9_bits : GoodIn wsX9_rests wsX9_bits := goodIn_r _ [31] (by decide +kernel) (by decide +kernel)
set_option maxRecDepth 20000 in
theorem gX9_rests_X9_bits : GoodIn wsX9_rests (va_wsS RX9 80 yX9_bits wsX9_bits) := goodIn_app (goodIn_of _ (by decide +kernel)) ggX9_rests_X9_bits
set_option maxRecDepth 20000 in
theorem ggX9_rests_X9_has : GoodIn wsX9_rests wsX9_has := goodIn_r _ [28] (by decide +kernel) (by decide +kernel)
set_option maxRecDepth 20000 in
theorem gX9_rests_X9_has : GoodIn wsX9_rests (va_wsS RX9 76 yX9_has wsX9_has) := goodIn_app (goodIn_of _ (by decide +kernel)) ggX9_rests_X9_has
set_option maxRecDepth 20000 in
theorem ggX9_rests_X9_gain : GoodIn wsX9_rests wsX9_gain := goodIn_r _ [35, 13, 10, 1, 36, 37, 38, 4, 39, 21, 22, 23, 24, 25, 26, 27, 28, 40, 41, 42, 43, 44, 45, 46, 47, 48, 49, 50, 51, 52, 53, 54, 55, 56, 57, 58, 59, 60, 61, 62, 63, 64, 65, 66, 67, 68, 69, 70, 71, 72, 73, 74, 75, 76, 77, 78, 79] (by decide +kernel) (by decide +kernel)
set_option maxRecDepth 20000 in
theorem gX9_rests_X9_gain : GoodIn wsX9_rests (wsV RX9 159 RX9 yX9_gain wsX9_gain) := goodIn_app (goodIn_of _ (by decide +kernel)) ggX9_rests_X9_gain
theorem dX9_rests_0 : decode cX9_rests 0 = .ok (.iload_n 1, 1) := by decide +kernel
theorem dX9_rests_1 : decode cX9_rests 1 = .ok (.iconst 0, 1) := by decide +kernel
theorem dX9_rests_2 : decode cX9_rests 2 = .ok (.iconst 2, 1) := by decide +kernel
theorem dX9_rests_3 : decode cX9_rests 3 = .ok (.invokestatic 72, 3) := by decide +kernel
theorem dX9_rests_6 : decode cX9_rests 6 = .ok (.ifCond .ne 5, 3) := by decide +kernel
theorem dX9_rests_9 : decode cX9_rests 9 = .ok (.iconst (-1), 1) := by decide +kernel
theorem dX9_rests_10 : decode cX9_rests 10 = .ok (.ireturn, 1) := by decide +kernel
theorem dX9_rests_11 : decode cX9_rests 11 = .ok (.iload_n 2, 1) := by decide +kernel
theorem dX9_rests_12 : decode cX9_rests 12 = .ok (.iconst 1, 1) := by decide +kernel
theorem dX9_rests_13 : decode cX9_rests 13 = .ok (.bipush 9, 2) := by decide +kernel
theorem dX9_rests_15 : decode cX9_rests 15 = .ok (.invokestatic 72, 3) := by decide +kernel
theorem dX9_rests_18 : decode cX9_rests 18 = .ok (.ifCond .ne 6, 3) := by decide +kernel
theorem dX9_rests_21 : decode cX9_rests 21 = .ok (.bipush (-2), 2) := by decide +kernel
theorem dX9_rests_23 : decode cX9_rests 23 = .ok (.ireturn, 1) := by decide +kernel
theorem dX9_rests_24 : decode cX9_rests 24 = .ok (.aload_n 0, 1) := by decide +kernel
theorem dX9_rests_25 : decode cX9_rests 25 = .ok (.invokevirtual 122, 3) := by decide +kernel
theorem dX9_rests_28 : decode cX9_rests 28 = .ok (.aload_n 0, 1) := by decide +kernel
theorem dX9_rests_29 : decode cX9_rests 29 = .ok (.iload_n 1, 1) := by decide +kernel
theorem dX9_rests_30 : decode cX9_rests 30 = .ok (.invokevirtual 137, 3) := by decide +kernel
theorem dX9_rests_33 : decode cX9_rests 33 = .ok (.istore 4, 2) := by decide +kernel
theorem dX9_rests_35 : decode cX9_rests 35 = .ok (.iload 4, 2) := by decide +kernel
theorem dX9_rests_37 : decode cX9_rests 37 = .ok (.invokestatic 80, 3) := by decide +kernel
theorem dX9_rests_40 : decode cX9_rests 40 = .ok (.istore 5, 2) := by decide +kernel
theorem dX9_rests_42 : decode cX9_rests 42 = .ok (.iload 5, 2) := by decide +kernel
theorem dX9_rests_44 : decode cX9_rests 44 = .ok (.iconst 4, 1) := by decide +kernel
theorem dX9_rests_45 : decode cX9_rests 45 = .ok (.if_icmp .le 6, 3) := by decide +kernel
theorem dX9_rests_48 : decode cX9_rests 48 = .ok (.bipush (-4), 2) := by decide +kernel
theorem dX9_rests_50 : decode cX9_rests 50 = .ok (.ireturn, 1) := by decide +kernel
theorem dX9_rests_51 : decode cX9_rests 51 = .ok (.iconst 1, 1) := by decide +kernel
theorem dX9_rests_52 : decode cX9_rests 52 = .ok (.istore 6, 2) := by decide +kernel
theorem dX9_rests_54 : decode cX9_rests 54 = .ok (.iconst 0, 1) := by decide +kernel
theorem dX9_rests_55 : decode cX9_rests 55 = .ok (.istore 7, 2) := by decide +kernel
theorem dX9_rests_57 : decode cX9_rests 57 = .ok (.iload 7, 2) := by decide +kernel
theorem dX9_rests_59 : decode cX9_rests 59 = .ok (.iload 5, 2) := by decide +kernel
theorem dX9_rests_61 : decode cX9_rests 61 = .ok (.if_icmp .ge 15, 3) := by decide +kernel
theorem dX9_rests_64 : decode cX9_rests 64 = .ok (.iload 6, 2) := by decide +kernel
theorem dX9_rests_66 : decode cX9_rests 66 = .ok (.iconst 3, 1) := by decide +kernel
theorem dX9_rests_67 : decode cX9_rests 67 = .ok (.imul, 1) := by decide +kernel
theorem dX9_rests_68 : decode cX9_rests 68 = .ok (.istore 6, 2) := by decide +kernel
theorem dX9_rests_70 : decode cX9_rests 70 = .ok (.iinc 7 1, 3) := by decide +kernel
theorem dX9_rests_73 : decode cX9_rests 73 = .ok (.goto (-16), 3) := by decide +kernel
theorem dX9_rests_76 : decode cX9_rests 76 = .ok (.iconst 0, 1) := by decide +kernel
theorem dX9_rests_77 : decode cX9_rests 77 = .ok (.istore 7, 2) := by decide +kernel
theorem dX9_rests_79 : decode cX9_rests 79 = .ok (.iconst 0, 1) := by decide +kernel
theorem dX9_rests_80 : decode cX9_rests 80 = .ok (.istore 8, 2) := by decide +kernel
theorem dX9_rests_82 : decode cX9_rests 82 = .ok (.iload 8, 2) := by decide +kernel
theorem dX9_rests_84 : decode cX9_rests 84 = .ok (.iload 6, 2) := by decide +kernel
theorem dX9_rests_86 : decode cX9_rests 86 = .ok (.if_icmp .ge 201, 3) := by decide +kernel
theorem dX9_rests_89 : decode cX9_rests 89 = .ok (.iload 6, 2) := by decide +kernel
theorem dX9_rests_91 : decode cX9_rests 91 = .ok (.istore 9, 2) := by decide +kernel
theorem dX9_rests_93 : decode cX9_rests 93 = .ok (.iconst 0, 1) := by decide +kernel
theorem dX9_rests_94 : decode cX9_rests 94 = .ok (.istore 10, 2) := by decide +kernel
theorem dX9_rests_96 : decode cX9_rests 96 = .ok (.iconst 0, 1) := by decide +kernel
theorem dX9_rests_97 : decode cX9_rests 97 = .ok (.istore 11, 2) := by decide +kernel
theorem dX9_rests_99 : decode cX9_rests 99 = .ok (.iload 11, 2) := by decide +kernel
theorem dX9_rests_101 : decode cX9_rests 101 = .ok (.bipush 6, 2) := by decide +kernel
theorem dX9_rests_103 : decode cX9_rests 103 = .ok (.if_icmp .ge 56, 3) := by decide +kernel
theorem dX9_rests_106 : decode cX9_rests 106 = .ok (.iload 4, 2) := by decide +kernel
theorem dX9_rests_108 : decode cX9_rests 108 = .ok (.iload 11, 2) := by decide +kernel
theorem dX9_rests_110 : decode cX9_rests 110 = .ok (.invokestatic 76, 3) := by decide +kernel
theorem dX9_rests_113 : decode cX9_rests 113 = .ok (.ifCond .eq 40, 3) := by decide +kernel
theorem dX9_rests_116 : decode cX9_rests 116 = .ok (.iload 9, 2) := by decide +kernel
theorem dX9_rests_118 : decode cX9_rests 118 = .ok (.iconst 3, 1) := by decide +kernel
theorem dX9_rests_119 : decode cX9_rests 119 = .ok (.idiv, 1) := by decide +kernel
theorem dX9_rests_120 : decode cX9_rests 120 = .ok (.istore 9, 2) := by decide +kernel
theorem dX9_rests_122 : decode cX9_rests 122 = .ok (.aload_n 0, 1) := by decide +kernel
theorem dX9_rests_123 : decode cX9_rests 123 = .ok (.getfield 35, 3) := by decide +kernel
theorem dX9_rests_126 : decode cX9_rests 126 = .ok (.iload 11, 2) := by decide +kernel
theorem dX9_rests_128 : decode cX9_rests 128 = .ok (.iconst 3, 1) := by decide +kernel
theorem dX9_rests_129 : decode cX9_rests 129 = .ok (.iload 8, 2) := by decide +kernel
theorem dX9_rests_131 : decode cX9_rests 131 = .ok (.iload 9, 2) := by decide +kernel
theorem dX9_rests_133 : decode cX9_rests 133 = .ok (.idiv, 1) := by decide +kernel
theorem dX9_rests_134 : decode cX9_rests 134 = .ok (.iconst 3, 1) := by decide +kernel
theorem dX9_rests_135 : decode cX9_rests 135 = .ok (.irem, 1) := by decide +kernel
theorem dX9_rests_136 : decode cX9_rests 136 = .ok (.imul, 1) := by decide +kernel
theorem dX9_rests_137 : decode cX9_rests 137 = .ok (.iastore, 1) := by decide +kernel
theorem dX9_rests_138 : decode cX9_rests 138 = .ok (.bipush 10, 2) := by decide +kernel
theorem dX9_rests_140 : decode cX9_rests 140 = .ok (.iload 10, 2) := by decide +kernel
theorem dX9_rests_142 : decode cX9_rests 142 = .ok (.imul, 1) := by decide +kernel
theorem dX9_rests_143 : decode cX9_rests 143 = .ok (.aload_n 0, 1) := by decide +kernel
theorem dX9_rests_144 : decode cX9_rests 144 = .ok (.getfield 35, 3) := by decide +kernel
theorem dX9_rests_147 : decode cX9_rests 147 = .ok (.iload 11, 2) := by decide +kernel
theorem dX9_rests_149 : decode cX9_rests 149 = .ok (.iaload, 1) := by decide +kernel
theorem dX9_rests_150 : decode cX9_rests 150 = .ok (.iadd, 1) := by decide +kernel
theorem dX9_rests_151 : decode cX9_rests 151 = .ok (.istore 10, 2) := by decide +kernel
theorem dX9_rests_153 : decode cX9_rests 153 = .ok (.iinc 11 1, 3) := by decide +kernel
theorem dX9_rests_156 : decode cX9_rests 156 = .ok (.goto (-57), 3) := by decide +kernel
theorem dX9_rests_159 : decode cX9_rests 159 = .ok (.iconst 1, 1) := by decide +kernel
theorem dX9_rests_160 : decode cX9_rests 160 = .ok (.istore 11, 2) := by decide +kernel
theorem dX9_rests_162 : decode cX9_rests 162 = .ok (.iconst 0, 1) := by decide +kernel
theorem dX9_rests_163 : decode cX9_rests 163 = .ok (.istore 12, 2) := by decide +kernel
theorem dX9_rests_165 : decode cX9_rests 165 = .ok (.iload 12, 2) := by decide +kernel
theorem dX9_rests_167 : decode cX9_rests 167 = .ok (.bipush 6, 2) := by decide +kernel
theorem dX9_rests_169 : decode cX9_rests 169 = .ok (.if_icmp .ge 95, 3) := by decide +kernel
theorem dX9_rests_172 : decode cX9_rests 172 = .ok (.iload 4, 2) := by decide +kernel
theorem dX9_rests_174 : decode cX9_rests 174 = .ok (.iload 12, 2) := by decide +kernel
theorem dX9_rests_176 : decode cX9_rests 176 = .ok (.invokestatic 76, 3) := by decide +kernel
theorem dX9_rests_179 : decode cX9_rests 179 = .ok (.ifCond .eq 79, 3) := by decide +kernel
theorem dX9_rests_182 : decode cX9_rests 182 = .ok (.aload_n 0, 1) := by decide +kernel
theorem dX9_rests_183 : decode cX9_rests 183 = .ok (.getfield 35, 3) := by decide +kernel
theorem dX9_rests_186 : decode cX9_rests 186 = .ok (.iload 12, 2) := by decide +kernel
theorem dX9_rests_188 : decode cX9_rests 188 = .ok (.iaload, 1) := by decide +kernel
theorem dX9_rests_189 : decode cX9_rests 189 = .ok (.istore 13, 2) := by decide +kernel
theorem dX9_rests_191 : decode cX9_rests 191 = .ok (.aload_n 0, 1) := by decide +kernel
theorem dX9_rests_192 : decode cX9_rests 192 = .ok (.iload 12, 2) := by decide +kernel
theorem dX9_rests_194 : decode cX9_rests 194 = .ok (.iload_n 2, 1) := by decide +kernel
theorem dX9_rests_195 : decode cX9_rests 195 = .ok (.invokevirtual 159, 3) := by decide +kernel
theorem dX9_rests_198 : decode cX9_rests 198 = .ok (.istore 14, 2) := by decide +kernel
theorem dX9_rests_200 : decode cX9_rests 200 = .ok (.iconst 0, 1) := by decide +kernel
theorem dX9_rests_201 : decode cX9_rests 201 = .ok (.istore 15, 2) := by decide +kernel
theorem dX9_rests_203 : decode cX9_rests 203 = .ok (.iload 15, 2) := by decide +kernel
theorem dX9_rests_205 : decode cX9_rests 205 = .ok (.bipush 9, 2) := by decide +kernel
theorem dX9_rests_207 : decode cX9_rests 207 = .ok (.if_icmp .ge 42, 3) := by decide +kernel
theorem dX9_rests_210 : decode cX9_rests 210 = .ok (.aload_n 0, 1) := by decide +kernel
theorem dX9_rests_211 : decode cX9_rests 211 = .ok (.getfield 35, 3) := by decide +kernel
theorem dX9_rests_214 : decode cX9_rests 214 = .ok (.iload 12, 2) := by decide +kernel
theorem dX9_rests_216 : decode cX9_rests 216 = .ok (.iload 15, 2) := by decide +kernel
theorem dX9_rests_218 : decode cX9_rests 218 = .ok (.iastore, 1) := by decide +kernel
theorem dX9_rests_219 : decode cX9_rests 219 = .ok (.iload 11, 2) := by decide +kernel
theorem dX9_rests_221 : decode cX9_rests 221 = .ok (.ifCond .eq 19, 3) := by decide +kernel
theorem dX9_rests_224 : decode cX9_rests 224 = .ok (.aload_n 0, 1) := by decide +kernel
theorem dX9_rests_225 : decode cX9_rests 225 = .ok (.iload 12, 2) := by decide +kernel
theorem dX9_rests_227 : decode cX9_rests 227 = .ok (.iload_n 2, 1) := by decide +kernel
theorem dX9_rests_228 : decode cX9_rests 228 = .ok (.invokevirtual 159, 3) := by decide +kernel
theorem dX9_rests_231 : decode cX9_rests 231 = .ok (.iload 14, 2) := by decide +kernel
theorem dX9_rests_233 : decode cX9_rests 233 = .ok (.if_icmp .gt 7, 3) := by decide +kernel
theorem dX9_rests_236 : decode cX9_rests 236 = .ok (.iconst 1, 1) := by decide +kernel
theorem dX9_rests_237 : decode cX9_rests 237 = .ok (.goto 4, 3) := by decide +kernel
theorem dX9_rests_240 : decode cX9_rests 240 = .ok (.iconst 0, 1) := by decide +kernel
theorem dX9_rests_241 : decode cX9_rests 241 = .ok (.istore 11, 2) := by decide +kernel
theorem dX9_rests_243 : decode cX9_rests 243 = .ok (.iinc 15 3, 3) := by decide +kernel
theorem dX9_rests_246 : decode cX9_rests 246 = .ok (.goto (-43), 3) := by decide +kernel
theorem dX9_rests_249 : decode cX9_rests 249 = .ok (.aload_n 0, 1) := by decide +kernel
theorem dX9_rests_250 : decode cX9_rests 250 = .ok (.getfield 35, 3) := by decide +kernel
theorem dX9_rests_253 : decode cX9_rests 253 = .ok (.iload 12, 2) := by decide +kernel
theorem dX9_rests_255 : decode cX9_rests 255 = .ok (.iload 13, 2) := by decide +kernel
theorem dX9_rests_257 : decode cX9_rests 257 = .ok (.iastore, 1) := by decide +kernel
theorem dX9_rests_258 : decode cX9_rests 258 = .ok (.iinc 12 1, 3) := by decide +kernel
theorem dX9_rests_261 : decode cX9_rests 261 = .ok (.goto (-96), 3) := by decide +kernel
theorem dX9_rests_264 : decode cX9_rests 264 = .ok (.iload 11, 2) := by decide +kernel
theorem dX9_rests_266 : decode cX9_rests 266 = .ok (.ifCond .eq 15, 3) := by decide +kernel
