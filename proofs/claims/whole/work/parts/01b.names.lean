set_option maxRecDepth 20000 in
theorem ggX0_init_X1_init : GoodIn wsX0_init wsX1_init := goodIn_r _ [13, 14, 2, 3, 8, 15, 16, 17, 18, 19, 20, 21, 22, 23, 24, 25] (by decide +kernel) (by decide +kernel)
set_option maxRecDepth 20000 in
theorem gX0_init_X1_init_n11 : GoodIn wsX0_init (wsX1_init) := ggX0_init_X1_init
theorem dX0_init_0 : decode cX0_init 0 = .ok (.aload_n 0, 1) := by decide +kernel
theorem dX0_init_1 : decode cX0_init 1 = .ok (.invokespecial 3, 3) := by decide +kernel
theorem dX0_init_4 : decode cX0_init 4 = .ok (.aload_n 0, 1) := by decide +kernel
theorem dX0_init_5 : decode cX0_init 5 = .ok (.new 9, 3) := by decide +kernel
theorem dX0_init_8 : decode cX0_init 8 = .ok (.dup, 1) := by decide +kernel
theorem dX0_init_9 : decode cX0_init 9 = .ok (.invokespecial 11, 3) := by decide +kernel
theorem dX0_init_12 : decode cX0_init 12 = .ok (.putfield 12, 3) := by decide +kernel
theorem dX0_init_15 : decode cX0_init 15 = .ok (.aload_n 0, 1) := by decide +kernel
theorem dX0_init_16 : decode cX0_init 16 = .ok (.bipush 6, 2) := by decide +kernel
theorem dX0_init_18 : decode cX0_init 18 = .ok (.newarray .int, 2) := by decide +kernel
theorem dX0_init_20 : decode cX0_init 20 = .ok (.putfield 18, 3) := by decide +kernel
theorem dX0_init_23 : decode cX0_init 23 = .ok (.aload_n 0, 1) := by decide +kernel
theorem dX0_init_24 : decode cX0_init 24 = .ok (.bipush 8, 2) := by decide +kernel
theorem dX0_init_26 : decode cX0_init 26 = .ok (.newarray .int, 2) := by decide +kernel
theorem dX0_init_28 : decode cX0_init 28 = .ok (.putfield 22, 3) := by decide +kernel
theorem dX0_init_31 : decode cX0_init 31 = .ok (.aload_n 0, 1) := by decide +kernel
theorem dX0_init_32 : decode cX0_init 32 = .ok (.bipush 8, 2) := by decide +kernel
theorem dX0_init_34 : decode cX0_init 34 = .ok (.newarray .int, 2) := by decide +kernel
theorem dX0_init_36 : decode cX0_init 36 = .ok (.putfield 25, 3) := by decide +kernel
theorem dX0_init_39 : decode cX0_init 39 = .ok (.return_, 1) := by decide +kernel
set_option maxRecDepth 20000 in
theorem ggX0_become_X1_become : GoodIn wsX0_become wsX1_become := goodIn_r _ [10, 11, 12, 13, 14, 15, 16, 17, 18, 19, 20, 21, 22, 23, 24, 25, 26, 33, 34, 35, 36, 37, 38] (by decide +kernel) (by decide +kernel)
set_option maxRecDepth 20000 in
theorem gX0_become_X1_become : GoodIn wsX0_become (wsV RX0 28 RX1 yX1_become wsX1_become) := goodIn_app (goodIn_of _ (by decide +kernel)) ggX0_become_X1_become
set_option maxRecDepth 20000 in
theorem ggX0_become_X8_copyRow : GoodIn wsX0_become wsX8_copyRow := goodIn_r _ [18, 19, 20, 21, 22, 23, 24, 25, 26] (by decide +kernel) (by decide +kernel)
set_option maxRecDepth 20000 in
theorem gX0_become_X8_copyRow_n32 : GoodIn wsX0_become (wsX8_copyRow) := ggX0_become_X8_copyRow
theorem dX0_become_0 : decode cX0_become 0 = .ok (.aload_n 0, 1) := by decide +kernel
theorem dX0_become_1 : decode cX0_become 1 = .ok (.getfield 12, 3) := by decide +kernel
theorem dX0_become_4 : decode cX0_become 4 = .ok (.aload_n 1, 1) := by decide +kernel
theorem dX0_become_5 : decode cX0_become 5 = .ok (.getfield 12, 3) := by decide +kernel
theorem dX0_become_8 : decode cX0_become 8 = .ok (.invokevirtual 28, 3) := by decide +kernel
theorem dX0_become_11 : decode cX0_become 11 = .ok (.aload_n 1, 1) := by decide +kernel
theorem dX0_become_12 : decode cX0_become 12 = .ok (.getfield 18, 3) := by decide +kernel
theorem dX0_become_15 : decode cX0_become 15 = .ok (.aload_n 0, 1) := by decide +kernel
theorem dX0_become_16 : decode cX0_become 16 = .ok (.getfield 18, 3) := by decide +kernel
theorem dX0_become_19 : decode cX0_become 19 = .ok (.invokestatic 32, 3) := by decide +kernel
theorem dX0_become_22 : decode cX0_become 22 = .ok (.aload_n 1, 1) := by decide +kernel
theorem dX0_become_23 : decode cX0_become 23 = .ok (.getfield 22, 3) := by decide +kernel
theorem dX0_become_26 : decode cX0_become 26 = .ok (.aload_n 0, 1) := by decide +kernel
theorem dX0_become_27 : decode cX0_become 27 = .ok (.getfield 22, 3) := by decide +kernel
theorem dX0_become_30 : decode cX0_become 30 = .ok (.invokestatic 32, 3) := by decide +kernel
theorem dX0_become_33 : decode cX0_become 33 = .ok (.aload_n 1, 1) := by decide +kernel
theorem dX0_become_34 : decode cX0_become 34 = .ok (.getfield 25, 3) := by decide +kernel
theorem dX0_become_37 : decode cX0_become 37 = .ok (.aload_n 0, 1) := by decide +kernel
theorem dX0_become_38 : decode cX0_become 38 = .ok (.getfield 25, 3) := by decide +kernel
theorem dX0_become_41 : decode cX0_become 41 = .ok (.invokestatic 32, 3) := by decide +kernel
theorem dX0_become_44 : decode cX0_become 44 = .ok (.aload_n 0, 1) := by decide +kernel
theorem dX0_become_45 : decode cX0_become 45 = .ok (.aload_n 1, 1) := by decide +kernel
theorem dX0_become_46 : decode cX0_become 46 = .ok (.getfield 36, 3) := by decide +kernel
theorem dX0_become_49 : decode cX0_become 49 = .ok (.putfield 36, 3) := by decide +kernel
theorem dX0_become_52 : decode cX0_become 52 = .ok (.return_, 1) := by decide +kernel
set_option maxRecDepth 20000 in
theorem ggX0_setFeud_X8_at : GoodIn wsX0_setFeud wsX8_at := goodIn_r _ [4] (by decide +kernel) (by decide +kernel)
set_option maxRecDepth 20000 in
theorem gX0_setFeud_X8_at_n40 : GoodIn wsX0_setFeud (wsX8_at) := ggX0_setFeud_X8_at
set_option maxRecDepth 20000 in
theorem ggX0_setFeud_X8_put : GoodIn wsX0_setFeud wsX8_put := goodIn_r _ [6] (by decide +kernel) (by decide +kernel)
set_option maxRecDepth 20000 in
theorem gX0_setFeud_X8_put_n44 : GoodIn wsX0_setFeud (wsX8_put) := ggX0_setFeud_X8_put
theorem dX0_setFeud_0 : decode cX0_setFeud 0 = .ok (.aload_n 0, 1) := by decide +kernel
theorem dX0_setFeud_1 : decode cX0_setFeud 1 = .ok (.getfield 18, 3) := by decide +kernel
theorem dX0_setFeud_4 : decode cX0_setFeud 4 = .ok (.iload_n 1, 1) := by decide +kernel
theorem dX0_setFeud_5 : decode cX0_setFeud 5 = .ok (.invokestatic 40, 3) := by decide +kernel
theorem dX0_setFeud_8 : decode cX0_setFeud 8 = .ok (.iconst 1, 1) := by decide +kernel
theorem dX0_setFeud_9 : decode cX0_setFeud 9 = .ok (.iload_n 2, 1) := by decide +kernel
theorem dX0_setFeud_10 : decode cX0_setFeud 10 = .ok (.ishl, 1) := by decide +kernel
theorem dX0_setFeud_11 : decode cX0_setFeud 11 = .ok (.iconst (-1), 1) := by decide +kernel
theorem dX0_setFeud_12 : decode cX0_setFeud 12 = .ok (.ixor, 1) := by decide +kernel
theorem dX0_setFeud_13 : decode cX0_setFeud 13 = .ok (.iand, 1) := by decide +kernel
theorem dX0_setFeud_14 : decode cX0_setFeud 14 = .ok (.istore 4, 2) := by decide +kernel
theorem dX0_setFeud_16 : decode cX0_setFeud 16 = .ok (.aload_n 0, 1) := by decide +kernel
theorem dX0_setFeud_17 : decode cX0_setFeud 17 = .ok (.getfield 18, 3) := by decide +kernel
theorem dX0_setFeud_20 : decode cX0_setFeud 20 = .ok (.iload_n 2, 1) := by decide +kernel
theorem dX0_setFeud_21 : decode cX0_setFeud 21 = .ok (.invokestatic 40, 3) := by decide +kernel
theorem dX0_setFeud_24 : decode cX0_setFeud 24 = .ok (.iconst 1, 1) := by decide +kernel
theorem dX0_setFeud_25 : decode cX0_setFeud 25 = .ok (.iload_n 1, 1) := by decide +kernel
theorem dX0_setFeud_26 : decode cX0_setFeud 26 = .ok (.ishl, 1) := by decide +kernel
theorem dX0_setFeud_27 : decode cX0_setFeud 27 = .ok (.iconst (-1), 1) := by decide +kernel
theorem dX0_setFeud_28 : decode cX0_setFeud 28 = .ok (.ixor, 1) := by decide +kernel
theorem dX0_setFeud_29 : decode cX0_setFeud 29 = .ok (.iand, 1) := by decide +kernel
theorem dX0_setFeud_30 : decode cX0_setFeud 30 = .ok (.istore 5, 2) := by decide +kernel
theorem dX0_setFeud_32 : decode cX0_setFeud 32 = .ok (.aload_n 0, 1) := by decide +kernel
theorem dX0_setFeud_33 : decode cX0_setFeud 33 = .ok (.getfield 18, 3) := by decide +kernel
theorem dX0_setFeud_36 : decode cX0_setFeud 36 = .ok (.iload_n 1, 1) := by decide +kernel
theorem dX0_setFeud_37 : decode cX0_setFeud 37 = .ok (.iload_n 3, 1) := by decide +kernel
theorem dX0_setFeud_38 : decode cX0_setFeud 38 = .ok (.ifCond .eq 12, 3) := by decide +kernel
theorem dX0_setFeud_41 : decode cX0_setFeud 41 = .ok (.iload 4, 2) := by decide +kernel
theorem dX0_setFeud_43 : decode cX0_setFeud 43 = .ok (.iconst 1, 1) := by decide +kernel
theorem dX0_setFeud_44 : decode cX0_setFeud 44 = .ok (.iload_n 2, 1) := by decide +kernel
theorem dX0_setFeud_45 : decode cX0_setFeud 45 = .ok (.ishl, 1) := by decide +kernel
theorem dX0_setFeud_46 : decode cX0_setFeud 46 = .ok (.ior, 1) := by decide +kernel
theorem dX0_setFeud_47 : decode cX0_setFeud 47 = .ok (.goto 5, 3) := by decide +kernel
theorem dX0_setFeud_50 : decode cX0_setFeud 50 = .ok (.iload 4, 2) := by decide +kernel
theorem dX0_setFeud_52 : decode cX0_setFeud 52 = .ok (.invokestatic 44, 3) := by decide +kernel
theorem dX0_setFeud_55 : decode cX0_setFeud 55 = .ok (.aload_n 0, 1) := by decide +kernel
theorem dX0_setFeud_56 : decode cX0_setFeud 56 = .ok (.getfield 18, 3) := by decide +kernel
theorem dX0_setFeud_59 : decode cX0_setFeud 59 = .ok (.iload_n 2, 1) := by decide +kernel
theorem dX0_setFeud_60 : decode cX0_setFeud 60 = .ok (.iload_n 3, 1) := by decide +kernel
theorem dX0_setFeud_61 : decode cX0_setFeud 61 = .ok (.ifCond .eq 12, 3) := by decide +kernel
theorem dX0_setFeud_64 : decode cX0_setFeud 64 = .ok (.iload 5, 2) := by decide +kernel
theorem dX0_setFeud_66 : decode cX0_setFeud 66 = .ok (.iconst 1, 1) := by decide +kernel
theorem dX0_setFeud_67 : decode cX0_setFeud 67 = .ok (.iload_n 1, 1) := by decide +kernel
theorem dX0_setFeud_68 : decode cX0_setFeud 68 = .ok (.ishl, 1) := by decide +kernel
theorem dX0_setFeud_69 : decode cX0_setFeud 69 = .ok (.ior, 1) := by decide +kernel
theorem dX0_setFeud_70 : decode cX0_setFeud 70 = .ok (.goto 5, 3) := by decide +kernel
theorem dX0_setFeud_73 : decode cX0_setFeud 73 = .ok (.iload 5, 2) := by decide +kernel
theorem dX0_setFeud_75 : decode cX0_setFeud 75 = .ok (.invokestatic 44, 3) := by decide +kernel
theorem dX0_setFeud_78 : decode cX0_setFeud 78 = .ok (.return_, 1) := by decide +kernel
set_option maxRecDepth 20000 in
theorem ggX0_endFeudsOf_X0_setFeud : GoodIn wsX0_endFeudsOf wsX0_setFeud := goodIn_r _ [5, 6, 7, 8, 9, 10, 11, 12, 13, 14, 15, 16, 17] (by decide +kernel) (by decide +kernel)
set_option maxRecDepth 20000 in
theorem gX0_endFeudsOf_X0_setFeud : GoodIn wsX0_endFeudsOf (wsV RX0 48 RX0 yX0_setFeud wsX0_setFeud) := goodIn_app (goodIn_of _ (by decide +kernel)) ggX0_endFeudsOf_X0_setFeud
theorem dX0_endFeudsOf_0 : decode cX0_endFeudsOf 0 = .ok (.iconst 0, 1) := by decide +kernel
theorem dX0_endFeudsOf_1 : decode cX0_endFeudsOf 1 = .ok (.istore_n 2, 1) := by decide +kernel
theorem dX0_endFeudsOf_2 : decode cX0_endFeudsOf 2 = .ok (.iload_n 2, 1) := by decide +kernel
theorem dX0_endFeudsOf_3 : decode cX0_endFeudsOf 3 = .ok (.bipush 6, 2) := by decide +kernel
theorem dX0_endFeudsOf_5 : decode cX0_endFeudsOf 5 = .ok (.if_icmp .ge 16, 3) := by decide +kernel
theorem dX0_endFeudsOf_8 : decode cX0_endFeudsOf 8 = .ok (.aload_n 0, 1) := by decide +kernel
theorem dX0_endFeudsOf_9 : decode cX0_endFeudsOf 9 = .ok (.iload_n 1, 1) := by decide +kernel
theorem dX0_endFeudsOf_10 : decode cX0_endFeudsOf 10 = .ok (.iload_n 2, 1) := by decide +kernel
theorem dX0_endFeudsOf_11 : decode cX0_endFeudsOf 11 = .ok (.iconst 0, 1) := by decide +kernel
theorem dX0_endFeudsOf_12 : decode cX0_endFeudsOf 12 = .ok (.invokevirtual 48, 3) := by decide +kernel
theorem dX0_endFeudsOf_15 : decode cX0_endFeudsOf 15 = .ok (.iinc 2 1, 3) := by decide +kernel
theorem dX0_endFeudsOf_18 : decode cX0_endFeudsOf 18 = .ok (.goto (-16), 3) := by decide +kernel
theorem dX0_endFeudsOf_21 : decode cX0_endFeudsOf 21 = .ok (.return_, 1) := by decide +kernel
set_option maxRecDepth 20000 in
theorem ggX0_countFeuds_J6_bitCount_0f7a4 : GoodIn wsX0_countFeuds wsJ6_bitCount_0f7a4 := goodIn_r _ [5, 6, 7, 8] (by decide +kernel) (by decide +kernel)
set_option maxRecDepth 20000 in
theorem gX0_countFeuds_J6_bitCount_0f7a4 : GoodIn wsX0_countFeuds (va_wsS RX0 52 yJ6_bitCount_0f7a4 wsJ6_bitCount_0f7a4) := goodIn_app (goodIn_of _ (by decide +kernel)) ggX0_countFeuds_J6_bitCount_0f7a4
theorem dX0_countFeuds_0 : decode cX0_countFeuds 0 = .ok (.iconst 0, 1) := by decide +kernel
theorem dX0_countFeuds_1 : decode cX0_countFeuds 1 = .ok (.istore_n 1, 1) := by decide +kernel
theorem dX0_countFeuds_2 : decode cX0_countFeuds 2 = .ok (.iconst 0, 1) := by decide +kernel
theorem dX0_countFeuds_3 : decode cX0_countFeuds 3 = .ok (.istore_n 2, 1) := by decide +kernel
theorem dX0_countFeuds_4 : decode cX0_countFeuds 4 = .ok (.iload_n 2, 1) := by decide +kernel
theorem dX0_countFeuds_5 : decode cX0_countFeuds 5 = .ok (.aload_n 0, 1) := by decide +kernel
theorem dX0_countFeuds_6 : decode cX0_countFeuds 6 = .ok (.getfield 18, 3) := by decide +kernel
theorem dX0_countFeuds_9 : decode cX0_countFeuds 9 = .ok (.arraylength, 1) := by decide +kernel
theorem dX0_countFeuds_10 : decode cX0_countFeuds 10 = .ok (.if_icmp .ge 21, 3) := by decide +kernel
theorem dX0_countFeuds_13 : decode cX0_countFeuds 13 = .ok (.iload_n 1, 1) := by decide +kernel
theorem dX0_countFeuds_14 : decode cX0_countFeuds 14 = .ok (.aload_n 0, 1) := by decide +kernel
theorem dX0_countFeuds_15 : decode cX0_countFeuds 15 = .ok (.getfield 18, 3) := by decide +kernel
theorem dX0_countFeuds_18 : decode cX0_countFeuds 18 = .ok (.iload_n 2, 1) := by decide +kernel
theorem dX0_countFeuds_19 : decode cX0_countFeuds 19 = .ok (.iaload, 1) := by decide +kernel
theorem dX0_countFeuds_20 : decode cX0_countFeuds 20 = .ok (.invokestatic 52, 3) := by decide +kernel
theorem dX0_countFeuds_23 : decode cX0_countFeuds 23 = .ok (.iadd, 1) := by decide +kernel
theorem dX0_countFeuds_24 : decode cX0_countFeuds 24 = .ok (.istore_n 1, 1) := by decide +kernel
theorem dX0_countFeuds_25 : decode cX0_countFeuds 25 = .ok (.iinc 2 1, 3) := by decide +kernel
theorem dX0_countFeuds_28 : decode cX0_countFeuds 28 = .ok (.goto (-24), 3) := by decide +kernel
theorem dX0_countFeuds_31 : decode cX0_countFeuds 31 = .ok (.iload_n 1, 1) := by decide +kernel
theorem dX0_countFeuds_32 : decode cX0_countFeuds 32 = .ok (.iconst 2, 1) := by decide +kernel
theorem dX0_countFeuds_33 : decode cX0_countFeuds 33 = .ok (.idiv, 1) := by decide +kernel
theorem dX0_countFeuds_34 : decode cX0_countFeuds 34 = .ok (.ireturn, 1) := by decide +kernel
set_option maxRecDepth 20000 in
theorem ggX0_addSight_X8_put : GoodIn wsX0_addSight wsX8_put := goodIn_r _ [6] (by decide +kernel) (by decide +kernel)
set_option maxRecDepth 20000 in
theorem gX0_addSight_X8_put_n44 : GoodIn wsX0_addSight (wsX8_put) := ggX0_addSight_X8_put
theorem dX0_addSight_0 : decode cX0_addSight 0 = .ok (.aload_n 0, 1) := by decide +kernel
theorem dX0_addSight_1 : decode cX0_addSight 1 = .ok (.getfield 36, 3) := by decide +kernel
theorem dX0_addSight_4 : decode cX0_addSight 4 = .ok (.bipush 8, 2) := by decide +kernel
theorem dX0_addSight_6 : decode cX0_addSight 6 = .ok (.if_icmp .lt 6, 3) := by decide +kernel
theorem dX0_addSight_9 : decode cX0_addSight 9 = .ok (.bipush (-4), 2) := by decide +kernel
theorem dX0_addSight_11 : decode cX0_addSight 11 = .ok (.ireturn, 1) := by decide +kernel
theorem dX0_addSight_12 : decode cX0_addSight 12 = .ok (.aload_n 0, 1) := by decide +kernel
theorem dX0_addSight_13 : decode cX0_addSight 13 = .ok (.getfield 22, 3) := by decide +kernel
theorem dX0_addSight_16 : decode cX0_addSight 16 = .ok (.aload_n 0, 1) := by decide +kernel
theorem dX0_addSight_17 : decode cX0_addSight 17 = .ok (.getfield 36, 3) := by decide +kernel
theorem dX0_addSight_20 : decode cX0_addSight 20 = .ok (.iload_n 1, 1) := by decide +kernel
theorem dX0_addSight_21 : decode cX0_addSight 21 = .ok (.invokestatic 44, 3) := by decide +kernel
theorem dX0_addSight_24 : decode cX0_addSight 24 = .ok (.aload_n 0, 1) := by decide +kernel
theorem dX0_addSight_25 : decode cX0_addSight 25 = .ok (.getfield 25, 3) := by decide +kernel
theorem dX0_addSight_28 : decode cX0_addSight 28 = .ok (.aload_n 0, 1) := by decide +kernel
theorem dX0_addSight_29 : decode cX0_addSight 29 = .ok (.getfield 36, 3) := by decide +kernel
theorem dX0_addSight_32 : decode cX0_addSight 32 = .ok (.iload_n 2, 1) := by decide +kernel
theorem dX0_addSight_33 : decode cX0_addSight 33 = .ok (.invokestatic 44, 3) := by decide +kernel
theorem dX0_addSight_36 : decode cX0_addSight 36 = .ok (.aload_n 0, 1) := by decide +kernel
theorem dX0_addSight_37 : decode cX0_addSight 37 = .ok (.dup, 1) := by decide +kernel
theorem dX0_addSight_38 : decode cX0_addSight 38 = .ok (.getfield 36, 3) := by decide +kernel
theorem dX0_addSight_41 : decode cX0_addSight 41 = .ok (.iconst 1, 1) := by decide +kernel
theorem dX0_addSight_42 : decode cX0_addSight 42 = .ok (.iadd, 1) := by decide +kernel
theorem dX0_addSight_43 : decode cX0_addSight 43 = .ok (.putfield 36, 3) := by decide +kernel
theorem dX0_addSight_46 : decode cX0_addSight 46 = .ok (.aload_n 0, 1) := by decide +kernel
theorem dX0_addSight_47 : decode cX0_addSight 47 = .ok (.getfield 36, 3) := by decide +kernel
theorem dX0_addSight_50 : decode cX0_addSight 50 = .ok (.ireturn, 1) := by decide +kernel
set_option maxRecDepth 20000 in
theorem ggX0_fits_X8_at : GoodIn wsX0_fits wsX8_at := goodIn_r _ [6] (by decide +kernel) (by decide +kernel)
set_option maxRecDepth 20000 in
theorem gX0_fits_X8_at_n40 : GoodIn wsX0_fits (wsX8_at) := ggX0_fits_X8_at
theorem dX0_fits_0 : decode cX0_fits 0 = .ok (.iconst 0, 1) := by decide +kernel
theorem dX0_fits_1 : decode cX0_fits 1 = .ok (.istore_n 2, 1) := by decide +kernel
theorem dX0_fits_2 : decode cX0_fits 2 = .ok (.iload_n 2, 1) := by decide +kernel
theorem dX0_fits_3 : decode cX0_fits 3 = .ok (.aload_n 0, 1) := by decide +kernel
theorem dX0_fits_4 : decode cX0_fits 4 = .ok (.getfield 36, 3) := by decide +kernel
theorem dX0_fits_7 : decode cX0_fits 7 = .ok (.if_icmp .ge 40, 3) := by decide +kernel
theorem dX0_fits_10 : decode cX0_fits 10 = .ok (.iload_n 2, 1) := by decide +kernel
theorem dX0_fits_11 : decode cX0_fits 11 = .ok (.bipush 8, 2) := by decide +kernel
theorem dX0_fits_13 : decode cX0_fits 13 = .ok (.if_icmp .ge 34, 3) := by decide +kernel
theorem dX0_fits_16 : decode cX0_fits 16 = .ok (.aload_n 1, 1) := by decide +kernel
theorem dX0_fits_17 : decode cX0_fits 17 = .ok (.aload_n 0, 1) := by decide +kernel
theorem dX0_fits_18 : decode cX0_fits 18 = .ok (.getfield 22, 3) := by decide +kernel
theorem dX0_fits_21 : decode cX0_fits 21 = .ok (.iload_n 2, 1) := by decide +kernel
theorem dX0_fits_22 : decode cX0_fits 22 = .ok (.invokestatic 40, 3) := by decide +kernel
theorem dX0_fits_25 : decode cX0_fits 25 = .ok (.invokestatic 40, 3) := by decide +kernel
theorem dX0_fits_28 : decode cX0_fits 28 = .ok (.aload_n 0, 1) := by decide +kernel
theorem dX0_fits_29 : decode cX0_fits 29 = .ok (.getfield 25, 3) := by decide +kernel
theorem dX0_fits_32 : decode cX0_fits 32 = .ok (.iload_n 2, 1) := by decide +kernel
theorem dX0_fits_33 : decode cX0_fits 33 = .ok (.invokestatic 40, 3) := by decide +kernel
theorem dX0_fits_36 : decode cX0_fits 36 = .ok (.if_icmp .eq 5, 3) := by decide +kernel
theorem dX0_fits_39 : decode cX0_fits 39 = .ok (.iconst 0, 1) := by decide +kernel
theorem dX0_fits_40 : decode cX0_fits 40 = .ok (.ireturn, 1) := by decide +kernel
theorem dX0_fits_41 : decode cX0_fits 41 = .ok (.iinc 2 1, 3) := by decide +kernel
theorem dX0_fits_44 : decode cX0_fits 44 = .ok (.goto (-42), 3) := by decide +kernel
theorem dX0_fits_47 : decode cX0_fits 47 = .ok (.iconst 1, 1) := by decide +kernel
theorem dX0_fits_48 : decode cX0_fits 48 = .ok (.ireturn, 1) := by decide +kernel
theorem dX1_init_0 : decode cX1_init 0 = .ok (.aload_n 0, 1) := by decide +kernel
theorem dX1_init_1 : decode cX1_init 1 = .ok (.invokespecial 3, 3) := by decide +kernel
theorem dX1_init_4 : decode cX1_init 4 = .ok (.aload_n 0, 1) := by decide +kernel
theorem dX1_init_5 : decode cX1_init 5 = .ok (.bipush 6, 2) := by decide +kernel
theorem dX1_init_7 : decode cX1_init 7 = .ok (.newarray .int, 2) := by decide +kernel
theorem dX1_init_9 : decode cX1_init 9 = .ok (.putfield 9, 3) := by decide +kernel
theorem dX1_init_12 : decode cX1_init 12 = .ok (.aload_n 0, 1) := by decide +kernel
theorem dX1_init_13 : decode cX1_init 13 = .ok (.bipush 6, 2) := by decide +kernel
theorem dX1_init_15 : decode cX1_init 15 = .ok (.newarray .int, 2) := by decide +kernel
theorem dX1_init_17 : decode cX1_init 17 = .ok (.putfield 15, 3) := by decide +kernel
theorem dX1_init_20 : decode cX1_init 20 = .ok (.aload_n 0, 1) := by decide +kernel
theorem dX1_init_21 : decode cX1_init 21 = .ok (.bipush 6, 2) := by decide +kernel
theorem dX1_init_23 : decode cX1_init 23 = .ok (.newarray .int, 2) := by decide +kernel
theorem dX1_init_25 : decode cX1_init 25 = .ok (.putfield 18, 3) := by decide +kernel
theorem dX1_init_28 : decode cX1_init 28 = .ok (.aload_n 0, 1) := by decide +kernel
theorem dX1_init_29 : decode cX1_init 29 = .ok (.bipush 6, 2) := by decide +kernel
theorem dX1_init_31 : decode cX1_init 31 = .ok (.newarray .int, 2) := by decide +kernel
theorem dX1_init_33 : decode cX1_init 33 = .ok (.putfield 21, 3) := by decide +kernel
theorem dX1_init_36 : decode cX1_init 36 = .ok (.aload_n 0, 1) := by decide +kernel
theorem dX1_init_37 : decode cX1_init 37 = .ok (.bipush 9, 2) := by decide +kernel
theorem dX1_init_39 : decode cX1_init 39 = .ok (.putfield 24, 3) := by decide +kernel
theorem dX1_init_42 : decode cX1_init 42 = .ok (.return_, 1) := by decide +kernel
set_option maxRecDepth 20000 in
theorem ggX1_become_X8_copyRow : GoodIn wsX1_become wsX8_copyRow := goodIn_r _ [8, 9, 10, 11, 12, 13, 14, 15, 16] (by decide +kernel) (by decide +kernel)
set_option maxRecDepth 20000 in
theorem gX1_become_X8_copyRow_n28 : GoodIn wsX1_become (wsX8_copyRow) := ggX1_become_X8_copyRow
theorem dX1_become_0 : decode cX1_become 0 = .ok (.aload_n 1, 1) := by decide +kernel
theorem dX1_become_1 : decode cX1_become 1 = .ok (.getfield 9, 3) := by decide +kernel
theorem dX1_become_4 : decode cX1_become 4 = .ok (.aload_n 0, 1) := by decide +kernel
theorem dX1_become_5 : decode cX1_become 5 = .ok (.getfield 9, 3) := by decide +kernel
theorem dX1_become_8 : decode cX1_become 8 = .ok (.invokestatic 28, 3) := by decide +kernel
theorem dX1_become_11 : decode cX1_become 11 = .ok (.aload_n 1, 1) := by decide +kernel
theorem dX1_become_12 : decode cX1_become 12 = .ok (.getfield 15, 3) := by decide +kernel
theorem dX1_become_15 : decode cX1_become 15 = .ok (.aload_n 0, 1) := by decide +kernel
theorem dX1_become_16 : decode cX1_become 16 = .ok (.getfield 15, 3) := by decide +kernel
theorem dX1_become_19 : decode cX1_become 19 = .ok (.invokestatic 28, 3) := by decide +kernel
theorem dX1_become_22 : decode cX1_become 22 = .ok (.aload_n 1, 1) := by decide +kernel
theorem dX1_become_23 : decode cX1_become 23 = .ok (.getfield 18, 3) := by decide +kernel
theorem dX1_become_26 : decode cX1_become 26 = .ok (.aload_n 0, 1) := by decide +kernel
theorem dX1_become_27 : decode cX1_become 27 = .ok (.getfield 18, 3) := by decide +kernel
theorem dX1_become_30 : decode cX1_become 30 = .ok (.invokestatic 28, 3) := by decide +kernel
theorem dX1_become_33 : decode cX1_become 33 = .ok (.aload_n 0, 1) := by decide +kernel
theorem dX1_become_34 : decode cX1_become 34 = .ok (.aload_n 1, 1) := by decide +kernel
theorem dX1_become_35 : decode cX1_become 35 = .ok (.getfield 32, 3) := by decide +kernel
theorem dX1_become_38 : decode cX1_become 38 = .ok (.putfield 32, 3) := by decide +kernel
theorem dX1_become_41 : decode cX1_become 41 = .ok (.aload_n 0, 1) := by decide +kernel
theorem dX1_become_42 : decode cX1_become 42 = .ok (.aload_n 1, 1) := by decide +kernel
theorem dX1_become_43 : decode cX1_become 43 = .ok (.getfield 24, 3) := by decide +kernel
theorem dX1_become_46 : decode cX1_become 46 = .ok (.putfield 24, 3) := by decide +kernel
theorem dX1_become_49 : decode cX1_become 49 = .ok (.return_, 1) := by decide +kernel
set_option maxRecDepth 20000 in
theorem ggX1_welcome_X8_put : GoodIn wsX1_welcome wsX8_put := goodIn_r _ [7] (by decide +kernel) (by decide +kernel)
set_option maxRecDepth 20000 in
theorem gX1_welcome_X8_put_n35 : GoodIn wsX1_welcome (wsX8_put) := ggX1_welcome_X8_put
set_option maxRecDepth 20000 in
theorem ggX1_welcome_J6_bitCount_0f7a4 : GoodIn wsX1_welcome wsJ6_bitCount_0f7a4 := goodIn_r _ [11, 12, 13, 14] (by decide +kernel) (by decide +kernel)
set_option maxRecDepth 20000 in
theorem gX1_welcome_J6_bitCount_0f7a4 : GoodIn wsX1_welcome (va_wsS RX1 39 yJ6_bitCount_0f7a4 wsJ6_bitCount_0f7a4) := goodIn_app (goodIn_of _ (by decide +kernel)) ggX1_welcome_J6_bitCount_0f7a4
theorem dX1_welcome_0 : decode cX1_welcome 0 = .ok (.aload_n 0, 1) := by decide +kernel
theorem dX1_welcome_1 : decode cX1_welcome 1 = .ok (.getfield 9, 3) := by decide +kernel
theorem dX1_welcome_4 : decode cX1_welcome 4 = .ok (.iload_n 1, 1) := by decide +kernel
theorem dX1_welcome_5 : decode cX1_welcome 5 = .ok (.iload_n 2, 1) := by decide +kernel
theorem dX1_welcome_6 : decode cX1_welcome 6 = .ok (.invokestatic 35, 3) := by decide +kernel
theorem dX1_welcome_9 : decode cX1_welcome 9 = .ok (.aload_n 0, 1) := by decide +kernel
theorem dX1_welcome_10 : decode cX1_welcome 10 = .ok (.getfield 15, 3) := by decide +kernel
theorem dX1_welcome_13 : decode cX1_welcome 13 = .ok (.iload_n 1, 1) := by decide +kernel
theorem dX1_welcome_14 : decode cX1_welcome 14 = .ok (.iload_n 3, 1) := by decide +kernel
theorem dX1_welcome_15 : decode cX1_welcome 15 = .ok (.invokestatic 35, 3) := by decide +kernel
theorem dX1_welcome_18 : decode cX1_welcome 18 = .ok (.aload_n 0, 1) := by decide +kernel
theorem dX1_welcome_19 : decode cX1_welcome 19 = .ok (.getfield 18, 3) := by decide +kernel
theorem dX1_welcome_22 : decode cX1_welcome 22 = .ok (.iload_n 1, 1) := by decide +kernel
theorem dX1_welcome_23 : decode cX1_welcome 23 = .ok (.iload 4, 2) := by decide +kernel
theorem dX1_welcome_25 : decode cX1_welcome 25 = .ok (.invokestatic 35, 3) := by decide +kernel
theorem dX1_welcome_28 : decode cX1_welcome 28 = .ok (.aload_n 0, 1) := by decide +kernel
theorem dX1_welcome_29 : decode cX1_welcome 29 = .ok (.dup, 1) := by decide +kernel
theorem dX1_welcome_30 : decode cX1_welcome 30 = .ok (.getfield 32, 3) := by decide +kernel
theorem dX1_welcome_33 : decode cX1_welcome 33 = .ok (.iconst 1, 1) := by decide +kernel
theorem dX1_welcome_34 : decode cX1_welcome 34 = .ok (.iload_n 1, 1) := by decide +kernel
theorem dX1_welcome_35 : decode cX1_welcome 35 = .ok (.ishl, 1) := by decide +kernel
theorem dX1_welcome_36 : decode cX1_welcome 36 = .ok (.ior, 1) := by decide +kernel
theorem dX1_welcome_37 : decode cX1_welcome 37 = .ok (.putfield 32, 3) := by decide +kernel
theorem dX1_welcome_40 : decode cX1_welcome 40 = .ok (.aload_n 0, 1) := by decide +kernel
theorem dX1_welcome_41 : decode cX1_welcome 41 = .ok (.getfield 32, 3) := by decide +kernel
theorem dX1_welcome_44 : decode cX1_welcome 44 = .ok (.invokestatic 39, 3) := by decide +kernel
theorem dX1_welcome_47 : decode cX1_welcome 47 = .ok (.ireturn, 1) := by decide +kernel
set_option maxRecDepth 20000 in
theorem ggX1_dismiss_J6_bitCount_0f7a4 : GoodIn wsX1_dismiss wsJ6_bitCount_0f7a4 := goodIn_r _ [5, 6, 7, 8] (by decide +kernel) (by decide +kernel)
set_option maxRecDepth 20000 in
theorem gX1_dismiss_J6_bitCount_0f7a4 : GoodIn wsX1_dismiss (va_wsS RX1 39 yJ6_bitCount_0f7a4 wsJ6_bitCount_0f7a4) := goodIn_app (goodIn_of _ (by decide +kernel)) ggX1_dismiss_J6_bitCount_0f7a4
theorem dX1_dismiss_0 : decode cX1_dismiss 0 = .ok (.aload_n 0, 1) := by decide +kernel
theorem dX1_dismiss_1 : decode cX1_dismiss 1 = .ok (.dup, 1) := by decide +kernel
theorem dX1_dismiss_2 : decode cX1_dismiss 2 = .ok (.getfield 32, 3) := by decide +kernel
theorem dX1_dismiss_5 : decode cX1_dismiss 5 = .ok (.iconst 1, 1) := by decide +kernel
theorem dX1_dismiss_6 : decode cX1_dismiss 6 = .ok (.iload_n 1, 1) := by decide +kernel
theorem dX1_dismiss_7 : decode cX1_dismiss 7 = .ok (.ishl, 1) := by decide +kernel
theorem dX1_dismiss_8 : decode cX1_dismiss 8 = .ok (.iconst (-1), 1) := by decide +kernel
theorem dX1_dismiss_9 : decode cX1_dismiss 9 = .ok (.ixor, 1) := by decide +kernel
theorem dX1_dismiss_10 : decode cX1_dismiss 10 = .ok (.iand, 1) := by decide +kernel
theorem dX1_dismiss_11 : decode cX1_dismiss 11 = .ok (.putfield 32, 3) := by decide +kernel
theorem dX1_dismiss_14 : decode cX1_dismiss 14 = .ok (.aload_n 0, 1) := by decide +kernel
theorem dX1_dismiss_15 : decode cX1_dismiss 15 = .ok (.getfield 32, 3) := by decide +kernel
theorem dX1_dismiss_18 : decode cX1_dismiss 18 = .ok (.invokestatic 39, 3) := by decide +kernel
theorem dX1_dismiss_21 : decode cX1_dismiss 21 = .ok (.ireturn, 1) := by decide +kernel
set_option maxRecDepth 20000 in
theorem ggX1_has_X8_holds : GoodIn wsX1_has wsX8_holds := goodIn_r _ [4] (by decide +kernel) (by decide +kernel)
set_option maxRecDepth 20000 in
theorem gX1_has_X8_holds_n45 : GoodIn wsX1_has (wsX8_holds) := ggX1_has_X8_holds
theorem dX1_has_0 : decode cX1_has 0 = .ok (.aload_n 0, 1) := by decide +kernel
theorem dX1_has_1 : decode cX1_has 1 = .ok (.getfield 32, 3) := by decide +kernel
theorem dX1_has_4 : decode cX1_has 4 = .ok (.iload_n 1, 1) := by decide +kernel
theorem dX1_has_5 : decode cX1_has 5 = .ok (.invokestatic 45, 3) := by decide +kernel
theorem dX1_has_8 : decode cX1_has 8 = .ok (.ireturn, 1) := by decide +kernel
set_option maxRecDepth 20000 in
theorem ggX1_inside_X8_holds : GoodIn wsX1_inside wsX8_holds := goodIn_r _ [5] (by decide +kernel) (by decide +kernel)
set_option maxRecDepth 20000 in
theorem gX1_inside_X8_holds_n45 : GoodIn wsX1_inside (wsX8_holds) := ggX1_inside_X8_holds
theorem dX1_inside_0 : decode cX1_inside 0 = .ok (.iconst 0, 1) := by decide +kernel
theorem dX1_inside_1 : decode cX1_inside 1 = .ok (.istore_n 2, 1) := by decide +kernel
theorem dX1_inside_2 : decode cX1_inside 2 = .ok (.iconst 0, 1) := by decide +kernel
theorem dX1_inside_3 : decode cX1_inside 3 = .ok (.istore_n 3, 1) := by decide +kernel
theorem dX1_inside_4 : decode cX1_inside 4 = .ok (.iload_n 3, 1) := by decide +kernel
theorem dX1_inside_5 : decode cX1_inside 5 = .ok (.aload_n 0, 1) := by decide +kernel
theorem dX1_inside_6 : decode cX1_inside 6 = .ok (.getfield 18, 3) := by decide +kernel
theorem dX1_inside_9 : decode cX1_inside 9 = .ok (.arraylength, 1) := by decide +kernel
theorem dX1_inside_10 : decode cX1_inside 10 = .ok (.if_icmp .ge 36, 3) := by decide +kernel
theorem dX1_inside_13 : decode cX1_inside 13 = .ok (.aload_n 0, 1) := by decide +kernel
theorem dX1_inside_14 : decode cX1_inside 14 = .ok (.getfield 18, 3) := by decide +kernel
theorem dX1_inside_17 : decode cX1_inside 17 = .ok (.iload_n 3, 1) := by decide +kernel
theorem dX1_inside_18 : decode cX1_inside 18 = .ok (.iaload, 1) := by decide +kernel
theorem dX1_inside_19 : decode cX1_inside 19 = .ok (.iload_n 1, 1) := by decide +kernel
theorem dX1_inside_20 : decode cX1_inside 20 = .ok (.if_icmp .ne 20, 3) := by decide +kernel
theorem dX1_inside_23 : decode cX1_inside 23 = .ok (.aload_n 0, 1) := by decide +kernel
theorem dX1_inside_24 : decode cX1_inside 24 = .ok (.getfield 32, 3) := by decide +kernel
theorem dX1_inside_27 : decode cX1_inside 27 = .ok (.iload_n 3, 1) := by decide +kernel
theorem dX1_inside_28 : decode cX1_inside 28 = .ok (.invokestatic 45, 3) := by decide +kernel
theorem dX1_inside_31 : decode cX1_inside 31 = .ok (.ifCond .eq 9, 3) := by decide +kernel
theorem dX1_inside_34 : decode cX1_inside 34 = .ok (.iload_n 2, 1) := by decide +kernel
theorem dX1_inside_35 : decode cX1_inside 35 = .ok (.iconst 1, 1) := by decide +kernel
theorem dX1_inside_36 : decode cX1_inside 36 = .ok (.iload_n 3, 1) := by decide +kernel
theorem dX1_inside_37 : decode cX1_inside 37 = .ok (.ishl, 1) := by decide +kernel
theorem dX1_inside_38 : decode cX1_inside 38 = .ok (.ior, 1) := by decide +kernel
theorem dX1_inside_39 : decode cX1_inside 39 = .ok (.istore_n 2, 1) := by decide +kernel
theorem dX1_inside_40 : decode cX1_inside 40 = .ok (.iinc 3 1, 3) := by decide +kernel
theorem dX1_inside_43 : decode cX1_inside 43 = .ok (.goto (-39), 3) := by decide +kernel
theorem dX1_inside_46 : decode cX1_inside 46 = .ok (.iload_n 2, 1) := by decide +kernel
theorem dX1_inside_47 : decode cX1_inside 47 = .ok (.ireturn, 1) := by decide +kernel
set_option maxRecDepth 20000 in
theorem ggX1_hungry_X1_inside : GoodIn wsX1_hungry wsX1_inside := goodIn_r _ [6, 7, 8, 9, 10, 11, 14, 15, 16, 17, 18, 19] (by decide +kernel) (by decide +kernel)
set_option maxRecDepth 20000 in
theorem gX1_hungry_X1_inside : GoodIn wsX1_hungry (wsV RX1 49 RX1 yX1_inside wsX1_inside) := goodIn_app (goodIn_of _ (by decide +kernel)) ggX1_hungry_X1_inside
set_option maxRecDepth 20000 in
theorem ggX1_hungry_X8_thoseWithAny : GoodIn wsX1_hungry wsX8_thoseWithAny := goodIn_r _ [13] (by decide +kernel) (by decide +kernel)
set_option maxRecDepth 20000 in
theorem gX1_hungry_X8_thoseWithAny_n52 : GoodIn wsX1_hungry (wsX8_thoseWithAny) := ggX1_hungry_X8_thoseWithAny
theorem dX1_hungry_0 : decode cX1_hungry 0 = .ok (.aload_n 0, 1) := by decide +kernel
theorem dX1_hungry_1 : decode cX1_hungry 1 = .ok (.iload_n 1, 1) := by decide +kernel
theorem dX1_hungry_2 : decode cX1_hungry 2 = .ok (.invokevirtual 49, 3) := by decide +kernel
theorem dX1_hungry_5 : decode cX1_hungry 5 = .ok (.aload_n 0, 1) := by decide +kernel
theorem dX1_hungry_6 : decode cX1_hungry 6 = .ok (.getfield 9, 3) := by decide +kernel
theorem dX1_hungry_9 : decode cX1_hungry 9 = .ok (.invokestatic 52, 3) := by decide +kernel
theorem dX1_hungry_12 : decode cX1_hungry 12 = .ok (.iand, 1) := by decide +kernel
theorem dX1_hungry_13 : decode cX1_hungry 13 = .ok (.ireturn, 1) := by decide +kernel
set_option maxRecDepth 20000 in
theorem ggX1_feigners_X1_inside : GoodIn wsX1_feigners wsX1_inside := goodIn_r _ [6, 7, 8, 9, 10, 11, 14, 15, 16, 17, 18, 19] (by decide +kernel) (by decide +kernel)
set_option maxRecDepth 20000 in
theorem gX1_feigners_X1_inside : GoodIn wsX1_feigners (wsV RX1 49 RX1 yX1_inside wsX1_inside) := goodIn_app (goodIn_of _ (by decide +kernel)) ggX1_feigners_X1_inside
set_option maxRecDepth 20000 in
theorem ggX1_feigners_X8_thoseWithAny : GoodIn wsX1_feigners wsX8_thoseWithAny := goodIn_r _ [13] (by decide +kernel) (by decide +kernel)
set_option maxRecDepth 20000 in
theorem gX1_feigners_X8_thoseWithAny_n52 : GoodIn wsX1_feigners (wsX8_thoseWithAny) := ggX1_feigners_X8_thoseWithAny
theorem dX1_feigners_0 : decode cX1_feigners 0 = .ok (.aload_n 0, 1) := by decide +kernel
theorem dX1_feigners_1 : decode cX1_feigners 1 = .ok (.iload_n 1, 1) := by decide +kernel
theorem dX1_feigners_2 : decode cX1_feigners 2 = .ok (.invokevirtual 49, 3) := by decide +kernel
theorem dX1_feigners_5 : decode cX1_feigners 5 = .ok (.aload_n 0, 1) := by decide +kernel
theorem dX1_feigners_6 : decode cX1_feigners 6 = .ok (.getfield 15, 3) := by decide +kernel
theorem dX1_feigners_9 : decode cX1_feigners 9 = .ok (.invokestatic 52, 3) := by decide +kernel
theorem dX1_feigners_12 : decode cX1_feigners 12 = .ok (.iand, 1) := by decide +kernel
theorem dX1_feigners_13 : decode cX1_feigners 13 = .ok (.ireturn, 1) := by decide +kernel
set_option maxRecDepth 20000 in
theorem ggX1_foundOut_X1_shownBy : GoodIn wsX1_foundOut wsX1_shownBy := goodIn_r _ [7, 1, 8, 9, 10, 11, 12, 13, 14, 15, 18, 19, 20, 21, 22, 23] (by decide +kernel) (by decide +kernel)
set_option maxRecDepth 20000 in
theorem gX1_foundOut_X1_shownBy : GoodIn wsX1_foundOut (wsV RX1 56 RX1 yX1_shownBy wsX1_shownBy) := goodIn_app (goodIn_of _ (by decide +kernel)) ggX1_foundOut_X1_shownBy
set_option maxRecDepth 20000 in
theorem ggX1_foundOut_X8_holds : GoodIn wsX1_foundOut wsX8_holds := goodIn_r _ [17] (by decide +kernel) (by decide +kernel)
set_option maxRecDepth 20000 in
theorem gX1_foundOut_X8_holds_n45 : GoodIn wsX1_foundOut (wsX8_holds) := ggX1_foundOut_X8_holds
theorem dX1_foundOut_0 : decode cX1_foundOut 0 = .ok (.iconst 0, 1) := by decide +kernel
theorem dX1_foundOut_1 : decode cX1_foundOut 1 = .ok (.istore_n 2, 1) := by decide +kernel
theorem dX1_foundOut_2 : decode cX1_foundOut 2 = .ok (.iconst 0, 1) := by decide +kernel
theorem dX1_foundOut_3 : decode cX1_foundOut 3 = .ok (.istore_n 3, 1) := by decide +kernel
theorem dX1_foundOut_4 : decode cX1_foundOut 4 = .ok (.iload_n 3, 1) := by decide +kernel
theorem dX1_foundOut_5 : decode cX1_foundOut 5 = .ok (.aload_n 0, 1) := by decide +kernel
theorem dX1_foundOut_6 : decode cX1_foundOut 6 = .ok (.getfield 9, 3) := by decide +kernel
theorem dX1_foundOut_9 : decode cX1_foundOut 9 = .ok (.arraylength, 1) := by decide +kernel
theorem dX1_foundOut_10 : decode cX1_foundOut 10 = .ok (.if_icmp .ge 46, 3) := by decide +kernel
theorem dX1_foundOut_13 : decode cX1_foundOut 13 = .ok (.aload_n 0, 1) := by decide +kernel
theorem dX1_foundOut_14 : decode cX1_foundOut 14 = .ok (.getfield 9, 3) := by decide +kernel
theorem dX1_foundOut_17 : decode cX1_foundOut 17 = .ok (.iload_n 3, 1) := by decide +kernel
theorem dX1_foundOut_18 : decode cX1_foundOut 18 = .ok (.iaload, 1) := by decide +kernel
theorem dX1_foundOut_19 : decode cX1_foundOut 19 = .ok (.aload_n 0, 1) := by decide +kernel
theorem dX1_foundOut_20 : decode cX1_foundOut 20 = .ok (.iload_n 3, 1) := by decide +kernel
theorem dX1_foundOut_21 : decode cX1_foundOut 21 = .ok (.invokevirtual 56, 3) := by decide +kernel
theorem dX1_foundOut_24 : decode cX1_foundOut 24 = .ok (.isub, 1) := by decide +kernel
theorem dX1_foundOut_25 : decode cX1_foundOut 25 = .ok (.istore 4, 2) := by decide +kernel
theorem dX1_foundOut_27 : decode cX1_foundOut 27 = .ok (.iload 4, 2) := by decide +kernel
theorem dX1_foundOut_29 : decode cX1_foundOut 29 = .ok (.aload_n 0, 1) := by decide +kernel
theorem dX1_foundOut_30 : decode cX1_foundOut 30 = .ok (.getfield 24, 3) := by decide +kernel
theorem dX1_foundOut_33 : decode cX1_foundOut 33 = .ok (.if_icmp .le 17, 3) := by decide +kernel
theorem dX1_foundOut_36 : decode cX1_foundOut 36 = .ok (.iload_n 1, 1) := by decide +kernel
theorem dX1_foundOut_37 : decode cX1_foundOut 37 = .ok (.iload_n 3, 1) := by decide +kernel
theorem dX1_foundOut_38 : decode cX1_foundOut 38 = .ok (.invokestatic 45, 3) := by decide +kernel
theorem dX1_foundOut_41 : decode cX1_foundOut 41 = .ok (.ifCond .eq 9, 3) := by decide +kernel
theorem dX1_foundOut_44 : decode cX1_foundOut 44 = .ok (.iload_n 2, 1) := by decide +kernel
theorem dX1_foundOut_45 : decode cX1_foundOut 45 = .ok (.iconst 1, 1) := by decide +kernel
theorem dX1_foundOut_46 : decode cX1_foundOut 46 = .ok (.iload_n 3, 1) := by decide +kernel
theorem dX1_foundOut_47 : decode cX1_foundOut 47 = .ok (.ishl, 1) := by decide +kernel
theorem dX1_foundOut_48 : decode cX1_foundOut 48 = .ok (.ior, 1) := by decide +kernel
theorem dX1_foundOut_49 : decode cX1_foundOut 49 = .ok (.istore_n 2, 1) := by decide +kernel
theorem dX1_foundOut_50 : decode cX1_foundOut 50 = .ok (.iinc 3 1, 3) := by decide +kernel
theorem dX1_foundOut_53 : decode cX1_foundOut 53 = .ok (.goto (-49), 3) := by decide +kernel
theorem dX1_foundOut_56 : decode cX1_foundOut 56 = .ok (.iload_n 2, 1) := by decide +kernel
theorem dX1_foundOut_57 : decode cX1_foundOut 57 = .ok (.ireturn, 1) := by decide +kernel
set_option maxRecDepth 20000 in
theorem ggX1_shownBy_X8_at : GoodIn wsX1_shownBy wsX8_at := goodIn_r _ [9] (by decide +kernel) (by decide +kernel)
set_option maxRecDepth 20000 in
theorem gX1_shownBy_X8_at_n59 : GoodIn wsX1_shownBy (wsX8_at) := ggX1_shownBy_X8_at
theorem dX1_shownBy_0 : decode cX1_shownBy 0 = .ok (.iconst 0, 1) := by decide +kernel
theorem dX1_shownBy_1 : decode cX1_shownBy 1 = .ok (.aload_n 0, 1) := by decide +kernel
theorem dX1_shownBy_2 : decode cX1_shownBy 2 = .ok (.getfield 9, 3) := by decide +kernel
theorem dX1_shownBy_5 : decode cX1_shownBy 5 = .ok (.iload_n 1, 1) := by decide +kernel
theorem dX1_shownBy_6 : decode cX1_shownBy 6 = .ok (.invokestatic 59, 3) := by decide +kernel
theorem dX1_shownBy_9 : decode cX1_shownBy 9 = .ok (.aload_n 0, 1) := by decide +kernel
theorem dX1_shownBy_10 : decode cX1_shownBy 10 = .ok (.getfield 15, 3) := by decide +kernel
theorem dX1_shownBy_13 : decode cX1_shownBy 13 = .ok (.iload_n 1, 1) := by decide +kernel
theorem dX1_shownBy_14 : decode cX1_shownBy 14 = .ok (.invokestatic 59, 3) := by decide +kernel
theorem dX1_shownBy_17 : decode cX1_shownBy 17 = .ok (.isub, 1) := by decide +kernel
theorem dX1_shownBy_18 : decode cX1_shownBy 18 = .ok (.invokestatic 63, 3) := by decide +kernel
theorem dX1_shownBy_21 : decode cX1_shownBy 21 = .ok (.ireturn, 1) := by decide +kernel
set_option maxRecDepth 20000 in
theorem ggX1_allShown_X1_shownBy : GoodIn wsX1_allShown wsX1_shownBy := goodIn_r _ [6, 7, 8, 9, 10, 11, 12, 13, 14, 15, 16, 17, 18, 19, 20, 21] (by decide +kernel) (by decide +kernel)
set_option maxRecDepth 20000 in
theorem gX1_allShown_X1_shownBy : GoodIn wsX1_allShown (wsV RX1 56 RX1 yX1_shownBy wsX1_shownBy) := goodIn_app (goodIn_of _ (by decide +kernel)) ggX1_allShown_X1_shownBy
theorem dX1_allShown_0 : decode cX1_allShown 0 = .ok (.iconst 0, 1) := by decide +kernel
theorem dX1_allShown_1 : decode cX1_allShown 1 = .ok (.istore_n 1, 1) := by decide +kernel
theorem dX1_allShown_2 : decode cX1_allShown 2 = .ok (.iload_n 1, 1) := by decide +kernel
theorem dX1_allShown_3 : decode cX1_allShown 3 = .ok (.aload_n 0, 1) := by decide +kernel
theorem dX1_allShown_4 : decode cX1_allShown 4 = .ok (.getfield 21, 3) := by decide +kernel
theorem dX1_allShown_7 : decode cX1_allShown 7 = .ok (.arraylength, 1) := by decide +kernel
theorem dX1_allShown_8 : decode cX1_allShown 8 = .ok (.if_icmp .ge 20, 3) := by decide +kernel
theorem dX1_allShown_11 : decode cX1_allShown 11 = .ok (.aload_n 0, 1) := by decide +kernel
theorem dX1_allShown_12 : decode cX1_allShown 12 = .ok (.getfield 21, 3) := by decide +kernel
theorem dX1_allShown_15 : decode cX1_allShown 15 = .ok (.iload_n 1, 1) := by decide +kernel
theorem dX1_allShown_16 : decode cX1_allShown 16 = .ok (.aload_n 0, 1) := by decide +kernel
theorem dX1_allShown_17 : decode cX1_allShown 17 = .ok (.iload_n 1, 1) := by decide +kernel
theorem dX1_allShown_18 : decode cX1_allShown 18 = .ok (.invokevirtual 56, 3) := by decide +kernel
theorem dX1_allShown_21 : decode cX1_allShown 21 = .ok (.iastore, 1) := by decide +kernel
theorem dX1_allShown_22 : decode cX1_allShown 22 = .ok (.iinc 1 1, 3) := by decide +kernel
theorem dX1_allShown_25 : decode cX1_allShown 25 = .ok (.goto (-23), 3) := by decide +kernel
theorem dX1_allShown_28 : decode cX1_allShown 28 = .ok (.aload_n 0, 1) := by decide +kernel
theorem dX1_allShown_29 : decode cX1_allShown 29 = .ok (.getfield 21, 3) := by decide +kernel
theorem dX1_allShown_32 : decode cX1_allShown 32 = .ok (.areturn, 1) := by decide +kernel
set_option maxRecDepth 20000 in
theorem ggX1_takers_X1_hungry : GoodIn wsX1_takers wsX1_hungry := goodIn_r _ [5, 6, 7, 8, 9, 4, 10, 11, 12, 13, 14, 15, 16, 17, 46, 47, 48, 49, 50, 51] (by decide +kernel) (by decide +kernel)
set_option maxRecDepth 20000 in
theorem gX1_takers_X1_hungry : GoodIn wsX1_takers (wsV RX1 69 RX1 yX1_hungry wsX1_hungry) := goodIn_app (goodIn_of _ (by decide +kernel)) ggX1_takers_X1_hungry
set_option maxRecDepth 20000 in
theorem ggX1_takers_X1_allShown : GoodIn wsX1_takers wsX1_allShown := goodIn_r _ [21, 22, 23, 24, 25, 4, 26, 6, 27, 28, 29, 30, 31, 32, 14, 33, 46, 47, 48, 49, 50, 51] (by decide +kernel) (by decide +kernel)
set_option maxRecDepth 20000 in
theorem gX1_takers_X1_allShown : GoodIn wsX1_takers (wsV RX1 72 RX1 yX1_allShown wsX1_allShown) := goodIn_app (goodIn_of _ (by decide +kernel)) ggX1_takers_X1_allShown
set_option maxRecDepth 20000 in
theorem ggX1_takers_X1_foundOut : GoodIn wsX1_takers wsX1_foundOut := goodIn_r _ [37, 6, 38, 23, 24, 25, 4, 26, 27, 28, 29, 30, 31, 32, 14, 33, 13, 15, 46, 47, 48, 49, 50, 51] (by decide +kernel) (by decide +kernel)
set_option maxRecDepth 20000 in
theorem gX1_takers_X1_foundOut : GoodIn wsX1_takers (wsV RX1 76 RX1 yX1_foundOut wsX1_foundOut) := goodIn_app (goodIn_of _ (by decide +kernel)) ggX1_takers_X1_foundOut
set_option maxRecDepth 20000 in
theorem ggX1_takers_X8_firstBy : GoodIn wsX1_takers wsX8_firstBy := goodIn_r _ [40, 41, 13, 14, 15, 42, 43, 44, 45, 32, 33] (by decide +kernel) (by decide +kernel)
set_option maxRecDepth 20000 in
theorem gX1_takers_X8_firstBy_n79 : GoodIn wsX1_takers (wsX8_firstBy) := ggX1_takers_X8_firstBy
theorem dX1_takers_0 : decode cX1_takers 0 = .ok (.aload_n 0, 1) := by decide +kernel
theorem dX1_takers_1 : decode cX1_takers 1 = .ok (.iload_n 1, 1) := by decide +kernel
theorem dX1_takers_2 : decode cX1_takers 2 = .ok (.invokevirtual 69, 3) := by decide +kernel
theorem dX1_takers_5 : decode cX1_takers 5 = .ok (.istore_n 3, 1) := by decide +kernel
theorem dX1_takers_6 : decode cX1_takers 6 = .ok (.aload_n 0, 1) := by decide +kernel
theorem dX1_takers_7 : decode cX1_takers 7 = .ok (.invokevirtual 72, 3) := by decide +kernel
theorem dX1_takers_10 : decode cX1_takers 10 = .ok (.iload_n 3, 1) := by decide +kernel
theorem dX1_takers_11 : decode cX1_takers 11 = .ok (.aload_n 0, 1) := by decide +kernel
theorem dX1_takers_12 : decode cX1_takers 12 = .ok (.iload_n 3, 1) := by decide +kernel
theorem dX1_takers_13 : decode cX1_takers 13 = .ok (.invokevirtual 76, 3) := by decide +kernel
theorem dX1_takers_16 : decode cX1_takers 16 = .ok (.iconst (-1), 1) := by decide +kernel
theorem dX1_takers_17 : decode cX1_takers 17 = .ok (.ixor, 1) := by decide +kernel
theorem dX1_takers_18 : decode cX1_takers 18 = .ok (.iand, 1) := by decide +kernel
theorem dX1_takers_19 : decode cX1_takers 19 = .ok (.iload_n 2, 1) := by decide +kernel
theorem dX1_takers_20 : decode cX1_takers 20 = .ok (.invokestatic 79, 3) := by decide +kernel
theorem dX1_takers_23 : decode cX1_takers 23 = .ok (.ireturn, 1) := by decide +kernel
set_option maxRecDepth 20000 in
theorem ggX1_takersOfEach_X1_hungry : GoodIn wsX1_takersOfEach wsX1_hungry := goodIn_r _ [6, 7, 8, 9, 10, 5, 11, 12, 13, 14, 15, 16, 17, 18, 49, 50, 51, 52, 53, 54] (by decide +kernel) (by decide +kernel)
set_option maxRecDepth 20000 in
theorem gX1_takersOfEach_X1_hungry : GoodIn wsX1_takersOfEach (wsV RX1 69 RX1 yX1_hungry wsX1_hungry) := goodIn_app (goodIn_of _ (by decide +kernel)) ggX1_takersOfEach_X1_hungry
set_option maxRecDepth 20000 in
theorem ggX1_takersOfEach_X1_foundOut : GoodIn wsX1_takersOfEach wsX1_foundOut := goodIn_r _ [22, 7, 23, 24, 25, 26, 5, 27, 28, 29, 30, 31, 32, 33, 15, 34, 14, 16, 49, 50, 51, 52, 53, 54] (by decide +kernel) (by decide +kernel)
set_option maxRecDepth 20000 in
theorem gX1_takersOfEach_X1_foundOut : GoodIn wsX1_takersOfEach (wsV RX1 76 RX1 yX1_foundOut wsX1_foundOut) := goodIn_app (goodIn_of _ (by decide +kernel)) ggX1_takersOfEach_X1_foundOut
set_option maxRecDepth 20000 in
theorem ggX1_takersOfEach_X1_allShown : GoodIn wsX1_takersOfEach wsX1_allShown := goodIn_r _ [38, 1, 24, 25, 26, 5, 27, 7, 28, 29, 30, 31, 32, 33, 15, 34, 49, 50, 51, 52, 53, 54] (by decide +kernel) (by decide +kernel)
set_option maxRecDepth 20000 in
theorem gX1_takersOfEach_X1_allShown : GoodIn wsX1_takersOfEach (wsV RX1 72 RX1 yX1_allShown wsX1_allShown) := goodIn_app (goodIn_of _ (by decide +kernel)) ggX1_takersOfEach_X1_allShown
set_option maxRecDepth 20000 in
theorem ggX1_takersOfEach_J7_fill_53178 : GoodIn wsX1_takersOfEach wsJ7_fill_53178 := goodIn_r _ [42] (by decide +kernel) (by decide +kernel)
set_option maxRecDepth 20000 in
theorem gX1_takersOfEach_J7_fill_53178 : GoodIn wsX1_takersOfEach (va_wsS RX1 83 yJ7_fill_53178 wsJ7_fill_53178) := goodIn_app (goodIn_of _ (by decide +kernel)) ggX1_takersOfEach_J7_fill_53178
set_option maxRecDepth 20000 in
theorem ggX1_takersOfEach_X8_holds : GoodIn wsX1_takersOfEach wsX8_holds := goodIn_r _ [16] (by decide +kernel) (by decide +kernel)
set_option maxRecDepth 20000 in
theorem gX1_takersOfEach_X8_holds_n45 : GoodIn wsX1_takersOfEach (wsX8_holds) := ggX1_takersOfEach_X8_holds
set_option maxRecDepth 20000 in
theorem ggX1_takersOfEach_X8_placeOf : GoodIn wsX1_takersOfEach wsX8_placeOf := goodIn_r _ [44, 45, 33, 15, 34, 46, 14, 16] (by decide +kernel) (by decide +kernel)
set_option maxRecDepth 20000 in
theorem gX1_takersOfEach_X8_placeOf_n89 : GoodIn wsX1_takersOfEach (wsX8_placeOf) := ggX1_takersOfEach_X8_placeOf
set_option maxRecDepth 20000 in
theorem ggX1_takersOfEach_X8_at : GoodIn wsX1_takersOfEach wsX8_at := goodIn_r _ [34] (by decide +kernel) (by decide +kernel)
set_option maxRecDepth 20000 in
theorem gX1_takersOfEach_X8_at_n59 : GoodIn wsX1_takersOfEach (wsX8_at) := ggX1_takersOfEach_X8_at
set_option maxRecDepth 20000 in
theorem ggX1_takersOfEach_X8_put : GoodIn wsX1_takersOfEach wsX8_put := goodIn_r _ [48] (by decide +kernel) (by decide +kernel)
set_option maxRecDepth 20000 in
theorem gX1_takersOfEach_X8_put_n35 : GoodIn wsX1_takersOfEach (wsX8_put) := ggX1_takersOfEach_X8_put
theorem dX1_takersOfEach_0 : decode cX1_takersOfEach 0 = .ok (.aload_n 0, 1) := by decide +kernel
theorem dX1_takersOfEach_1 : decode cX1_takersOfEach 1 = .ok (.iload_n 1, 1) := by decide +kernel
theorem dX1_takersOfEach_2 : decode cX1_takersOfEach 2 = .ok (.invokevirtual 69, 3) := by decide +kernel
theorem dX1_takersOfEach_5 : decode cX1_takersOfEach 5 = .ok (.istore_n 3, 1) := by decide +kernel
theorem dX1_takersOfEach_6 : decode cX1_takersOfEach 6 = .ok (.iload_n 3, 1) := by decide +kernel
theorem dX1_takersOfEach_7 : decode cX1_takersOfEach 7 = .ok (.aload_n 0, 1) := by decide +kernel
theorem dX1_takersOfEach_8 : decode cX1_takersOfEach 8 = .ok (.iload_n 3, 1) := by decide +kernel
theorem dX1_takersOfEach_9 : decode cX1_takersOfEach 9 = .ok (.invokevirtual 76, 3) := by decide +kernel
theorem dX1_takersOfEach_12 : decode cX1_takersOfEach 12 = .ok (.iconst (-1), 1) := by decide +kernel
theorem dX1_takersOfEach_13 : decode cX1_takersOfEach 13 = .ok (.ixor, 1) := by decide +kernel
theorem dX1_takersOfEach_14 : decode cX1_takersOfEach 14 = .ok (.iand, 1) := by decide +kernel
theorem dX1_takersOfEach_15 : decode cX1_takersOfEach 15 = .ok (.istore 4, 2) := by decide +kernel
theorem dX1_takersOfEach_17 : decode cX1_takersOfEach 17 = .ok (.aload_n 0, 1) := by decide +kernel
theorem dX1_takersOfEach_18 : decode cX1_takersOfEach 18 = .ok (.invokevirtual 72, 3) := by decide +kernel
theorem dX1_takersOfEach_21 : decode cX1_takersOfEach 21 = .ok (.pop, 1) := by decide +kernel
theorem dX1_takersOfEach_22 : decode cX1_takersOfEach 22 = .ok (.aload_n 2, 1) := by decide +kernel
theorem dX1_takersOfEach_23 : decode cX1_takersOfEach 23 = .ok (.iconst 0, 1) := by decide +kernel
theorem dX1_takersOfEach_24 : decode cX1_takersOfEach 24 = .ok (.invokestatic 83, 3) := by decide +kernel
theorem dX1_takersOfEach_27 : decode cX1_takersOfEach 27 = .ok (.iconst 0, 1) := by decide +kernel
theorem dX1_takersOfEach_28 : decode cX1_takersOfEach 28 = .ok (.istore 5, 2) := by decide +kernel
theorem dX1_takersOfEach_30 : decode cX1_takersOfEach 30 = .ok (.iload 5, 2) := by decide +kernel
theorem dX1_takersOfEach_32 : decode cX1_takersOfEach 32 = .ok (.bipush 6, 2) := by decide +kernel
theorem dX1_takersOfEach_34 : decode cX1_takersOfEach 34 = .ok (.if_icmp .ge 64, 3) := by decide +kernel
theorem dX1_takersOfEach_37 : decode cX1_takersOfEach 37 = .ok (.iload 4, 2) := by decide +kernel
theorem dX1_takersOfEach_39 : decode cX1_takersOfEach 39 = .ok (.iload 5, 2) := by decide +kernel
theorem dX1_takersOfEach_41 : decode cX1_takersOfEach 41 = .ok (.invokestatic 45, 3) := by decide +kernel
theorem dX1_takersOfEach_44 : decode cX1_takersOfEach 44 = .ok (.ifCond .eq 48, 3) := by decide +kernel
theorem dX1_takersOfEach_47 : decode cX1_takersOfEach 47 = .ok (.iload 5, 2) := by decide +kernel
theorem dX1_takersOfEach_49 : decode cX1_takersOfEach 49 = .ok (.aload_n 0, 1) := by decide +kernel
theorem dX1_takersOfEach_50 : decode cX1_takersOfEach 50 = .ok (.getfield 21, 3) := by decide +kernel
theorem dX1_takersOfEach_53 : decode cX1_takersOfEach 53 = .ok (.iload 4, 2) := by decide +kernel
theorem dX1_takersOfEach_55 : decode cX1_takersOfEach 55 = .ok (.invokestatic 89, 3) := by decide +kernel
theorem dX1_takersOfEach_58 : decode cX1_takersOfEach 58 = .ok (.iconst 1, 1) := by decide +kernel
theorem dX1_takersOfEach_59 : decode cX1_takersOfEach 59 = .ok (.iadd, 1) := by decide +kernel
theorem dX1_takersOfEach_60 : decode cX1_takersOfEach 60 = .ok (.istore 6, 2) := by decide +kernel
theorem dX1_takersOfEach_62 : decode cX1_takersOfEach 62 = .ok (.iload 6, 2) := by decide +kernel
theorem dX1_takersOfEach_64 : decode cX1_takersOfEach 64 = .ok (.aload_n 2, 1) := by decide +kernel
theorem dX1_takersOfEach_65 : decode cX1_takersOfEach 65 = .ok (.arraylength, 1) := by decide +kernel
theorem dX1_takersOfEach_66 : decode cX1_takersOfEach 66 = .ok (.if_icmp .ge 26, 3) := by decide +kernel
theorem dX1_takersOfEach_69 : decode cX1_takersOfEach 69 = .ok (.aload_n 2, 1) := by decide +kernel
theorem dX1_takersOfEach_70 : decode cX1_takersOfEach 70 = .ok (.iload 6, 2) := by decide +kernel
theorem dX1_takersOfEach_72 : decode cX1_takersOfEach 72 = .ok (.aload_n 2, 1) := by decide +kernel
theorem dX1_takersOfEach_73 : decode cX1_takersOfEach 73 = .ok (.iload 6, 2) := by decide +kernel
theorem dX1_takersOfEach_75 : decode cX1_takersOfEach 75 = .ok (.invokestatic 59, 3) := by decide +kernel
theorem dX1_takersOfEach_78 : decode cX1_takersOfEach 78 = .ok (.iconst 1, 1) := by decide +kernel
theorem dX1_takersOfEach_79 : decode cX1_takersOfEach 79 = .ok (.iload 5, 2) := by decide +kernel
theorem dX1_takersOfEach_81 : decode cX1_takersOfEach 81 = .ok (.ishl, 1) := by decide +kernel
theorem dX1_takersOfEach_82 : decode cX1_takersOfEach 82 = .ok (.ior, 1) := by decide +kernel
theorem dX1_takersOfEach_83 : decode cX1_takersOfEach 83 = .ok (.invokestatic 35, 3) := by decide +kernel
theorem dX1_takersOfEach_86 : decode cX1_takersOfEach 86 = .ok (.iinc 6 1, 3) := by decide +kernel
theorem dX1_takersOfEach_89 : decode cX1_takersOfEach 89 = .ok (.goto (-27), 3) := by decide +kernel
theorem dX1_takersOfEach_92 : decode cX1_takersOfEach 92 = .ok (.iinc 5 1, 3) := by decide +kernel
theorem dX1_takersOfEach_95 : decode cX1_takersOfEach 95 = .ok (.goto (-65), 3) := by decide +kernel
theorem dX1_takersOfEach_98 : decode cX1_takersOfEach 98 = .ok (.return_, 1) := by decide +kernel
set_option maxRecDepth 20000 in
theorem ggX1_leftBy_X8_at : GoodIn wsX1_leftBy wsX8_at := goodIn_r _ [8] (by decide +kernel) (by decide +kernel)
set_option maxRecDepth 20000 in
theorem gX1_leftBy_X8_at_n59 : GoodIn wsX1_leftBy (wsX8_at) := ggX1_leftBy_X8_at
set_option maxRecDepth 20000 in
theorem ggX1_leftBy_X8_holds : GoodIn wsX1_leftBy wsX8_holds := goodIn_r _ [10] (by decide +kernel) (by decide +kernel)
set_option maxRecDepth 20000 in
theorem gX1_leftBy_X8_holds_n45 : GoodIn wsX1_leftBy (wsX8_holds) := ggX1_leftBy_X8_holds
theorem dX1_leftBy_0 : decode cX1_leftBy 0 = .ok (.aload_n 0, 1) := by decide +kernel
theorem dX1_leftBy_1 : decode cX1_leftBy 1 = .ok (.getfield 9, 3) := by decide +kernel
theorem dX1_leftBy_4 : decode cX1_leftBy 4 = .ok (.iload_n 1, 1) := by decide +kernel
theorem dX1_leftBy_5 : decode cX1_leftBy 5 = .ok (.invokestatic 59, 3) := by decide +kernel
theorem dX1_leftBy_8 : decode cX1_leftBy 8 = .ok (.istore_n 3, 1) := by decide +kernel
theorem dX1_leftBy_9 : decode cX1_leftBy 9 = .ok (.iload_n 2, 1) := by decide +kernel
theorem dX1_leftBy_10 : decode cX1_leftBy 10 = .ok (.iload_n 1, 1) := by decide +kernel
theorem dX1_leftBy_11 : decode cX1_leftBy 11 = .ok (.invokestatic 45, 3) := by decide +kernel
theorem dX1_leftBy_14 : decode cX1_leftBy 14 = .ok (.ifCond .eq 13, 3) := by decide +kernel
theorem dX1_leftBy_17 : decode cX1_leftBy 17 = .ok (.iconst 0, 1) := by decide +kernel
theorem dX1_leftBy_18 : decode cX1_leftBy 18 = .ok (.iload_n 3, 1) := by decide +kernel
theorem dX1_leftBy_19 : decode cX1_leftBy 19 = .ok (.iconst 2, 1) := by decide +kernel
theorem dX1_leftBy_20 : decode cX1_leftBy 20 = .ok (.isub, 1) := by decide +kernel
theorem dX1_leftBy_21 : decode cX1_leftBy 21 = .ok (.invokestatic 63, 3) := by decide +kernel
theorem dX1_leftBy_24 : decode cX1_leftBy 24 = .ok (.goto 4, 3) := by decide +kernel
theorem dX1_leftBy_27 : decode cX1_leftBy 27 = .ok (.iload_n 3, 1) := by decide +kernel
theorem dX1_leftBy_28 : decode cX1_leftBy 28 = .ok (.ireturn, 1) := by decide +kernel
set_option maxRecDepth 20000 in
theorem ggX1_feed_X1_leftBy : GoodIn wsX1_feed wsX1_leftBy := goodIn_r _ [6, 1, 7, 8, 9, 10, 11, 12, 13, 14, 15, 16, 17, 18, 19, 20, 21] (by decide +kernel) (by decide +kernel)
set_option maxRecDepth 20000 in
theorem gX1_feed_X1_leftBy : GoodIn wsX1_feed (wsV RX1 93 RX1 yX1_leftBy wsX1_leftBy) := goodIn_app (goodIn_of _ (by decide +kernel)) ggX1_feed_X1_leftBy
theorem dX1_feed_0 : decode cX1_feed 0 = .ok (.iconst 0, 1) := by decide +kernel
theorem dX1_feed_1 : decode cX1_feed 1 = .ok (.istore_n 2, 1) := by decide +kernel
theorem dX1_feed_2 : decode cX1_feed 2 = .ok (.iload_n 2, 1) := by decide +kernel
theorem dX1_feed_3 : decode cX1_feed 3 = .ok (.aload_n 0, 1) := by decide +kernel
theorem dX1_feed_4 : decode cX1_feed 4 = .ok (.getfield 9, 3) := by decide +kernel
theorem dX1_feed_7 : decode cX1_feed 7 = .ok (.arraylength, 1) := by decide +kernel
theorem dX1_feed_8 : decode cX1_feed 8 = .ok (.if_icmp .ge 21, 3) := by decide +kernel
theorem dX1_feed_11 : decode cX1_feed 11 = .ok (.aload_n 0, 1) := by decide +kernel
theorem dX1_feed_12 : decode cX1_feed 12 = .ok (.getfield 9, 3) := by decide +kernel
theorem dX1_feed_15 : decode cX1_feed 15 = .ok (.iload_n 2, 1) := by decide +kernel
theorem dX1_feed_16 : decode cX1_feed 16 = .ok (.aload_n 0, 1) := by decide +kernel
theorem dX1_feed_17 : decode cX1_feed 17 = .ok (.iload_n 2, 1) := by decide +kernel
theorem dX1_feed_18 : decode cX1_feed 18 = .ok (.iload_n 1, 1) := by decide +kernel
theorem dX1_feed_19 : decode cX1_feed 19 = .ok (.invokevirtual 93, 3) := by decide +kernel
theorem dX1_feed_22 : decode cX1_feed 22 = .ok (.iastore, 1) := by decide +kernel
theorem dX1_feed_23 : decode cX1_feed 23 = .ok (.iinc 2 1, 3) := by decide +kernel
theorem dX1_feed_26 : decode cX1_feed 26 = .ok (.goto (-24), 3) := by decide +kernel
theorem dX1_feed_29 : decode cX1_feed 29 = .ok (.return_, 1) := by decide +kernel
set_option maxRecDepth 20000 in
theorem ggX1_growHungrier_X8_at : GoodIn wsX1_growHungrier wsX8_at := goodIn_r _ [8] (by decide +kernel) (by decide +kernel)
set_option maxRecDepth 20000 in
theorem gX1_growHungrier_X8_at_n59 : GoodIn wsX1_growHungrier (wsX8_at) := ggX1_growHungrier_X8_at
set_option maxRecDepth 20000 in
theorem ggX1_growHungrier_X8_put : GoodIn wsX1_growHungrier wsX8_put := goodIn_r _ [10] (by decide +kernel) (by decide +kernel)
set_option maxRecDepth 20000 in
theorem gX1_growHungrier_X8_put_n35 : GoodIn wsX1_growHungrier (wsX8_put) := ggX1_growHungrier_X8_put
theorem dX1_growHungrier_0 : decode cX1_growHungrier 0 = .ok (.aload_n 0, 1) := by decide +kernel
theorem dX1_growHungrier_1 : decode cX1_growHungrier 1 = .ok (.getfield 9, 3) := by decide +kernel
theorem dX1_growHungrier_4 : decode cX1_growHungrier 4 = .ok (.iload_n 1, 1) := by decide +kernel
theorem dX1_growHungrier_5 : decode cX1_growHungrier 5 = .ok (.bipush 20, 2) := by decide +kernel
theorem dX1_growHungrier_7 : decode cX1_growHungrier 7 = .ok (.aload_n 0, 1) := by decide +kernel
theorem dX1_growHungrier_8 : decode cX1_growHungrier 8 = .ok (.getfield 9, 3) := by decide +kernel
theorem dX1_growHungrier_11 : decode cX1_growHungrier 11 = .ok (.iload_n 1, 1) := by decide +kernel
theorem dX1_growHungrier_12 : decode cX1_growHungrier 12 = .ok (.invokestatic 59, 3) := by decide +kernel
theorem dX1_growHungrier_15 : decode cX1_growHungrier 15 = .ok (.iconst 1, 1) := by decide +kernel
theorem dX1_growHungrier_16 : decode cX1_growHungrier 16 = .ok (.iadd, 1) := by decide +kernel
theorem dX1_growHungrier_17 : decode cX1_growHungrier 17 = .ok (.invokestatic 96, 3) := by decide +kernel
theorem dX1_growHungrier_20 : decode cX1_growHungrier 20 = .ok (.invokestatic 35, 3) := by decide +kernel
theorem dX1_growHungrier_23 : decode cX1_growHungrier 23 = .ok (.return_, 1) := by decide +kernel
set_option maxRecDepth 20000 in
theorem ggX1_passHour_X1_growHungrier : GoodIn wsX1_passHour wsX1_growHungrier := goodIn_r _ [5, 6, 7, 8, 9, 10, 11, 12, 13, 14, 15, 16, 17, 18, 19, 20, 21] (by decide +kernel) (by decide +kernel)
set_option maxRecDepth 20000 in
theorem gX1_passHour_X1_growHungrier : GoodIn wsX1_passHour (wsV RX1 99 RX1 yX1_growHungrier wsX1_growHungrier) := goodIn_app (goodIn_of _ (by decide +kernel)) ggX1_passHour_X1_growHungrier
theorem dX1_passHour_0 : decode cX1_passHour 0 = .ok (.iconst 0, 1) := by decide +kernel
theorem dX1_passHour_1 : decode cX1_passHour 1 = .ok (.istore_n 1, 1) := by decide +kernel
theorem dX1_passHour_2 : decode cX1_passHour 2 = .ok (.iload_n 1, 1) := by decide +kernel
theorem dX1_passHour_3 : decode cX1_passHour 3 = .ok (.bipush 6, 2) := by decide +kernel
theorem dX1_passHour_5 : decode cX1_passHour 5 = .ok (.if_icmp .ge 14, 3) := by decide +kernel
theorem dX1_passHour_8 : decode cX1_passHour 8 = .ok (.aload_n 0, 1) := by decide +kernel
theorem dX1_passHour_9 : decode cX1_passHour 9 = .ok (.iload_n 1, 1) := by decide +kernel
theorem dX1_passHour_10 : decode cX1_passHour 10 = .ok (.invokevirtual 99, 3) := by decide +kernel
theorem dX1_passHour_13 : decode cX1_passHour 13 = .ok (.iinc 1 1, 3) := by decide +kernel
theorem dX1_passHour_16 : decode cX1_passHour 16 = .ok (.goto (-14), 3) := by decide +kernel
theorem dX1_passHour_19 : decode cX1_passHour 19 = .ok (.return_, 1) := by decide +kernel
set_option maxRecDepth 20000 in
theorem ggX1_starved_X8_holds : GoodIn wsX1_starved wsX8_holds := goodIn_r _ [5] (by decide +kernel) (by decide +kernel)
set_option maxRecDepth 20000 in
theorem gX1_starved_X8_holds_n45 : GoodIn wsX1_starved (wsX8_holds) := ggX1_starved_X8_holds
theorem dX1_starved_0 : decode cX1_starved 0 = .ok (.iconst 0, 1) := by decide +kernel
theorem dX1_starved_1 : decode cX1_starved 1 = .ok (.istore_n 1, 1) := by decide +kernel
theorem dX1_starved_2 : decode cX1_starved 2 = .ok (.iconst 0, 1) := by decide +kernel
theorem dX1_starved_3 : decode cX1_starved 3 = .ok (.istore_n 2, 1) := by decide +kernel
theorem dX1_starved_4 : decode cX1_starved 4 = .ok (.iload_n 2, 1) := by decide +kernel
theorem dX1_starved_5 : decode cX1_starved 5 = .ok (.aload_n 0, 1) := by decide +kernel
theorem dX1_starved_6 : decode cX1_starved 6 = .ok (.getfield 9, 3) := by decide +kernel
theorem dX1_starved_9 : decode cX1_starved 9 = .ok (.arraylength, 1) := by decide +kernel
theorem dX1_starved_10 : decode cX1_starved 10 = .ok (.if_icmp .ge 37, 3) := by decide +kernel
theorem dX1_starved_13 : decode cX1_starved 13 = .ok (.aload_n 0, 1) := by decide +kernel
theorem dX1_starved_14 : decode cX1_starved 14 = .ok (.getfield 9, 3) := by decide +kernel
theorem dX1_starved_17 : decode cX1_starved 17 = .ok (.iload_n 2, 1) := by decide +kernel
theorem dX1_starved_18 : decode cX1_starved 18 = .ok (.iaload, 1) := by decide +kernel
theorem dX1_starved_19 : decode cX1_starved 19 = .ok (.bipush 20, 2) := by decide +kernel
theorem dX1_starved_21 : decode cX1_starved 21 = .ok (.if_icmp .ne 20, 3) := by decide +kernel
theorem dX1_starved_24 : decode cX1_starved 24 = .ok (.aload_n 0, 1) := by decide +kernel
theorem dX1_starved_25 : decode cX1_starved 25 = .ok (.getfield 32, 3) := by decide +kernel
theorem dX1_starved_28 : decode cX1_starved 28 = .ok (.iload_n 2, 1) := by decide +kernel
theorem dX1_starved_29 : decode cX1_starved 29 = .ok (.invokestatic 45, 3) := by decide +kernel
theorem dX1_starved_32 : decode cX1_starved 32 = .ok (.ifCond .eq 9, 3) := by decide +kernel
theorem dX1_starved_35 : decode cX1_starved 35 = .ok (.iload_n 1, 1) := by decide +kernel
theorem dX1_starved_36 : decode cX1_starved 36 = .ok (.iconst 1, 1) := by decide +kernel
theorem dX1_starved_37 : decode cX1_starved 37 = .ok (.iload_n 2, 1) := by decide +kernel
theorem dX1_starved_38 : decode cX1_starved 38 = .ok (.ishl, 1) := by decide +kernel
theorem dX1_starved_39 : decode cX1_starved 39 = .ok (.ior, 1) := by decide +kernel
theorem dX1_starved_40 : decode cX1_starved 40 = .ok (.istore_n 1, 1) := by decide +kernel
theorem dX1_starved_41 : decode cX1_starved 41 = .ok (.iinc 2 1, 3) := by decide +kernel
theorem dX1_starved_44 : decode cX1_starved 44 = .ok (.goto (-40), 3) := by decide +kernel
theorem dX1_starved_47 : decode cX1_starved 47 = .ok (.iload_n 1, 1) := by decide +kernel
theorem dX1_starved_48 : decode cX1_starved 48 = .ok (.ireturn, 1) := by decide +kernel
set_option maxRecDepth 20000 in
theorem ggX1_hungerLeft_X8_holds : GoodIn wsX1_hungerLeft wsX8_holds := goodIn_r _ [3] (by decide +kernel) (by decide +kernel)
set_option maxRecDepth 20000 in
theorem gX1_hungerLeft_X8_holds_n45 : GoodIn wsX1_hungerLeft (wsX8_holds) := ggX1_hungerLeft_X8_holds
set_option maxRecDepth 20000 in
theorem ggX1_hungerLeft_X1_leftBy : GoodIn wsX1_hungerLeft wsX1_leftBy := goodIn_r _ [8, 9, 10, 11, 12, 13, 14, 2, 15, 1, 3, 16, 17, 18, 19, 20, 21] (by decide +kernel) (by decide +kernel)
set_option maxRecDepth 20000 in
theorem gX1_hungerLeft_X1_leftBy : GoodIn wsX1_hungerLeft (wsV RX1 93 RX1 yX1_leftBy wsX1_leftBy) := goodIn_app (goodIn_of _ (by decide +kernel)) ggX1_hungerLeft_X1_leftBy
theorem dX1_hungerLeft_0 : decode cX1_hungerLeft 0 = .ok (.iconst 0, 1) := by decide +kernel
theorem dX1_hungerLeft_1 : decode cX1_hungerLeft 1 = .ok (.istore_n 3, 1) := by decide +kernel
theorem dX1_hungerLeft_2 : decode cX1_hungerLeft 2 = .ok (.iconst 0, 1) := by decide +kernel
theorem dX1_hungerLeft_3 : decode cX1_hungerLeft 3 = .ok (.istore 4, 2) := by decide +kernel
theorem dX1_hungerLeft_5 : decode cX1_hungerLeft 5 = .ok (.iload 4, 2) := by decide +kernel
theorem dX1_hungerLeft_7 : decode cX1_hungerLeft 7 = .ok (.bipush 6, 2) := by decide +kernel
theorem dX1_hungerLeft_9 : decode cX1_hungerLeft 9 = .ok (.if_icmp .ge 32, 3) := by decide +kernel
theorem dX1_hungerLeft_12 : decode cX1_hungerLeft 12 = .ok (.iload_n 3, 1) := by decide +kernel
theorem dX1_hungerLeft_13 : decode cX1_hungerLeft 13 = .ok (.iload_n 1, 1) := by decide +kernel
theorem dX1_hungerLeft_14 : decode cX1_hungerLeft 14 = .ok (.iload 4, 2) := by decide +kernel
theorem dX1_hungerLeft_16 : decode cX1_hungerLeft 16 = .ok (.invokestatic 45, 3) := by decide +kernel
theorem dX1_hungerLeft_19 : decode cX1_hungerLeft 19 = .ok (.ifCond .eq 13, 3) := by decide +kernel
theorem dX1_hungerLeft_22 : decode cX1_hungerLeft 22 = .ok (.aload_n 0, 1) := by decide +kernel
theorem dX1_hungerLeft_23 : decode cX1_hungerLeft 23 = .ok (.iload 4, 2) := by decide +kernel
theorem dX1_hungerLeft_25 : decode cX1_hungerLeft 25 = .ok (.iload_n 2, 1) := by decide +kernel
theorem dX1_hungerLeft_26 : decode cX1_hungerLeft 26 = .ok (.invokevirtual 93, 3) := by decide +kernel
theorem dX1_hungerLeft_29 : decode cX1_hungerLeft 29 = .ok (.goto 4, 3) := by decide +kernel
theorem dX1_hungerLeft_32 : decode cX1_hungerLeft 32 = .ok (.iconst 0, 1) := by decide +kernel
theorem dX1_hungerLeft_33 : decode cX1_hungerLeft 33 = .ok (.iadd, 1) := by decide +kernel
theorem dX1_hungerLeft_34 : decode cX1_hungerLeft 34 = .ok (.istore_n 3, 1) := by decide +kernel
theorem dX1_hungerLeft_35 : decode cX1_hungerLeft 35 = .ok (.iinc 4 1, 3) := by decide +kernel
theorem dX1_hungerLeft_38 : decode cX1_hungerLeft 38 = .ok (.goto (-33), 3) := by decide +kernel
theorem dX1_hungerLeft_41 : decode cX1_hungerLeft 41 = .ok (.iload_n 3, 1) := by decide +kernel
theorem dX1_hungerLeft_42 : decode cX1_hungerLeft 42 = .ok (.ireturn, 1) := by decide +kernel
set_option maxRecDepth 20000 in
theorem ggX1_greatestLeft_X8_holds : GoodIn wsX1_greatestLeft wsX8_holds := goodIn_r _ [7] (by decide +kernel) (by decide +kernel)
set_option maxRecDepth 20000 in
theorem gX1_greatestLeft_X8_holds_n45 : GoodIn wsX1_greatestLeft (wsX8_holds) := ggX1_greatestLeft_X8_holds
set_option maxRecDepth 20000 in
theorem ggX1_greatestLeft_X1_leftBy : GoodIn wsX1_greatestLeft wsX1_leftBy := goodIn_r _ [12, 13, 1, 2, 3, 4, 14, 6, 15, 5, 7, 16, 17, 18, 19, 20, 21] (by decide +kernel) (by decide +kernel)
set_option maxRecDepth 20000 in
theorem gX1_greatestLeft_X1_leftBy : GoodIn wsX1_greatestLeft (wsV RX1 93 RX1 yX1_leftBy wsX1_leftBy) := goodIn_app (goodIn_of _ (by decide +kernel)) ggX1_greatestLeft_X1_leftBy
theorem dX1_greatestLeft_0 : decode cX1_greatestLeft 0 = .ok (.iconst 0, 1) := by decide +kernel
theorem dX1_greatestLeft_1 : decode cX1_greatestLeft 1 = .ok (.istore_n 3, 1) := by decide +kernel
theorem dX1_greatestLeft_2 : decode cX1_greatestLeft 2 = .ok (.iconst 0, 1) := by decide +kernel
theorem dX1_greatestLeft_3 : decode cX1_greatestLeft 3 = .ok (.istore 4, 2) := by decide +kernel
theorem dX1_greatestLeft_5 : decode cX1_greatestLeft 5 = .ok (.iload 4, 2) := by decide +kernel
theorem dX1_greatestLeft_7 : decode cX1_greatestLeft 7 = .ok (.bipush 6, 2) := by decide +kernel
theorem dX1_greatestLeft_9 : decode cX1_greatestLeft 9 = .ok (.if_icmp .ge 34, 3) := by decide +kernel
theorem dX1_greatestLeft_12 : decode cX1_greatestLeft 12 = .ok (.iload_n 3, 1) := by decide +kernel
theorem dX1_greatestLeft_13 : decode cX1_greatestLeft 13 = .ok (.iload_n 1, 1) := by decide +kernel
theorem dX1_greatestLeft_14 : decode cX1_greatestLeft 14 = .ok (.iload 4, 2) := by decide +kernel
theorem dX1_greatestLeft_16 : decode cX1_greatestLeft 16 = .ok (.invokestatic 45, 3) := by decide +kernel
theorem dX1_greatestLeft_19 : decode cX1_greatestLeft 19 = .ok (.ifCond .eq 13, 3) := by decide +kernel
theorem dX1_greatestLeft_22 : decode cX1_greatestLeft 22 = .ok (.aload_n 0, 1) := by decide +kernel
theorem dX1_greatestLeft_23 : decode cX1_greatestLeft 23 = .ok (.iload 4, 2) := by decide +kernel
theorem dX1_greatestLeft_25 : decode cX1_greatestLeft 25 = .ok (.iload_n 2, 1) := by decide +kernel
theorem dX1_greatestLeft_26 : decode cX1_greatestLeft 26 = .ok (.invokevirtual 93, 3) := by decide +kernel
theorem dX1_greatestLeft_29 : decode cX1_greatestLeft 29 = .ok (.goto 4, 3) := by decide +kernel
theorem dX1_greatestLeft_32 : decode cX1_greatestLeft 32 = .ok (.iconst 0, 1) := by decide +kernel
theorem dX1_greatestLeft_33 : decode cX1_greatestLeft 33 = .ok (.invokestatic 63, 3) := by decide +kernel
theorem dX1_greatestLeft_36 : decode cX1_greatestLeft 36 = .ok (.istore_n 3, 1) := by decide +kernel
theorem dX1_greatestLeft_37 : decode cX1_greatestLeft 37 = .ok (.iinc 4 1, 3) := by decide +kernel
theorem dX1_greatestLeft_40 : decode cX1_greatestLeft 40 = .ok (.goto (-35), 3) := by decide +kernel
theorem dX1_greatestLeft_43 : decode cX1_greatestLeft 43 = .ok (.iload_n 3, 1) := by decide +kernel
theorem dX1_greatestLeft_44 : decode cX1_greatestLeft 44 = .ok (.ireturn, 1) := by decide +kernel
set_option maxRecDepth 20000 in
theorem ggX2_init_X1_init : GoodIn wsX2_init wsX1_init := goodIn_r _ [11, 12, 2, 3, 8, 13, 14, 15, 16, 17, 18, 19, 20, 21, 22, 23] (by decide +kernel) (by decide +kernel)
set_option maxRecDepth 20000 in
theorem gX2_init_X1_init_n11 : GoodIn wsX2_init (wsX1_init) := ggX2_init_X1_init
theorem dX2_init_0 : decode cX2_init 0 = .ok (.aload_n 0, 1) := by decide +kernel
theorem dX2_init_1 : decode cX2_init 1 = .ok (.invokespecial 3, 3) := by decide +kernel
theorem dX2_init_4 : decode cX2_init 4 = .ok (.aload_n 0, 1) := by decide +kernel
theorem dX2_init_5 : decode cX2_init 5 = .ok (.new 9, 3) := by decide +kernel
theorem dX2_init_8 : decode cX2_init 8 = .ok (.dup, 1) := by decide +kernel
theorem dX2_init_9 : decode cX2_init 9 = .ok (.invokespecial 11, 3) := by decide +kernel
theorem dX2_init_12 : decode cX2_init 12 = .ok (.putfield 12, 3) := by decide +kernel
theorem dX2_init_15 : decode cX2_init 15 = .ok (.aload_n 0, 1) := by decide +kernel
theorem dX2_init_16 : decode cX2_init 16 = .ok (.sipush 486, 3) := by decide +kernel
theorem dX2_init_19 : decode cX2_init 19 = .ok (.newarray .int, 2) := by decide +kernel
theorem dX2_init_21 : decode cX2_init 21 = .ok (.putfield 18, 3) := by decide +kernel
theorem dX2_init_24 : decode cX2_init 24 = .ok (.return_, 1) := by decide +kernel
set_option maxRecDepth 20000 in
theorem ggX2_leastFeint_X1_become : GoodIn wsX2_leastFeint wsX1_become := goodIn_r _ [8, 9, 10, 11, 12, 13, 14, 15, 16, 17, 18, 19, 20, 21, 22, 23, 24, 70, 71, 72, 73, 74, 75] (by decide +kernel) (by decide +kernel)
set_option maxRecDepth 20000 in
theorem gX2_leastFeint_X1_become : GoodIn wsX2_leastFeint (wsV RX2 22 RX1 yX1_become wsX1_become) := goodIn_app (goodIn_of _ (by decide +kernel)) ggX2_leastFeint_X1_become
set_option maxRecDepth 20000 in
theorem ggX2_leastFeint_X8_at : GoodIn wsX2_leastFeint wsX8_at := goodIn_r _ [26] (by decide +kernel) (by decide +kernel)
set_option maxRecDepth 20000 in
theorem gX2_leastFeint_X8_at_n29 : GoodIn wsX2_leastFeint (wsX8_at) := ggX2_leastFeint_X8_at
set_option maxRecDepth 20000 in
theorem ggX2_leastFeint_X8_put : GoodIn wsX2_leastFeint wsX8_put := goodIn_r _ [28] (by decide +kernel) (by decide +kernel)
set_option maxRecDepth 20000 in
theorem gX2_leastFeint_X8_put_n36 : GoodIn wsX2_leastFeint (wsX8_put) := ggX2_leastFeint_X8_put
set_option maxRecDepth 20000 in
theorem ggX2_leastFeint_X1_takers : GoodIn wsX2_leastFeint wsX1_takers := goodIn_r _ [32, 33, 34, 35, 7, 36, 9, 37, 38, 39, 40, 11, 12, 41, 15, 42, 43, 44, 45, 46, 47, 48, 49, 50, 51, 52, 53, 10, 54, 55, 19, 56, 25, 26, 57, 58, 59, 60, 13, 61, 62, 63, 64, 65, 66, 67, 70, 71, 72, 73, 74, 75] (by decide +kernel) (by decide +kernel)
set_option maxRecDepth 20000 in
theorem gX2_leastFeint_X1_takers : GoodIn wsX2_leastFeint (wsV RX2 40 RX1 yX1_takers wsX1_takers) := goodIn_app (goodIn_of _ (by decide +kernel)) ggX2_leastFeint_X1_takers
set_option maxRecDepth 20000 in
theorem ggX2_leastFeint_X8_holds : GoodIn wsX2_leastFeint wsX8_holds := goodIn_r _ [42] (by decide +kernel) (by decide +kernel)
set_option maxRecDepth 20000 in
theorem gX2_leastFeint_X8_holds_n44 : GoodIn wsX2_leastFeint (wsX8_holds) := ggX2_leastFeint_X8_holds
theorem dX2_leastFeint_0 : decode cX2_leastFeint 0 = .ok (.aload_n 0, 1) := by decide +kernel
theorem dX2_leastFeint_1 : decode cX2_leastFeint 1 = .ok (.getfield 12, 3) := by decide +kernel
theorem dX2_leastFeint_4 : decode cX2_leastFeint 4 = .ok (.aload_n 1, 1) := by decide +kernel
theorem dX2_leastFeint_5 : decode cX2_leastFeint 5 = .ok (.invokevirtual 22, 3) := by decide +kernel
theorem dX2_leastFeint_8 : decode cX2_leastFeint 8 = .ok (.aload_n 0, 1) := by decide +kernel
theorem dX2_leastFeint_9 : decode cX2_leastFeint 9 = .ok (.getfield 12, 3) := by decide +kernel
theorem dX2_leastFeint_12 : decode cX2_leastFeint 12 = .ok (.getfield 26, 3) := by decide +kernel
theorem dX2_leastFeint_15 : decode cX2_leastFeint 15 = .ok (.iload_n 2, 1) := by decide +kernel
theorem dX2_leastFeint_16 : decode cX2_leastFeint 16 = .ok (.invokestatic 29, 3) := by decide +kernel
theorem dX2_leastFeint_19 : decode cX2_leastFeint 19 = .ok (.istore 4, 2) := by decide +kernel
theorem dX2_leastFeint_21 : decode cX2_leastFeint 21 = .ok (.iconst 0, 1) := by decide +kernel
theorem dX2_leastFeint_22 : decode cX2_leastFeint 22 = .ok (.istore 5, 2) := by decide +kernel
theorem dX2_leastFeint_24 : decode cX2_leastFeint 24 = .ok (.iload 5, 2) := by decide +kernel
theorem dX2_leastFeint_26 : decode cX2_leastFeint 26 = .ok (.bipush 9, 2) := by decide +kernel
theorem dX2_leastFeint_28 : decode cX2_leastFeint 28 = .ok (.if_icmp .gt 42, 3) := by decide +kernel
theorem dX2_leastFeint_31 : decode cX2_leastFeint 31 = .ok (.aload_n 0, 1) := by decide +kernel
theorem dX2_leastFeint_32 : decode cX2_leastFeint 32 = .ok (.getfield 12, 3) := by decide +kernel
theorem dX2_leastFeint_35 : decode cX2_leastFeint 35 = .ok (.getfield 33, 3) := by decide +kernel
theorem dX2_leastFeint_38 : decode cX2_leastFeint 38 = .ok (.iload_n 2, 1) := by decide +kernel
theorem dX2_leastFeint_39 : decode cX2_leastFeint 39 = .ok (.iload 5, 2) := by decide +kernel
theorem dX2_leastFeint_41 : decode cX2_leastFeint 41 = .ok (.invokestatic 36, 3) := by decide +kernel
theorem dX2_leastFeint_44 : decode cX2_leastFeint 44 = .ok (.aload_n 0, 1) := by decide +kernel
theorem dX2_leastFeint_45 : decode cX2_leastFeint 45 = .ok (.getfield 12, 3) := by decide +kernel
theorem dX2_leastFeint_48 : decode cX2_leastFeint 48 = .ok (.iload 4, 2) := by decide +kernel
theorem dX2_leastFeint_50 : decode cX2_leastFeint 50 = .ok (.iload_n 3, 1) := by decide +kernel
theorem dX2_leastFeint_51 : decode cX2_leastFeint 51 = .ok (.invokevirtual 40, 3) := by decide +kernel
theorem dX2_leastFeint_54 : decode cX2_leastFeint 54 = .ok (.iload_n 2, 1) := by decide +kernel
theorem dX2_leastFeint_55 : decode cX2_leastFeint 55 = .ok (.invokestatic 44, 3) := by decide +kernel
theorem dX2_leastFeint_58 : decode cX2_leastFeint 58 = .ok (.ifCond .eq 6, 3) := by decide +kernel
theorem dX2_leastFeint_61 : decode cX2_leastFeint 61 = .ok (.iload 5, 2) := by decide +kernel
theorem dX2_leastFeint_63 : decode cX2_leastFeint 63 = .ok (.ireturn, 1) := by decide +kernel
theorem dX2_leastFeint_64 : decode cX2_leastFeint 64 = .ok (.iinc 5 1, 3) := by decide +kernel
theorem dX2_leastFeint_67 : decode cX2_leastFeint 67 = .ok (.goto (-43), 3) := by decide +kernel
theorem dX2_leastFeint_70 : decode cX2_leastFeint 70 = .ok (.bipush (-6), 2) := by decide +kernel
theorem dX2_leastFeint_72 : decode cX2_leastFeint 72 = .ok (.ireturn, 1) := by decide +kernel
set_option maxRecDepth 20000 in
theorem ggX2_rowsAtRest_X1_become : GoodIn wsX2_rowsAtRest wsX1_become := goodIn_r _ [7, 8, 9, 10, 11, 12, 13, 14, 15, 16, 17, 18, 19, 20, 21, 22, 23, 104, 105, 106, 107, 108, 109] (by decide +kernel) (by decide +kernel)
set_option maxRecDepth 20000 in
theorem gX2_rowsAtRest_X1_become : GoodIn wsX2_rowsAtRest (wsV RX2 22 RX1 yX1_become wsX1_become) := goodIn_app (goodIn_of _ (by decide +kernel)) ggX2_rowsAtRest_X1_become
set_option maxRecDepth 20000 in
theorem ggX2_rowsAtRest_X1_inside : GoodIn wsX2_rowsAtRest wsX1_inside := goodIn_r _ [27, 10, 11, 28, 14, 29, 104, 105, 106, 107, 108, 109] (by decide +kernel) (by decide +kernel)
set_option maxRecDepth 20000 in
theorem gX2_rowsAtRest_X1_inside : GoodIn wsX2_rowsAtRest (wsV RX2 48 RX1 yX1_inside wsX1_inside) := goodIn_app (goodIn_of _ (by decide +kernel)) ggX2_rowsAtRest_X1_inside
set_option maxRecDepth 20000 in
theorem ggX2_rowsAtRest_J6_bitCount_0f7a4 : GoodIn wsX2_rowsAtRest wsJ6_bitCount_0f7a4 := goodIn_r _ [33, 34, 35, 36] (by decide +kernel) (by decide +kernel)
set_option maxRecDepth 20000 in
theorem gX2_rowsAtRest_J6_bitCount_0f7a4 : GoodIn wsX2_rowsAtRest (va_wsS RX2 52 yJ6_bitCount_0f7a4 wsJ6_bitCount_0f7a4) := goodIn_app (goodIn_of _ (by decide +kernel)) ggX2_rowsAtRest_J6_bitCount_0f7a4
set_option maxRecDepth 20000 in
theorem ggX2_rowsAtRest_X8_power : GoodIn wsX2_rowsAtRest wsX8_power := goodIn_r _ [38] (by decide +kernel) (by decide +kernel)
set_option maxRecDepth 20000 in
theorem gX2_rowsAtRest_X8_power_n57 : GoodIn wsX2_rowsAtRest (wsX8_power) := ggX2_rowsAtRest_X8_power
set_option maxRecDepth 20000 in
theorem ggX2_rowsAtRest_X8_spread : GoodIn wsX2_rowsAtRest wsX8_spread := goodIn_r _ [40, 41, 28, 14, 29] (by decide +kernel) (by decide +kernel)
set_option maxRecDepth 20000 in
theorem gX2_rowsAtRest_X8_spread_n60 : GoodIn wsX2_rowsAtRest (wsX8_spread) := ggX2_rowsAtRest_X8_spread
set_option maxRecDepth 20000 in
theorem ggX2_rowsAtRest_X1_takers : GoodIn wsX2_rowsAtRest wsX1_takers := goodIn_r _ [45, 46, 47, 48, 6, 49, 8, 50, 25, 26, 27, 10, 11, 28, 14, 29, 51, 52, 53, 54, 55, 56, 57, 58, 59, 60, 61, 9, 62, 63, 18, 64, 65, 66, 67, 68, 69, 70, 12, 71, 72, 41, 73, 74, 75, 76, 104, 105, 106, 107, 108, 109] (by decide +kernel) (by decide +kernel)
set_option maxRecDepth 20000 in
theorem gX2_rowsAtRest_X1_takers : GoodIn wsX2_rowsAtRest (wsV RX2 40 RX1 yX1_takers wsX1_takers) := goodIn_app (goodIn_of _ (by decide +kernel)) ggX2_rowsAtRest_X1_takers
set_option maxRecDepth 20000 in
theorem ggX2_rowsAtRest_X2_noteWorths : GoodIn wsX2_rowsAtRest wsX2_noteWorths := goodIn_r _ [81, 1, 82, 83, 2, 65, 14, 66, 84, 85, 86, 6, 87, 8, 62, 63, 18, 64, 28, 29, 88, 89, 102, 103, 104, 105, 106, 107, 108, 109] (by decide +kernel) (by decide +kernel)
set_option maxRecDepth 20000 in
theorem gX2_rowsAtRest_X2_noteWorths : GoodIn wsX2_rowsAtRest (wsV RX2 64 RX2 yX2_noteWorths wsX2_noteWorths) := goodIn_app (goodIn_of _ (by decide +kernel)) ggX2_rowsAtRest_X2_noteWorths
set_option maxRecDepth 20000 in
theorem ggX2_rowsAtRest_X2_isAtRest : GoodIn wsX2_rowsAtRest wsX2_isAtRest := goodIn_r _ [93, 28, 14, 29, 94, 95, 96, 80, 97, 83, 65, 66, 102, 103] (by decide +kernel) (by decide +kernel)
set_option maxRecDepth 20000 in
theorem gX2_rowsAtRest_X2_isAtRest : GoodIn wsX2_rowsAtRest (wsV RX2 68 RX2 yX2_isAtRest wsX2_isAtRest) := goodIn_app (goodIn_of _ (by decide +kernel)) ggX2_rowsAtRest_X2_isAtRest
set_option maxRecDepth 20000 in
theorem ggX2_rowsAtRest_X2_digitsOf : GoodIn wsX2_rowsAtRest wsX2_digitsOf := goodIn_r _ [101, 1, 2, 39, 14, 40, 41, 28, 29, 65, 66, 102, 103, 104, 105, 106, 107, 108, 109] (by decide +kernel) (by decide +kernel)
set_option maxRecDepth 20000 in
theorem gX2_rowsAtRest_X2_digitsOf : GoodIn wsX2_rowsAtRest (wsV RX2 71 RX2 yX2_digitsOf wsX2_digitsOf) := goodIn_app (goodIn_of _ (by decide +kernel)) ggX2_rowsAtRest_X2_digitsOf
theorem dX2_rowsAtRest_0 : decode cX2_rowsAtRest 0 = .ok (.aload_n 0, 1) := by decide +kernel
theorem dX2_rowsAtRest_1 : decode cX2_rowsAtRest 1 = .ok (.getfield 12, 3) := by decide +kernel
theorem dX2_rowsAtRest_4 : decode cX2_rowsAtRest 4 = .ok (.aload_n 1, 1) := by decide +kernel
theorem dX2_rowsAtRest_5 : decode cX2_rowsAtRest 5 = .ok (.invokevirtual 22, 3) := by decide +kernel
theorem dX2_rowsAtRest_8 : decode cX2_rowsAtRest 8 = .ok (.aload_n 0, 1) := by decide +kernel
theorem dX2_rowsAtRest_9 : decode cX2_rowsAtRest 9 = .ok (.getfield 12, 3) := by decide +kernel
theorem dX2_rowsAtRest_12 : decode cX2_rowsAtRest 12 = .ok (.iload_n 2, 1) := by decide +kernel
theorem dX2_rowsAtRest_13 : decode cX2_rowsAtRest 13 = .ok (.invokevirtual 48, 3) := by decide +kernel
theorem dX2_rowsAtRest_16 : decode cX2_rowsAtRest 16 = .ok (.istore 5, 2) := by decide +kernel
theorem dX2_rowsAtRest_18 : decode cX2_rowsAtRest 18 = .ok (.iconst 3, 1) := by decide +kernel
theorem dX2_rowsAtRest_19 : decode cX2_rowsAtRest 19 = .ok (.iload 5, 2) := by decide +kernel
theorem dX2_rowsAtRest_21 : decode cX2_rowsAtRest 21 = .ok (.invokestatic 52, 3) := by decide +kernel
theorem dX2_rowsAtRest_24 : decode cX2_rowsAtRest 24 = .ok (.invokestatic 57, 3) := by decide +kernel
theorem dX2_rowsAtRest_27 : decode cX2_rowsAtRest 27 = .ok (.istore 6, 2) := by decide +kernel
theorem dX2_rowsAtRest_29 : decode cX2_rowsAtRest 29 = .ok (.iconst 0, 1) := by decide +kernel
theorem dX2_rowsAtRest_30 : decode cX2_rowsAtRest 30 = .ok (.istore 7, 2) := by decide +kernel
theorem dX2_rowsAtRest_32 : decode cX2_rowsAtRest 32 = .ok (.iload 7, 2) := by decide +kernel
theorem dX2_rowsAtRest_34 : decode cX2_rowsAtRest 34 = .ok (.iload 6, 2) := by decide +kernel
theorem dX2_rowsAtRest_36 : decode cX2_rowsAtRest 36 = .ok (.if_icmp .ge 40, 3) := by decide +kernel
theorem dX2_rowsAtRest_39 : decode cX2_rowsAtRest 39 = .ok (.aload_n 0, 1) := by decide +kernel
theorem dX2_rowsAtRest_40 : decode cX2_rowsAtRest 40 = .ok (.getfield 12, 3) := by decide +kernel
theorem dX2_rowsAtRest_43 : decode cX2_rowsAtRest 43 = .ok (.getfield 33, 3) := by decide +kernel
theorem dX2_rowsAtRest_46 : decode cX2_rowsAtRest 46 = .ok (.iload 5, 2) := by decide +kernel
theorem dX2_rowsAtRest_48 : decode cX2_rowsAtRest 48 = .ok (.iload 7, 2) := by decide +kernel
theorem dX2_rowsAtRest_50 : decode cX2_rowsAtRest 50 = .ok (.iconst 3, 1) := by decide +kernel
theorem dX2_rowsAtRest_51 : decode cX2_rowsAtRest 51 = .ok (.iconst 3, 1) := by decide +kernel
theorem dX2_rowsAtRest_52 : decode cX2_rowsAtRest 52 = .ok (.invokestatic 60, 3) := by decide +kernel
theorem dX2_rowsAtRest_55 : decode cX2_rowsAtRest 55 = .ok (.aload_n 0, 1) := by decide +kernel
theorem dX2_rowsAtRest_56 : decode cX2_rowsAtRest 56 = .ok (.iload 7, 2) := by decide +kernel
theorem dX2_rowsAtRest_58 : decode cX2_rowsAtRest 58 = .ok (.aload_n 0, 1) := by decide +kernel
theorem dX2_rowsAtRest_59 : decode cX2_rowsAtRest 59 = .ok (.getfield 12, 3) := by decide +kernel
theorem dX2_rowsAtRest_62 : decode cX2_rowsAtRest 62 = .ok (.iload_n 2, 1) := by decide +kernel
theorem dX2_rowsAtRest_63 : decode cX2_rowsAtRest 63 = .ok (.iload_n 3, 1) := by decide +kernel
theorem dX2_rowsAtRest_64 : decode cX2_rowsAtRest 64 = .ok (.invokevirtual 40, 3) := by decide +kernel
theorem dX2_rowsAtRest_67 : decode cX2_rowsAtRest 67 = .ok (.invokevirtual 64, 3) := by decide +kernel
theorem dX2_rowsAtRest_70 : decode cX2_rowsAtRest 70 = .ok (.iinc 7 1, 3) := by decide +kernel
theorem dX2_rowsAtRest_73 : decode cX2_rowsAtRest 73 = .ok (.goto (-41), 3) := by decide +kernel
theorem dX2_rowsAtRest_76 : decode cX2_rowsAtRest 76 = .ok (.iconst 0, 1) := by decide +kernel
theorem dX2_rowsAtRest_77 : decode cX2_rowsAtRest 77 = .ok (.istore 7, 2) := by decide +kernel
theorem dX2_rowsAtRest_79 : decode cX2_rowsAtRest 79 = .ok (.iconst 0, 1) := by decide +kernel
theorem dX2_rowsAtRest_80 : decode cX2_rowsAtRest 80 = .ok (.istore 8, 2) := by decide +kernel
theorem dX2_rowsAtRest_82 : decode cX2_rowsAtRest 82 = .ok (.iload 8, 2) := by decide +kernel
theorem dX2_rowsAtRest_84 : decode cX2_rowsAtRest 84 = .ok (.iload 6, 2) := by decide +kernel
theorem dX2_rowsAtRest_86 : decode cX2_rowsAtRest 86 = .ok (.if_icmp .ge 39, 3) := by decide +kernel
theorem dX2_rowsAtRest_89 : decode cX2_rowsAtRest 89 = .ok (.aload_n 0, 1) := by decide +kernel
theorem dX2_rowsAtRest_90 : decode cX2_rowsAtRest 90 = .ok (.iload 5, 2) := by decide +kernel
theorem dX2_rowsAtRest_92 : decode cX2_rowsAtRest 92 = .ok (.iload 8, 2) := by decide +kernel
theorem dX2_rowsAtRest_94 : decode cX2_rowsAtRest 94 = .ok (.invokevirtual 68, 3) := by decide +kernel
theorem dX2_rowsAtRest_97 : decode cX2_rowsAtRest 97 = .ok (.ifCond .eq 22, 3) := by decide +kernel
theorem dX2_rowsAtRest_100 : decode cX2_rowsAtRest 100 = .ok (.iload 7, 2) := by decide +kernel
theorem dX2_rowsAtRest_102 : decode cX2_rowsAtRest 102 = .ok (.iload 4, 2) := by decide +kernel
theorem dX2_rowsAtRest_104 : decode cX2_rowsAtRest 104 = .ok (.if_icmp .ne 12, 3) := by decide +kernel
theorem dX2_rowsAtRest_107 : decode cX2_rowsAtRest 107 = .ok (.aload_n 0, 1) := by decide +kernel
theorem dX2_rowsAtRest_108 : decode cX2_rowsAtRest 108 = .ok (.iload 5, 2) := by decide +kernel
theorem dX2_rowsAtRest_110 : decode cX2_rowsAtRest 110 = .ok (.iload 8, 2) := by decide +kernel
theorem dX2_rowsAtRest_112 : decode cX2_rowsAtRest 112 = .ok (.invokevirtual 71, 3) := by decide +kernel
theorem dX2_rowsAtRest_115 : decode cX2_rowsAtRest 115 = .ok (.ireturn, 1) := by decide +kernel
theorem dX2_rowsAtRest_116 : decode cX2_rowsAtRest 116 = .ok (.iinc 7 1, 3) := by decide +kernel
theorem dX2_rowsAtRest_119 : decode cX2_rowsAtRest 119 = .ok (.iinc 8 1, 3) := by decide +kernel
theorem dX2_rowsAtRest_122 : decode cX2_rowsAtRest 122 = .ok (.goto (-40), 3) := by decide +kernel
theorem dX2_rowsAtRest_125 : decode cX2_rowsAtRest 125 = .ok (.iload 4, 2) := by decide +kernel
theorem dX2_rowsAtRest_127 : decode cX2_rowsAtRest 127 = .ok (.iconst (-1), 1) := by decide +kernel
theorem dX2_rowsAtRest_128 : decode cX2_rowsAtRest 128 = .ok (.if_icmp .ne 8, 3) := by decide +kernel
theorem dX2_rowsAtRest_131 : decode cX2_rowsAtRest 131 = .ok (.iload 7, 2) := by decide +kernel
theorem dX2_rowsAtRest_133 : decode cX2_rowsAtRest 133 = .ok (.goto 5, 3) := by decide +kernel
theorem dX2_rowsAtRest_136 : decode cX2_rowsAtRest 136 = .ok (.bipush (-6), 2) := by decide +kernel
theorem dX2_rowsAtRest_138 : decode cX2_rowsAtRest 138 = .ok (.ireturn, 1) := by decide +kernel
set_option maxRecDepth 20000 in
theorem ggX2_noteWorths_X8_at : GoodIn wsX2_noteWorths wsX8_at := goodIn_r _ [7] (by decide +kernel) (by decide +kernel)
set_option maxRecDepth 20000 in
theorem gX2_noteWorths_X8_at_n29 : GoodIn wsX2_noteWorths (wsX8_at) := ggX2_noteWorths_X8_at
set_option maxRecDepth 20000 in
theorem ggX2_noteWorths_X1_leftBy : GoodIn wsX2_noteWorths wsX1_leftBy := goodIn_r _ [12, 13, 14, 15, 16, 17, 5, 6, 7, 18, 19, 24, 25, 26, 27, 28, 29] (by decide +kernel) (by decide +kernel)
set_option maxRecDepth 20000 in
theorem gX2_noteWorths_X1_leftBy : GoodIn wsX2_noteWorths (wsV RX2 77 RX1 yX1_leftBy wsX1_leftBy) := goodIn_app (goodIn_of _ (by decide +kernel)) ggX2_noteWorths_X1_leftBy
set_option maxRecDepth 20000 in
theorem ggX2_noteWorths_X8_put : GoodIn wsX2_noteWorths wsX8_put := goodIn_r _ [21] (by decide +kernel) (by decide +kernel)
set_option maxRecDepth 20000 in
theorem gX2_noteWorths_X8_put_n36 : GoodIn wsX2_noteWorths (wsX8_put) := ggX2_noteWorths_X8_put
theorem dX2_noteWorths_0 : decode cX2_noteWorths 0 = .ok (.iconst 0, 1) := by decide +kernel
theorem dX2_noteWorths_1 : decode cX2_noteWorths 1 = .ok (.istore_n 3, 1) := by decide +kernel
theorem dX2_noteWorths_2 : decode cX2_noteWorths 2 = .ok (.iload_n 3, 1) := by decide +kernel
theorem dX2_noteWorths_3 : decode cX2_noteWorths 3 = .ok (.bipush 6, 2) := by decide +kernel
theorem dX2_noteWorths_5 : decode cX2_noteWorths 5 = .ok (.if_icmp .ge 61, 3) := by decide +kernel
theorem dX2_noteWorths_8 : decode cX2_noteWorths 8 = .ok (.aload_n 0, 1) := by decide +kernel
theorem dX2_noteWorths_9 : decode cX2_noteWorths 9 = .ok (.getfield 12, 3) := by decide +kernel
theorem dX2_noteWorths_12 : decode cX2_noteWorths 12 = .ok (.getfield 74, 3) := by decide +kernel
theorem dX2_noteWorths_15 : decode cX2_noteWorths 15 = .ok (.iload_n 3, 1) := by decide +kernel
theorem dX2_noteWorths_16 : decode cX2_noteWorths 16 = .ok (.invokestatic 29, 3) := by decide +kernel
theorem dX2_noteWorths_19 : decode cX2_noteWorths 19 = .ok (.aload_n 0, 1) := by decide +kernel
theorem dX2_noteWorths_20 : decode cX2_noteWorths 20 = .ok (.getfield 12, 3) := by decide +kernel
theorem dX2_noteWorths_23 : decode cX2_noteWorths 23 = .ok (.iload_n 3, 1) := by decide +kernel
theorem dX2_noteWorths_24 : decode cX2_noteWorths 24 = .ok (.iload_n 2, 1) := by decide +kernel
theorem dX2_noteWorths_25 : decode cX2_noteWorths 25 = .ok (.invokevirtual 77, 3) := by decide +kernel
theorem dX2_noteWorths_28 : decode cX2_noteWorths 28 = .ok (.isub, 1) := by decide +kernel
theorem dX2_noteWorths_29 : decode cX2_noteWorths 29 = .ok (.istore 4, 2) := by decide +kernel
theorem dX2_noteWorths_31 : decode cX2_noteWorths 31 = .ok (.aload_n 0, 1) := by decide +kernel
theorem dX2_noteWorths_32 : decode cX2_noteWorths 32 = .ok (.getfield 18, 3) := by decide +kernel
theorem dX2_noteWorths_35 : decode cX2_noteWorths 35 = .ok (.iload_n 1, 1) := by decide +kernel
theorem dX2_noteWorths_36 : decode cX2_noteWorths 36 = .ok (.bipush 6, 2) := by decide +kernel
theorem dX2_noteWorths_38 : decode cX2_noteWorths 38 = .ok (.imul, 1) := by decide +kernel
theorem dX2_noteWorths_39 : decode cX2_noteWorths 39 = .ok (.iload_n 3, 1) := by decide +kernel
theorem dX2_noteWorths_40 : decode cX2_noteWorths 40 = .ok (.iadd, 1) := by decide +kernel
theorem dX2_noteWorths_41 : decode cX2_noteWorths 41 = .ok (.iload 4, 2) := by decide +kernel
theorem dX2_noteWorths_43 : decode cX2_noteWorths 43 = .ok (.aload_n 0, 1) := by decide +kernel
theorem dX2_noteWorths_44 : decode cX2_noteWorths 44 = .ok (.getfield 12, 3) := by decide +kernel
theorem dX2_noteWorths_47 : decode cX2_noteWorths 47 = .ok (.getfield 33, 3) := by decide +kernel
theorem dX2_noteWorths_50 : decode cX2_noteWorths 50 = .ok (.iload_n 3, 1) := by decide +kernel
theorem dX2_noteWorths_51 : decode cX2_noteWorths 51 = .ok (.invokestatic 29, 3) := by decide +kernel
theorem dX2_noteWorths_54 : decode cX2_noteWorths 54 = .ok (.iconst 3, 1) := by decide +kernel
theorem dX2_noteWorths_55 : decode cX2_noteWorths 55 = .ok (.idiv, 1) := by decide +kernel
theorem dX2_noteWorths_56 : decode cX2_noteWorths 56 = .ok (.isub, 1) := by decide +kernel
theorem dX2_noteWorths_57 : decode cX2_noteWorths 57 = .ok (.invokestatic 36, 3) := by decide +kernel
theorem dX2_noteWorths_60 : decode cX2_noteWorths 60 = .ok (.iinc 3 1, 3) := by decide +kernel
theorem dX2_noteWorths_63 : decode cX2_noteWorths 63 = .ok (.goto (-61), 3) := by decide +kernel
theorem dX2_noteWorths_66 : decode cX2_noteWorths 66 = .ok (.return_, 1) := by decide +kernel
set_option maxRecDepth 20000 in
theorem ggX2_isAtRest_X8_holds : GoodIn wsX2_isAtRest wsX8_holds := goodIn_r _ [3] (by decide +kernel) (by decide +kernel)
set_option maxRecDepth 20000 in
theorem gX2_isAtRest_X8_holds_n44 : GoodIn wsX2_isAtRest (wsX8_holds) := ggX2_isAtRest_X8_holds
set_option maxRecDepth 20000 in
theorem ggX2_isAtRest_X2_worth : GoodIn wsX2_isAtRest wsX2_worth := goodIn_r _ [8, 9, 10, 2, 11, 12, 13] (by decide +kernel) (by decide +kernel)
set_option maxRecDepth 20000 in
theorem gX2_isAtRest_X2_worth : GoodIn wsX2_isAtRest (wsV RX2 80 RX2 yX2_worth wsX2_worth) := goodIn_app (goodIn_of _ (by decide +kernel)) ggX2_isAtRest_X2_worth
theorem dX2_isAtRest_0 : decode cX2_isAtRest 0 = .ok (.iload_n 2, 1) := by decide +kernel
theorem dX2_isAtRest_1 : decode cX2_isAtRest 1 = .ok (.istore_n 3, 1) := by decide +kernel
theorem dX2_isAtRest_2 : decode cX2_isAtRest 2 = .ok (.iconst 1, 1) := by decide +kernel
theorem dX2_isAtRest_3 : decode cX2_isAtRest 3 = .ok (.istore 4, 2) := by decide +kernel
theorem dX2_isAtRest_5 : decode cX2_isAtRest 5 = .ok (.iconst 5, 1) := by decide +kernel
theorem dX2_isAtRest_6 : decode cX2_isAtRest 6 = .ok (.istore 5, 2) := by decide +kernel
theorem dX2_isAtRest_8 : decode cX2_isAtRest 8 = .ok (.iload 5, 2) := by decide +kernel
theorem dX2_isAtRest_10 : decode cX2_isAtRest 10 = .ok (.ifCond .lt 79, 3) := by decide +kernel
theorem dX2_isAtRest_13 : decode cX2_isAtRest 13 = .ok (.iload_n 1, 1) := by decide +kernel
theorem dX2_isAtRest_14 : decode cX2_isAtRest 14 = .ok (.iload 5, 2) := by decide +kernel
theorem dX2_isAtRest_16 : decode cX2_isAtRest 16 = .ok (.invokestatic 44, 3) := by decide +kernel
theorem dX2_isAtRest_19 : decode cX2_isAtRest 19 = .ok (.ifCond .eq 64, 3) := by decide +kernel
theorem dX2_isAtRest_22 : decode cX2_isAtRest 22 = .ok (.iload_n 2, 1) := by decide +kernel
theorem dX2_isAtRest_23 : decode cX2_isAtRest 23 = .ok (.iload_n 3, 1) := by decide +kernel
theorem dX2_isAtRest_24 : decode cX2_isAtRest 24 = .ok (.iconst 3, 1) := by decide +kernel
theorem dX2_isAtRest_25 : decode cX2_isAtRest 25 = .ok (.irem, 1) := by decide +kernel
theorem dX2_isAtRest_26 : decode cX2_isAtRest 26 = .ok (.iload 4, 2) := by decide +kernel
theorem dX2_isAtRest_28 : decode cX2_isAtRest 28 = .ok (.imul, 1) := by decide +kernel
theorem dX2_isAtRest_29 : decode cX2_isAtRest 29 = .ok (.isub, 1) := by decide +kernel
theorem dX2_isAtRest_30 : decode cX2_isAtRest 30 = .ok (.istore 6, 2) := by decide +kernel
theorem dX2_isAtRest_32 : decode cX2_isAtRest 32 = .ok (.iconst 0, 1) := by decide +kernel
theorem dX2_isAtRest_33 : decode cX2_isAtRest 33 = .ok (.istore 7, 2) := by decide +kernel
theorem dX2_isAtRest_35 : decode cX2_isAtRest 35 = .ok (.iload 7, 2) := by decide +kernel
theorem dX2_isAtRest_37 : decode cX2_isAtRest 37 = .ok (.iconst 3, 1) := by decide +kernel
theorem dX2_isAtRest_38 : decode cX2_isAtRest 38 = .ok (.if_icmp .ge 35, 3) := by decide +kernel
theorem dX2_isAtRest_41 : decode cX2_isAtRest 41 = .ok (.aload_n 0, 1) := by decide +kernel
theorem dX2_isAtRest_42 : decode cX2_isAtRest 42 = .ok (.iload 6, 2) := by decide +kernel
theorem dX2_isAtRest_44 : decode cX2_isAtRest 44 = .ok (.iload 7, 2) := by decide +kernel
theorem dX2_isAtRest_46 : decode cX2_isAtRest 46 = .ok (.iload 4, 2) := by decide +kernel
theorem dX2_isAtRest_48 : decode cX2_isAtRest 48 = .ok (.imul, 1) := by decide +kernel
theorem dX2_isAtRest_49 : decode cX2_isAtRest 49 = .ok (.iadd, 1) := by decide +kernel
theorem dX2_isAtRest_50 : decode cX2_isAtRest 50 = .ok (.iload 5, 2) := by decide +kernel
theorem dX2_isAtRest_52 : decode cX2_isAtRest 52 = .ok (.invokevirtual 80, 3) := by decide +kernel
theorem dX2_isAtRest_55 : decode cX2_isAtRest 55 = .ok (.aload_n 0, 1) := by decide +kernel
theorem dX2_isAtRest_56 : decode cX2_isAtRest 56 = .ok (.iload_n 2, 1) := by decide +kernel
theorem dX2_isAtRest_57 : decode cX2_isAtRest 57 = .ok (.iload 5, 2) := by decide +kernel
theorem dX2_isAtRest_59 : decode cX2_isAtRest 59 = .ok (.invokevirtual 80, 3) := by decide +kernel
theorem dX2_isAtRest_62 : decode cX2_isAtRest 62 = .ok (.if_icmp .le 5, 3) := by decide +kernel
theorem dX2_isAtRest_65 : decode cX2_isAtRest 65 = .ok (.iconst 0, 1) := by decide +kernel
theorem dX2_isAtRest_66 : decode cX2_isAtRest 66 = .ok (.ireturn, 1) := by decide +kernel
theorem dX2_isAtRest_67 : decode cX2_isAtRest 67 = .ok (.iinc 7 1, 3) := by decide +kernel
theorem dX2_isAtRest_70 : decode cX2_isAtRest 70 = .ok (.goto (-35), 3) := by decide +kernel
theorem dX2_isAtRest_73 : decode cX2_isAtRest 73 = .ok (.iload_n 3, 1) := by decide +kernel
theorem dX2_isAtRest_74 : decode cX2_isAtRest 74 = .ok (.iconst 3, 1) := by decide +kernel
theorem dX2_isAtRest_75 : decode cX2_isAtRest 75 = .ok (.idiv, 1) := by decide +kernel
theorem dX2_isAtRest_76 : decode cX2_isAtRest 76 = .ok (.istore_n 3, 1) := by decide +kernel
theorem dX2_isAtRest_77 : decode cX2_isAtRest 77 = .ok (.iload 4, 2) := by decide +kernel
theorem dX2_isAtRest_79 : decode cX2_isAtRest 79 = .ok (.iconst 3, 1) := by decide +kernel
theorem dX2_isAtRest_80 : decode cX2_isAtRest 80 = .ok (.imul, 1) := by decide +kernel
theorem dX2_isAtRest_81 : decode cX2_isAtRest 81 = .ok (.istore 4, 2) := by decide +kernel
theorem dX2_isAtRest_83 : decode cX2_isAtRest 83 = .ok (.iinc 5 (-1), 3) := by decide +kernel
theorem dX2_isAtRest_86 : decode cX2_isAtRest 86 = .ok (.goto (-78), 3) := by decide +kernel
theorem dX2_isAtRest_89 : decode cX2_isAtRest 89 = .ok (.iconst 1, 1) := by decide +kernel
theorem dX2_isAtRest_90 : decode cX2_isAtRest 90 = .ok (.ireturn, 1) := by decide +kernel
set_option maxRecDepth 20000 in
theorem ggX2_worth_X8_at : GoodIn wsX2_worth wsX8_at := goodIn_r _ [4] (by decide +kernel) (by decide +kernel)
set_option maxRecDepth 20000 in
theorem gX2_worth_X8_at_n29 : GoodIn wsX2_worth (wsX8_at) := ggX2_worth_X8_at
theorem dX2_worth_0 : decode cX2_worth 0 = .ok (.aload_n 0, 1) := by decide +kernel
theorem dX2_worth_1 : decode cX2_worth 1 = .ok (.getfield 18, 3) := by decide +kernel
theorem dX2_worth_4 : decode cX2_worth 4 = .ok (.iload_n 1, 1) := by decide +kernel
theorem dX2_worth_5 : decode cX2_worth 5 = .ok (.bipush 6, 2) := by decide +kernel
theorem dX2_worth_7 : decode cX2_worth 7 = .ok (.imul, 1) := by decide +kernel
theorem dX2_worth_8 : decode cX2_worth 8 = .ok (.iload_n 2, 1) := by decide +kernel
theorem dX2_worth_9 : decode cX2_worth 9 = .ok (.iadd, 1) := by decide +kernel
theorem dX2_worth_10 : decode cX2_worth 10 = .ok (.invokestatic 29, 3) := by decide +kernel
theorem dX2_worth_13 : decode cX2_worth 13 = .ok (.ireturn, 1) := by decide +kernel
set_option maxRecDepth 20000 in
theorem ggX2_digitsOf_X8_spread : GoodIn wsX2_digitsOf wsX8_spread := goodIn_r _ [5, 6, 7, 4, 8] (by decide +kernel) (by decide +kernel)
set_option maxRecDepth 20000 in
theorem gX2_digitsOf_X8_spread_n60 : GoodIn wsX2_digitsOf (wsX8_spread) := ggX2_digitsOf_X8_spread
set_option maxRecDepth 20000 in
theorem ggX2_digitsOf_X8_holds : GoodIn wsX2_digitsOf wsX8_holds := goodIn_r _ [8] (by decide +kernel) (by decide +kernel)
set_option maxRecDepth 20000 in
theorem gX2_digitsOf_X8_holds_n44 : GoodIn wsX2_digitsOf (wsX8_holds) := ggX2_digitsOf_X8_holds
set_option maxRecDepth 20000 in
theorem ggX2_digitsOf_X8_at : GoodIn wsX2_digitsOf wsX8_at := goodIn_r _ [10] (by decide +kernel) (by decide +kernel)
set_option maxRecDepth 20000 in
theorem gX2_digitsOf_X8_at_n29 : GoodIn wsX2_digitsOf (wsX8_at) := ggX2_digitsOf_X8_at
theorem dX2_digitsOf_0 : decode cX2_digitsOf 0 = .ok (.aload_n 0, 1) := by decide +kernel
theorem dX2_digitsOf_1 : decode cX2_digitsOf 1 = .ok (.getfield 12, 3) := by decide +kernel
theorem dX2_digitsOf_4 : decode cX2_digitsOf 4 = .ok (.getfield 33, 3) := by decide +kernel
theorem dX2_digitsOf_7 : decode cX2_digitsOf 7 = .ok (.iload_n 1, 1) := by decide +kernel
theorem dX2_digitsOf_8 : decode cX2_digitsOf 8 = .ok (.iload_n 2, 1) := by decide +kernel
theorem dX2_digitsOf_9 : decode cX2_digitsOf 9 = .ok (.iconst 3, 1) := by decide +kernel
theorem dX2_digitsOf_10 : decode cX2_digitsOf 10 = .ok (.iconst 3, 1) := by decide +kernel
theorem dX2_digitsOf_11 : decode cX2_digitsOf 11 = .ok (.invokestatic 60, 3) := by decide +kernel
theorem dX2_digitsOf_14 : decode cX2_digitsOf 14 = .ok (.iconst 0, 1) := by decide +kernel
theorem dX2_digitsOf_15 : decode cX2_digitsOf 15 = .ok (.istore_n 3, 1) := by decide +kernel
theorem dX2_digitsOf_16 : decode cX2_digitsOf 16 = .ok (.iconst 0, 1) := by decide +kernel
theorem dX2_digitsOf_17 : decode cX2_digitsOf 17 = .ok (.istore 4, 2) := by decide +kernel
theorem dX2_digitsOf_19 : decode cX2_digitsOf 19 = .ok (.iload 4, 2) := by decide +kernel
theorem dX2_digitsOf_21 : decode cX2_digitsOf 21 = .ok (.bipush 6, 2) := by decide +kernel
theorem dX2_digitsOf_23 : decode cX2_digitsOf 23 = .ok (.if_icmp .ge 36, 3) := by decide +kernel
theorem dX2_digitsOf_26 : decode cX2_digitsOf 26 = .ok (.iload_n 1, 1) := by decide +kernel
theorem dX2_digitsOf_27 : decode cX2_digitsOf 27 = .ok (.iload 4, 2) := by decide +kernel
theorem dX2_digitsOf_29 : decode cX2_digitsOf 29 = .ok (.invokestatic 44, 3) := by decide +kernel
theorem dX2_digitsOf_32 : decode cX2_digitsOf 32 = .ok (.ifCond .eq 21, 3) := by decide +kernel
theorem dX2_digitsOf_35 : decode cX2_digitsOf 35 = .ok (.iload_n 3, 1) := by decide +kernel
theorem dX2_digitsOf_36 : decode cX2_digitsOf 36 = .ok (.bipush 10, 2) := by decide +kernel
theorem dX2_digitsOf_38 : decode cX2_digitsOf 38 = .ok (.imul, 1) := by decide +kernel
theorem dX2_digitsOf_39 : decode cX2_digitsOf 39 = .ok (.aload_n 0, 1) := by decide +kernel
theorem dX2_digitsOf_40 : decode cX2_digitsOf 40 = .ok (.getfield 12, 3) := by decide +kernel
theorem dX2_digitsOf_43 : decode cX2_digitsOf 43 = .ok (.getfield 33, 3) := by decide +kernel
theorem dX2_digitsOf_46 : decode cX2_digitsOf 46 = .ok (.iload 4, 2) := by decide +kernel
theorem dX2_digitsOf_48 : decode cX2_digitsOf 48 = .ok (.invokestatic 29, 3) := by decide +kernel
theorem dX2_digitsOf_51 : decode cX2_digitsOf 51 = .ok (.iadd, 1) := by decide +kernel
theorem dX2_digitsOf_52 : decode cX2_digitsOf 52 = .ok (.istore_n 3, 1) := by decide +kernel
theorem dX2_digitsOf_53 : decode cX2_digitsOf 53 = .ok (.iinc 4 1, 3) := by decide +kernel
theorem dX2_digitsOf_56 : decode cX2_digitsOf 56 = .ok (.goto (-37), 3) := by decide +kernel
theorem dX2_digitsOf_59 : decode cX2_digitsOf 59 = .ok (.iload_n 3, 1) := by decide +kernel
theorem dX2_digitsOf_60 : decode cX2_digitsOf 60 = .ok (.ireturn, 1) := by decide +kernel
theorem dX3_init_0 : decode cX3_init 0 = .ok (.aload_n 0, 1) := by decide +kernel
theorem dX3_init_1 : decode cX3_init 1 = .ok (.invokespecial 3, 3) := by decide +kernel
theorem dX3_init_4 : decode cX3_init 4 = .ok (.aload_n 0, 1) := by decide +kernel
theorem dX3_init_5 : decode cX3_init 5 = .ok (.bipush 60, 2) := by decide +kernel
theorem dX3_init_7 : decode cX3_init 7 = .ok (.newarray .int, 2) := by decide +kernel
theorem dX3_init_9 : decode cX3_init 9 = .ok (.putfield 9, 3) := by decide +kernel
theorem dX3_init_12 : decode cX3_init 12 = .ok (.return_, 1) := by decide +kernel
set_option maxRecDepth 20000 in
theorem ggX3_add_X8_put : GoodIn wsX3_add wsX8_put := goodIn_r _ [5] (by decide +kernel) (by decide +kernel)
set_option maxRecDepth 20000 in
theorem gX3_add_X8_put_n19 : GoodIn wsX3_add (wsX8_put) := ggX3_add_X8_put
theorem dX3_add_0 : decode cX3_add 0 = .ok (.aload_n 0, 1) := by decide +kernel
theorem dX3_add_1 : decode cX3_add 1 = .ok (.getfield 15, 3) := by decide +kernel
theorem dX3_add_4 : decode cX3_add 4 = .ok (.bipush 60, 2) := by decide +kernel
theorem dX3_add_6 : decode cX3_add 6 = .ok (.if_icmp .lt 6, 3) := by decide +kernel
theorem dX3_add_9 : decode cX3_add 9 = .ok (.bipush (-4), 2) := by decide +kernel
theorem dX3_add_11 : decode cX3_add 11 = .ok (.ireturn, 1) := by decide +kernel
theorem dX3_add_12 : decode cX3_add 12 = .ok (.aload_n 0, 1) := by decide +kernel
theorem dX3_add_13 : decode cX3_add 13 = .ok (.getfield 9, 3) := by decide +kernel
theorem dX3_add_16 : decode cX3_add 16 = .ok (.aload_n 0, 1) := by decide +kernel
theorem dX3_add_17 : decode cX3_add 17 = .ok (.getfield 15, 3) := by decide +kernel
theorem dX3_add_20 : decode cX3_add 20 = .ok (.iload_n 1, 1) := by decide +kernel
theorem dX3_add_21 : decode cX3_add 21 = .ok (.invokestatic 19, 3) := by decide +kernel
theorem dX3_add_24 : decode cX3_add 24 = .ok (.aload_n 0, 1) := by decide +kernel
theorem dX3_add_25 : decode cX3_add 25 = .ok (.dup, 1) := by decide +kernel
theorem dX3_add_26 : decode cX3_add 26 = .ok (.getfield 15, 3) := by decide +kernel
theorem dX3_add_29 : decode cX3_add 29 = .ok (.iconst 1, 1) := by decide +kernel
theorem dX3_add_30 : decode cX3_add 30 = .ok (.iadd, 1) := by decide +kernel
theorem dX3_add_31 : decode cX3_add 31 = .ok (.putfield 15, 3) := by decide +kernel
theorem dX3_add_34 : decode cX3_add 34 = .ok (.aload_n 0, 1) := by decide +kernel
theorem dX3_add_35 : decode cX3_add 35 = .ok (.getfield 15, 3) := by decide +kernel
theorem dX3_add_38 : decode cX3_add 38 = .ok (.ireturn, 1) := by decide +kernel
theorem dX3_clear_0 : decode cX3_clear 0 = .ok (.aload_n 0, 1) := by decide +kernel
theorem dX3_clear_1 : decode cX3_clear 1 = .ok (.getfield 15, 3) := by decide +kernel
theorem dX3_clear_4 : decode cX3_clear 4 = .ok (.istore_n 1, 1) := by decide +kernel
theorem dX3_clear_5 : decode cX3_clear 5 = .ok (.aload_n 0, 1) := by decide +kernel
theorem dX3_clear_6 : decode cX3_clear 6 = .ok (.iconst 0, 1) := by decide +kernel
theorem dX3_clear_7 : decode cX3_clear 7 = .ok (.putfield 15, 3) := by decide +kernel
theorem dX3_clear_10 : decode cX3_clear 10 = .ok (.iload_n 1, 1) := by decide +kernel
theorem dX3_clear_11 : decode cX3_clear 11 = .ok (.ireturn, 1) := by decide +kernel
set_option maxRecDepth 20000 in
theorem ggX3_signAt_X8_at : GoodIn wsX3_signAt wsX8_at := goodIn_r _ [5] (by decide +kernel) (by decide +kernel)
set_option maxRecDepth 20000 in
theorem gX3_signAt_X8_at_n23 : GoodIn wsX3_signAt (wsX8_at) := ggX3_signAt_X8_at
theorem dX3_signAt_0 : decode cX3_signAt 0 = .ok (.iload_n 1, 1) := by decide +kernel
theorem dX3_signAt_1 : decode cX3_signAt 1 = .ok (.aload_n 0, 1) := by decide +kernel
theorem dX3_signAt_2 : decode cX3_signAt 2 = .ok (.getfield 15, 3) := by decide +kernel
theorem dX3_signAt_5 : decode cX3_signAt 5 = .ok (.if_icmp .ge 14, 3) := by decide +kernel
theorem dX3_signAt_8 : decode cX3_signAt 8 = .ok (.aload_n 0, 1) := by decide +kernel
theorem dX3_signAt_9 : decode cX3_signAt 9 = .ok (.getfield 9, 3) := by decide +kernel
theorem dX3_signAt_12 : decode cX3_signAt 12 = .ok (.iload_n 1, 1) := by decide +kernel
theorem dX3_signAt_13 : decode cX3_signAt 13 = .ok (.invokestatic 23, 3) := by decide +kernel
theorem dX3_signAt_16 : decode cX3_signAt 16 = .ok (.goto 4, 3) := by decide +kernel
theorem dX3_signAt_19 : decode cX3_signAt 19 = .ok (.iconst 0, 1) := by decide +kernel
theorem dX3_signAt_20 : decode cX3_signAt 20 = .ok (.ireturn, 1) := by decide +kernel
set_option maxRecDepth 20000 in
theorem ggX3_firstFault_X3_signAt : GoodIn wsX3_firstFault wsX3_signAt := goodIn_r _ [6, 1, 7, 8, 9, 10, 20, 21] (by decide +kernel) (by decide +kernel)
set_option maxRecDepth 20000 in
theorem gX3_firstFault_X3_signAt : GoodIn wsX3_firstFault (wsV RX3 27 RX3 yX3_signAt wsX3_signAt) := goodIn_app (goodIn_of _ (by decide +kernel)) ggX3_firstFault_X3_signAt
set_option maxRecDepth 20000 in
theorem ggX3_firstFault_X3_isHouseSign : GoodIn wsX3_firstFault wsX3_isHouseSign := goodIn_r _ [13] (by decide +kernel) (by decide +kernel)
set_option maxRecDepth 20000 in
theorem gX3_firstFault_X3_isHouseSign : GoodIn wsX3_firstFault (va_wsS RX3 31 yX3_isHouseSign wsX3_isHouseSign) := goodIn_app (goodIn_of _ (by decide +kernel)) ggX3_firstFault_X3_isHouseSign
set_option maxRecDepth 20000 in
theorem ggX3_firstFault_X3_isGuestSign : GoodIn wsX3_firstFault wsX3_isGuestSign := goodIn_r _ [16] (by decide +kernel) (by decide +kernel)
set_option maxRecDepth 20000 in
theorem gX3_firstFault_X3_isGuestSign : GoodIn wsX3_firstFault (va_wsS RX3 35 yX3_isGuestSign wsX3_isGuestSign) := goodIn_app (goodIn_of _ (by decide +kernel)) ggX3_firstFault_X3_isGuestSign
set_option maxRecDepth 20000 in
theorem ggX3_firstFault_X3_canFollow : GoodIn wsX3_firstFault wsX3_canFollow := goodIn_r _ [19, 11, 12, 5, 13] (by decide +kernel) (by decide +kernel)
set_option maxRecDepth 20000 in
theorem gX3_firstFault_X3_canFollow : GoodIn wsX3_firstFault (va_wsS RX3 38 yX3_canFollow wsX3_canFollow) := goodIn_app (goodIn_of _ (by decide +kernel)) ggX3_firstFault_X3_canFollow
theorem dX3_firstFault_0 : decode cX3_firstFault 0 = .ok (.iconst 0, 1) := by decide +kernel
theorem dX3_firstFault_1 : decode cX3_firstFault 1 = .ok (.istore_n 1, 1) := by decide +kernel
theorem dX3_firstFault_2 : decode cX3_firstFault 2 = .ok (.iload_n 1, 1) := by decide +kernel
theorem dX3_firstFault_3 : decode cX3_firstFault 3 = .ok (.aload_n 0, 1) := by decide +kernel
theorem dX3_firstFault_4 : decode cX3_firstFault 4 = .ok (.getfield 15, 3) := by decide +kernel
theorem dX3_firstFault_7 : decode cX3_firstFault 7 = .ok (.if_icmp .ge 57, 3) := by decide +kernel
theorem dX3_firstFault_10 : decode cX3_firstFault 10 = .ok (.aload_n 0, 1) := by decide +kernel
theorem dX3_firstFault_11 : decode cX3_firstFault 11 = .ok (.iload_n 1, 1) := by decide +kernel
theorem dX3_firstFault_12 : decode cX3_firstFault 12 = .ok (.invokevirtual 27, 3) := by decide +kernel
theorem dX3_firstFault_15 : decode cX3_firstFault 15 = .ok (.istore_n 2, 1) := by decide +kernel
theorem dX3_firstFault_16 : decode cX3_firstFault 16 = .ok (.iload_n 2, 1) := by decide +kernel
theorem dX3_firstFault_17 : decode cX3_firstFault 17 = .ok (.bipush 46, 2) := by decide +kernel
theorem dX3_firstFault_19 : decode cX3_firstFault 19 = .ok (.if_icmp .ne 6, 3) := by decide +kernel
theorem dX3_firstFault_22 : decode cX3_firstFault 22 = .ok (.goto 36, 3) := by decide +kernel
theorem dX3_firstFault_25 : decode cX3_firstFault 25 = .ok (.iload_n 2, 1) := by decide +kernel
theorem dX3_firstFault_26 : decode cX3_firstFault 26 = .ok (.invokestatic 31, 3) := by decide +kernel
theorem dX3_firstFault_29 : decode cX3_firstFault 29 = .ok (.ifCond .ne 12, 3) := by decide +kernel
theorem dX3_firstFault_32 : decode cX3_firstFault 32 = .ok (.iload_n 2, 1) := by decide +kernel
theorem dX3_firstFault_33 : decode cX3_firstFault 33 = .ok (.invokestatic 35, 3) := by decide +kernel
theorem dX3_firstFault_36 : decode cX3_firstFault 36 = .ok (.ifCond .ne 5, 3) := by decide +kernel
theorem dX3_firstFault_39 : decode cX3_firstFault 39 = .ok (.iload_n 1, 1) := by decide +kernel
theorem dX3_firstFault_40 : decode cX3_firstFault 40 = .ok (.ireturn, 1) := by decide +kernel
theorem dX3_firstFault_41 : decode cX3_firstFault 41 = .ok (.iinc 1 1, 3) := by decide +kernel
theorem dX3_firstFault_44 : decode cX3_firstFault 44 = .ok (.iload_n 2, 1) := by decide +kernel
theorem dX3_firstFault_45 : decode cX3_firstFault 45 = .ok (.aload_n 0, 1) := by decide +kernel
theorem dX3_firstFault_46 : decode cX3_firstFault 46 = .ok (.iload_n 1, 1) := by decide +kernel
theorem dX3_firstFault_47 : decode cX3_firstFault 47 = .ok (.invokevirtual 27, 3) := by decide +kernel
theorem dX3_firstFault_50 : decode cX3_firstFault 50 = .ok (.invokestatic 38, 3) := by decide +kernel
theorem dX3_firstFault_53 : decode cX3_firstFault 53 = .ok (.ifCond .ne 5, 3) := by decide +kernel
theorem dX3_firstFault_56 : decode cX3_firstFault 56 = .ok (.iload_n 1, 1) := by decide +kernel
theorem dX3_firstFault_57 : decode cX3_firstFault 57 = .ok (.ireturn, 1) := by decide +kernel
theorem dX3_firstFault_58 : decode cX3_firstFault 58 = .ok (.iinc 1 1, 3) := by decide +kernel
theorem dX3_firstFault_61 : decode cX3_firstFault 61 = .ok (.goto (-59), 3) := by decide +kernel
theorem dX3_firstFault_64 : decode cX3_firstFault 64 = .ok (.bipush (-6), 2) := by decide +kernel
theorem dX3_firstFault_66 : decode cX3_firstFault 66 = .ok (.ireturn, 1) := by decide +kernel
set_option maxRecDepth 20000 in
theorem ggX3_canFollow_X3_isHouseSign : GoodIn wsX3_canFollow wsX3_isHouseSign := goodIn_r _ [4] (by decide +kernel) (by decide +kernel)
set_option maxRecDepth 20000 in
theorem gX3_canFollow_X3_isHouseSign : GoodIn wsX3_canFollow (va_wsS RX3 31 yX3_isHouseSign wsX3_isHouseSign) := goodIn_app (goodIn_of _ (by decide +kernel)) ggX3_canFollow_X3_isHouseSign
theorem dX3_canFollow_0 : decode cX3_canFollow 0 = .ok (.iload_n 0, 1) := by decide +kernel
theorem dX3_canFollow_1 : decode cX3_canFollow 1 = .ok (.invokestatic 31, 3) := by decide +kernel
theorem dX3_canFollow_4 : decode cX3_canFollow 4 = .ok (.ifCond .eq 21, 3) := by decide +kernel
theorem dX3_canFollow_7 : decode cX3_canFollow 7 = .ok (.iload_n 1, 1) := by decide +kernel
theorem dX3_canFollow_8 : decode cX3_canFollow 8 = .ok (.bipush 49, 2) := by decide +kernel
theorem dX3_canFollow_10 : decode cX3_canFollow 10 = .ok (.if_icmp .lt 13, 3) := by decide +kernel
theorem dX3_canFollow_13 : decode cX3_canFollow 13 = .ok (.iload_n 1, 1) := by decide +kernel
theorem dX3_canFollow_14 : decode cX3_canFollow 14 = .ok (.bipush 57, 2) := by decide +kernel
theorem dX3_canFollow_16 : decode cX3_canFollow 16 = .ok (.if_icmp .gt 7, 3) := by decide +kernel
theorem dX3_canFollow_19 : decode cX3_canFollow 19 = .ok (.iconst 1, 1) := by decide +kernel
theorem dX3_canFollow_20 : decode cX3_canFollow 20 = .ok (.goto 4, 3) := by decide +kernel
theorem dX3_canFollow_23 : decode cX3_canFollow 23 = .ok (.iconst 0, 1) := by decide +kernel
theorem dX3_canFollow_24 : decode cX3_canFollow 24 = .ok (.ireturn, 1) := by decide +kernel
theorem dX3_canFollow_25 : decode cX3_canFollow 25 = .ok (.iload_n 1, 1) := by decide +kernel
theorem dX3_canFollow_26 : decode cX3_canFollow 26 = .ok (.invokestatic 31, 3) := by decide +kernel
theorem dX3_canFollow_29 : decode cX3_canFollow 29 = .ok (.ifCond .ne 15, 3) := by decide +kernel
theorem dX3_canFollow_32 : decode cX3_canFollow 32 = .ok (.iload_n 1, 1) := by decide +kernel
theorem dX3_canFollow_33 : decode cX3_canFollow 33 = .ok (.bipush 48, 2) := by decide +kernel
theorem dX3_canFollow_35 : decode cX3_canFollow 35 = .ok (.if_icmp .lt 13, 3) := by decide +kernel
theorem dX3_canFollow_38 : decode cX3_canFollow 38 = .ok (.iload_n 1, 1) := by decide +kernel
theorem dX3_canFollow_39 : decode cX3_canFollow 39 = .ok (.bipush 57, 2) := by decide +kernel
theorem dX3_canFollow_41 : decode cX3_canFollow 41 = .ok (.if_icmp .gt 7, 3) := by decide +kernel
theorem dX3_canFollow_44 : decode cX3_canFollow 44 = .ok (.iconst 1, 1) := by decide +kernel
theorem dX3_canFollow_45 : decode cX3_canFollow 45 = .ok (.goto 4, 3) := by decide +kernel
theorem dX3_canFollow_48 : decode cX3_canFollow 48 = .ok (.iconst 0, 1) := by decide +kernel
theorem dX3_canFollow_49 : decode cX3_canFollow 49 = .ok (.ireturn, 1) := by decide +kernel
theorem dX3_isHouseSign_0 : decode cX3_isHouseSign 0 = .ok (.iload_n 0, 1) := by decide +kernel
theorem dX3_isHouseSign_1 : decode cX3_isHouseSign 1 = .ok (.bipush 97, 2) := by decide +kernel
theorem dX3_isHouseSign_3 : decode cX3_isHouseSign 3 = .ok (.if_icmp .lt 13, 3) := by decide +kernel
theorem dX3_isHouseSign_6 : decode cX3_isHouseSign 6 = .ok (.iload_n 0, 1) := by decide +kernel
theorem dX3_isHouseSign_7 : decode cX3_isHouseSign 7 = .ok (.bipush 100, 2) := by decide +kernel
theorem dX3_isHouseSign_9 : decode cX3_isHouseSign 9 = .ok (.if_icmp .ge 7, 3) := by decide +kernel
theorem dX3_isHouseSign_12 : decode cX3_isHouseSign 12 = .ok (.iconst 1, 1) := by decide +kernel
theorem dX3_isHouseSign_13 : decode cX3_isHouseSign 13 = .ok (.goto 4, 3) := by decide +kernel
theorem dX3_isHouseSign_16 : decode cX3_isHouseSign 16 = .ok (.iconst 0, 1) := by decide +kernel
theorem dX3_isHouseSign_17 : decode cX3_isHouseSign 17 = .ok (.ireturn, 1) := by decide +kernel
theorem dX3_isGuestSign_0 : decode cX3_isGuestSign 0 = .ok (.iload_n 0, 1) := by decide +kernel
theorem dX3_isGuestSign_1 : decode cX3_isGuestSign 1 = .ok (.bipush 65, 2) := by decide +kernel
theorem dX3_isGuestSign_3 : decode cX3_isGuestSign 3 = .ok (.if_icmp .lt 13, 3) := by decide +kernel
theorem dX3_isGuestSign_6 : decode cX3_isGuestSign 6 = .ok (.iload_n 0, 1) := by decide +kernel
theorem dX3_isGuestSign_7 : decode cX3_isGuestSign 7 = .ok (.bipush 71, 2) := by decide +kernel
theorem dX3_isGuestSign_9 : decode cX3_isGuestSign 9 = .ok (.if_icmp .ge 7, 3) := by decide +kernel
theorem dX3_isGuestSign_12 : decode cX3_isGuestSign 12 = .ok (.iconst 1, 1) := by decide +kernel
theorem dX3_isGuestSign_13 : decode cX3_isGuestSign 13 = .ok (.goto 4, 3) := by decide +kernel
theorem dX3_isGuestSign_16 : decode cX3_isGuestSign 16 = .ok (.iconst 0, 1) := by decide +kernel
theorem dX3_isGuestSign_17 : decode cX3_isGuestSign 17 = .ok (.ireturn, 1) := by decide +kernel
theorem dX4_init_0 : decode cX4_init 0 = .ok (.aload_n 0, 1) := by decide +kernel
theorem dX4_init_1 : decode cX4_init 1 = .ok (.invokespecial 3, 3) := by decide +kernel
theorem dX4_init_4 : decode cX4_init 4 = .ok (.aload_n 0, 1) := by decide +kernel
theorem dX4_init_5 : decode cX4_init 5 = .ok (.bipush 6, 2) := by decide +kernel
theorem dX4_init_7 : decode cX4_init 7 = .ok (.newarray .int, 2) := by decide +kernel
theorem dX4_init_9 : decode cX4_init 9 = .ok (.putfield 9, 3) := by decide +kernel
theorem dX4_init_12 : decode cX4_init 12 = .ok (.return_, 1) := by decide +kernel
set_option maxRecDepth 20000 in
theorem ggX4_servedByRule_X1_takers : GoodIn wsX4_servedByRule wsX1_takers := goodIn_r _ [7, 8, 9, 10, 6, 11, 12, 13, 14, 15, 16, 17, 18, 19, 20, 21, 22, 23, 24, 25, 26, 27, 28, 29, 30, 31, 32, 33, 34, 35, 36, 37, 38, 39, 40, 41, 42, 43, 44, 45, 46, 47, 48, 49, 50, 51, 54, 55, 56, 57, 58, 59] (by decide +kernel) (by decide +kernel)
set_option maxRecDepth 20000 in
theorem gX4_servedByRule_X1_takers : GoodIn wsX4_servedByRule (wsV RX4 15 RX1 yX1_takers wsX1_takers) := goodIn_app (goodIn_of _ (by decide +kernel)) ggX4_servedByRule_X1_takers
set_option maxRecDepth 20000 in
theorem ggX4_servedByRule_X8_at : GoodIn wsX4_servedByRule wsX8_at := goodIn_r _ [39] (by decide +kernel) (by decide +kernel)
set_option maxRecDepth 20000 in
theorem gX4_servedByRule_X8_at_n24 : GoodIn wsX4_servedByRule (wsX8_at) := ggX4_servedByRule_X8_at
set_option maxRecDepth 20000 in
theorem ggX4_servedByRule_X1_hungry : GoodIn wsX4_servedByRule wsX1_hungry := goodIn_r _ [11, 12, 13, 14, 15, 6, 16, 17, 18, 19, 20, 21, 22, 23, 54, 55, 56, 57, 58, 59] (by decide +kernel) (by decide +kernel)
set_option maxRecDepth 20000 in
theorem gX4_servedByRule_X1_hungry : GoodIn wsX4_servedByRule (wsV RX4 28 RX1 yX1_hungry wsX1_hungry) := goodIn_app (goodIn_of _ (by decide +kernel)) ggX4_servedByRule_X1_hungry
set_option maxRecDepth 20000 in
theorem ggX4_servedByRule_X8_firstBy : GoodIn wsX4_servedByRule wsX8_firstBy := goodIn_r _ [46, 47, 19, 20, 21, 48, 49, 50, 51, 38, 39] (by decide +kernel) (by decide +kernel)
set_option maxRecDepth 20000 in
theorem gX4_servedByRule_X8_firstBy_n32 : GoodIn wsX4_servedByRule (wsX8_firstBy) := ggX4_servedByRule_X8_firstBy
theorem dX4_servedByRule_0 : decode cX4_servedByRule 0 = .ok (.iload 4, 2) := by decide +kernel
theorem dX4_servedByRule_2 : decode cX4_servedByRule 2 = .ok (.ifCond .ne 10, 3) := by decide +kernel
theorem dX4_servedByRule_5 : decode cX4_servedByRule 5 = .ok (.aload_n 1, 1) := by decide +kernel
theorem dX4_servedByRule_6 : decode cX4_servedByRule 6 = .ok (.iload_n 2, 1) := by decide +kernel
theorem dX4_servedByRule_7 : decode cX4_servedByRule 7 = .ok (.iload_n 3, 1) := by decide +kernel
theorem dX4_servedByRule_8 : decode cX4_servedByRule 8 = .ok (.invokevirtual 15, 3) := by decide +kernel
theorem dX4_servedByRule_11 : decode cX4_servedByRule 11 = .ok (.ireturn, 1) := by decide +kernel
theorem dX4_servedByRule_12 : decode cX4_servedByRule 12 = .ok (.iconst 0, 1) := by decide +kernel
theorem dX4_servedByRule_13 : decode cX4_servedByRule 13 = .ok (.istore 5, 2) := by decide +kernel
theorem dX4_servedByRule_15 : decode cX4_servedByRule 15 = .ok (.iload 5, 2) := by decide +kernel
theorem dX4_servedByRule_17 : decode cX4_servedByRule 17 = .ok (.aload_n 0, 1) := by decide +kernel
theorem dX4_servedByRule_18 : decode cX4_servedByRule 18 = .ok (.getfield 9, 3) := by decide +kernel
theorem dX4_servedByRule_21 : decode cX4_servedByRule 21 = .ok (.arraylength, 1) := by decide +kernel
theorem dX4_servedByRule_22 : decode cX4_servedByRule 22 = .ok (.if_icmp .ge 36, 3) := by decide +kernel
theorem dX4_servedByRule_25 : decode cX4_servedByRule 25 = .ok (.aload_n 0, 1) := by decide +kernel
theorem dX4_servedByRule_26 : decode cX4_servedByRule 26 = .ok (.getfield 9, 3) := by decide +kernel
theorem dX4_servedByRule_29 : decode cX4_servedByRule 29 = .ok (.iload 5, 2) := by decide +kernel
theorem dX4_servedByRule_31 : decode cX4_servedByRule 31 = .ok (.iload 4, 2) := by decide +kernel
theorem dX4_servedByRule_33 : decode cX4_servedByRule 33 = .ok (.iconst 1, 1) := by decide +kernel
theorem dX4_servedByRule_34 : decode cX4_servedByRule 34 = .ok (.if_icmp .ne 7, 3) := by decide +kernel
theorem dX4_servedByRule_37 : decode cX4_servedByRule 37 = .ok (.iconst 0, 1) := by decide +kernel
theorem dX4_servedByRule_38 : decode cX4_servedByRule 38 = .ok (.goto 13, 3) := by decide +kernel
theorem dX4_servedByRule_41 : decode cX4_servedByRule 41 = .ok (.aload_n 1, 1) := by decide +kernel
theorem dX4_servedByRule_42 : decode cX4_servedByRule 42 = .ok (.getfield 21, 3) := by decide +kernel
theorem dX4_servedByRule_45 : decode cX4_servedByRule 45 = .ok (.iload 5, 2) := by decide +kernel
theorem dX4_servedByRule_47 : decode cX4_servedByRule 47 = .ok (.invokestatic 24, 3) := by decide +kernel
theorem dX4_servedByRule_50 : decode cX4_servedByRule 50 = .ok (.ineg, 1) := by decide +kernel
theorem dX4_servedByRule_51 : decode cX4_servedByRule 51 = .ok (.iastore, 1) := by decide +kernel
theorem dX4_servedByRule_52 : decode cX4_servedByRule 52 = .ok (.iinc 5 1, 3) := by decide +kernel
theorem dX4_servedByRule_55 : decode cX4_servedByRule 55 = .ok (.goto (-40), 3) := by decide +kernel
theorem dX4_servedByRule_58 : decode cX4_servedByRule 58 = .ok (.aload_n 0, 1) := by decide +kernel
theorem dX4_servedByRule_59 : decode cX4_servedByRule 59 = .ok (.getfield 9, 3) := by decide +kernel
theorem dX4_servedByRule_62 : decode cX4_servedByRule 62 = .ok (.aload_n 1, 1) := by decide +kernel
theorem dX4_servedByRule_63 : decode cX4_servedByRule 63 = .ok (.iload_n 2, 1) := by decide +kernel
theorem dX4_servedByRule_64 : decode cX4_servedByRule 64 = .ok (.invokevirtual 28, 3) := by decide +kernel
theorem dX4_servedByRule_67 : decode cX4_servedByRule 67 = .ok (.iload_n 3, 1) := by decide +kernel
theorem dX4_servedByRule_68 : decode cX4_servedByRule 68 = .ok (.invokestatic 32, 3) := by decide +kernel
theorem dX4_servedByRule_71 : decode cX4_servedByRule 71 = .ok (.ireturn, 1) := by decide +kernel
set_option maxRecDepth 20000 in
theorem ggX4_firstGainer_X1_hungry : GoodIn wsX4_firstGainer wsX1_hungry := goodIn_r _ [7, 8, 9, 10, 11, 6, 12, 13, 14, 15, 16, 17, 18, 19, 49, 50, 51, 52, 53, 54] (by decide +kernel) (by decide +kernel)
set_option maxRecDepth 20000 in
theorem gX4_firstGainer_X1_hungry : GoodIn wsX4_firstGainer (wsV RX4 28 RX1 yX1_hungry wsX1_hungry) := goodIn_app (goodIn_of _ (by decide +kernel)) ggX4_firstGainer_X1_hungry
set_option maxRecDepth 20000 in
theorem ggX4_firstGainer_X8_copyRow : GoodIn wsX4_firstGainer wsX8_copyRow := goodIn_r _ [21, 22, 23, 24, 25, 26, 27, 28, 29] (by decide +kernel) (by decide +kernel)
set_option maxRecDepth 20000 in
theorem gX4_firstGainer_X8_copyRow_n36 : GoodIn wsX4_firstGainer (wsX8_copyRow) := ggX4_firstGainer_X8_copyRow
set_option maxRecDepth 20000 in
theorem ggX4_firstGainer_X8_holds : GoodIn wsX4_firstGainer wsX8_holds := goodIn_r _ [17] (by decide +kernel) (by decide +kernel)
set_option maxRecDepth 20000 in
theorem gX4_firstGainer_X8_holds_n40 : GoodIn wsX4_firstGainer (wsX8_holds) := ggX4_firstGainer_X8_holds
set_option maxRecDepth 20000 in
theorem ggX4_firstGainer_X4_gains : GoodIn wsX4_firstGainer wsX4_gains := goodIn_r _ [34, 2, 35, 36, 24, 37, 38, 16, 39, 40, 41, 42, 43, 15, 17, 44, 45, 33, 46, 47, 48, 55] (by decide +kernel) (by decide +kernel)
set_option maxRecDepth 20000 in
theorem gX4_firstGainer_X4_gains : GoodIn wsX4_firstGainer (wsV RX4 44 RX4 yX4_gains wsX4_gains) := goodIn_app (goodIn_of _ (by decide +kernel)) ggX4_firstGainer_X4_gains
theorem dX4_firstGainer_0 : decode cX4_firstGainer 0 = .ok (.aload_n 1, 1) := by decide +kernel
theorem dX4_firstGainer_1 : decode cX4_firstGainer 1 = .ok (.iconst 0, 1) := by decide +kernel
theorem dX4_firstGainer_2 : decode cX4_firstGainer 2 = .ok (.invokevirtual 28, 3) := by decide +kernel
theorem dX4_firstGainer_5 : decode cX4_firstGainer 5 = .ok (.istore_n 3, 1) := by decide +kernel
theorem dX4_firstGainer_6 : decode cX4_firstGainer 6 = .ok (.aload_n 1, 1) := by decide +kernel
theorem dX4_firstGainer_7 : decode cX4_firstGainer 7 = .ok (.getfield 21, 3) := by decide +kernel
theorem dX4_firstGainer_10 : decode cX4_firstGainer 10 = .ok (.aload_n 0, 1) := by decide +kernel
theorem dX4_firstGainer_11 : decode cX4_firstGainer 11 = .ok (.getfield 9, 3) := by decide +kernel
theorem dX4_firstGainer_14 : decode cX4_firstGainer 14 = .ok (.invokestatic 36, 3) := by decide +kernel
theorem dX4_firstGainer_17 : decode cX4_firstGainer 17 = .ok (.iconst 0, 1) := by decide +kernel
theorem dX4_firstGainer_18 : decode cX4_firstGainer 18 = .ok (.istore 4, 2) := by decide +kernel
theorem dX4_firstGainer_20 : decode cX4_firstGainer 20 = .ok (.iload 4, 2) := by decide +kernel
theorem dX4_firstGainer_22 : decode cX4_firstGainer 22 = .ok (.bipush 6, 2) := by decide +kernel
theorem dX4_firstGainer_24 : decode cX4_firstGainer 24 = .ok (.if_icmp .ge 32, 3) := by decide +kernel
theorem dX4_firstGainer_27 : decode cX4_firstGainer 27 = .ok (.iload_n 3, 1) := by decide +kernel
theorem dX4_firstGainer_28 : decode cX4_firstGainer 28 = .ok (.iload 4, 2) := by decide +kernel
theorem dX4_firstGainer_30 : decode cX4_firstGainer 30 = .ok (.invokestatic 40, 3) := by decide +kernel
theorem dX4_firstGainer_33 : decode cX4_firstGainer 33 = .ok (.ifCond .eq 17, 3) := by decide +kernel
theorem dX4_firstGainer_36 : decode cX4_firstGainer 36 = .ok (.aload_n 0, 1) := by decide +kernel
theorem dX4_firstGainer_37 : decode cX4_firstGainer 37 = .ok (.iload 4, 2) := by decide +kernel
theorem dX4_firstGainer_39 : decode cX4_firstGainer 39 = .ok (.iload_n 3, 1) := by decide +kernel
theorem dX4_firstGainer_40 : decode cX4_firstGainer 40 = .ok (.iload_n 2, 1) := by decide +kernel
theorem dX4_firstGainer_41 : decode cX4_firstGainer 41 = .ok (.invokevirtual 44, 3) := by decide +kernel
theorem dX4_firstGainer_44 : decode cX4_firstGainer 44 = .ok (.ifCond .eq 6, 3) := by decide +kernel
theorem dX4_firstGainer_47 : decode cX4_firstGainer 47 = .ok (.iload 4, 2) := by decide +kernel
theorem dX4_firstGainer_49 : decode cX4_firstGainer 49 = .ok (.ireturn, 1) := by decide +kernel
theorem dX4_firstGainer_50 : decode cX4_firstGainer 50 = .ok (.iinc 4 1, 3) := by decide +kernel
theorem dX4_firstGainer_53 : decode cX4_firstGainer 53 = .ok (.goto (-33), 3) := by decide +kernel
theorem dX4_firstGainer_56 : decode cX4_firstGainer 56 = .ok (.bipush (-6), 2) := by decide +kernel
theorem dX4_firstGainer_58 : decode cX4_firstGainer 58 = .ok (.ireturn, 1) := by decide +kernel
set_option maxRecDepth 20000 in
theorem ggX4_gains_X8_at : GoodIn wsX4_gains wsX8_at := goodIn_r _ [8] (by decide +kernel) (by decide +kernel)
set_option maxRecDepth 20000 in
theorem gX4_gains_X8_at_n24 : GoodIn wsX4_gains (wsX8_at) := ggX4_gains_X8_at
set_option maxRecDepth 20000 in
theorem ggX4_gains_X8_placeOf : GoodIn wsX4_gains wsX8_placeOf := goodIn_r _ [10, 11, 6, 7, 8, 12, 13, 14] (by decide +kernel) (by decide +kernel)
set_option maxRecDepth 20000 in
theorem gX4_gains_X8_placeOf_n48 : GoodIn wsX4_gains (wsX8_placeOf) := ggX4_gains_X8_placeOf
set_option maxRecDepth 20000 in
theorem ggX4_gains_X4_digitAt : GoodIn wsX4_gains wsX4_digitAt := goodIn_r _ [18] (by decide +kernel) (by decide +kernel)
set_option maxRecDepth 20000 in
theorem gX4_gains_X4_digitAt : GoodIn wsX4_gains (va_wsS RX4 52 yX4_digitAt wsX4_digitAt) := goodIn_app (goodIn_of _ (by decide +kernel)) ggX4_gains_X4_digitAt
set_option maxRecDepth 20000 in
theorem ggX4_gains_X8_put : GoodIn wsX4_gains wsX8_put := goodIn_r _ [20] (by decide +kernel) (by decide +kernel)
set_option maxRecDepth 20000 in
theorem gX4_gains_X8_put_n60 : GoodIn wsX4_gains (wsX8_put) := ggX4_gains_X8_put
theorem dX4_gains_0 : decode cX4_gains 0 = .ok (.aload_n 0, 1) := by decide +kernel
theorem dX4_gains_1 : decode cX4_gains 1 = .ok (.getfield 9, 3) := by decide +kernel
theorem dX4_gains_4 : decode cX4_gains 4 = .ok (.iload_n 1, 1) := by decide +kernel
theorem dX4_gains_5 : decode cX4_gains 5 = .ok (.invokestatic 24, 3) := by decide +kernel
theorem dX4_gains_8 : decode cX4_gains 8 = .ok (.istore 4, 2) := by decide +kernel
theorem dX4_gains_10 : decode cX4_gains 10 = .ok (.iload_n 3, 1) := by decide +kernel
theorem dX4_gains_11 : decode cX4_gains 11 = .ok (.iload_n 1, 1) := by decide +kernel
theorem dX4_gains_12 : decode cX4_gains 12 = .ok (.aload_n 0, 1) := by decide +kernel
theorem dX4_gains_13 : decode cX4_gains 13 = .ok (.getfield 9, 3) := by decide +kernel
theorem dX4_gains_16 : decode cX4_gains 16 = .ok (.iload_n 2, 1) := by decide +kernel
theorem dX4_gains_17 : decode cX4_gains 17 = .ok (.invokestatic 48, 3) := by decide +kernel
theorem dX4_gains_20 : decode cX4_gains 20 = .ok (.invokestatic 52, 3) := by decide +kernel
theorem dX4_gains_23 : decode cX4_gains 23 = .ok (.istore 5, 2) := by decide +kernel
theorem dX4_gains_25 : decode cX4_gains 25 = .ok (.iload 5, 2) := by decide +kernel
theorem dX4_gains_27 : decode cX4_gains 27 = .ok (.istore 6, 2) := by decide +kernel
theorem dX4_gains_29 : decode cX4_gains 29 = .ok (.iconst 1, 1) := by decide +kernel
theorem dX4_gains_30 : decode cX4_gains 30 = .ok (.istore 7, 2) := by decide +kernel
theorem dX4_gains_32 : decode cX4_gains 32 = .ok (.iload 7, 2) := by decide +kernel
theorem dX4_gains_34 : decode cX4_gains 34 = .ok (.bipush 9, 2) := by decide +kernel
theorem dX4_gains_36 : decode cX4_gains 36 = .ok (.if_icmp .gt 46, 3) := by decide +kernel
theorem dX4_gains_39 : decode cX4_gains 39 = .ok (.aload_n 0, 1) := by decide +kernel
theorem dX4_gains_40 : decode cX4_gains 40 = .ok (.getfield 9, 3) := by decide +kernel
theorem dX4_gains_43 : decode cX4_gains 43 = .ok (.iload_n 1, 1) := by decide +kernel
theorem dX4_gains_44 : decode cX4_gains 44 = .ok (.iconst 0, 1) := by decide +kernel
theorem dX4_gains_45 : decode cX4_gains 45 = .ok (.iload 4, 2) := by decide +kernel
theorem dX4_gains_47 : decode cX4_gains 47 = .ok (.iload 7, 2) := by decide +kernel
theorem dX4_gains_49 : decode cX4_gains 49 = .ok (.isub, 1) := by decide +kernel
theorem dX4_gains_50 : decode cX4_gains 50 = .ok (.invokestatic 55, 3) := by decide +kernel
theorem dX4_gains_53 : decode cX4_gains 53 = .ok (.invokestatic 60, 3) := by decide +kernel
theorem dX4_gains_56 : decode cX4_gains 56 = .ok (.iload 6, 2) := by decide +kernel
theorem dX4_gains_58 : decode cX4_gains 58 = .ok (.iload_n 3, 1) := by decide +kernel
theorem dX4_gains_59 : decode cX4_gains 59 = .ok (.iload_n 1, 1) := by decide +kernel
theorem dX4_gains_60 : decode cX4_gains 60 = .ok (.aload_n 0, 1) := by decide +kernel
theorem dX4_gains_61 : decode cX4_gains 61 = .ok (.getfield 9, 3) := by decide +kernel
theorem dX4_gains_64 : decode cX4_gains 64 = .ok (.iload_n 2, 1) := by decide +kernel
theorem dX4_gains_65 : decode cX4_gains 65 = .ok (.invokestatic 48, 3) := by decide +kernel
theorem dX4_gains_68 : decode cX4_gains 68 = .ok (.invokestatic 52, 3) := by decide +kernel
theorem dX4_gains_71 : decode cX4_gains 71 = .ok (.invokestatic 55, 3) := by decide +kernel
theorem dX4_gains_74 : decode cX4_gains 74 = .ok (.istore 6, 2) := by decide +kernel
theorem dX4_gains_76 : decode cX4_gains 76 = .ok (.iinc 7 1, 3) := by decide +kernel
theorem dX4_gains_79 : decode cX4_gains 79 = .ok (.goto (-47), 3) := by decide +kernel
theorem dX4_gains_82 : decode cX4_gains 82 = .ok (.aload_n 0, 1) := by decide +kernel
theorem dX4_gains_83 : decode cX4_gains 83 = .ok (.getfield 9, 3) := by decide +kernel
theorem dX4_gains_86 : decode cX4_gains 86 = .ok (.iload_n 1, 1) := by decide +kernel
theorem dX4_gains_87 : decode cX4_gains 87 = .ok (.iload 4, 2) := by decide +kernel
theorem dX4_gains_89 : decode cX4_gains 89 = .ok (.invokestatic 60, 3) := by decide +kernel
theorem dX4_gains_92 : decode cX4_gains 92 = .ok (.iload 6, 2) := by decide +kernel
theorem dX4_gains_94 : decode cX4_gains 94 = .ok (.iload 5, 2) := by decide +kernel
theorem dX4_gains_96 : decode cX4_gains 96 = .ok (.if_icmp .le 7, 3) := by decide +kernel
theorem dX4_gains_99 : decode cX4_gains 99 = .ok (.iconst 1, 1) := by decide +kernel
theorem dX4_gains_100 : decode cX4_gains 100 = .ok (.goto 4, 3) := by decide +kernel
theorem dX4_gains_103 : decode cX4_gains 103 = .ok (.iconst 0, 1) := by decide +kernel
theorem dX4_gains_104 : decode cX4_gains 104 = .ok (.ireturn, 1) := by decide +kernel
theorem dX4_digitAt_0 : decode cX4_digitAt 0 = .ok (.iload_n 0, 1) := by decide +kernel
theorem dX4_digitAt_1 : decode cX4_digitAt 1 = .ok (.istore_n 2, 1) := by decide +kernel
theorem dX4_digitAt_2 : decode cX4_digitAt 2 = .ok (.iload_n 1, 1) := by decide +kernel
theorem dX4_digitAt_3 : decode cX4_digitAt 3 = .ok (.iconst 1, 1) := by decide +kernel
theorem dX4_digitAt_4 : decode cX4_digitAt 4 = .ok (.iadd, 1) := by decide +kernel
theorem dX4_digitAt_5 : decode cX4_digitAt 5 = .ok (.istore_n 3, 1) := by decide +kernel
theorem dX4_digitAt_6 : decode cX4_digitAt 6 = .ok (.iload_n 3, 1) := by decide +kernel
theorem dX4_digitAt_7 : decode cX4_digitAt 7 = .ok (.bipush 6, 2) := by decide +kernel
theorem dX4_digitAt_9 : decode cX4_digitAt 9 = .ok (.if_icmp .ge 14, 3) := by decide +kernel
theorem dX4_digitAt_12 : decode cX4_digitAt 12 = .ok (.iload_n 2, 1) := by decide +kernel
theorem dX4_digitAt_13 : decode cX4_digitAt 13 = .ok (.bipush 10, 2) := by decide +kernel
theorem dX4_digitAt_15 : decode cX4_digitAt 15 = .ok (.idiv, 1) := by decide +kernel
theorem dX4_digitAt_16 : decode cX4_digitAt 16 = .ok (.istore_n 2, 1) := by decide +kernel
theorem dX4_digitAt_17 : decode cX4_digitAt 17 = .ok (.iinc 3 1, 3) := by decide +kernel
theorem dX4_digitAt_20 : decode cX4_digitAt 20 = .ok (.goto (-14), 3) := by decide +kernel
theorem dX4_digitAt_23 : decode cX4_digitAt 23 = .ok (.iload_n 2, 1) := by decide +kernel
theorem dX4_digitAt_24 : decode cX4_digitAt 24 = .ok (.bipush 10, 2) := by decide +kernel
theorem dX4_digitAt_26 : decode cX4_digitAt 26 = .ok (.irem, 1) := by decide +kernel
theorem dX4_digitAt_27 : decode cX4_digitAt 27 = .ok (.ireturn, 1) := by decide +kernel
set_option maxRecDepth 20000 in
theorem ggX4_chances_X8_at : GoodIn wsX4_chances wsX8_at := goodIn_r _ [5] (by decide +kernel) (by decide +kernel)
set_option maxRecDepth 20000 in
theorem gX4_chances_X8_at_n24 : GoodIn wsX4_chances (wsX8_at) := ggX4_chances_X8_at
set_option maxRecDepth 20000 in
theorem ggX4_chances_X1_feigners : GoodIn wsX4_chances wsX1_feigners := goodIn_r _ [10, 11, 12, 13, 14, 9, 15, 16, 17, 18, 4, 19, 20, 21, 57, 58, 59, 60, 61, 62] (by decide +kernel) (by decide +kernel)
set_option maxRecDepth 20000 in
theorem gX4_chances_X1_feigners : GoodIn wsX4_chances (wsV RX4 67 RX1 yX1_feigners wsX1_feigners) := goodIn_app (goodIn_of _ (by decide +kernel)) ggX4_chances_X1_feigners
set_option maxRecDepth 20000 in
theorem ggX4_chances_X1_hungry : GoodIn wsX4_chances wsX1_hungry := goodIn_r _ [25, 26, 12, 13, 14, 9, 15, 16, 17, 18, 4, 19, 20, 21, 57, 58, 59, 60, 61, 62] (by decide +kernel) (by decide +kernel)
set_option maxRecDepth 20000 in
theorem gX4_chances_X1_hungry : GoodIn wsX4_chances (wsV RX4 28 RX1 yX1_hungry wsX1_hungry) := goodIn_app (goodIn_of _ (by decide +kernel)) ggX4_chances_X1_hungry
set_option maxRecDepth 20000 in
theorem ggX4_chances_X8_holds : GoodIn wsX4_chances wsX8_holds := goodIn_r _ [19] (by decide +kernel) (by decide +kernel)
set_option maxRecDepth 20000 in
theorem gX4_chances_X8_holds_n40 : GoodIn wsX4_chances (wsX8_holds) := ggX4_chances_X8_holds
set_option maxRecDepth 20000 in
theorem ggX4_chances_X4_showAll : GoodIn wsX4_chances wsX4_showAll := goodIn_r _ [31, 2, 32, 18, 4, 19, 3, 5, 33, 34, 35, 9, 36, 26, 11, 37, 38, 39, 40, 63, 57, 58, 59, 60, 61, 62] (by decide +kernel) (by decide +kernel)
set_option maxRecDepth 20000 in
theorem gX4_chances_X4_showAll : GoodIn wsX4_chances (wsV RX4 70 RX4 yX4_showAll wsX4_showAll) := goodIn_app (goodIn_of _ (by decide +kernel)) ggX4_chances_X4_showAll
set_option maxRecDepth 20000 in
theorem ggX4_chances_X8_placeOf : GoodIn wsX4_chances wsX8_placeOf := goodIn_r _ [42, 43, 3, 4, 5, 44, 18, 19] (by decide +kernel) (by decide +kernel)
set_option maxRecDepth 20000 in
theorem gX4_chances_X8_placeOf_n48 : GoodIn wsX4_chances (wsX8_placeOf) := ggX4_chances_X8_placeOf
set_option maxRecDepth 20000 in
theorem ggX4_chances_X4_weight : GoodIn wsX4_chances wsX4_weight := goodIn_r _ [47, 48, 49, 50, 51, 52, 53, 54, 55, 4, 56] (by decide +kernel) (by decide +kernel)
set_option maxRecDepth 20000 in
theorem gX4_chances_X4_weight : GoodIn wsX4_chances (va_wsS RX4 74 yX4_weight wsX4_weight) := goodIn_app (goodIn_of _ (by decide +kernel)) ggX4_chances_X4_weight
theorem dX4_chances_0 : decode cX4_chances 0 = .ok (.aload_n 1, 1) := by decide +kernel
theorem dX4_chances_1 : decode cX4_chances 1 = .ok (.getfield 64, 3) := by decide +kernel
theorem dX4_chances_4 : decode cX4_chances 4 = .ok (.iload_n 2, 1) := by decide +kernel
theorem dX4_chances_5 : decode cX4_chances 5 = .ok (.invokestatic 24, 3) := by decide +kernel
theorem dX4_chances_8 : decode cX4_chances 8 = .ok (.istore 5, 2) := by decide +kernel
theorem dX4_chances_10 : decode cX4_chances 10 = .ok (.aload_n 1, 1) := by decide +kernel
theorem dX4_chances_11 : decode cX4_chances 11 = .ok (.iload 5, 2) := by decide +kernel
theorem dX4_chances_13 : decode cX4_chances 13 = .ok (.invokevirtual 67, 3) := by decide +kernel
theorem dX4_chances_16 : decode cX4_chances 16 = .ok (.istore 6, 2) := by decide +kernel
theorem dX4_chances_18 : decode cX4_chances 18 = .ok (.aload_n 1, 1) := by decide +kernel
theorem dX4_chances_19 : decode cX4_chances 19 = .ok (.iload 5, 2) := by decide +kernel
theorem dX4_chances_21 : decode cX4_chances 21 = .ok (.invokevirtual 28, 3) := by decide +kernel
theorem dX4_chances_24 : decode cX4_chances 24 = .ok (.istore 7, 2) := by decide +kernel
theorem dX4_chances_26 : decode cX4_chances 26 = .ok (.iconst 0, 1) := by decide +kernel
theorem dX4_chances_27 : decode cX4_chances 27 = .ok (.istore 8, 2) := by decide +kernel
theorem dX4_chances_29 : decode cX4_chances 29 = .ok (.iconst 0, 1) := by decide +kernel
theorem dX4_chances_30 : decode cX4_chances 30 = .ok (.istore 9, 2) := by decide +kernel
theorem dX4_chances_32 : decode cX4_chances 32 = .ok (.iload 9, 2) := by decide +kernel
theorem dX4_chances_34 : decode cX4_chances 34 = .ok (.bipush 64, 2) := by decide +kernel
theorem dX4_chances_36 : decode cX4_chances 36 = .ok (.if_icmp .ge 67, 3) := by decide +kernel
theorem dX4_chances_39 : decode cX4_chances 39 = .ok (.iload 7, 2) := by decide +kernel
theorem dX4_chances_41 : decode cX4_chances 41 = .ok (.iload_n 2, 1) := by decide +kernel
theorem dX4_chances_42 : decode cX4_chances 42 = .ok (.invokestatic 40, 3) := by decide +kernel
theorem dX4_chances_45 : decode cX4_chances 45 = .ok (.ifCond .eq 58, 3) := by decide +kernel
theorem dX4_chances_48 : decode cX4_chances 48 = .ok (.iload 9, 2) := by decide +kernel
theorem dX4_chances_50 : decode cX4_chances 50 = .ok (.iload 6, 2) := by decide +kernel
theorem dX4_chances_52 : decode cX4_chances 52 = .ok (.iconst (-1), 1) := by decide +kernel
theorem dX4_chances_53 : decode cX4_chances 53 = .ok (.ixor, 1) := by decide +kernel
theorem dX4_chances_54 : decode cX4_chances 54 = .ok (.iand, 1) := by decide +kernel
theorem dX4_chances_55 : decode cX4_chances 55 = .ok (.ifCond .ne 42, 3) := by decide +kernel
theorem dX4_chances_58 : decode cX4_chances 58 = .ok (.aload_n 0, 1) := by decide +kernel
theorem dX4_chances_59 : decode cX4_chances 59 = .ok (.aload_n 1, 1) := by decide +kernel
theorem dX4_chances_60 : decode cX4_chances 60 = .ok (.iload 9, 2) := by decide +kernel
theorem dX4_chances_62 : decode cX4_chances 62 = .ok (.invokevirtual 70, 3) := by decide +kernel
theorem dX4_chances_65 : decode cX4_chances 65 = .ok (.iload 8, 2) := by decide +kernel
theorem dX4_chances_67 : decode cX4_chances 67 = .ok (.iload_n 2, 1) := by decide +kernel
theorem dX4_chances_68 : decode cX4_chances 68 = .ok (.aload_n 0, 1) := by decide +kernel
theorem dX4_chances_69 : decode cX4_chances 69 = .ok (.getfield 9, 3) := by decide +kernel
theorem dX4_chances_72 : decode cX4_chances 72 = .ok (.iload 7, 2) := by decide +kernel
theorem dX4_chances_74 : decode cX4_chances 74 = .ok (.invokestatic 48, 3) := by decide +kernel
theorem dX4_chances_77 : decode cX4_chances 77 = .ok (.iload_n 3, 1) := by decide +kernel
theorem dX4_chances_78 : decode cX4_chances 78 = .ok (.if_icmp .ge 15, 3) := by decide +kernel
theorem dX4_chances_81 : decode cX4_chances 81 = .ok (.iload 6, 2) := by decide +kernel
theorem dX4_chances_83 : decode cX4_chances 83 = .ok (.iload 9, 2) := by decide +kernel
theorem dX4_chances_85 : decode cX4_chances 85 = .ok (.iload 4, 2) := by decide +kernel
theorem dX4_chances_87 : decode cX4_chances 87 = .ok (.invokestatic 74, 3) := by decide +kernel
theorem dX4_chances_90 : decode cX4_chances 90 = .ok (.goto 4, 3) := by decide +kernel
theorem dX4_chances_93 : decode cX4_chances 93 = .ok (.iconst 0, 1) := by decide +kernel
theorem dX4_chances_94 : decode cX4_chances 94 = .ok (.iadd, 1) := by decide +kernel
theorem dX4_chances_95 : decode cX4_chances 95 = .ok (.istore 8, 2) := by decide +kernel
theorem dX4_chances_97 : decode cX4_chances 97 = .ok (.iinc 9 1, 3) := by decide +kernel
theorem dX4_chances_100 : decode cX4_chances 100 = .ok (.goto (-68), 3) := by decide +kernel
theorem dX4_chances_103 : decode cX4_chances 103 = .ok (.iload 8, 2) := by decide +kernel
theorem dX4_chances_105 : decode cX4_chances 105 = .ok (.ireturn, 1) := by decide +kernel
set_option maxRecDepth 20000 in
theorem ggX4_showAll_X8_holds : GoodIn wsX4_showAll wsX8_holds := goodIn_r _ [5] (by decide +kernel) (by decide +kernel)
set_option maxRecDepth 20000 in
theorem gX4_showAll_X8_holds_n40 : GoodIn wsX4_showAll (wsX8_holds) := ggX4_showAll_X8_holds
set_option maxRecDepth 20000 in
theorem ggX4_showAll_X8_at : GoodIn wsX4_showAll wsX8_at := goodIn_r _ [7] (by decide +kernel) (by decide +kernel)
set_option maxRecDepth 20000 in
theorem gX4_showAll_X8_at_n24 : GoodIn wsX4_showAll (wsX8_at) := ggX4_showAll_X8_at
set_option maxRecDepth 20000 in
theorem ggX4_showAll_X1_shownBy : GoodIn wsX4_showAll wsX1_shownBy := goodIn_r _ [12, 13, 14, 15, 16, 17, 18, 6, 4, 7, 20, 21, 22, 23, 24, 25] (by decide +kernel) (by decide +kernel)
set_option maxRecDepth 20000 in
theorem gX4_showAll_X1_shownBy : GoodIn wsX4_showAll (wsV RX4 78 RX1 yX1_shownBy wsX1_shownBy) := goodIn_app (goodIn_of _ (by decide +kernel)) ggX4_showAll_X1_shownBy
theorem dX4_showAll_0 : decode cX4_showAll 0 = .ok (.iconst 0, 1) := by decide +kernel
theorem dX4_showAll_1 : decode cX4_showAll 1 = .ok (.istore_n 3, 1) := by decide +kernel
theorem dX4_showAll_2 : decode cX4_showAll 2 = .ok (.iload_n 3, 1) := by decide +kernel
theorem dX4_showAll_3 : decode cX4_showAll 3 = .ok (.aload_n 0, 1) := by decide +kernel
theorem dX4_showAll_4 : decode cX4_showAll 4 = .ok (.getfield 9, 3) := by decide +kernel
theorem dX4_showAll_7 : decode cX4_showAll 7 = .ok (.arraylength, 1) := by decide +kernel
theorem dX4_showAll_8 : decode cX4_showAll 8 = .ok (.if_icmp .ge 39, 3) := by decide +kernel
theorem dX4_showAll_11 : decode cX4_showAll 11 = .ok (.aload_n 0, 1) := by decide +kernel
theorem dX4_showAll_12 : decode cX4_showAll 12 = .ok (.getfield 9, 3) := by decide +kernel
theorem dX4_showAll_15 : decode cX4_showAll 15 = .ok (.iload_n 3, 1) := by decide +kernel
theorem dX4_showAll_16 : decode cX4_showAll 16 = .ok (.iload_n 2, 1) := by decide +kernel
theorem dX4_showAll_17 : decode cX4_showAll 17 = .ok (.iload_n 3, 1) := by decide +kernel
theorem dX4_showAll_18 : decode cX4_showAll 18 = .ok (.invokestatic 40, 3) := by decide +kernel
theorem dX4_showAll_21 : decode cX4_showAll 21 = .ok (.ifCond .eq 14, 3) := by decide +kernel
theorem dX4_showAll_24 : decode cX4_showAll 24 = .ok (.aload_n 1, 1) := by decide +kernel
theorem dX4_showAll_25 : decode cX4_showAll 25 = .ok (.getfield 21, 3) := by decide +kernel
theorem dX4_showAll_28 : decode cX4_showAll 28 = .ok (.iload_n 3, 1) := by decide +kernel
theorem dX4_showAll_29 : decode cX4_showAll 29 = .ok (.invokestatic 24, 3) := by decide +kernel
theorem dX4_showAll_32 : decode cX4_showAll 32 = .ok (.goto 8, 3) := by decide +kernel
theorem dX4_showAll_35 : decode cX4_showAll 35 = .ok (.aload_n 1, 1) := by decide +kernel
theorem dX4_showAll_36 : decode cX4_showAll 36 = .ok (.iload_n 3, 1) := by decide +kernel
theorem dX4_showAll_37 : decode cX4_showAll 37 = .ok (.invokevirtual 78, 3) := by decide +kernel
theorem dX4_showAll_40 : decode cX4_showAll 40 = .ok (.iastore, 1) := by decide +kernel
theorem dX4_showAll_41 : decode cX4_showAll 41 = .ok (.iinc 3 1, 3) := by decide +kernel
theorem dX4_showAll_44 : decode cX4_showAll 44 = .ok (.goto (-42), 3) := by decide +kernel
theorem dX4_showAll_47 : decode cX4_showAll 47 = .ok (.return_, 1) := by decide +kernel
set_option maxRecDepth 20000 in
theorem ggX4_weight_J6_bitCount_0f7a4 : GoodIn wsX4_weight wsJ6_bitCount_0f7a4 := goodIn_r _ [4, 5, 6, 7] (by decide +kernel) (by decide +kernel)
set_option maxRecDepth 20000 in
theorem gX4_weight_J6_bitCount_0f7a4 : GoodIn wsX4_weight (va_wsS RX4 81 yJ6_bitCount_0f7a4 wsJ6_bitCount_0f7a4) := goodIn_app (goodIn_of _ (by decide +kernel)) ggX4_weight_J6_bitCount_0f7a4
set_option maxRecDepth 20000 in
theorem ggX4_weight_X8_power : GoodIn wsX4_weight wsX8_power := goodIn_r _ [10] (by decide +kernel) (by decide +kernel)
set_option maxRecDepth 20000 in
theorem gX4_weight_X8_power_n86 : GoodIn wsX4_weight (wsX8_power) := ggX4_weight_X8_power
theorem dX4_weight_0 : decode cX4_weight 0 = .ok (.iload_n 0, 1) := by decide +kernel
theorem dX4_weight_1 : decode cX4_weight 1 = .ok (.iload_n 1, 1) := by decide +kernel
theorem dX4_weight_2 : decode cX4_weight 2 = .ok (.iconst (-1), 1) := by decide +kernel
theorem dX4_weight_3 : decode cX4_weight 3 = .ok (.ixor, 1) := by decide +kernel
theorem dX4_weight_4 : decode cX4_weight 4 = .ok (.iand, 1) := by decide +kernel
theorem dX4_weight_5 : decode cX4_weight 5 = .ok (.invokestatic 81, 3) := by decide +kernel
theorem dX4_weight_8 : decode cX4_weight 8 = .ok (.istore_n 3, 1) := by decide +kernel
theorem dX4_weight_9 : decode cX4_weight 9 = .ok (.iload_n 2, 1) := by decide +kernel
theorem dX4_weight_10 : decode cX4_weight 10 = .ok (.iload_n 1, 1) := by decide +kernel
theorem dX4_weight_11 : decode cX4_weight 11 = .ok (.invokestatic 81, 3) := by decide +kernel
theorem dX4_weight_14 : decode cX4_weight 14 = .ok (.invokestatic 86, 3) := by decide +kernel
theorem dX4_weight_17 : decode cX4_weight 17 = .ok (.bipush 10, 2) := by decide +kernel
theorem dX4_weight_19 : decode cX4_weight 19 = .ok (.iload_n 2, 1) := by decide +kernel
theorem dX4_weight_20 : decode cX4_weight 20 = .ok (.isub, 1) := by decide +kernel
theorem dX4_weight_21 : decode cX4_weight 21 = .ok (.iload_n 3, 1) := by decide +kernel
theorem dX4_weight_22 : decode cX4_weight 22 = .ok (.invokestatic 86, 3) := by decide +kernel
theorem dX4_weight_25 : decode cX4_weight 25 = .ok (.imul, 1) := by decide +kernel
theorem dX4_weight_26 : decode cX4_weight 26 = .ok (.ireturn, 1) := by decide +kernel
theorem dX5_init_0 : decode cX5_init 0 = .ok (.aload_n 0, 1) := by decide +kernel
theorem dX5_init_1 : decode cX5_init 1 = .ok (.invokespecial 3, 3) := by decide +kernel
theorem dX5_init_4 : decode cX5_init 4 = .ok (.aload_n 0, 1) := by decide +kernel
theorem dX5_init_5 : decode cX5_init 5 = .ok (.sipush 384, 3) := by decide +kernel
theorem dX5_init_8 : decode cX5_init 8 = .ok (.newarray .int, 2) := by decide +kernel
theorem dX5_init_10 : decode cX5_init 10 = .ok (.putfield 9, 3) := by decide +kernel
theorem dX5_init_13 : decode cX5_init 13 = .ok (.return_, 1) := by decide +kernel
set_option maxRecDepth 20000 in
theorem ggX5_arrange_X5_arrangePart : GoodIn wsX5_arrange wsX5_arrangePart := goodIn_r _ [5, 6, 7, 8, 9, 10, 11, 12, 13, 14, 4, 15, 16, 17, 18] (by decide +kernel) (by decide +kernel)
set_option maxRecDepth 20000 in
theorem gX5_arrange_X5_arrangePart : GoodIn wsX5_arrange (wsV RX5 15 RX5 yX5_arrangePart wsX5_arrangePart) := goodIn_app (goodIn_of _ (by decide +kernel)) ggX5_arrange_X5_arrangePart
theorem dX5_arrange_0 : decode cX5_arrange 0 = .ok (.iconst 1, 1) := by decide +kernel
theorem dX5_arrange_1 : decode cX5_arrange 1 = .ok (.istore_n 3, 1) := by decide +kernel
theorem dX5_arrange_2 : decode cX5_arrange 2 = .ok (.iload_n 3, 1) := by decide +kernel
theorem dX5_arrange_3 : decode cX5_arrange 3 = .ok (.bipush 64, 2) := by decide +kernel
theorem dX5_arrange_5 : decode cX5_arrange 5 = .ok (.if_icmp .ge 23, 3) := by decide +kernel
theorem dX5_arrange_8 : decode cX5_arrange 8 = .ok (.iload_n 3, 1) := by decide +kernel
theorem dX5_arrange_9 : decode cX5_arrange 9 = .ok (.iload_n 2, 1) := by decide +kernel
theorem dX5_arrange_10 : decode cX5_arrange 10 = .ok (.iconst (-1), 1) := by decide +kernel
theorem dX5_arrange_11 : decode cX5_arrange 11 = .ok (.ixor, 1) := by decide +kernel
theorem dX5_arrange_12 : decode cX5_arrange 12 = .ok (.iand, 1) := by decide +kernel
theorem dX5_arrange_13 : decode cX5_arrange 13 = .ok (.ifCond .ne 9, 3) := by decide +kernel
theorem dX5_arrange_16 : decode cX5_arrange 16 = .ok (.aload_n 0, 1) := by decide +kernel
theorem dX5_arrange_17 : decode cX5_arrange 17 = .ok (.aload_n 1, 1) := by decide +kernel
theorem dX5_arrange_18 : decode cX5_arrange 18 = .ok (.iload_n 3, 1) := by decide +kernel
theorem dX5_arrange_19 : decode cX5_arrange 19 = .ok (.invokevirtual 15, 3) := by decide +kernel
theorem dX5_arrange_22 : decode cX5_arrange 22 = .ok (.iinc 3 1, 3) := by decide +kernel
theorem dX5_arrange_25 : decode cX5_arrange 25 = .ok (.goto (-23), 3) := by decide +kernel
theorem dX5_arrange_28 : decode cX5_arrange 28 = .ok (.return_, 1) := by decide +kernel
set_option maxRecDepth 20000 in
theorem ggX5_arrangePart_X8_holds : GoodIn wsX5_arrangePart wsX8_holds := goodIn_r _ [4] (by decide +kernel) (by decide +kernel)
set_option maxRecDepth 20000 in
theorem gX5_arrangePart_X8_holds_n19 : GoodIn wsX5_arrangePart (wsX8_holds) := ggX5_arrangePart_X8_holds
set_option maxRecDepth 20000 in
theorem ggX5_arrangePart_X8_at : GoodIn wsX5_arrangePart wsX8_at := goodIn_r _ [6] (by decide +kernel) (by decide +kernel)
set_option maxRecDepth 20000 in
theorem gX5_arrangePart_X8_at_n23 : GoodIn wsX5_arrangePart (wsX8_at) := ggX5_arrangePart_X8_at
set_option maxRecDepth 20000 in
theorem ggX5_arrangePart_X5_rowsBeginning : GoodIn wsX5_arrangePart wsX5_rowsBeginning := goodIn_r _ [11, 1, 2, 3, 4, 5, 6, 14] (by decide +kernel) (by decide +kernel)
set_option maxRecDepth 20000 in
theorem gX5_arrangePart_X5_rowsBeginning : GoodIn wsX5_arrangePart (wsV RX5 27 RX5 yX5_rowsBeginning wsX5_rowsBeginning) := goodIn_app (goodIn_of _ (by decide +kernel)) ggX5_arrangePart_X5_rowsBeginning
set_option maxRecDepth 20000 in
theorem ggX5_arrangePart_X8_put : GoodIn wsX5_arrangePart wsX8_put := goodIn_r _ [13] (by decide +kernel) (by decide +kernel)
set_option maxRecDepth 20000 in
theorem gX5_arrangePart_X8_put_n31 : GoodIn wsX5_arrangePart (wsX8_put) := ggX5_arrangePart_X8_put
theorem dX5_arrangePart_0 : decode cX5_arrangePart 0 = .ok (.iconst 0, 1) := by decide +kernel
theorem dX5_arrangePart_1 : decode cX5_arrangePart 1 = .ok (.istore_n 3, 1) := by decide +kernel
theorem dX5_arrangePart_2 : decode cX5_arrangePart 2 = .ok (.iload_n 3, 1) := by decide +kernel
theorem dX5_arrangePart_3 : decode cX5_arrangePart 3 = .ok (.bipush 6, 2) := by decide +kernel
theorem dX5_arrangePart_5 : decode cX5_arrangePart 5 = .ok (.if_icmp .ge 59, 3) := by decide +kernel
theorem dX5_arrangePart_8 : decode cX5_arrangePart 8 = .ok (.iload_n 2, 1) := by decide +kernel
theorem dX5_arrangePart_9 : decode cX5_arrangePart 9 = .ok (.iload_n 3, 1) := by decide +kernel
theorem dX5_arrangePart_10 : decode cX5_arrangePart 10 = .ok (.invokestatic 19, 3) := by decide +kernel
theorem dX5_arrangePart_13 : decode cX5_arrangePart 13 = .ok (.ifCond .eq 45, 3) := by decide +kernel
theorem dX5_arrangePart_16 : decode cX5_arrangePart 16 = .ok (.iload_n 2, 1) := by decide +kernel
theorem dX5_arrangePart_17 : decode cX5_arrangePart 17 = .ok (.iconst 1, 1) := by decide +kernel
theorem dX5_arrangePart_18 : decode cX5_arrangePart 18 = .ok (.iload_n 3, 1) := by decide +kernel
theorem dX5_arrangePart_19 : decode cX5_arrangePart 19 = .ok (.ishl, 1) := by decide +kernel
theorem dX5_arrangePart_20 : decode cX5_arrangePart 20 = .ok (.iconst (-1), 1) := by decide +kernel
theorem dX5_arrangePart_21 : decode cX5_arrangePart 21 = .ok (.ixor, 1) := by decide +kernel
theorem dX5_arrangePart_22 : decode cX5_arrangePart 22 = .ok (.iand, 1) := by decide +kernel
theorem dX5_arrangePart_23 : decode cX5_arrangePart 23 = .ok (.istore 4, 2) := by decide +kernel
theorem dX5_arrangePart_25 : decode cX5_arrangePart 25 = .ok (.aload_n 0, 1) := by decide +kernel
theorem dX5_arrangePart_26 : decode cX5_arrangePart 26 = .ok (.getfield 9, 3) := by decide +kernel
theorem dX5_arrangePart_29 : decode cX5_arrangePart 29 = .ok (.iload_n 2, 1) := by decide +kernel
theorem dX5_arrangePart_30 : decode cX5_arrangePart 30 = .ok (.bipush 6, 2) := by decide +kernel
theorem dX5_arrangePart_32 : decode cX5_arrangePart 32 = .ok (.imul, 1) := by decide +kernel
theorem dX5_arrangePart_33 : decode cX5_arrangePart 33 = .ok (.iload_n 3, 1) := by decide +kernel
theorem dX5_arrangePart_34 : decode cX5_arrangePart 34 = .ok (.iadd, 1) := by decide +kernel
theorem dX5_arrangePart_35 : decode cX5_arrangePart 35 = .ok (.iload 4, 2) := by decide +kernel
theorem dX5_arrangePart_37 : decode cX5_arrangePart 37 = .ok (.ifCond .ne 7, 3) := by decide +kernel
theorem dX5_arrangePart_40 : decode cX5_arrangePart 40 = .ok (.iconst 1, 1) := by decide +kernel
theorem dX5_arrangePart_41 : decode cX5_arrangePart 41 = .ok (.goto 14, 3) := by decide +kernel
theorem dX5_arrangePart_44 : decode cX5_arrangePart 44 = .ok (.aload_n 0, 1) := by decide +kernel
theorem dX5_arrangePart_45 : decode cX5_arrangePart 45 = .ok (.iload 4, 2) := by decide +kernel
theorem dX5_arrangePart_47 : decode cX5_arrangePart 47 = .ok (.aload_n 1, 1) := by decide +kernel
theorem dX5_arrangePart_48 : decode cX5_arrangePart 48 = .ok (.iload_n 3, 1) := by decide +kernel
theorem dX5_arrangePart_49 : decode cX5_arrangePart 49 = .ok (.invokestatic 23, 3) := by decide +kernel
theorem dX5_arrangePart_52 : decode cX5_arrangePart 52 = .ok (.invokevirtual 27, 3) := by decide +kernel
theorem dX5_arrangePart_55 : decode cX5_arrangePart 55 = .ok (.invokestatic 31, 3) := by decide +kernel
theorem dX5_arrangePart_58 : decode cX5_arrangePart 58 = .ok (.iinc 3 1, 3) := by decide +kernel
theorem dX5_arrangePart_61 : decode cX5_arrangePart 61 = .ok (.goto (-59), 3) := by decide +kernel
theorem dX5_arrangePart_64 : decode cX5_arrangePart 64 = .ok (.return_, 1) := by decide +kernel
set_option maxRecDepth 20000 in
theorem ggX5_rowsBeginning_X8_holds : GoodIn wsX5_rowsBeginning wsX8_holds := goodIn_r _ [4] (by decide +kernel) (by decide +kernel)
set_option maxRecDepth 20000 in
theorem gX5_rowsBeginning_X8_holds_n19 : GoodIn wsX5_rowsBeginning (wsX8_holds) := ggX5_rowsBeginning_X8_holds
set_option maxRecDepth 20000 in
theorem ggX5_rowsBeginning_X8_at : GoodIn wsX5_rowsBeginning wsX8_at := goodIn_r _ [6] (by decide +kernel) (by decide +kernel)
set_option maxRecDepth 20000 in
theorem gX5_rowsBeginning_X8_at_n23 : GoodIn wsX5_rowsBeginning (wsX8_at) := ggX5_rowsBeginning_X8_at
theorem dX5_rowsBeginning_0 : decode cX5_rowsBeginning 0 = .ok (.iconst 0, 1) := by decide +kernel
theorem dX5_rowsBeginning_1 : decode cX5_rowsBeginning 1 = .ok (.istore_n 3, 1) := by decide +kernel
theorem dX5_rowsBeginning_2 : decode cX5_rowsBeginning 2 = .ok (.iconst 0, 1) := by decide +kernel
theorem dX5_rowsBeginning_3 : decode cX5_rowsBeginning 3 = .ok (.istore 4, 2) := by decide +kernel
theorem dX5_rowsBeginning_5 : decode cX5_rowsBeginning 5 = .ok (.iload 4, 2) := by decide +kernel
theorem dX5_rowsBeginning_7 : decode cX5_rowsBeginning 7 = .ok (.bipush 6, 2) := by decide +kernel
theorem dX5_rowsBeginning_9 : decode cX5_rowsBeginning 9 = .ok (.if_icmp .ge 43, 3) := by decide +kernel
theorem dX5_rowsBeginning_12 : decode cX5_rowsBeginning 12 = .ok (.iload_n 3, 1) := by decide +kernel
theorem dX5_rowsBeginning_13 : decode cX5_rowsBeginning 13 = .ok (.iload_n 1, 1) := by decide +kernel
theorem dX5_rowsBeginning_14 : decode cX5_rowsBeginning 14 = .ok (.iload_n 2, 1) := by decide +kernel
theorem dX5_rowsBeginning_15 : decode cX5_rowsBeginning 15 = .ok (.iconst (-1), 1) := by decide +kernel
theorem dX5_rowsBeginning_16 : decode cX5_rowsBeginning 16 = .ok (.ixor, 1) := by decide +kernel
theorem dX5_rowsBeginning_17 : decode cX5_rowsBeginning 17 = .ok (.iand, 1) := by decide +kernel
theorem dX5_rowsBeginning_18 : decode cX5_rowsBeginning 18 = .ok (.iload 4, 2) := by decide +kernel
theorem dX5_rowsBeginning_20 : decode cX5_rowsBeginning 20 = .ok (.invokestatic 19, 3) := by decide +kernel
theorem dX5_rowsBeginning_23 : decode cX5_rowsBeginning 23 = .ok (.ifCond .eq 20, 3) := by decide +kernel
theorem dX5_rowsBeginning_26 : decode cX5_rowsBeginning 26 = .ok (.aload_n 0, 1) := by decide +kernel
theorem dX5_rowsBeginning_27 : decode cX5_rowsBeginning 27 = .ok (.getfield 9, 3) := by decide +kernel
theorem dX5_rowsBeginning_30 : decode cX5_rowsBeginning 30 = .ok (.iload_n 1, 1) := by decide +kernel
theorem dX5_rowsBeginning_31 : decode cX5_rowsBeginning 31 = .ok (.bipush 6, 2) := by decide +kernel
theorem dX5_rowsBeginning_33 : decode cX5_rowsBeginning 33 = .ok (.imul, 1) := by decide +kernel
theorem dX5_rowsBeginning_34 : decode cX5_rowsBeginning 34 = .ok (.iload 4, 2) := by decide +kernel
theorem dX5_rowsBeginning_36 : decode cX5_rowsBeginning 36 = .ok (.iadd, 1) := by decide +kernel
theorem dX5_rowsBeginning_37 : decode cX5_rowsBeginning 37 = .ok (.invokestatic 23, 3) := by decide +kernel
theorem dX5_rowsBeginning_40 : decode cX5_rowsBeginning 40 = .ok (.goto 4, 3) := by decide +kernel
theorem dX5_rowsBeginning_43 : decode cX5_rowsBeginning 43 = .ok (.iconst 0, 1) := by decide +kernel
theorem dX5_rowsBeginning_44 : decode cX5_rowsBeginning 44 = .ok (.iadd, 1) := by decide +kernel
theorem dX5_rowsBeginning_45 : decode cX5_rowsBeginning 45 = .ok (.istore_n 3, 1) := by decide +kernel
theorem dX5_rowsBeginning_46 : decode cX5_rowsBeginning 46 = .ok (.iinc 4 1, 3) := by decide +kernel
theorem dX5_rowsBeginning_49 : decode cX5_rowsBeginning 49 = .ok (.goto (-44), 3) := by decide +kernel
theorem dX5_rowsBeginning_52 : decode cX5_rowsBeginning 52 = .ok (.iload_n 3, 1) := by decide +kernel
theorem dX5_rowsBeginning_53 : decode cX5_rowsBeginning 53 = .ok (.ireturn, 1) := by decide +kernel
set_option maxRecDepth 20000 in
theorem ggX5_rowsOf_X5_rowsBeginning : GoodIn wsX5_rowsOf wsX5_rowsBeginning := goodIn_r _ [5, 6, 7, 8, 9, 10, 11, 12] (by decide +kernel) (by decide +kernel)
set_option maxRecDepth 20000 in
theorem gX5_rowsOf_X5_rowsBeginning : GoodIn wsX5_rowsOf (wsV RX5 27 RX5 yX5_rowsBeginning wsX5_rowsBeginning) := goodIn_app (goodIn_of _ (by decide +kernel)) ggX5_rowsOf_X5_rowsBeginning
theorem dX5_rowsOf_0 : decode cX5_rowsOf 0 = .ok (.iload_n 1, 1) := by decide +kernel
theorem dX5_rowsOf_1 : decode cX5_rowsOf 1 = .ok (.ifCond .ne 7, 3) := by decide +kernel
theorem dX5_rowsOf_4 : decode cX5_rowsOf 4 = .ok (.iconst 1, 1) := by decide +kernel
theorem dX5_rowsOf_5 : decode cX5_rowsOf 5 = .ok (.goto 9, 3) := by decide +kernel
theorem dX5_rowsOf_8 : decode cX5_rowsOf 8 = .ok (.aload_n 0, 1) := by decide +kernel
theorem dX5_rowsOf_9 : decode cX5_rowsOf 9 = .ok (.iload_n 1, 1) := by decide +kernel
theorem dX5_rowsOf_10 : decode cX5_rowsOf 10 = .ok (.iconst 0, 1) := by decide +kernel
theorem dX5_rowsOf_11 : decode cX5_rowsOf 11 = .ok (.invokevirtual 27, 3) := by decide +kernel
theorem dX5_rowsOf_14 : decode cX5_rowsOf 14 = .ok (.ireturn, 1) := by decide +kernel
set_option maxRecDepth 20000 in
theorem ggX5_whoSits_J6_bitCount_0f7a4 : GoodIn wsX5_whoSits wsJ6_bitCount_0f7a4 := goodIn_r _ [4, 5, 6, 7] (by decide +kernel) (by decide +kernel)
set_option maxRecDepth 20000 in
theorem gX5_whoSits_J6_bitCount_0f7a4 : GoodIn wsX5_whoSits (va_wsS RX5 35 yJ6_bitCount_0f7a4 wsJ6_bitCount_0f7a4) := goodIn_app (goodIn_of _ (by decide +kernel)) ggX5_whoSits_J6_bitCount_0f7a4
set_option maxRecDepth 20000 in
theorem ggX5_whoSits_X5_rowsOf : GoodIn wsX5_whoSits wsX5_rowsOf := goodIn_r _ [12, 13, 14, 15, 11, 16, 17, 18, 19, 20, 21, 22, 27] (by decide +kernel) (by decide +kernel)
set_option maxRecDepth 20000 in
theorem gX5_whoSits_X5_rowsOf : GoodIn wsX5_whoSits (wsV RX5 41 RX5 yX5_rowsOf wsX5_rowsOf) := goodIn_app (goodIn_of _ (by decide +kernel)) ggX5_whoSits_X5_rowsOf
set_option maxRecDepth 20000 in
theorem ggX5_whoSits_X5_firstSitter : GoodIn wsX5_whoSits wsX5_firstSitter := goodIn_r _ [26, 17, 18, 19, 20, 21, 22, 27] (by decide +kernel) (by decide +kernel)
set_option maxRecDepth 20000 in
theorem gX5_whoSits_X5_firstSitter : GoodIn wsX5_whoSits (wsV RX5 44 RX5 yX5_firstSitter wsX5_firstSitter) := goodIn_app (goodIn_of _ (by decide +kernel)) ggX5_whoSits_X5_firstSitter
set_option maxRecDepth 20000 in
theorem ggX5_whoSits_X8_at : GoodIn wsX5_whoSits wsX8_at := goodIn_r _ [22] (by decide +kernel) (by decide +kernel)
set_option maxRecDepth 20000 in
theorem gX5_whoSits_X8_at_n23 : GoodIn wsX5_whoSits (wsX8_at) := ggX5_whoSits_X8_at
theorem dX5_whoSits_0 : decode cX5_whoSits 0 = .ok (.iload_n 3, 1) := by decide +kernel
theorem dX5_whoSits_1 : decode cX5_whoSits 1 = .ok (.ifCond .lt 19, 3) := by decide +kernel
theorem dX5_whoSits_4 : decode cX5_whoSits 4 = .ok (.iload_n 3, 1) := by decide +kernel
theorem dX5_whoSits_5 : decode cX5_whoSits 5 = .ok (.iload_n 2, 1) := by decide +kernel
theorem dX5_whoSits_6 : decode cX5_whoSits 6 = .ok (.invokestatic 35, 3) := by decide +kernel
theorem dX5_whoSits_9 : decode cX5_whoSits 9 = .ok (.if_icmp .ge 11, 3) := by decide +kernel
theorem dX5_whoSits_12 : decode cX5_whoSits 12 = .ok (.aload_n 0, 1) := by decide +kernel
theorem dX5_whoSits_13 : decode cX5_whoSits 13 = .ok (.iload_n 2, 1) := by decide +kernel
theorem dX5_whoSits_14 : decode cX5_whoSits 14 = .ok (.invokevirtual 41, 3) := by decide +kernel
theorem dX5_whoSits_17 : decode cX5_whoSits 17 = .ok (.ifCond .ne 6, 3) := by decide +kernel
theorem dX5_whoSits_20 : decode cX5_whoSits 20 = .ok (.bipush (-6), 2) := by decide +kernel
theorem dX5_whoSits_22 : decode cX5_whoSits 22 = .ok (.ireturn, 1) := by decide +kernel
theorem dX5_whoSits_23 : decode cX5_whoSits 23 = .ok (.iload_n 2, 1) := by decide +kernel
theorem dX5_whoSits_24 : decode cX5_whoSits 24 = .ok (.istore 4, 2) := by decide +kernel
theorem dX5_whoSits_26 : decode cX5_whoSits 26 = .ok (.iconst 0, 1) := by decide +kernel
theorem dX5_whoSits_27 : decode cX5_whoSits 27 = .ok (.istore 5, 2) := by decide +kernel
theorem dX5_whoSits_29 : decode cX5_whoSits 29 = .ok (.bipush (-6), 2) := by decide +kernel
theorem dX5_whoSits_31 : decode cX5_whoSits 31 = .ok (.istore 6, 2) := by decide +kernel
theorem dX5_whoSits_33 : decode cX5_whoSits 33 = .ok (.iconst 0, 1) := by decide +kernel
theorem dX5_whoSits_34 : decode cX5_whoSits 34 = .ok (.istore 7, 2) := by decide +kernel
theorem dX5_whoSits_36 : decode cX5_whoSits 36 = .ok (.iload 7, 2) := by decide +kernel
theorem dX5_whoSits_38 : decode cX5_whoSits 38 = .ok (.iload_n 3, 1) := by decide +kernel
theorem dX5_whoSits_39 : decode cX5_whoSits 39 = .ok (.if_icmp .gt 45, 3) := by decide +kernel
theorem dX5_whoSits_42 : decode cX5_whoSits 42 = .ok (.iload 7, 2) := by decide +kernel
theorem dX5_whoSits_44 : decode cX5_whoSits 44 = .ok (.bipush 6, 2) := by decide +kernel
theorem dX5_whoSits_46 : decode cX5_whoSits 46 = .ok (.if_icmp .ge 38, 3) := by decide +kernel
theorem dX5_whoSits_49 : decode cX5_whoSits 49 = .ok (.aload_n 0, 1) := by decide +kernel
theorem dX5_whoSits_50 : decode cX5_whoSits 50 = .ok (.iload 4, 2) := by decide +kernel
theorem dX5_whoSits_52 : decode cX5_whoSits 52 = .ok (.iload 5, 2) := by decide +kernel
theorem dX5_whoSits_54 : decode cX5_whoSits 54 = .ok (.invokevirtual 44, 3) := by decide +kernel
theorem dX5_whoSits_57 : decode cX5_whoSits 57 = .ok (.istore 6, 2) := by decide +kernel
theorem dX5_whoSits_59 : decode cX5_whoSits 59 = .ok (.aload_n 1, 1) := by decide +kernel
theorem dX5_whoSits_60 : decode cX5_whoSits 60 = .ok (.iload 6, 2) := by decide +kernel
theorem dX5_whoSits_62 : decode cX5_whoSits 62 = .ok (.invokestatic 23, 3) := by decide +kernel
theorem dX5_whoSits_65 : decode cX5_whoSits 65 = .ok (.istore 5, 2) := by decide +kernel
theorem dX5_whoSits_67 : decode cX5_whoSits 67 = .ok (.iload 4, 2) := by decide +kernel
theorem dX5_whoSits_69 : decode cX5_whoSits 69 = .ok (.iconst 1, 1) := by decide +kernel
theorem dX5_whoSits_70 : decode cX5_whoSits 70 = .ok (.iload 6, 2) := by decide +kernel
theorem dX5_whoSits_72 : decode cX5_whoSits 72 = .ok (.ishl, 1) := by decide +kernel
theorem dX5_whoSits_73 : decode cX5_whoSits 73 = .ok (.iconst (-1), 1) := by decide +kernel
theorem dX5_whoSits_74 : decode cX5_whoSits 74 = .ok (.ixor, 1) := by decide +kernel
theorem dX5_whoSits_75 : decode cX5_whoSits 75 = .ok (.iand, 1) := by decide +kernel
theorem dX5_whoSits_76 : decode cX5_whoSits 76 = .ok (.istore 4, 2) := by decide +kernel
theorem dX5_whoSits_78 : decode cX5_whoSits 78 = .ok (.iinc 7 1, 3) := by decide +kernel
theorem dX5_whoSits_81 : decode cX5_whoSits 81 = .ok (.goto (-45), 3) := by decide +kernel
theorem dX5_whoSits_84 : decode cX5_whoSits 84 = .ok (.iload 6, 2) := by decide +kernel
theorem dX5_whoSits_86 : decode cX5_whoSits 86 = .ok (.ireturn, 1) := by decide +kernel
set_option maxRecDepth 20000 in
theorem ggX5_firstSitter_X8_holds : GoodIn wsX5_firstSitter wsX8_holds := goodIn_r _ [4] (by decide +kernel) (by decide +kernel)
set_option maxRecDepth 20000 in
theorem gX5_firstSitter_X8_holds_n19 : GoodIn wsX5_firstSitter (wsX8_holds) := ggX5_firstSitter_X8_holds
set_option maxRecDepth 20000 in
theorem ggX5_firstSitter_X8_at : GoodIn wsX5_firstSitter wsX8_at := goodIn_r _ [6] (by decide +kernel) (by decide +kernel)
set_option maxRecDepth 20000 in
theorem gX5_firstSitter_X8_at_n23 : GoodIn wsX5_firstSitter (wsX8_at) := ggX5_firstSitter_X8_at
theorem dX5_firstSitter_0 : decode cX5_firstSitter 0 = .ok (.iconst 0, 1) := by decide +kernel
theorem dX5_firstSitter_1 : decode cX5_firstSitter 1 = .ok (.istore_n 3, 1) := by decide +kernel
theorem dX5_firstSitter_2 : decode cX5_firstSitter 2 = .ok (.iload_n 3, 1) := by decide +kernel
theorem dX5_firstSitter_3 : decode cX5_firstSitter 3 = .ok (.bipush 6, 2) := by decide +kernel
theorem dX5_firstSitter_5 : decode cX5_firstSitter 5 = .ok (.if_icmp .ge 39, 3) := by decide +kernel
theorem dX5_firstSitter_8 : decode cX5_firstSitter 8 = .ok (.iload_n 1, 1) := by decide +kernel
theorem dX5_firstSitter_9 : decode cX5_firstSitter 9 = .ok (.iload_n 2, 1) := by decide +kernel
theorem dX5_firstSitter_10 : decode cX5_firstSitter 10 = .ok (.iconst (-1), 1) := by decide +kernel
theorem dX5_firstSitter_11 : decode cX5_firstSitter 11 = .ok (.ixor, 1) := by decide +kernel
theorem dX5_firstSitter_12 : decode cX5_firstSitter 12 = .ok (.iand, 1) := by decide +kernel
theorem dX5_firstSitter_13 : decode cX5_firstSitter 13 = .ok (.iload_n 3, 1) := by decide +kernel
theorem dX5_firstSitter_14 : decode cX5_firstSitter 14 = .ok (.invokestatic 19, 3) := by decide +kernel
theorem dX5_firstSitter_17 : decode cX5_firstSitter 17 = .ok (.ifCond .eq 21, 3) := by decide +kernel
theorem dX5_firstSitter_20 : decode cX5_firstSitter 20 = .ok (.aload_n 0, 1) := by decide +kernel
theorem dX5_firstSitter_21 : decode cX5_firstSitter 21 = .ok (.getfield 9, 3) := by decide +kernel
theorem dX5_firstSitter_24 : decode cX5_firstSitter 24 = .ok (.iload_n 1, 1) := by decide +kernel
theorem dX5_firstSitter_25 : decode cX5_firstSitter 25 = .ok (.bipush 6, 2) := by decide +kernel
theorem dX5_firstSitter_27 : decode cX5_firstSitter 27 = .ok (.imul, 1) := by decide +kernel
theorem dX5_firstSitter_28 : decode cX5_firstSitter 28 = .ok (.iload_n 3, 1) := by decide +kernel
theorem dX5_firstSitter_29 : decode cX5_firstSitter 29 = .ok (.iadd, 1) := by decide +kernel
theorem dX5_firstSitter_30 : decode cX5_firstSitter 30 = .ok (.invokestatic 23, 3) := by decide +kernel
theorem dX5_firstSitter_33 : decode cX5_firstSitter 33 = .ok (.ifCond .le 5, 3) := by decide +kernel
theorem dX5_firstSitter_36 : decode cX5_firstSitter 36 = .ok (.iload_n 3, 1) := by decide +kernel
theorem dX5_firstSitter_37 : decode cX5_firstSitter 37 = .ok (.ireturn, 1) := by decide +kernel
theorem dX5_firstSitter_38 : decode cX5_firstSitter 38 = .ok (.iinc 3 1, 3) := by decide +kernel
theorem dX5_firstSitter_41 : decode cX5_firstSitter 41 = .ok (.goto (-39), 3) := by decide +kernel
theorem dX5_firstSitter_44 : decode cX5_firstSitter 44 = .ok (.bipush (-6), 2) := by decide +kernel
theorem dX5_firstSitter_46 : decode cX5_firstSitter 46 = .ok (.ireturn, 1) := by decide +kernel
set_option maxRecDepth 20000 in
theorem ggX6_init_X1_init : GoodIn wsX6_init wsX1_init := goodIn_r _ [13, 14, 2, 3, 8, 15, 16, 17, 18, 19, 20, 21, 22, 23, 24, 25] (by decide +kernel) (by decide +kernel)
set_option maxRecDepth 20000 in
theorem gX6_init_X1_init_n11 : GoodIn wsX6_init (wsX1_init) := ggX6_init_X1_init
theorem dX6_init_0 : decode cX6_init 0 = .ok (.aload_n 0, 1) := by decide +kernel
theorem dX6_init_1 : decode cX6_init 1 = .ok (.invokespecial 3, 3) := by decide +kernel
theorem dX6_init_4 : decode cX6_init 4 = .ok (.aload_n 0, 1) := by decide +kernel
theorem dX6_init_5 : decode cX6_init 5 = .ok (.new 9, 3) := by decide +kernel
theorem dX6_init_8 : decode cX6_init 8 = .ok (.dup, 1) := by decide +kernel
theorem dX6_init_9 : decode cX6_init 9 = .ok (.invokespecial 11, 3) := by decide +kernel
theorem dX6_init_12 : decode cX6_init 12 = .ok (.putfield 12, 3) := by decide +kernel
theorem dX6_init_15 : decode cX6_init 15 = .ok (.aload_n 0, 1) := by decide +kernel
theorem dX6_init_16 : decode cX6_init 16 = .ok (.bipush 6, 2) := by decide +kernel
theorem dX6_init_18 : decode cX6_init 18 = .ok (.newarray .int, 2) := by decide +kernel
theorem dX6_init_20 : decode cX6_init 20 = .ok (.putfield 18, 3) := by decide +kernel
theorem dX6_init_23 : decode cX6_init 23 = .ok (.aload_n 0, 1) := by decide +kernel
theorem dX6_init_24 : decode cX6_init 24 = .ok (.bipush 6, 2) := by decide +kernel
theorem dX6_init_26 : decode cX6_init 26 = .ok (.newarray .int, 2) := by decide +kernel
theorem dX6_init_28 : decode cX6_init 28 = .ok (.putfield 22, 3) := by decide +kernel
theorem dX6_init_31 : decode cX6_init 31 = .ok (.aload_n 0, 1) := by decide +kernel
theorem dX6_init_32 : decode cX6_init 32 = .ok (.iconst 5, 1) := by decide +kernel
theorem dX6_init_33 : decode cX6_init 33 = .ok (.newarray .int, 2) := by decide +kernel
theorem dX6_init_35 : decode cX6_init 35 = .ok (.putfield 25, 3) := by decide +kernel
theorem dX6_init_38 : decode cX6_init 38 = .ok (.return_, 1) := by decide +kernel
set_option maxRecDepth 20000 in
theorem ggX6_begin_X1_become : GoodIn wsX6_begin wsX1_become := goodIn_r _ [13, 14, 15, 16, 17, 18, 19, 20, 21, 22, 23, 24, 25, 26, 27, 28, 29, 43, 44, 45, 46, 47, 48] (by decide +kernel) (by decide +kernel)
set_option maxRecDepth 20000 in
theorem gX6_begin_X1_become : GoodIn wsX6_begin (wsV RX6 28 RX1 yX1_become wsX1_become) := goodIn_app (goodIn_of _ (by decide +kernel)) ggX6_begin_X1_become
set_option maxRecDepth 20000 in
theorem ggX6_begin_J7_fill_53178 : GoodIn wsX6_begin wsJ7_fill_53178 := goodIn_r _ [33] (by decide +kernel) (by decide +kernel)
set_option maxRecDepth 20000 in
theorem gX6_begin_J7_fill_53178 : GoodIn wsX6_begin (va_wsS RX6 32 yJ7_fill_53178 wsJ7_fill_53178) := goodIn_app (goodIn_of _ (by decide +kernel)) ggX6_begin_J7_fill_53178
theorem dX6_begin_0 : decode cX6_begin 0 = .ok (.aload_n 0, 1) := by decide +kernel
theorem dX6_begin_1 : decode cX6_begin 1 = .ok (.getfield 12, 3) := by decide +kernel
theorem dX6_begin_4 : decode cX6_begin 4 = .ok (.aload_n 1, 1) := by decide +kernel
theorem dX6_begin_5 : decode cX6_begin 5 = .ok (.invokevirtual 28, 3) := by decide +kernel
theorem dX6_begin_8 : decode cX6_begin 8 = .ok (.aload_n 0, 1) := by decide +kernel
theorem dX6_begin_9 : decode cX6_begin 9 = .ok (.getfield 18, 3) := by decide +kernel
theorem dX6_begin_12 : decode cX6_begin 12 = .ok (.iconst 0, 1) := by decide +kernel
theorem dX6_begin_13 : decode cX6_begin 13 = .ok (.invokestatic 32, 3) := by decide +kernel
theorem dX6_begin_16 : decode cX6_begin 16 = .ok (.aload_n 0, 1) := by decide +kernel
theorem dX6_begin_17 : decode cX6_begin 17 = .ok (.getfield 22, 3) := by decide +kernel
theorem dX6_begin_20 : decode cX6_begin 20 = .ok (.iconst 0, 1) := by decide +kernel
theorem dX6_begin_21 : decode cX6_begin 21 = .ok (.invokestatic 32, 3) := by decide +kernel
theorem dX6_begin_24 : decode cX6_begin 24 = .ok (.aload_n 0, 1) := by decide +kernel
theorem dX6_begin_25 : decode cX6_begin 25 = .ok (.iconst 0, 1) := by decide +kernel
theorem dX6_begin_26 : decode cX6_begin 26 = .ok (.putfield 38, 3) := by decide +kernel
theorem dX6_begin_29 : decode cX6_begin 29 = .ok (.aload_n 0, 1) := by decide +kernel
theorem dX6_begin_30 : decode cX6_begin 30 = .ok (.iconst 0, 1) := by decide +kernel
theorem dX6_begin_31 : decode cX6_begin 31 = .ok (.putfield 42, 3) := by decide +kernel
theorem dX6_begin_34 : decode cX6_begin 34 = .ok (.aload_n 0, 1) := by decide +kernel
theorem dX6_begin_35 : decode cX6_begin 35 = .ok (.bipush (-6), 2) := by decide +kernel
theorem dX6_begin_37 : decode cX6_begin 37 = .ok (.putfield 45, 3) := by decide +kernel
theorem dX6_begin_40 : decode cX6_begin 40 = .ok (.aload_n 0, 1) := by decide +kernel
theorem dX6_begin_41 : decode cX6_begin 41 = .ok (.bipush (-6), 2) := by decide +kernel
theorem dX6_begin_43 : decode cX6_begin 43 = .ok (.putfield 48, 3) := by decide +kernel
theorem dX6_begin_46 : decode cX6_begin 46 = .ok (.aload_n 0, 1) := by decide +kernel
theorem dX6_begin_47 : decode cX6_begin 47 = .ok (.bipush (-6), 2) := by decide +kernel
theorem dX6_begin_49 : decode cX6_begin 49 = .ok (.putfield 51, 3) := by decide +kernel
theorem dX6_begin_52 : decode cX6_begin 52 = .ok (.return_, 1) := by decide +kernel
set_option maxRecDepth 20000 in
theorem ggX6_play_X6_begin : GoodIn wsX6_play wsX6_begin := goodIn_r _ [9, 10, 11, 12, 13, 3, 14, 2, 4, 15, 16, 17, 18, 19, 20, 21, 22, 23, 24, 25, 26, 27, 28, 29, 30, 31, 32, 33, 34, 35, 36, 37, 38, 39, 161, 162, 163, 164, 165, 166, 167, 168, 169, 170, 171, 172, 173, 174, 175] (by decide +kernel) (by decide +kernel)
set_option maxRecDepth 20000 in
theorem gX6_play_X6_begin : GoodIn wsX6_play (wsV RX6 54 RX6 yX6_begin wsX6_begin) := goodIn_app (goodIn_of _ (by decide +kernel)) ggX6_play_X6_begin
set_option maxRecDepth 20000 in
theorem ggX6_play_X3_firstFault : GoodIn wsX6_play wsX3_firstFault := goodIn_r _ [44, 45, 46, 47, 48, 43, 49, 50, 51, 26, 52, 53, 54, 55, 56, 57, 58, 59, 60, 61, 159, 160] (by decide +kernel) (by decide +kernel)
set_option maxRecDepth 20000 in
theorem gX6_play_X3_firstFault : GoodIn wsX6_play (wsV RX6 57 RX3 yX3_firstFault wsX3_firstFault) := goodIn_app (goodIn_of _ (by decide +kernel)) ggX6_play_X3_firstFault
set_option maxRecDepth 20000 in
theorem ggX6_play_X3_signAt : GoodIn wsX6_play wsX3_signAt := goodIn_r _ [49, 45, 50, 51, 26, 52, 159, 160] (by decide +kernel) (by decide +kernel)
set_option maxRecDepth 20000 in
theorem gX6_play_X3_signAt : GoodIn wsX6_play (wsV RX6 66 RX3 yX3_signAt wsX3_signAt) := goodIn_app (goodIn_of _ (by decide +kernel)) ggX6_play_X3_signAt
set_option maxRecDepth 20000 in
theorem ggX6_play_X6_act : GoodIn wsX6_play wsX6_act := goodIn_r _ [66, 10, 67, 68, 30, 69, 70, 71, 72, 18, 73, 74, 75, 76, 77, 20, 78, 29, 31, 51, 26, 52, 79, 80, 81, 54, 43, 55, 82, 83, 84, 8, 85, 11, 12, 13, 14, 3, 86, 87, 88, 89, 22, 23, 90, 91, 92, 93, 94, 95, 96, 97, 98, 99, 100, 101, 102, 103, 104, 105, 106, 107, 108, 109, 110, 111, 21, 112, 113, 114, 115, 116, 24, 117, 118, 119, 120, 121, 122, 123, 124, 125, 126, 127, 128, 129, 130, 131, 132, 133, 134, 135, 136, 137, 138, 139, 140, 141, 142, 143, 144, 145, 146, 147, 148, 149, 150, 151, 152, 153, 154, 155, 156, 157, 158, 161, 162, 163, 164, 165, 166, 167, 168, 169, 170, 171, 172, 173, 174, 175] (by decide +kernel) (by decide +kernel)
set_option maxRecDepth 20000 in
theorem gX6_play_X6_act : GoodIn wsX6_play (wsV RX6 70 RX6 yX6_act wsX6_act) := goodIn_app (goodIn_of _ (by decide +kernel)) ggX6_play_X6_act
theorem dX6_play_0 : decode cX6_play 0 = .ok (.aload_n 0, 1) := by decide +kernel
theorem dX6_play_1 : decode cX6_play 1 = .ok (.aload_n 2, 1) := by decide +kernel
theorem dX6_play_2 : decode cX6_play 2 = .ok (.invokevirtual 54, 3) := by decide +kernel
theorem dX6_play_5 : decode cX6_play 5 = .ok (.aload_n 1, 1) := by decide +kernel
theorem dX6_play_6 : decode cX6_play 6 = .ok (.invokevirtual 57, 3) := by decide +kernel
theorem dX6_play_9 : decode cX6_play 9 = .ok (.bipush (-6), 2) := by decide +kernel
theorem dX6_play_11 : decode cX6_play 11 = .ok (.if_icmp .eq 5, 3) := by decide +kernel
theorem dX6_play_14 : decode cX6_play 14 = .ok (.iconst 0, 1) := by decide +kernel
theorem dX6_play_15 : decode cX6_play 15 = .ok (.ireturn, 1) := by decide +kernel
theorem dX6_play_16 : decode cX6_play 16 = .ok (.iconst 0, 1) := by decide +kernel
theorem dX6_play_17 : decode cX6_play 17 = .ok (.istore 4, 2) := by decide +kernel
theorem dX6_play_19 : decode cX6_play 19 = .ok (.iload 4, 2) := by decide +kernel
theorem dX6_play_21 : decode cX6_play 21 = .ok (.aload_n 1, 1) := by decide +kernel
theorem dX6_play_22 : decode cX6_play 22 = .ok (.getfield 63, 3) := by decide +kernel
theorem dX6_play_25 : decode cX6_play 25 = .ok (.if_icmp .ge 92, 3) := by decide +kernel
theorem dX6_play_28 : decode cX6_play 28 = .ok (.aload_n 0, 1) := by decide +kernel
theorem dX6_play_29 : decode cX6_play 29 = .ok (.getfield 48, 3) := by decide +kernel
theorem dX6_play_32 : decode cX6_play 32 = .ok (.bipush (-6), 2) := by decide +kernel
theorem dX6_play_34 : decode cX6_play 34 = .ok (.if_icmp .ne 83, 3) := by decide +kernel
theorem dX6_play_37 : decode cX6_play 37 = .ok (.aload_n 1, 1) := by decide +kernel
theorem dX6_play_38 : decode cX6_play 38 = .ok (.iload 4, 2) := by decide +kernel
theorem dX6_play_40 : decode cX6_play 40 = .ok (.invokevirtual 66, 3) := by decide +kernel
theorem dX6_play_43 : decode cX6_play 43 = .ok (.istore 5, 2) := by decide +kernel
theorem dX6_play_45 : decode cX6_play 45 = .ok (.aload_n 0, 1) := by decide +kernel
theorem dX6_play_46 : decode cX6_play 46 = .ok (.iload 5, 2) := by decide +kernel
theorem dX6_play_48 : decode cX6_play 48 = .ok (.aload_n 1, 1) := by decide +kernel
theorem dX6_play_49 : decode cX6_play 49 = .ok (.iload 4, 2) := by decide +kernel
theorem dX6_play_51 : decode cX6_play 51 = .ok (.iconst 1, 1) := by decide +kernel
theorem dX6_play_52 : decode cX6_play 52 = .ok (.iadd, 1) := by decide +kernel
theorem dX6_play_53 : decode cX6_play 53 = .ok (.invokevirtual 66, 3) := by decide +kernel
theorem dX6_play_56 : decode cX6_play 56 = .ok (.iload_n 3, 1) := by decide +kernel
theorem dX6_play_57 : decode cX6_play 57 = .ok (.invokevirtual 70, 3) := by decide +kernel
theorem dX6_play_60 : decode cX6_play 60 = .ok (.istore 6, 2) := by decide +kernel
theorem dX6_play_62 : decode cX6_play 62 = .ok (.iload 4, 2) := by decide +kernel
theorem dX6_play_64 : decode cX6_play 64 = .ok (.iload 5, 2) := by decide +kernel
theorem dX6_play_66 : decode cX6_play 66 = .ok (.bipush 46, 2) := by decide +kernel
theorem dX6_play_68 : decode cX6_play 68 = .ok (.if_icmp .ne 7, 3) := by decide +kernel
theorem dX6_play_71 : decode cX6_play 71 = .ok (.iconst 0, 1) := by decide +kernel
theorem dX6_play_72 : decode cX6_play 72 = .ok (.goto 4, 3) := by decide +kernel
theorem dX6_play_75 : decode cX6_play 75 = .ok (.iconst 1, 1) := by decide +kernel
theorem dX6_play_76 : decode cX6_play 76 = .ok (.iadd, 1) := by decide +kernel
theorem dX6_play_77 : decode cX6_play 77 = .ok (.istore 4, 2) := by decide +kernel
theorem dX6_play_79 : decode cX6_play 79 = .ok (.iload 6, 2) := by decide +kernel
theorem dX6_play_81 : decode cX6_play 81 = .ok (.ifCond .ne 16, 3) := by decide +kernel
theorem dX6_play_84 : decode cX6_play 84 = .ok (.aload_n 0, 1) := by decide +kernel
theorem dX6_play_85 : decode cX6_play 85 = .ok (.dup, 1) := by decide +kernel
theorem dX6_play_86 : decode cX6_play 86 = .ok (.getfield 42, 3) := by decide +kernel
theorem dX6_play_89 : decode cX6_play 89 = .ok (.iconst 1, 1) := by decide +kernel
theorem dX6_play_90 : decode cX6_play 90 = .ok (.iadd, 1) := by decide +kernel
theorem dX6_play_91 : decode cX6_play 91 = .ok (.putfield 42, 3) := by decide +kernel
theorem dX6_play_94 : decode cX6_play 94 = .ok (.goto 17, 3) := by decide +kernel
theorem dX6_play_97 : decode cX6_play 97 = .ok (.aload_n 0, 1) := by decide +kernel
theorem dX6_play_98 : decode cX6_play 98 = .ok (.aload_n 0, 1) := by decide +kernel
theorem dX6_play_99 : decode cX6_play 99 = .ok (.getfield 42, 3) := by decide +kernel
theorem dX6_play_102 : decode cX6_play 102 = .ok (.putfield 48, 3) := by decide +kernel
theorem dX6_play_105 : decode cX6_play 105 = .ok (.aload_n 0, 1) := by decide +kernel
theorem dX6_play_106 : decode cX6_play 106 = .ok (.iload 6, 2) := by decide +kernel
theorem dX6_play_108 : decode cX6_play 108 = .ok (.putfield 51, 3) := by decide +kernel
theorem dX6_play_111 : decode cX6_play 111 = .ok (.iinc 4 1, 3) := by decide +kernel
theorem dX6_play_114 : decode cX6_play 114 = .ok (.goto (-95), 3) := by decide +kernel
theorem dX6_play_117 : decode cX6_play 117 = .ok (.aload_n 0, 1) := by decide +kernel
theorem dX6_play_118 : decode cX6_play 118 = .ok (.getfield 48, 3) := by decide +kernel
theorem dX6_play_121 : decode cX6_play 121 = .ok (.bipush (-6), 2) := by decide +kernel
theorem dX6_play_123 : decode cX6_play 123 = .ok (.if_icmp .ne 7, 3) := by decide +kernel
theorem dX6_play_126 : decode cX6_play 126 = .ok (.iconst 1, 1) := by decide +kernel
theorem dX6_play_127 : decode cX6_play 127 = .ok (.goto 4, 3) := by decide +kernel
theorem dX6_play_130 : decode cX6_play 130 = .ok (.iconst 0, 1) := by decide +kernel
theorem dX6_play_131 : decode cX6_play 131 = .ok (.ireturn, 1) := by decide +kernel
set_option maxRecDepth 20000 in
theorem ggX6_act_X1_passHour : GoodIn wsX6_act wsX1_passHour := goodIn_r _ [10, 11, 12, 13, 9, 14, 15, 16, 17, 4, 18, 19, 20, 21, 22, 23, 124, 125, 126, 127, 128, 129] (by decide +kernel) (by decide +kernel)
set_option maxRecDepth 20000 in
theorem gX6_act_X1_passHour : GoodIn wsX6_act (wsV RX6 74 RX1 yX1_passHour wsX1_passHour) := goodIn_app (goodIn_of _ (by decide +kernel)) ggX6_act_X1_passHour
set_option maxRecDepth 20000 in
theorem ggX6_act_X3_isHouseSign : GoodIn wsX6_act wsX3_isHouseSign := goodIn_r _ [27] (by decide +kernel) (by decide +kernel)
set_option maxRecDepth 20000 in
theorem gX6_act_X3_isHouseSign : GoodIn wsX6_act (va_wsS RX6 77 yX3_isHouseSign wsX3_isHouseSign) := goodIn_app (goodIn_of _ (by decide +kernel)) ggX6_act_X3_isHouseSign
set_option maxRecDepth 20000 in
theorem ggX6_act_X6_bring : GoodIn wsX6_act wsX6_bring := goodIn_r _ [32, 1, 33, 34, 35, 36, 37, 38, 39, 40, 9, 41, 42, 43, 44, 20, 45, 46, 47, 48, 49, 50, 51, 52, 53, 15, 54, 55, 56, 57, 58, 59, 60, 61, 62, 63, 64, 65, 66, 67, 3, 4, 5, 19, 21, 68, 69, 70, 71, 72, 73, 74, 75, 76, 77, 78, 79, 80, 81, 31, 82, 83, 84, 85, 86, 87, 88, 89, 90, 91, 92, 93, 94, 95, 96, 97, 98, 99, 115, 116, 117, 118, 119, 120, 121, 122, 123, 124, 125, 126, 127, 128, 129] (by decide +kernel) (by decide +kernel)
set_option maxRecDepth 20000 in
theorem gX6_act_X6_bring : GoodIn wsX6_act (wsV RX6 87 RX6 yX6_bring wsX6_bring) := goodIn_app (goodIn_of _ (by decide +kernel)) ggX6_act_X6_bring
set_option maxRecDepth 20000 in
theorem ggX6_act_X6_go : GoodIn wsX6_act wsX6_go := goodIn_r _ [103, 1, 104, 105, 106, 107, 9, 108, 43, 44, 20, 45, 19, 21, 22, 23, 109, 12, 13, 14, 15, 16, 17, 4, 18, 115, 116, 117, 118, 119, 120, 121, 122, 123, 124, 125, 126, 127, 128, 129] (by decide +kernel) (by decide +kernel)
set_option maxRecDepth 20000 in
theorem gX6_act_X6_go : GoodIn wsX6_act (wsV RX6 90 RX6 yX6_go wsX6_go) := goodIn_app (goodIn_of _ (by decide +kernel)) ggX6_act_X6_go
set_option maxRecDepth 20000 in
theorem ggX6_act_X6_pretend : GoodIn wsX6_act wsX6_pretend := goodIn_r _ [113, 1, 114, 105, 106, 107, 9, 108, 43, 44, 20, 45, 22, 23, 115, 116, 117, 118, 119, 120, 121, 122, 123, 124, 125, 126, 127, 128, 129] (by decide +kernel) (by decide +kernel)
set_option maxRecDepth 20000 in
theorem gX6_act_X6_pretend : GoodIn wsX6_act (wsV RX6 93 RX6 yX6_pretend wsX6_pretend) := goodIn_app (goodIn_of _ (by decide +kernel)) ggX6_act_X6_pretend
theorem dX6_act_0 : decode cX6_act 0 = .ok (.iload_n 1, 1) := by decide +kernel
theorem dX6_act_1 : decode cX6_act 1 = .ok (.bipush 46, 2) := by decide +kernel
theorem dX6_act_3 : decode cX6_act 3 = .ok (.if_icmp .ne 12, 3) := by decide +kernel
theorem dX6_act_6 : decode cX6_act 6 = .ok (.aload_n 0, 1) := by decide +kernel
theorem dX6_act_7 : decode cX6_act 7 = .ok (.getfield 12, 3) := by decide +kernel
theorem dX6_act_10 : decode cX6_act 10 = .ok (.invokevirtual 74, 3) := by decide +kernel
theorem dX6_act_13 : decode cX6_act 13 = .ok (.iconst 0, 1) := by decide +kernel
theorem dX6_act_14 : decode cX6_act 14 = .ok (.ireturn, 1) := by decide +kernel
theorem dX6_act_15 : decode cX6_act 15 = .ok (.iload_n 1, 1) := by decide +kernel
theorem dX6_act_16 : decode cX6_act 16 = .ok (.invokestatic 77, 3) := by decide +kernel
theorem dX6_act_19 : decode cX6_act 19 = .ok (.ifCond .eq 22, 3) := by decide +kernel
theorem dX6_act_22 : decode cX6_act 22 = .ok (.aload_n 0, 1) := by decide +kernel
theorem dX6_act_23 : decode cX6_act 23 = .ok (.iload_n 1, 1) := by decide +kernel
theorem dX6_act_24 : decode cX6_act 24 = .ok (.bipush 97, 2) := by decide +kernel
theorem dX6_act_26 : decode cX6_act 26 = .ok (.isub, 1) := by decide +kernel
theorem dX6_act_27 : decode cX6_act 27 = .ok (.iconst 0, 1) := by decide +kernel
theorem dX6_act_28 : decode cX6_act 28 = .ok (.iload_n 2, 1) := by decide +kernel
theorem dX6_act_29 : decode cX6_act 29 = .ok (.bipush 48, 2) := by decide +kernel
theorem dX6_act_31 : decode cX6_act 31 = .ok (.isub, 1) := by decide +kernel
theorem dX6_act_32 : decode cX6_act 32 = .ok (.iload_n 3, 1) := by decide +kernel
theorem dX6_act_33 : decode cX6_act 33 = .ok (.isub, 1) := by decide +kernel
theorem dX6_act_34 : decode cX6_act 34 = .ok (.invokestatic 81, 3) := by decide +kernel
theorem dX6_act_37 : decode cX6_act 37 = .ok (.invokevirtual 87, 3) := by decide +kernel
theorem dX6_act_40 : decode cX6_act 40 = .ok (.ireturn, 1) := by decide +kernel
theorem dX6_act_41 : decode cX6_act 41 = .ok (.iload_n 1, 1) := by decide +kernel
theorem dX6_act_42 : decode cX6_act 42 = .ok (.bipush 65, 2) := by decide +kernel
