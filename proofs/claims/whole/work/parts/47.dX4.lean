set_option maxRecDepth 20000 in
theorem ggX4_init_X0_init : GoodIn wsX4_init wsX0_init := goodIn_r _ [13, 14, 2, 3, 15, 16, 22] (by decide +kernel) (by decide +kernel)
set_option maxRecDepth 20000 in
theorem gX4_init_X0_init_n24 : GoodIn wsX4_init (wsX0_init) := ggX4_init_X0_init
theorem dX4_init_0 : decode cX4_init 0 = .ok (.aload_n 0, 1) := by decide +kernel
theorem dX4_init_1 : decode cX4_init 1 = .ok (.invokespecial 5, 3) := by decide +kernel
theorem dX4_init_4 : decode cX4_init 4 = .ok (.aload_n 0, 1) := by decide +kernel
theorem dX4_init_5 : decode cX4_init 5 = .ok (.iconst (-1), 1) := by decide +kernel
theorem dX4_init_6 : decode cX4_init 6 = .ok (.putfield 11, 3) := by decide +kernel
theorem dX4_init_9 : decode cX4_init 9 = .ok (.aload_n 0, 1) := by decide +kernel
theorem dX4_init_10 : decode cX4_init 10 = .ok (.sipush 1411, 3) := by decide +kernel
theorem dX4_init_13 : decode cX4_init 13 = .ok (.newarray .char, 2) := by decide +kernel
theorem dX4_init_15 : decode cX4_init 15 = .ok (.putfield 17, 3) := by decide +kernel
theorem dX4_init_18 : decode cX4_init 18 = .ok (.aload_n 0, 1) := by decide +kernel
theorem dX4_init_19 : decode cX4_init 19 = .ok (.bipush 39, 2) := by decide +kernel
theorem dX4_init_21 : decode cX4_init 21 = .ok (.newarray .char, 2) := by decide +kernel
theorem dX4_init_23 : decode cX4_init 23 = .ok (.putfield 21, 3) := by decide +kernel
theorem dX4_init_26 : decode cX4_init 26 = .ok (.aload_n 0, 1) := by decide +kernel
theorem dX4_init_27 : decode cX4_init 27 = .ok (.new 1, 3) := by decide +kernel
theorem dX4_init_30 : decode cX4_init 30 = .ok (.dup, 1) := by decide +kernel
theorem dX4_init_31 : decode cX4_init 31 = .ok (.invokespecial 24, 3) := by decide +kernel
theorem dX4_init_34 : decode cX4_init 34 = .ok (.putfield 25, 3) := by decide +kernel
theorem dX4_init_37 : decode cX4_init 37 = .ok (.return_, 1) := by decide +kernel
theorem dX4_clear_0 : decode cX4_clear 0 = .ok (.aload_n 0, 1) := by decide +kernel
theorem dX4_clear_1 : decode cX4_clear 1 = .ok (.iload_n 1, 1) := by decide +kernel
theorem dX4_clear_2 : decode cX4_clear 2 = .ok (.putfield 11, 3) := by decide +kernel
theorem dX4_clear_5 : decode cX4_clear 5 = .ok (.aload_n 0, 1) := by decide +kernel
theorem dX4_clear_6 : decode cX4_clear 6 = .ok (.iconst 0, 1) := by decide +kernel
theorem dX4_clear_7 : decode cX4_clear 7 = .ok (.putfield 29, 3) := by decide +kernel
theorem dX4_clear_10 : decode cX4_clear 10 = .ok (.return_, 1) := by decide +kernel
theorem dX4_charOr_0 : decode cX4_charOr 0 = .ok (.iload_n 1, 1) := by decide +kernel
theorem dX4_charOr_1 : decode cX4_charOr 1 = .ok (.ifCond .lt 20, 3) := by decide +kernel
theorem dX4_charOr_4 : decode cX4_charOr 4 = .ok (.iload_n 1, 1) := by decide +kernel
theorem dX4_charOr_5 : decode cX4_charOr 5 = .ok (.aload_n 0, 1) := by decide +kernel
theorem dX4_charOr_6 : decode cX4_charOr 6 = .ok (.getfield 29, 3) := by decide +kernel
theorem dX4_charOr_9 : decode cX4_charOr 9 = .ok (.if_icmp .ge 12, 3) := by decide +kernel
theorem dX4_charOr_12 : decode cX4_charOr 12 = .ok (.aload_n 0, 1) := by decide +kernel
theorem dX4_charOr_13 : decode cX4_charOr 13 = .ok (.getfield 17, 3) := by decide +kernel
theorem dX4_charOr_16 : decode cX4_charOr 16 = .ok (.iload_n 1, 1) := by decide +kernel
theorem dX4_charOr_17 : decode cX4_charOr 17 = .ok (.caload, 1) := by decide +kernel
theorem dX4_charOr_18 : decode cX4_charOr 18 = .ok (.goto 4, 3) := by decide +kernel
theorem dX4_charOr_21 : decode cX4_charOr 21 = .ok (.iload_n 2, 1) := by decide +kernel
theorem dX4_charOr_22 : decode cX4_charOr 22 = .ok (.ireturn, 1) := by decide +kernel
theorem dX4_put_0 : decode cX4_put 0 = .ok (.aload_n 0, 1) := by decide +kernel
theorem dX4_put_1 : decode cX4_put 1 = .ok (.getfield 29, 3) := by decide +kernel
theorem dX4_put_4 : decode cX4_put 4 = .ok (.aload_n 0, 1) := by decide +kernel
theorem dX4_put_5 : decode cX4_put 5 = .ok (.getfield 17, 3) := by decide +kernel
theorem dX4_put_8 : decode cX4_put 8 = .ok (.arraylength, 1) := by decide +kernel
theorem dX4_put_9 : decode cX4_put 9 = .ok (.if_icmp .ge 20, 3) := by decide +kernel
theorem dX4_put_12 : decode cX4_put 12 = .ok (.aload_n 0, 1) := by decide +kernel
theorem dX4_put_13 : decode cX4_put 13 = .ok (.getfield 17, 3) := by decide +kernel
theorem dX4_put_16 : decode cX4_put 16 = .ok (.aload_n 0, 1) := by decide +kernel
theorem dX4_put_17 : decode cX4_put 17 = .ok (.dup, 1) := by decide +kernel
theorem dX4_put_18 : decode cX4_put 18 = .ok (.getfield 29, 3) := by decide +kernel
theorem dX4_put_21 : decode cX4_put 21 = .ok (.dup_x1, 1) := by decide +kernel
theorem dX4_put_22 : decode cX4_put 22 = .ok (.iconst 1, 1) := by decide +kernel
theorem dX4_put_23 : decode cX4_put 23 = .ok (.iadd, 1) := by decide +kernel
theorem dX4_put_24 : decode cX4_put 24 = .ok (.putfield 29, 3) := by decide +kernel
theorem dX4_put_27 : decode cX4_put 27 = .ok (.iload_n 1, 1) := by decide +kernel
theorem dX4_put_28 : decode cX4_put 28 = .ok (.castore, 1) := by decide +kernel
theorem dX4_put_29 : decode cX4_put 29 = .ok (.return_, 1) := by decide +kernel
set_option maxRecDepth 20000 in
theorem ggX4_putProject_X4_put : GoodIn wsX4_putProject wsX4_put := goodIn_r _ [5, 6, 7, 8, 9, 10, 11, 12] (by decide +kernel) (by decide +kernel)
set_option maxRecDepth 20000 in
theorem gX4_putProject_X4_put : GoodIn wsX4_putProject (wsV RX4 32 RX4 yX4_put wsX4_put) := goodIn_app (goodIn_of _ (by decide +kernel)) ggX4_putProject_X4_put
theorem dX4_putProject_0 : decode cX4_putProject 0 = .ok (.aload_n 0, 1) := by decide +kernel
theorem dX4_putProject_1 : decode cX4_putProject 1 = .ok (.bipush 48, 2) := by decide +kernel
theorem dX4_putProject_3 : decode cX4_putProject 3 = .ok (.iload_n 1, 1) := by decide +kernel
theorem dX4_putProject_4 : decode cX4_putProject 4 = .ok (.bipush 10, 2) := by decide +kernel
theorem dX4_putProject_6 : decode cX4_putProject 6 = .ok (.idiv, 1) := by decide +kernel
theorem dX4_putProject_7 : decode cX4_putProject 7 = .ok (.iadd, 1) := by decide +kernel
theorem dX4_putProject_8 : decode cX4_putProject 8 = .ok (.i2c, 1) := by decide +kernel
theorem dX4_putProject_9 : decode cX4_putProject 9 = .ok (.invokevirtual 32, 3) := by decide +kernel
theorem dX4_putProject_12 : decode cX4_putProject 12 = .ok (.aload_n 0, 1) := by decide +kernel
theorem dX4_putProject_13 : decode cX4_putProject 13 = .ok (.bipush 48, 2) := by decide +kernel
theorem dX4_putProject_15 : decode cX4_putProject 15 = .ok (.iload_n 1, 1) := by decide +kernel
theorem dX4_putProject_16 : decode cX4_putProject 16 = .ok (.bipush 10, 2) := by decide +kernel
theorem dX4_putProject_18 : decode cX4_putProject 18 = .ok (.irem, 1) := by decide +kernel
theorem dX4_putProject_19 : decode cX4_putProject 19 = .ok (.iadd, 1) := by decide +kernel
theorem dX4_putProject_20 : decode cX4_putProject 20 = .ok (.i2c, 1) := by decide +kernel
theorem dX4_putProject_21 : decode cX4_putProject 21 = .ok (.invokevirtual 32, 3) := by decide +kernel
theorem dX4_putProject_24 : decode cX4_putProject 24 = .ok (.aload_n 0, 1) := by decide +kernel
theorem dX4_putProject_25 : decode cX4_putProject 25 = .ok (.bipush 32, 2) := by decide +kernel
theorem dX4_putProject_27 : decode cX4_putProject 27 = .ok (.invokevirtual 32, 3) := by decide +kernel
theorem dX4_putProject_30 : decode cX4_putProject 30 = .ok (.return_, 1) := by decide +kernel
set_option maxRecDepth 20000 in
theorem ggX4_putRatio_X4_putNatural : GoodIn wsX4_putRatio wsX4_putNatural := goodIn_r _ [7, 8, 9, 10, 11, 12, 13, 14, 15, 16, 17, 18, 19, 20, 21, 22, 23, 24, 25, 26, 27, 28, 29, 30, 31, 6, 32, 33, 34, 41, 42, 43, 44, 45, 46] (by decide +kernel) (by decide +kernel)
set_option maxRecDepth 20000 in
theorem gX4_putRatio_X4_putNatural : GoodIn wsX4_putRatio (wsV RX4 41 RX4 yX4_putNatural wsX4_putNatural) := goodIn_app (goodIn_of _ (by decide +kernel)) ggX4_putRatio_X4_putNatural
set_option maxRecDepth 20000 in
theorem ggX4_putRatio_X0_isOne : GoodIn wsX4_putRatio wsX0_isOne := goodIn_r _ [38, 15, 46] (by decide +kernel) (by decide +kernel)
set_option maxRecDepth 20000 in
theorem gX4_putRatio_X0_isOne : GoodIn wsX4_putRatio (wsV RX4 48 RX0 yX0_isOne wsX0_isOne) := goodIn_app (goodIn_of _ (by decide +kernel)) ggX4_putRatio_X0_isOne
set_option maxRecDepth 20000 in
theorem ggX4_putRatio_X4_put : GoodIn wsX4_putRatio wsX4_put := goodIn_r _ [32, 33, 34, 41, 42, 43, 44, 45] (by decide +kernel) (by decide +kernel)
set_option maxRecDepth 20000 in
theorem gX4_putRatio_X4_put : GoodIn wsX4_putRatio (wsV RX4 32 RX4 yX4_put wsX4_put) := goodIn_app (goodIn_of _ (by decide +kernel)) ggX4_putRatio_X4_put
theorem dX4_putRatio_0 : decode cX4_putRatio 0 = .ok (.aload_n 0, 1) := by decide +kernel
theorem dX4_putRatio_1 : decode cX4_putRatio 1 = .ok (.aload_n 1, 1) := by decide +kernel
theorem dX4_putRatio_2 : decode cX4_putRatio 2 = .ok (.getfield 36, 3) := by decide +kernel
theorem dX4_putRatio_5 : decode cX4_putRatio 5 = .ok (.invokevirtual 41, 3) := by decide +kernel
theorem dX4_putRatio_8 : decode cX4_putRatio 8 = .ok (.aload_n 1, 1) := by decide +kernel
theorem dX4_putRatio_9 : decode cX4_putRatio 9 = .ok (.getfield 45, 3) := by decide +kernel
theorem dX4_putRatio_12 : decode cX4_putRatio 12 = .ok (.invokevirtual 48, 3) := by decide +kernel
theorem dX4_putRatio_15 : decode cX4_putRatio 15 = .ok (.ifCond .ne 17, 3) := by decide +kernel
theorem dX4_putRatio_18 : decode cX4_putRatio 18 = .ok (.aload_n 0, 1) := by decide +kernel
theorem dX4_putRatio_19 : decode cX4_putRatio 19 = .ok (.bipush 47, 2) := by decide +kernel
theorem dX4_putRatio_21 : decode cX4_putRatio 21 = .ok (.invokevirtual 32, 3) := by decide +kernel
theorem dX4_putRatio_24 : decode cX4_putRatio 24 = .ok (.aload_n 0, 1) := by decide +kernel
theorem dX4_putRatio_25 : decode cX4_putRatio 25 = .ok (.aload_n 1, 1) := by decide +kernel
theorem dX4_putRatio_26 : decode cX4_putRatio 26 = .ok (.getfield 45, 3) := by decide +kernel
theorem dX4_putRatio_29 : decode cX4_putRatio 29 = .ok (.invokevirtual 41, 3) := by decide +kernel
theorem dX4_putRatio_32 : decode cX4_putRatio 32 = .ok (.return_, 1) := by decide +kernel
set_option maxRecDepth 20000 in
theorem ggX4_putNatural_X0_copy : GoodIn wsX4_putNatural wsX0_copy := goodIn_r _ [7, 8, 9, 10, 11, 12, 34] (by decide +kernel) (by decide +kernel)
set_option maxRecDepth 20000 in
theorem gX4_putNatural_X0_copy : GoodIn wsX4_putNatural (wsV RX4 52 RX0 yX0_copy wsX0_copy) := goodIn_app (goodIn_of _ (by decide +kernel)) ggX4_putNatural_X0_copy
set_option maxRecDepth 20000 in
theorem ggX4_putNatural_X0_divide : GoodIn wsX4_putNatural wsX0_divide := goodIn_r _ [16, 8, 17, 34] (by decide +kernel) (by decide +kernel)
set_option maxRecDepth 20000 in
theorem gX4_putNatural_X0_divide : GoodIn wsX4_putNatural (wsV RX4 55 RX0 yX0_divide wsX0_divide) := goodIn_app (goodIn_of _ (by decide +kernel)) ggX4_putNatural_X0_divide
set_option maxRecDepth 20000 in
theorem ggX4_putNatural_X0_isZero : GoodIn wsX4_putNatural wsX0_isZero := goodIn_r _ [21, 8, 34] (by decide +kernel) (by decide +kernel)
set_option maxRecDepth 20000 in
theorem gX4_putNatural_X0_isZero : GoodIn wsX4_putNatural (wsV RX4 59 RX0 yX0_isZero wsX0_isZero) := goodIn_app (goodIn_of _ (by decide +kernel)) ggX4_putNatural_X0_isZero
set_option maxRecDepth 20000 in
theorem ggX4_putNatural_X4_put : GoodIn wsX4_putNatural wsX4_put := goodIn_r _ [26, 27, 28, 29, 30, 31, 32, 33] (by decide +kernel) (by decide +kernel)
set_option maxRecDepth 20000 in
theorem gX4_putNatural_X4_put : GoodIn wsX4_putNatural (wsV RX4 32 RX4 yX4_put wsX4_put) := goodIn_app (goodIn_of _ (by decide +kernel)) ggX4_putNatural_X4_put
theorem dX4_putNatural_0 : decode cX4_putNatural 0 = .ok (.aload_n 0, 1) := by decide +kernel
theorem dX4_putNatural_1 : decode cX4_putNatural 1 = .ok (.getfield 25, 3) := by decide +kernel
theorem dX4_putNatural_4 : decode cX4_putNatural 4 = .ok (.aload_n 1, 1) := by decide +kernel
theorem dX4_putNatural_5 : decode cX4_putNatural 5 = .ok (.invokevirtual 52, 3) := by decide +kernel
theorem dX4_putNatural_8 : decode cX4_putNatural 8 = .ok (.bipush 39, 2) := by decide +kernel
theorem dX4_putNatural_10 : decode cX4_putNatural 10 = .ok (.istore_n 2, 1) := by decide +kernel
theorem dX4_putNatural_11 : decode cX4_putNatural 11 = .ok (.iinc 2 (-1), 3) := by decide +kernel
theorem dX4_putNatural_14 : decode cX4_putNatural 14 = .ok (.aload_n 0, 1) := by decide +kernel
theorem dX4_putNatural_15 : decode cX4_putNatural 15 = .ok (.getfield 21, 3) := by decide +kernel
theorem dX4_putNatural_18 : decode cX4_putNatural 18 = .ok (.iload_n 2, 1) := by decide +kernel
theorem dX4_putNatural_19 : decode cX4_putNatural 19 = .ok (.bipush 48, 2) := by decide +kernel
theorem dX4_putNatural_21 : decode cX4_putNatural 21 = .ok (.aload_n 0, 1) := by decide +kernel
theorem dX4_putNatural_22 : decode cX4_putNatural 22 = .ok (.getfield 25, 3) := by decide +kernel
theorem dX4_putNatural_25 : decode cX4_putNatural 25 = .ok (.bipush 10, 2) := by decide +kernel
theorem dX4_putNatural_27 : decode cX4_putNatural 27 = .ok (.invokevirtual 55, 3) := by decide +kernel
theorem dX4_putNatural_30 : decode cX4_putNatural 30 = .ok (.iadd, 1) := by decide +kernel
theorem dX4_putNatural_31 : decode cX4_putNatural 31 = .ok (.i2c, 1) := by decide +kernel
theorem dX4_putNatural_32 : decode cX4_putNatural 32 = .ok (.castore, 1) := by decide +kernel
theorem dX4_putNatural_33 : decode cX4_putNatural 33 = .ok (.iload_n 2, 1) := by decide +kernel
theorem dX4_putNatural_34 : decode cX4_putNatural 34 = .ok (.ifCond .le 13, 3) := by decide +kernel
theorem dX4_putNatural_37 : decode cX4_putNatural 37 = .ok (.aload_n 0, 1) := by decide +kernel
theorem dX4_putNatural_38 : decode cX4_putNatural 38 = .ok (.getfield 25, 3) := by decide +kernel
theorem dX4_putNatural_41 : decode cX4_putNatural 41 = .ok (.invokevirtual 59, 3) := by decide +kernel
theorem dX4_putNatural_44 : decode cX4_putNatural 44 = .ok (.ifCond .eq (-33), 3) := by decide +kernel
theorem dX4_putNatural_47 : decode cX4_putNatural 47 = .ok (.iload_n 2, 1) := by decide +kernel
theorem dX4_putNatural_48 : decode cX4_putNatural 48 = .ok (.istore_n 3, 1) := by decide +kernel
theorem dX4_putNatural_49 : decode cX4_putNatural 49 = .ok (.iload_n 3, 1) := by decide +kernel
theorem dX4_putNatural_50 : decode cX4_putNatural 50 = .ok (.bipush 39, 2) := by decide +kernel
theorem dX4_putNatural_52 : decode cX4_putNatural 52 = .ok (.if_icmp .ge 19, 3) := by decide +kernel
theorem dX4_putNatural_55 : decode cX4_putNatural 55 = .ok (.aload_n 0, 1) := by decide +kernel
theorem dX4_putNatural_56 : decode cX4_putNatural 56 = .ok (.aload_n 0, 1) := by decide +kernel
theorem dX4_putNatural_57 : decode cX4_putNatural 57 = .ok (.getfield 21, 3) := by decide +kernel
theorem dX4_putNatural_60 : decode cX4_putNatural 60 = .ok (.iload_n 3, 1) := by decide +kernel
theorem dX4_putNatural_61 : decode cX4_putNatural 61 = .ok (.caload, 1) := by decide +kernel
theorem dX4_putNatural_62 : decode cX4_putNatural 62 = .ok (.invokevirtual 32, 3) := by decide +kernel
theorem dX4_putNatural_65 : decode cX4_putNatural 65 = .ok (.iinc 3 1, 3) := by decide +kernel
theorem dX4_putNatural_68 : decode cX4_putNatural 68 = .ok (.goto (-19), 3) := by decide +kernel
theorem dX4_putNatural_71 : decode cX4_putNatural 71 = .ok (.return_, 1) := by decide +kernel
