set_option maxRecDepth 20000 in
theorem ggX2_init_X0_init : GoodIn wsX2_init wsX0_init := goodIn_r _ [10, 11, 2, 3, 12, 13, 14] (by decide +kernel) (by decide +kernel)
set_option maxRecDepth 20000 in
theorem gX2_init_X0_init_n9 : GoodIn wsX2_init (wsX0_init) := ggX2_init_X0_init
theorem dX2_init_0 : decode cX2_init 0 = .ok (.aload_n 0, 1) := by decide +kernel
theorem dX2_init_1 : decode cX2_init 1 = .ok (.invokespecial 1, 3) := by decide +kernel
theorem dX2_init_4 : decode cX2_init 4 = .ok (.aload_n 0, 1) := by decide +kernel
theorem dX2_init_5 : decode cX2_init 5 = .ok (.new 7, 3) := by decide +kernel
theorem dX2_init_8 : decode cX2_init 8 = .ok (.dup, 1) := by decide +kernel
theorem dX2_init_9 : decode cX2_init 9 = .ok (.invokespecial 9, 3) := by decide +kernel
theorem dX2_init_12 : decode cX2_init 12 = .ok (.putfield 10, 3) := by decide +kernel
theorem dX2_init_15 : decode cX2_init 15 = .ok (.aload_n 0, 1) := by decide +kernel
theorem dX2_init_16 : decode cX2_init 16 = .ok (.new 7, 3) := by decide +kernel
theorem dX2_init_19 : decode cX2_init 19 = .ok (.dup, 1) := by decide +kernel
theorem dX2_init_20 : decode cX2_init 20 = .ok (.invokespecial 9, 3) := by decide +kernel
theorem dX2_init_23 : decode cX2_init 23 = .ok (.putfield 16, 3) := by decide +kernel
theorem dX2_init_26 : decode cX2_init 26 = .ok (.return_, 1) := by decide +kernel
set_option maxRecDepth 20000 in
theorem ggX2_takeZero_X0_set : GoodIn wsX2_takeZero wsX0_set := goodIn_r _ [7, 8, 9, 10, 11, 12, 15] (by decide +kernel) (by decide +kernel)
set_option maxRecDepth 20000 in
theorem gX2_takeZero_X0_set : GoodIn wsX2_takeZero (wsV RX2 19 RX0 yX0_set wsX0_set) := goodIn_app (goodIn_of _ (by decide +kernel)) ggX2_takeZero_X0_set
theorem dX2_takeZero_0 : decode cX2_takeZero 0 = .ok (.aload_n 0, 1) := by decide +kernel
theorem dX2_takeZero_1 : decode cX2_takeZero 1 = .ok (.getfield 10, 3) := by decide +kernel
theorem dX2_takeZero_4 : decode cX2_takeZero 4 = .ok (.iconst 0, 1) := by decide +kernel
theorem dX2_takeZero_5 : decode cX2_takeZero 5 = .ok (.invokevirtual 19, 3) := by decide +kernel
theorem dX2_takeZero_8 : decode cX2_takeZero 8 = .ok (.aload_n 0, 1) := by decide +kernel
theorem dX2_takeZero_9 : decode cX2_takeZero 9 = .ok (.getfield 16, 3) := by decide +kernel
theorem dX2_takeZero_12 : decode cX2_takeZero 12 = .ok (.iconst 1, 1) := by decide +kernel
theorem dX2_takeZero_13 : decode cX2_takeZero 13 = .ok (.invokevirtual 19, 3) := by decide +kernel
theorem dX2_takeZero_16 : decode cX2_takeZero 16 = .ok (.return_, 1) := by decide +kernel
set_option maxRecDepth 20000 in
theorem ggX2_take_X0_isZero : GoodIn wsX2_take wsX0_isZero := goodIn_r _ [8, 9, 46] (by decide +kernel) (by decide +kernel)
set_option maxRecDepth 20000 in
theorem gX2_take_X0_isZero : GoodIn wsX2_take (wsV RX2 23 RX0 yX0_isZero wsX0_isZero) := goodIn_app (goodIn_of _ (by decide +kernel)) ggX2_take_X0_isZero
set_option maxRecDepth 20000 in
theorem ggX2_take_X2_takeZero : GoodIn wsX2_take wsX2_takeZero := goodIn_r _ [14, 1, 2, 15, 16, 17, 7, 18, 9, 19, 20, 21, 22, 44, 45, 46] (by decide +kernel) (by decide +kernel)
set_option maxRecDepth 20000 in
theorem gX2_take_X2_takeZero : GoodIn wsX2_take (wsV RX2 27 RX2 yX2_takeZero wsX2_takeZero) := goodIn_app (goodIn_of _ (by decide +kernel)) ggX2_take_X2_takeZero
set_option maxRecDepth 20000 in
theorem ggX2_take_X0_copy : GoodIn wsX2_take wsX0_copy := goodIn_r _ [26, 9, 27, 28, 29, 30, 46] (by decide +kernel) (by decide +kernel)
set_option maxRecDepth 20000 in
theorem gX2_take_X0_copy : GoodIn wsX2_take (wsV RX2 30 RX0 yX0_copy wsX0_copy) := goodIn_app (goodIn_of _ (by decide +kernel)) ggX2_take_X0_copy
set_option maxRecDepth 20000 in
theorem ggX2_take_X2_cancel : GoodIn wsX2_take wsX2_cancel := goodIn_r _ [34, 2, 1, 35, 36, 37, 7, 38, 9, 39, 40, 41, 42, 43, 44, 45, 46] (by decide +kernel) (by decide +kernel)
set_option maxRecDepth 20000 in
theorem gX2_take_X2_cancel : GoodIn wsX2_take (wsV RX2 38 RX2 yX2_cancel wsX2_cancel) := goodIn_app (goodIn_of _ (by decide +kernel)) ggX2_take_X2_cancel
theorem dX2_take_0 : decode cX2_take 0 = .ok (.aload_n 1, 1) := by decide +kernel
theorem dX2_take_1 : decode cX2_take 1 = .ok (.invokevirtual 23, 3) := by decide +kernel
theorem dX2_take_4 : decode cX2_take 4 = .ok (.ifCond .eq 8, 3) := by decide +kernel
theorem dX2_take_7 : decode cX2_take 7 = .ok (.aload_n 0, 1) := by decide +kernel
theorem dX2_take_8 : decode cX2_take 8 = .ok (.invokevirtual 27, 3) := by decide +kernel
theorem dX2_take_11 : decode cX2_take 11 = .ok (.return_, 1) := by decide +kernel
theorem dX2_take_12 : decode cX2_take 12 = .ok (.aload_n 0, 1) := by decide +kernel
theorem dX2_take_13 : decode cX2_take 13 = .ok (.getfield 10, 3) := by decide +kernel
theorem dX2_take_16 : decode cX2_take 16 = .ok (.aload_n 1, 1) := by decide +kernel
theorem dX2_take_17 : decode cX2_take 17 = .ok (.invokevirtual 30, 3) := by decide +kernel
theorem dX2_take_20 : decode cX2_take 20 = .ok (.aload_n 0, 1) := by decide +kernel
theorem dX2_take_21 : decode cX2_take 21 = .ok (.getfield 16, 3) := by decide +kernel
theorem dX2_take_24 : decode cX2_take 24 = .ok (.aload_n 2, 1) := by decide +kernel
theorem dX2_take_25 : decode cX2_take 25 = .ok (.invokevirtual 30, 3) := by decide +kernel
theorem dX2_take_28 : decode cX2_take 28 = .ok (.getstatic 34, 3) := by decide +kernel
theorem dX2_take_31 : decode cX2_take 31 = .ok (.astore_n 3, 1) := by decide +kernel
theorem dX2_take_32 : decode cX2_take 32 = .ok (.aload_n 3, 1) := by decide +kernel
theorem dX2_take_33 : decode cX2_take 33 = .ok (.arraylength, 1) := by decide +kernel
theorem dX2_take_34 : decode cX2_take 34 = .ok (.istore 4, 2) := by decide +kernel
theorem dX2_take_36 : decode cX2_take 36 = .ok (.iconst 0, 1) := by decide +kernel
theorem dX2_take_37 : decode cX2_take 37 = .ok (.istore 5, 2) := by decide +kernel
theorem dX2_take_39 : decode cX2_take 39 = .ok (.iload 5, 2) := by decide +kernel
theorem dX2_take_41 : decode cX2_take 41 = .ok (.iload 4, 2) := by decide +kernel
theorem dX2_take_43 : decode cX2_take 43 = .ok (.if_icmp .ge 21, 3) := by decide +kernel
theorem dX2_take_46 : decode cX2_take 46 = .ok (.aload_n 3, 1) := by decide +kernel
theorem dX2_take_47 : decode cX2_take 47 = .ok (.iload 5, 2) := by decide +kernel
theorem dX2_take_49 : decode cX2_take 49 = .ok (.iaload, 1) := by decide +kernel
theorem dX2_take_50 : decode cX2_take 50 = .ok (.istore 6, 2) := by decide +kernel
theorem dX2_take_52 : decode cX2_take 52 = .ok (.aload_n 0, 1) := by decide +kernel
theorem dX2_take_53 : decode cX2_take 53 = .ok (.iload 6, 2) := by decide +kernel
theorem dX2_take_55 : decode cX2_take 55 = .ok (.invokevirtual 38, 3) := by decide +kernel
theorem dX2_take_58 : decode cX2_take 58 = .ok (.iinc 5 1, 3) := by decide +kernel
theorem dX2_take_61 : decode cX2_take 61 = .ok (.goto (-22), 3) := by decide +kernel
theorem dX2_take_64 : decode cX2_take 64 = .ok (.return_, 1) := by decide +kernel
set_option maxRecDepth 20000 in
theorem ggX2_wordOf_X0_wordAt : GoodIn wsX2_wordOf wsX0_wordAt := goodIn_r _ [7, 8, 11] (by decide +kernel) (by decide +kernel)
set_option maxRecDepth 20000 in
theorem gX2_wordOf_X0_wordAt : GoodIn wsX2_wordOf (wsV RX2 41 RX0 yX0_wordAt wsX0_wordAt) := goodIn_app (goodIn_of _ (by decide +kernel)) ggX2_wordOf_X0_wordAt
theorem dX2_wordOf_0 : decode cX2_wordOf 0 = .ok (.iload_n 1, 1) := by decide +kernel
theorem dX2_wordOf_1 : decode cX2_wordOf 1 = .ok (.ifCond .ne 12, 3) := by decide +kernel
theorem dX2_wordOf_4 : decode cX2_wordOf 4 = .ok (.aload_n 0, 1) := by decide +kernel
theorem dX2_wordOf_5 : decode cX2_wordOf 5 = .ok (.getfield 10, 3) := by decide +kernel
theorem dX2_wordOf_8 : decode cX2_wordOf 8 = .ok (.iload_n 2, 1) := by decide +kernel
theorem dX2_wordOf_9 : decode cX2_wordOf 9 = .ok (.invokevirtual 41, 3) := by decide +kernel
theorem dX2_wordOf_12 : decode cX2_wordOf 12 = .ok (.ireturn, 1) := by decide +kernel
theorem dX2_wordOf_13 : decode cX2_wordOf 13 = .ok (.iload_n 1, 1) := by decide +kernel
theorem dX2_wordOf_14 : decode cX2_wordOf 14 = .ok (.iconst 1, 1) := by decide +kernel
theorem dX2_wordOf_15 : decode cX2_wordOf 15 = .ok (.if_icmp .ne 14, 3) := by decide +kernel
theorem dX2_wordOf_18 : decode cX2_wordOf 18 = .ok (.aload_n 0, 1) := by decide +kernel
theorem dX2_wordOf_19 : decode cX2_wordOf 19 = .ok (.getfield 16, 3) := by decide +kernel
theorem dX2_wordOf_22 : decode cX2_wordOf 22 = .ok (.iload_n 2, 1) := by decide +kernel
theorem dX2_wordOf_23 : decode cX2_wordOf 23 = .ok (.invokevirtual 41, 3) := by decide +kernel
theorem dX2_wordOf_26 : decode cX2_wordOf 26 = .ok (.goto 4, 3) := by decide +kernel
theorem dX2_wordOf_29 : decode cX2_wordOf 29 = .ok (.iconst 0, 1) := by decide +kernel
theorem dX2_wordOf_30 : decode cX2_wordOf 30 = .ok (.ireturn, 1) := by decide +kernel
set_option maxRecDepth 20000 in
theorem ggX2_cancel_X0_modulo : GoodIn wsX2_cancel wsX0_modulo := goodIn_r _ [7, 8, 9, 16] (by decide +kernel) (by decide +kernel)
set_option maxRecDepth 20000 in
theorem gX2_cancel_X0_modulo : GoodIn wsX2_cancel (wsV RX2 45 RX0 yX0_modulo wsX0_modulo) := goodIn_app (goodIn_of _ (by decide +kernel)) ggX2_cancel_X0_modulo
set_option maxRecDepth 20000 in
theorem ggX2_cancel_X0_divide : GoodIn wsX2_cancel wsX0_divide := goodIn_r _ [13, 8, 9, 16] (by decide +kernel) (by decide +kernel)
set_option maxRecDepth 20000 in
theorem gX2_cancel_X0_divide : GoodIn wsX2_cancel (wsV RX2 48 RX0 yX0_divide wsX0_divide) := goodIn_app (goodIn_of _ (by decide +kernel)) ggX2_cancel_X0_divide
theorem dX2_cancel_0 : decode cX2_cancel 0 = .ok (.iconst 0, 1) := by decide +kernel
theorem dX2_cancel_1 : decode cX2_cancel 1 = .ok (.istore_n 2, 1) := by decide +kernel
theorem dX2_cancel_2 : decode cX2_cancel 2 = .ok (.iload_n 2, 1) := by decide +kernel
theorem dX2_cancel_3 : decode cX2_cancel 3 = .ok (.sipush 128, 3) := by decide +kernel
theorem dX2_cancel_6 : decode cX2_cancel 6 = .ok (.if_icmp .ge 50, 3) := by decide +kernel
theorem dX2_cancel_9 : decode cX2_cancel 9 = .ok (.aload_n 0, 1) := by decide +kernel
theorem dX2_cancel_10 : decode cX2_cancel 10 = .ok (.getfield 16, 3) := by decide +kernel
theorem dX2_cancel_13 : decode cX2_cancel 13 = .ok (.iload_n 1, 1) := by decide +kernel
theorem dX2_cancel_14 : decode cX2_cancel 14 = .ok (.invokevirtual 45, 3) := by decide +kernel
theorem dX2_cancel_17 : decode cX2_cancel 17 = .ok (.ifCond .ne 14, 3) := by decide +kernel
theorem dX2_cancel_20 : decode cX2_cancel 20 = .ok (.aload_n 0, 1) := by decide +kernel
theorem dX2_cancel_21 : decode cX2_cancel 21 = .ok (.getfield 10, 3) := by decide +kernel
theorem dX2_cancel_24 : decode cX2_cancel 24 = .ok (.iload_n 1, 1) := by decide +kernel
theorem dX2_cancel_25 : decode cX2_cancel 25 = .ok (.invokevirtual 45, 3) := by decide +kernel
theorem dX2_cancel_28 : decode cX2_cancel 28 = .ok (.ifCond .eq 4, 3) := by decide +kernel
theorem dX2_cancel_31 : decode cX2_cancel 31 = .ok (.return_, 1) := by decide +kernel
theorem dX2_cancel_32 : decode cX2_cancel 32 = .ok (.aload_n 0, 1) := by decide +kernel
theorem dX2_cancel_33 : decode cX2_cancel 33 = .ok (.getfield 16, 3) := by decide +kernel
theorem dX2_cancel_36 : decode cX2_cancel 36 = .ok (.iload_n 1, 1) := by decide +kernel
theorem dX2_cancel_37 : decode cX2_cancel 37 = .ok (.invokevirtual 48, 3) := by decide +kernel
theorem dX2_cancel_40 : decode cX2_cancel 40 = .ok (.pop, 1) := by decide +kernel
theorem dX2_cancel_41 : decode cX2_cancel 41 = .ok (.aload_n 0, 1) := by decide +kernel
theorem dX2_cancel_42 : decode cX2_cancel 42 = .ok (.getfield 10, 3) := by decide +kernel
theorem dX2_cancel_45 : decode cX2_cancel 45 = .ok (.iload_n 1, 1) := by decide +kernel
theorem dX2_cancel_46 : decode cX2_cancel 46 = .ok (.invokevirtual 48, 3) := by decide +kernel
theorem dX2_cancel_49 : decode cX2_cancel 49 = .ok (.pop, 1) := by decide +kernel
theorem dX2_cancel_50 : decode cX2_cancel 50 = .ok (.iinc 2 1, 3) := by decide +kernel
theorem dX2_cancel_53 : decode cX2_cancel 53 = .ok (.goto (-51), 3) := by decide +kernel
theorem dX2_cancel_56 : decode cX2_cancel 56 = .ok (.return_, 1) := by decide +kernel
