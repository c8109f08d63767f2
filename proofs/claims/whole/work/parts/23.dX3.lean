set_option maxRecDepth 20000 in
theorem ggX3_init_X0_init : GoodIn wsX3_init wsX0_init := goodIn_r _ [11, 12, 2, 3, 13, 14, 15] (by decide +kernel) (by decide +kernel)
set_option maxRecDepth 20000 in
theorem gX3_init_X0_init_n9 : GoodIn wsX3_init (wsX0_init) := ggX3_init_X0_init
theorem dX3_init_0 : decode cX3_init 0 = .ok (.aload_n 0, 1) := by decide +kernel
theorem dX3_init_1 : decode cX3_init 1 = .ok (.invokespecial 1, 3) := by decide +kernel
theorem dX3_init_4 : decode cX3_init 4 = .ok (.aload_n 0, 1) := by decide +kernel
theorem dX3_init_5 : decode cX3_init 5 = .ok (.new 7, 3) := by decide +kernel
theorem dX3_init_8 : decode cX3_init 8 = .ok (.dup, 1) := by decide +kernel
theorem dX3_init_9 : decode cX3_init 9 = .ok (.invokespecial 9, 3) := by decide +kernel
theorem dX3_init_12 : decode cX3_init 12 = .ok (.putfield 10, 3) := by decide +kernel
theorem dX3_init_15 : decode cX3_init 15 = .ok (.aload_n 0, 1) := by decide +kernel
theorem dX3_init_16 : decode cX3_init 16 = .ok (.new 7, 3) := by decide +kernel
theorem dX3_init_19 : decode cX3_init 19 = .ok (.dup, 1) := by decide +kernel
theorem dX3_init_20 : decode cX3_init 20 = .ok (.invokespecial 9, 3) := by decide +kernel
theorem dX3_init_23 : decode cX3_init 23 = .ok (.putfield 16, 3) := by decide +kernel
theorem dX3_init_26 : decode cX3_init 26 = .ok (.aload_n 0, 1) := by decide +kernel
theorem dX3_init_27 : decode cX3_init 27 = .ok (.new 7, 3) := by decide +kernel
theorem dX3_init_30 : decode cX3_init 30 = .ok (.dup, 1) := by decide +kernel
theorem dX3_init_31 : decode cX3_init 31 = .ok (.invokespecial 9, 3) := by decide +kernel
theorem dX3_init_34 : decode cX3_init 34 = .ok (.putfield 19, 3) := by decide +kernel
theorem dX3_init_37 : decode cX3_init 37 = .ok (.return_, 1) := by decide +kernel
set_option maxRecDepth 20000 in
theorem ggX3_isWithin_X0_copy : GoodIn wsX3_isWithin wsX0_copy := goodIn_r _ [8, 9, 10, 11, 12, 13, 27] (by decide +kernel) (by decide +kernel)
set_option maxRecDepth 20000 in
theorem gX3_isWithin_X0_copy : GoodIn wsX3_isWithin (wsV RX3 22 RX0 yX0_copy wsX0_copy) := goodIn_app (goodIn_of _ (by decide +kernel)) ggX3_isWithin_X0_copy
set_option maxRecDepth 20000 in
theorem ggX3_isWithin_X0_times : GoodIn wsX3_isWithin wsX0_times := goodIn_r _ [17, 9, 18, 27] (by decide +kernel) (by decide +kernel)
set_option maxRecDepth 20000 in
theorem gX3_isWithin_X0_times : GoodIn wsX3_isWithin (wsV RX3 30 RX0 yX0_times wsX0_times) := goodIn_app (goodIn_of _ (by decide +kernel)) ggX3_isWithin_X0_times
set_option maxRecDepth 20000 in
theorem ggX3_isWithin_X0_against : GoodIn wsX3_isWithin wsX0_against := goodIn_r _ [22, 9, 18, 27] (by decide +kernel) (by decide +kernel)
set_option maxRecDepth 20000 in
theorem gX3_isWithin_X0_against : GoodIn wsX3_isWithin (wsV RX3 34 RX0 yX0_against wsX0_against) := goodIn_app (goodIn_of _ (by decide +kernel)) ggX3_isWithin_X0_against
theorem dX3_isWithin_0 : decode cX3_isWithin 0 = .ok (.aload_n 0, 1) := by decide +kernel
theorem dX3_isWithin_1 : decode cX3_isWithin 1 = .ok (.getfield 16, 3) := by decide +kernel
theorem dX3_isWithin_4 : decode cX3_isWithin 4 = .ok (.aload_n 1, 1) := by decide +kernel
theorem dX3_isWithin_5 : decode cX3_isWithin 5 = .ok (.invokevirtual 22, 3) := by decide +kernel
theorem dX3_isWithin_8 : decode cX3_isWithin 8 = .ok (.aload_n 0, 1) := by decide +kernel
theorem dX3_isWithin_9 : decode cX3_isWithin 9 = .ok (.getfield 16, 3) := by decide +kernel
theorem dX3_isWithin_12 : decode cX3_isWithin 12 = .ok (.aload_n 0, 1) := by decide +kernel
theorem dX3_isWithin_13 : decode cX3_isWithin 13 = .ok (.getfield 26, 3) := by decide +kernel
theorem dX3_isWithin_16 : decode cX3_isWithin 16 = .ok (.invokevirtual 30, 3) := by decide +kernel
theorem dX3_isWithin_19 : decode cX3_isWithin 19 = .ok (.aload_n 0, 1) := by decide +kernel
theorem dX3_isWithin_20 : decode cX3_isWithin 20 = .ok (.getfield 16, 3) := by decide +kernel
theorem dX3_isWithin_23 : decode cX3_isWithin 23 = .ok (.aload_n 0, 1) := by decide +kernel
theorem dX3_isWithin_24 : decode cX3_isWithin 24 = .ok (.getfield 10, 3) := by decide +kernel
theorem dX3_isWithin_27 : decode cX3_isWithin 27 = .ok (.invokevirtual 34, 3) := by decide +kernel
theorem dX3_isWithin_30 : decode cX3_isWithin 30 = .ok (.ifCond .lt 7, 3) := by decide +kernel
theorem dX3_isWithin_33 : decode cX3_isWithin 33 = .ok (.iconst 1, 1) := by decide +kernel
theorem dX3_isWithin_34 : decode cX3_isWithin 34 = .ok (.goto 4, 3) := by decide +kernel
theorem dX3_isWithin_37 : decode cX3_isWithin 37 = .ok (.iconst 0, 1) := by decide +kernel
theorem dX3_isWithin_38 : decode cX3_isWithin 38 = .ok (.ireturn, 1) := by decide +kernel
set_option maxRecDepth 20000 in
theorem ggX3_against_X0_copy : GoodIn wsX3_against wsX0_copy := goodIn_r _ [9, 10, 11, 12, 13, 14, 28] (by decide +kernel) (by decide +kernel)
set_option maxRecDepth 20000 in
theorem gX3_against_X0_copy : GoodIn wsX3_against (wsV RX3 22 RX0 yX0_copy wsX0_copy) := goodIn_app (goodIn_of _ (by decide +kernel)) ggX3_against_X0_copy
set_option maxRecDepth 20000 in
theorem ggX3_against_X0_times : GoodIn wsX3_against wsX0_times := goodIn_r _ [18, 10, 19, 28] (by decide +kernel) (by decide +kernel)
set_option maxRecDepth 20000 in
theorem gX3_against_X0_times : GoodIn wsX3_against (wsV RX3 30 RX0 yX0_times wsX0_times) := goodIn_app (goodIn_of _ (by decide +kernel)) ggX3_against_X0_times
set_option maxRecDepth 20000 in
theorem ggX3_against_X0_against : GoodIn wsX3_against wsX0_against := goodIn_r _ [23, 10, 19, 28] (by decide +kernel) (by decide +kernel)
set_option maxRecDepth 20000 in
theorem gX3_against_X0_against : GoodIn wsX3_against (wsV RX3 34 RX0 yX0_against wsX0_against) := goodIn_app (goodIn_of _ (by decide +kernel)) ggX3_against_X0_against
theorem dX3_against_0 : decode cX3_against 0 = .ok (.aload_n 0, 1) := by decide +kernel
theorem dX3_against_1 : decode cX3_against 1 = .ok (.getfield 16, 3) := by decide +kernel
theorem dX3_against_4 : decode cX3_against 4 = .ok (.aload_n 0, 1) := by decide +kernel
theorem dX3_against_5 : decode cX3_against 5 = .ok (.getfield 10, 3) := by decide +kernel
theorem dX3_against_8 : decode cX3_against 8 = .ok (.invokevirtual 22, 3) := by decide +kernel
theorem dX3_against_11 : decode cX3_against 11 = .ok (.aload_n 0, 1) := by decide +kernel
theorem dX3_against_12 : decode cX3_against 12 = .ok (.getfield 16, 3) := by decide +kernel
theorem dX3_against_15 : decode cX3_against 15 = .ok (.aload_n 1, 1) := by decide +kernel
theorem dX3_against_16 : decode cX3_against 16 = .ok (.getfield 26, 3) := by decide +kernel
theorem dX3_against_19 : decode cX3_against 19 = .ok (.invokevirtual 30, 3) := by decide +kernel
theorem dX3_against_22 : decode cX3_against 22 = .ok (.aload_n 0, 1) := by decide +kernel
theorem dX3_against_23 : decode cX3_against 23 = .ok (.getfield 19, 3) := by decide +kernel
theorem dX3_against_26 : decode cX3_against 26 = .ok (.aload_n 1, 1) := by decide +kernel
theorem dX3_against_27 : decode cX3_against 27 = .ok (.getfield 10, 3) := by decide +kernel
theorem dX3_against_30 : decode cX3_against 30 = .ok (.invokevirtual 22, 3) := by decide +kernel
theorem dX3_against_33 : decode cX3_against 33 = .ok (.aload_n 0, 1) := by decide +kernel
theorem dX3_against_34 : decode cX3_against 34 = .ok (.getfield 19, 3) := by decide +kernel
theorem dX3_against_37 : decode cX3_against 37 = .ok (.aload_n 0, 1) := by decide +kernel
theorem dX3_against_38 : decode cX3_against 38 = .ok (.getfield 26, 3) := by decide +kernel
theorem dX3_against_41 : decode cX3_against 41 = .ok (.invokevirtual 30, 3) := by decide +kernel
theorem dX3_against_44 : decode cX3_against 44 = .ok (.aload_n 0, 1) := by decide +kernel
theorem dX3_against_45 : decode cX3_against 45 = .ok (.getfield 16, 3) := by decide +kernel
theorem dX3_against_48 : decode cX3_against 48 = .ok (.aload_n 0, 1) := by decide +kernel
theorem dX3_against_49 : decode cX3_against 49 = .ok (.getfield 19, 3) := by decide +kernel
theorem dX3_against_52 : decode cX3_against 52 = .ok (.invokevirtual 34, 3) := by decide +kernel
theorem dX3_against_55 : decode cX3_against 55 = .ok (.ireturn, 1) := by decide +kernel
