set_option maxRecDepth 20000 in
theorem ggX6_init_X5_init : GoodIn wsX6_init wsX5_init := goodIn_r _ [27, 28, 2, 3, 29, 30, 31, 32, 78, 79, 80, 81] (by decide +kernel) (by decide +kernel)
set_option maxRecDepth 20000 in
theorem gX6_init_X5_init_n9 : GoodIn wsX6_init (wsX5_init) := ggX6_init_X5_init
set_option maxRecDepth 20000 in
theorem ggX6_init_X2_init : GoodIn wsX6_init wsX2_init := goodIn_r _ [34, 35, 2, 3, 36, 14, 15, 37, 38, 39, 40, 41, 29, 42, 91, 89, 90] (by decide +kernel) (by decide +kernel)
set_option maxRecDepth 20000 in
theorem gX6_init_X2_init_n21 : GoodIn wsX6_init (wsX2_init) := ggX6_init_X2_init
set_option maxRecDepth 20000 in
theorem ggX6_init_X0_init : GoodIn wsX6_init wsX0_init := goodIn_r _ [40, 41, 2, 3, 29, 42, 91] (by decide +kernel) (by decide +kernel)
set_option maxRecDepth 20000 in
theorem gX6_init_X0_init_n28 : GoodIn wsX6_init (wsX0_init) := ggX6_init_X0_init
set_option maxRecDepth 20000 in
theorem ggX6_init_X4_init : GoodIn wsX6_init wsX4_init := goodIn_r _ [44, 45, 2, 3, 46, 47, 48, 49, 50, 14, 15, 51, 39, 40, 41, 29, 42, 92, 93, 94, 95, 96, 91] (by decide +kernel) (by decide +kernel)
set_option maxRecDepth 20000 in
theorem gX6_init_X4_init_n35 : GoodIn wsX6_init (wsX4_init) := ggX6_init_X4_init
set_option maxRecDepth 20000 in
theorem ggX6_init_X1_init : GoodIn wsX6_init wsX1_init := goodIn_r _ [54, 55, 2, 3, 56, 14, 15, 57, 58, 59, 29, 60, 61, 62, 63, 64, 65, 66, 67, 68, 69, 70, 39, 40, 41, 42, 71, 72, 73, 74, 75, 76, 77, 91, 97, 98, 99, 100, 101, 102, 103, 104, 105, 106, 107, 108, 109, 110, 111, 112, 113, 114, 115, 116] (by decide +kernel) (by decide +kernel)
set_option maxRecDepth 20000 in
theorem gX6_init_X1_init : GoodIn wsX6_init (wsX1_init) := ggX6_init_X1_init
theorem dX6_init_0 : decode cX6_init 0 = .ok (.aload_n 0, 1) := by decide +kernel
theorem dX6_init_1 : decode cX6_init 1 = .ok (.invokespecial 1, 3) := by decide +kernel
theorem dX6_init_4 : decode cX6_init 4 = .ok (.aload_n 0, 1) := by decide +kernel
theorem dX6_init_5 : decode cX6_init 5 = .ok (.new 7, 3) := by decide +kernel
theorem dX6_init_8 : decode cX6_init 8 = .ok (.dup, 1) := by decide +kernel
theorem dX6_init_9 : decode cX6_init 9 = .ok (.invokespecial 9, 3) := by decide +kernel
theorem dX6_init_12 : decode cX6_init 12 = .ok (.putfield 10, 3) := by decide +kernel
theorem dX6_init_15 : decode cX6_init 15 = .ok (.aload_n 0, 1) := by decide +kernel
theorem dX6_init_16 : decode cX6_init 16 = .ok (.new 7, 3) := by decide +kernel
theorem dX6_init_19 : decode cX6_init 19 = .ok (.dup, 1) := by decide +kernel
theorem dX6_init_20 : decode cX6_init 20 = .ok (.invokespecial 9, 3) := by decide +kernel
theorem dX6_init_23 : decode cX6_init 23 = .ok (.putfield 16, 3) := by decide +kernel
theorem dX6_init_26 : decode cX6_init 26 = .ok (.aload_n 0, 1) := by decide +kernel
theorem dX6_init_27 : decode cX6_init 27 = .ok (.new 19, 3) := by decide +kernel
theorem dX6_init_30 : decode cX6_init 30 = .ok (.dup, 1) := by decide +kernel
theorem dX6_init_31 : decode cX6_init 31 = .ok (.invokespecial 21, 3) := by decide +kernel
theorem dX6_init_34 : decode cX6_init 34 = .ok (.putfield 22, 3) := by decide +kernel
theorem dX6_init_37 : decode cX6_init 37 = .ok (.aload_n 0, 1) := by decide +kernel
theorem dX6_init_38 : decode cX6_init 38 = .ok (.new 26, 3) := by decide +kernel
theorem dX6_init_41 : decode cX6_init 41 = .ok (.dup, 1) := by decide +kernel
theorem dX6_init_42 : decode cX6_init 42 = .ok (.invokespecial 28, 3) := by decide +kernel
theorem dX6_init_45 : decode cX6_init 45 = .ok (.putfield 29, 3) := by decide +kernel
theorem dX6_init_48 : decode cX6_init 48 = .ok (.aload_n 0, 1) := by decide +kernel
theorem dX6_init_49 : decode cX6_init 49 = .ok (.new 33, 3) := by decide +kernel
theorem dX6_init_52 : decode cX6_init 52 = .ok (.dup, 1) := by decide +kernel
theorem dX6_init_53 : decode cX6_init 53 = .ok (.invokespecial 35, 3) := by decide +kernel
theorem dX6_init_56 : decode cX6_init 56 = .ok (.putfield 36, 3) := by decide +kernel
theorem dX6_init_59 : decode cX6_init 59 = .ok (.aload_n 0, 1) := by decide +kernel
theorem dX6_init_60 : decode cX6_init 60 = .ok (.new 40, 3) := by decide +kernel
theorem dX6_init_63 : decode cX6_init 63 = .ok (.dup, 1) := by decide +kernel
theorem dX6_init_64 : decode cX6_init 64 = .ok (.aload_n 0, 1) := by decide +kernel
theorem dX6_init_65 : decode cX6_init 65 = .ok (.getfield 16, 3) := by decide +kernel
theorem dX6_init_68 : decode cX6_init 68 = .ok (.invokespecial 42, 3) := by decide +kernel
theorem dX6_init_71 : decode cX6_init 71 = .ok (.putfield 45, 3) := by decide +kernel
theorem dX6_init_74 : decode cX6_init 74 = .ok (.aload_n 0, 1) := by decide +kernel
theorem dX6_init_75 : decode cX6_init 75 = .ok (.new 40, 3) := by decide +kernel
theorem dX6_init_78 : decode cX6_init 78 = .ok (.dup, 1) := by decide +kernel
theorem dX6_init_79 : decode cX6_init 79 = .ok (.aload_n 0, 1) := by decide +kernel
theorem dX6_init_80 : decode cX6_init 80 = .ok (.getfield 16, 3) := by decide +kernel
theorem dX6_init_83 : decode cX6_init 83 = .ok (.invokespecial 42, 3) := by decide +kernel
theorem dX6_init_86 : decode cX6_init 86 = .ok (.putfield 49, 3) := by decide +kernel
theorem dX6_init_89 : decode cX6_init 89 = .ok (.return_, 1) := by decide +kernel
set_option maxRecDepth 20000 in
theorem ggX6_project_X6_isProjectNumber : GoodIn wsX6_project wsX6_isProjectNumber := goodIn_r _ [7] (by decide +kernel) (by decide +kernel)
set_option maxRecDepth 20000 in
theorem gX6_project_X6_isProjectNumber : GoodIn wsX6_project (va_wsS RX6 52 yX6_isProjectNumber wsX6_isProjectNumber) := goodIn_app (goodIn_of _ (by decide +kernel)) ggX6_project_X6_isProjectNumber
theorem dX6_project_0 : decode cX6_project 0 = .ok (.iload_n 1, 1) := by decide +kernel
theorem dX6_project_1 : decode cX6_project 1 = .ok (.invokestatic 52, 3) := by decide +kernel
theorem dX6_project_4 : decode cX6_project 4 = .ok (.ifCond .eq 14, 3) := by decide +kernel
theorem dX6_project_7 : decode cX6_project 7 = .ok (.iload_n 2, 1) := by decide +kernel
theorem dX6_project_8 : decode cX6_project 8 = .ok (.iconst 1, 1) := by decide +kernel
theorem dX6_project_9 : decode cX6_project 9 = .ok (.if_icmp .lt 9, 3) := by decide +kernel
theorem dX6_project_12 : decode cX6_project 12 = .ok (.iload_n 2, 1) := by decide +kernel
theorem dX6_project_13 : decode cX6_project 13 = .ok (.ldc 56, 2) := by decide +kernel
theorem dX6_project_15 : decode cX6_project 15 = .ok (.if_icmp .le 5, 3) := by decide +kernel
theorem dX6_project_18 : decode cX6_project 18 = .ok (.iconst 0, 1) := by decide +kernel
theorem dX6_project_19 : decode cX6_project 19 = .ok (.ireturn, 1) := by decide +kernel
theorem dX6_project_20 : decode cX6_project 20 = .ok (.aload_n 0, 1) := by decide +kernel
theorem dX6_project_21 : decode cX6_project 21 = .ok (.getfield 10, 3) := by decide +kernel
theorem dX6_project_24 : decode cX6_project 24 = .ok (.getfield 57, 3) := by decide +kernel
theorem dX6_project_27 : decode cX6_project 27 = .ok (.iload_n 1, 1) := by decide +kernel
theorem dX6_project_28 : decode cX6_project 28 = .ok (.iload_n 2, 1) := by decide +kernel
theorem dX6_project_29 : decode cX6_project 29 = .ok (.iastore, 1) := by decide +kernel
theorem dX6_project_30 : decode cX6_project 30 = .ok (.iconst 1, 1) := by decide +kernel
theorem dX6_project_31 : decode cX6_project 31 = .ok (.ireturn, 1) := by decide +kernel
set_option maxRecDepth 20000 in
theorem ggX6_drop_X5_hasProject : GoodIn wsX6_drop wsX5_hasProject := goodIn_r _ [7, 8, 9, 10, 11, 19, 20, 21, 22] (by decide +kernel) (by decide +kernel)
set_option maxRecDepth 20000 in
theorem gX6_drop_X5_hasProject : GoodIn wsX6_drop (wsV RX6 61 RX5 yX5_hasProject wsX5_hasProject) := goodIn_app (goodIn_of _ (by decide +kernel)) ggX6_drop_X5_hasProject
theorem dX6_drop_0 : decode cX6_drop 0 = .ok (.aload_n 0, 1) := by decide +kernel
theorem dX6_drop_1 : decode cX6_drop 1 = .ok (.getfield 10, 3) := by decide +kernel
theorem dX6_drop_4 : decode cX6_drop 4 = .ok (.iload_n 1, 1) := by decide +kernel
theorem dX6_drop_5 : decode cX6_drop 5 = .ok (.invokevirtual 61, 3) := by decide +kernel
theorem dX6_drop_8 : decode cX6_drop 8 = .ok (.ifCond .ne 5, 3) := by decide +kernel
theorem dX6_drop_11 : decode cX6_drop 11 = .ok (.iconst 0, 1) := by decide +kernel
theorem dX6_drop_12 : decode cX6_drop 12 = .ok (.ireturn, 1) := by decide +kernel
theorem dX6_drop_13 : decode cX6_drop 13 = .ok (.aload_n 0, 1) := by decide +kernel
theorem dX6_drop_14 : decode cX6_drop 14 = .ok (.getfield 10, 3) := by decide +kernel
theorem dX6_drop_17 : decode cX6_drop 17 = .ok (.getfield 57, 3) := by decide +kernel
theorem dX6_drop_20 : decode cX6_drop 20 = .ok (.iload_n 1, 1) := by decide +kernel
theorem dX6_drop_21 : decode cX6_drop 21 = .ok (.iconst 0, 1) := by decide +kernel
theorem dX6_drop_22 : decode cX6_drop 22 = .ok (.iastore, 1) := by decide +kernel
theorem dX6_drop_23 : decode cX6_drop 23 = .ok (.iconst 1, 1) := by decide +kernel
theorem dX6_drop_24 : decode cX6_drop 24 = .ok (.ireturn, 1) := by decide +kernel
theorem dX6_budget_0 : decode cX6_budget 0 = .ok (.iload_n 1, 1) := by decide +kernel
theorem dX6_budget_1 : decode cX6_budget 1 = .ok (.iconst 1, 1) := by decide +kernel
theorem dX6_budget_2 : decode cX6_budget 2 = .ok (.if_icmp .lt 9, 3) := by decide +kernel
theorem dX6_budget_5 : decode cX6_budget 5 = .ok (.iload_n 1, 1) := by decide +kernel
theorem dX6_budget_6 : decode cX6_budget 6 = .ok (.ldc 64, 2) := by decide +kernel
theorem dX6_budget_8 : decode cX6_budget 8 = .ok (.if_icmp .le 5, 3) := by decide +kernel
theorem dX6_budget_11 : decode cX6_budget 11 = .ok (.iconst 0, 1) := by decide +kernel
theorem dX6_budget_12 : decode cX6_budget 12 = .ok (.ireturn, 1) := by decide +kernel
theorem dX6_budget_13 : decode cX6_budget 13 = .ok (.aload_n 0, 1) := by decide +kernel
theorem dX6_budget_14 : decode cX6_budget 14 = .ok (.getfield 10, 3) := by decide +kernel
theorem dX6_budget_17 : decode cX6_budget 17 = .ok (.iload_n 1, 1) := by decide +kernel
theorem dX6_budget_18 : decode cX6_budget 18 = .ok (.putfield 65, 3) := by decide +kernel
theorem dX6_budget_21 : decode cX6_budget 21 = .ok (.iconst 1, 1) := by decide +kernel
theorem dX6_budget_22 : decode cX6_budget 22 = .ok (.ireturn, 1) := by decide +kernel
set_option maxRecDepth 20000 in
theorem ggX6_voter_X6_isVoterNumber : GoodIn wsX6_voter wsX6_isVoterNumber := goodIn_r _ [7] (by decide +kernel) (by decide +kernel)
set_option maxRecDepth 20000 in
theorem gX6_voter_X6_isVoterNumber : GoodIn wsX6_voter (va_wsS RX6 69 yX6_isVoterNumber wsX6_isVoterNumber) := goodIn_app (goodIn_of _ (by decide +kernel)) ggX6_voter_X6_isVoterNumber
set_option maxRecDepth 20000 in
theorem ggX6_voter_X5_hasVoter : GoodIn wsX6_voter wsX5_hasVoter := goodIn_r _ [12, 13, 5, 6, 7, 21, 22, 23, 24] (by decide +kernel) (by decide +kernel)
set_option maxRecDepth 20000 in
theorem gX6_voter_X5_hasVoter : GoodIn wsX6_voter (wsV RX6 72 RX5 yX5_hasVoter wsX5_hasVoter) := goodIn_app (goodIn_of _ (by decide +kernel)) ggX6_voter_X5_hasVoter
theorem dX6_voter_0 : decode cX6_voter 0 = .ok (.iload_n 1, 1) := by decide +kernel
theorem dX6_voter_1 : decode cX6_voter 1 = .ok (.invokestatic 69, 3) := by decide +kernel
theorem dX6_voter_4 : decode cX6_voter 4 = .ok (.ifCond .eq 14, 3) := by decide +kernel
theorem dX6_voter_7 : decode cX6_voter 7 = .ok (.aload_n 0, 1) := by decide +kernel
theorem dX6_voter_8 : decode cX6_voter 8 = .ok (.getfield 10, 3) := by decide +kernel
theorem dX6_voter_11 : decode cX6_voter 11 = .ok (.iload_n 1, 1) := by decide +kernel
theorem dX6_voter_12 : decode cX6_voter 12 = .ok (.invokevirtual 72, 3) := by decide +kernel
theorem dX6_voter_15 : decode cX6_voter 15 = .ok (.ifCond .eq 5, 3) := by decide +kernel
theorem dX6_voter_18 : decode cX6_voter 18 = .ok (.iconst 0, 1) := by decide +kernel
theorem dX6_voter_19 : decode cX6_voter 19 = .ok (.ireturn, 1) := by decide +kernel
theorem dX6_voter_20 : decode cX6_voter 20 = .ok (.aload_n 0, 1) := by decide +kernel
theorem dX6_voter_21 : decode cX6_voter 21 = .ok (.getfield 10, 3) := by decide +kernel
theorem dX6_voter_24 : decode cX6_voter 24 = .ok (.dup, 1) := by decide +kernel
theorem dX6_voter_25 : decode cX6_voter 25 = .ok (.getfield 75, 3) := by decide +kernel
theorem dX6_voter_28 : decode cX6_voter 28 = .ok (.lconst 1, 1) := by decide +kernel
theorem dX6_voter_29 : decode cX6_voter 29 = .ok (.iload_n 1, 1) := by decide +kernel
theorem dX6_voter_30 : decode cX6_voter 30 = .ok (.lshl, 1) := by decide +kernel
theorem dX6_voter_31 : decode cX6_voter 31 = .ok (.lor, 1) := by decide +kernel
theorem dX6_voter_32 : decode cX6_voter 32 = .ok (.putfield 75, 3) := by decide +kernel
theorem dX6_voter_35 : decode cX6_voter 35 = .ok (.aload_n 0, 1) := by decide +kernel
theorem dX6_voter_36 : decode cX6_voter 36 = .ok (.getfield 10, 3) := by decide +kernel
theorem dX6_voter_39 : decode cX6_voter 39 = .ok (.getfield 79, 3) := by decide +kernel
theorem dX6_voter_42 : decode cX6_voter 42 = .ok (.iload_n 1, 1) := by decide +kernel
theorem dX6_voter_43 : decode cX6_voter 43 = .ok (.iconst 0, 1) := by decide +kernel
theorem dX6_voter_44 : decode cX6_voter 44 = .ok (.iastore, 1) := by decide +kernel
theorem dX6_voter_45 : decode cX6_voter 45 = .ok (.iconst 1, 1) := by decide +kernel
theorem dX6_voter_46 : decode cX6_voter 46 = .ok (.ireturn, 1) := by decide +kernel
set_option maxRecDepth 20000 in
theorem ggX6_strike_X5_hasVoter : GoodIn wsX6_strike wsX5_hasVoter := goodIn_r _ [8, 9, 10, 11, 12, 20, 21, 22, 23] (by decide +kernel) (by decide +kernel)
set_option maxRecDepth 20000 in
theorem gX6_strike_X5_hasVoter : GoodIn wsX6_strike (wsV RX6 72 RX5 yX5_hasVoter wsX5_hasVoter) := goodIn_app (goodIn_of _ (by decide +kernel)) ggX6_strike_X5_hasVoter
theorem dX6_strike_0 : decode cX6_strike 0 = .ok (.aload_n 0, 1) := by decide +kernel
theorem dX6_strike_1 : decode cX6_strike 1 = .ok (.getfield 10, 3) := by decide +kernel
theorem dX6_strike_4 : decode cX6_strike 4 = .ok (.iload_n 1, 1) := by decide +kernel
theorem dX6_strike_5 : decode cX6_strike 5 = .ok (.invokevirtual 72, 3) := by decide +kernel
theorem dX6_strike_8 : decode cX6_strike 8 = .ok (.ifCond .ne 5, 3) := by decide +kernel
theorem dX6_strike_11 : decode cX6_strike 11 = .ok (.iconst 0, 1) := by decide +kernel
theorem dX6_strike_12 : decode cX6_strike 12 = .ok (.ireturn, 1) := by decide +kernel
theorem dX6_strike_13 : decode cX6_strike 13 = .ok (.aload_n 0, 1) := by decide +kernel
theorem dX6_strike_14 : decode cX6_strike 14 = .ok (.getfield 10, 3) := by decide +kernel
theorem dX6_strike_17 : decode cX6_strike 17 = .ok (.dup, 1) := by decide +kernel
theorem dX6_strike_18 : decode cX6_strike 18 = .ok (.getfield 75, 3) := by decide +kernel
theorem dX6_strike_21 : decode cX6_strike 21 = .ok (.lconst 1, 1) := by decide +kernel
theorem dX6_strike_22 : decode cX6_strike 22 = .ok (.iload_n 1, 1) := by decide +kernel
theorem dX6_strike_23 : decode cX6_strike 23 = .ok (.lshl, 1) := by decide +kernel
theorem dX6_strike_24 : decode cX6_strike 24 = .ok (.ldc2_w 82, 3) := by decide +kernel
theorem dX6_strike_27 : decode cX6_strike 27 = .ok (.lxor, 1) := by decide +kernel
theorem dX6_strike_28 : decode cX6_strike 28 = .ok (.land, 1) := by decide +kernel
theorem dX6_strike_29 : decode cX6_strike 29 = .ok (.putfield 75, 3) := by decide +kernel
theorem dX6_strike_32 : decode cX6_strike 32 = .ok (.iconst 1, 1) := by decide +kernel
theorem dX6_strike_33 : decode cX6_strike 33 = .ok (.ireturn, 1) := by decide +kernel
set_option maxRecDepth 20000 in
theorem ggX6_approve_X5_hasVoter : GoodIn wsX6_approve wsX5_hasVoter := goodIn_r _ [7, 8, 9, 10, 11, 22, 23, 24, 25] (by decide +kernel) (by decide +kernel)
set_option maxRecDepth 20000 in
theorem gX6_approve_X5_hasVoter : GoodIn wsX6_approve (wsV RX6 72 RX5 yX5_hasVoter wsX5_hasVoter) := goodIn_app (goodIn_of _ (by decide +kernel)) ggX6_approve_X5_hasVoter
set_option maxRecDepth 20000 in
theorem ggX6_approve_X6_isProjectNumber : GoodIn wsX6_approve wsX6_isProjectNumber := goodIn_r _ [14] (by decide +kernel) (by decide +kernel)
set_option maxRecDepth 20000 in
theorem gX6_approve_X6_isProjectNumber : GoodIn wsX6_approve (va_wsS RX6 52 yX6_isProjectNumber wsX6_isProjectNumber) := goodIn_app (goodIn_of _ (by decide +kernel)) ggX6_approve_X6_isProjectNumber
theorem dX6_approve_0 : decode cX6_approve 0 = .ok (.aload_n 0, 1) := by decide +kernel
theorem dX6_approve_1 : decode cX6_approve 1 = .ok (.getfield 10, 3) := by decide +kernel
theorem dX6_approve_4 : decode cX6_approve 4 = .ok (.iload_n 1, 1) := by decide +kernel
theorem dX6_approve_5 : decode cX6_approve 5 = .ok (.invokevirtual 72, 3) := by decide +kernel
theorem dX6_approve_8 : decode cX6_approve 8 = .ok (.ifCond .eq 10, 3) := by decide +kernel
theorem dX6_approve_11 : decode cX6_approve 11 = .ok (.iload_n 2, 1) := by decide +kernel
theorem dX6_approve_12 : decode cX6_approve 12 = .ok (.invokestatic 52, 3) := by decide +kernel
theorem dX6_approve_15 : decode cX6_approve 15 = .ok (.ifCond .ne 5, 3) := by decide +kernel
theorem dX6_approve_18 : decode cX6_approve 18 = .ok (.iconst 0, 1) := by decide +kernel
theorem dX6_approve_19 : decode cX6_approve 19 = .ok (.ireturn, 1) := by decide +kernel
theorem dX6_approve_20 : decode cX6_approve 20 = .ok (.iconst 1, 1) := by decide +kernel
theorem dX6_approve_21 : decode cX6_approve 21 = .ok (.iload_n 2, 1) := by decide +kernel
theorem dX6_approve_22 : decode cX6_approve 22 = .ok (.ishl, 1) := by decide +kernel
theorem dX6_approve_23 : decode cX6_approve 23 = .ok (.istore 4, 2) := by decide +kernel
theorem dX6_approve_25 : decode cX6_approve 25 = .ok (.aload_n 0, 1) := by decide +kernel
theorem dX6_approve_26 : decode cX6_approve 26 = .ok (.getfield 10, 3) := by decide +kernel
theorem dX6_approve_29 : decode cX6_approve 29 = .ok (.getfield 79, 3) := by decide +kernel
theorem dX6_approve_32 : decode cX6_approve 32 = .ok (.iload_n 1, 1) := by decide +kernel
theorem dX6_approve_33 : decode cX6_approve 33 = .ok (.iload_n 3, 1) := by decide +kernel
theorem dX6_approve_34 : decode cX6_approve 34 = .ok (.ifCond .eq 18, 3) := by decide +kernel
theorem dX6_approve_37 : decode cX6_approve 37 = .ok (.aload_n 0, 1) := by decide +kernel
theorem dX6_approve_38 : decode cX6_approve 38 = .ok (.getfield 10, 3) := by decide +kernel
theorem dX6_approve_41 : decode cX6_approve 41 = .ok (.getfield 79, 3) := by decide +kernel
theorem dX6_approve_44 : decode cX6_approve 44 = .ok (.iload_n 1, 1) := by decide +kernel
theorem dX6_approve_45 : decode cX6_approve 45 = .ok (.iaload, 1) := by decide +kernel
theorem dX6_approve_46 : decode cX6_approve 46 = .ok (.iload 4, 2) := by decide +kernel
theorem dX6_approve_48 : decode cX6_approve 48 = .ok (.ior, 1) := by decide +kernel
theorem dX6_approve_49 : decode cX6_approve 49 = .ok (.goto 17, 3) := by decide +kernel
theorem dX6_approve_52 : decode cX6_approve 52 = .ok (.aload_n 0, 1) := by decide +kernel
theorem dX6_approve_53 : decode cX6_approve 53 = .ok (.getfield 10, 3) := by decide +kernel
theorem dX6_approve_56 : decode cX6_approve 56 = .ok (.getfield 79, 3) := by decide +kernel
theorem dX6_approve_59 : decode cX6_approve 59 = .ok (.iload_n 1, 1) := by decide +kernel
theorem dX6_approve_60 : decode cX6_approve 60 = .ok (.iaload, 1) := by decide +kernel
theorem dX6_approve_61 : decode cX6_approve 61 = .ok (.iload 4, 2) := by decide +kernel
theorem dX6_approve_63 : decode cX6_approve 63 = .ok (.iconst (-1), 1) := by decide +kernel
theorem dX6_approve_64 : decode cX6_approve 64 = .ok (.ixor, 1) := by decide +kernel
theorem dX6_approve_65 : decode cX6_approve 65 = .ok (.iand, 1) := by decide +kernel
theorem dX6_approve_66 : decode cX6_approve 66 = .ok (.iastore, 1) := by decide +kernel
theorem dX6_approve_67 : decode cX6_approve 67 = .ok (.iconst 1, 1) := by decide +kernel
theorem dX6_approve_68 : decode cX6_approve 68 = .ok (.ireturn, 1) := by decide +kernel
set_option maxRecDepth 20000 in
theorem ggX6_run_X6_keepTown : GoodIn wsX6_run wsX6_keepTown := goodIn_r _ [7, 8, 9, 10, 11, 12, 13, 14, 15, 16, 17, 18, 19, 20, 21, 22, 23, 24, 25, 26, 27, 28, 29, 30, 173, 174, 175, 176, 177, 178, 179, 196, 197, 198, 199, 200, 201, 202, 203, 204] (by decide +kernel) (by decide +kernel)
set_option maxRecDepth 20000 in
theorem gX6_run_X6_keepTown : GoodIn wsX6_run (wsV RX6 84 RX6 yX6_keepTown wsX6_keepTown) := goodIn_app (goodIn_of _ (by decide +kernel)) ggX6_run_X6_keepTown
set_option maxRecDepth 20000 in
theorem ggX6_run_X1_play : GoodIn wsX6_run wsX1_play := goodIn_r _ [35, 36, 37, 38, 39, 40, 41, 42, 43, 34, 44, 45, 46, 47, 48, 49, 50, 51, 52, 53, 54, 55, 56, 57, 14, 58, 22, 59, 60, 61, 62, 63, 64, 65, 66, 67, 68, 69, 70, 71, 72, 73, 74, 75, 76, 77, 78, 79, 80, 6, 81, 82, 83, 84, 85, 16, 86, 87, 88, 89, 90, 91, 92, 93, 94, 95, 96, 97, 98, 99, 100, 101, 102, 103, 104, 105, 106, 18, 19, 20, 107, 108, 109, 110, 111, 112, 113, 114, 115, 116, 117, 118, 119, 21, 120, 121, 122, 123, 124, 125, 126, 127, 128, 129, 130, 131, 132, 133, 134, 135, 136, 137, 138, 139, 140, 141, 142, 143, 144, 145, 146, 147, 148, 149, 150, 151, 152, 153, 154, 155, 156, 157, 158, 159, 160, 161, 162, 163, 164, 165, 166, 167, 168, 169, 170, 171, 172, 180, 181, 182, 183, 184, 185, 186, 187, 188, 189, 190, 191, 192, 193, 194, 195, 196, 197, 198, 199, 205, 206, 207, 208, 209] (by decide +kernel) (by decide +kernel)
set_option maxRecDepth 20000 in
theorem gX6_run_X1_play : GoodIn wsX6_run (wsV RX6 87 RX1 yX1_play wsX1_play) := goodIn_app (goodIn_of _ (by decide +kernel)) ggX6_run_X1_play
theorem dX6_run_0 : decode cX6_run 0 = .ok (.aload_n 0, 1) := by decide +kernel
theorem dX6_run_1 : decode cX6_run 1 = .ok (.invokevirtual 84, 3) := by decide +kernel
theorem dX6_run_4 : decode cX6_run 4 = .ok (.aload_n 0, 1) := by decide +kernel
theorem dX6_run_5 : decode cX6_run 5 = .ok (.getfield 45, 3) := by decide +kernel
theorem dX6_run_8 : decode cX6_run 8 = .ok (.iconst 0, 1) := by decide +kernel
theorem dX6_run_9 : decode cX6_run 9 = .ok (.invokevirtual 87, 3) := by decide +kernel
theorem dX6_run_12 : decode cX6_run 12 = .ok (.aload_n 0, 1) := by decide +kernel
theorem dX6_run_13 : decode cX6_run 13 = .ok (.getfield 45, 3) := by decide +kernel
theorem dX6_run_16 : decode cX6_run 16 = .ok (.getfield 91, 3) := by decide +kernel
theorem dX6_run_19 : decode cX6_run 19 = .ok (.ireturn, 1) := by decide +kernel
theorem dX6_raise_0 : decode cX6_raise 0 = .ok (.iload_n 1, 1) := by decide +kernel
theorem dX6_raise_1 : decode cX6_raise 1 = .ok (.iconst 1, 1) := by decide +kernel
theorem dX6_raise_2 : decode cX6_raise 2 = .ok (.if_icmp .lt 19, 3) := by decide +kernel
theorem dX6_raise_5 : decode cX6_raise 5 = .ok (.iload_n 1, 1) := by decide +kernel
theorem dX6_raise_6 : decode cX6_raise 6 = .ok (.ldc 94, 2) := by decide +kernel
theorem dX6_raise_8 : decode cX6_raise 8 = .ok (.if_icmp .gt 13, 3) := by decide +kernel
theorem dX6_raise_11 : decode cX6_raise 11 = .ok (.iload_n 2, 1) := by decide +kernel
theorem dX6_raise_12 : decode cX6_raise 12 = .ok (.ifCond .lt 9, 3) := by decide +kernel
theorem dX6_raise_15 : decode cX6_raise 15 = .ok (.iload_n 2, 1) := by decide +kernel
theorem dX6_raise_16 : decode cX6_raise 16 = .ok (.bipush 100, 2) := by decide +kernel
theorem dX6_raise_18 : decode cX6_raise 18 = .ok (.if_icmp .le 13, 3) := by decide +kernel
theorem dX6_raise_21 : decode cX6_raise 21 = .ok (.new 95, 3) := by decide +kernel
theorem dX6_raise_24 : decode cX6_raise 24 = .ok (.dup, 1) := by decide +kernel
theorem dX6_raise_25 : decode cX6_raise 25 = .ok (.ldc 97, 2) := by decide +kernel
theorem dX6_raise_27 : decode cX6_raise 27 = .ok (.invokespecial 99, 3) := by decide +kernel
theorem dX6_raise_30 : decode cX6_raise 30 = .ok (.athrow, 1) := by decide +kernel
theorem dX6_raise_31 : decode cX6_raise 31 = .ok (.aload_n 0, 1) := by decide +kernel
theorem dX6_raise_32 : decode cX6_raise 32 = .ok (.invokevirtual 84, 3) := by decide +kernel
theorem dX6_raise_35 : decode cX6_raise 35 = .ok (.aload_n 0, 1) := by decide +kernel
theorem dX6_raise_36 : decode cX6_raise 36 = .ok (.getfield 16, 3) := by decide +kernel
theorem dX6_raise_39 : decode cX6_raise 39 = .ok (.aload_n 0, 1) := by decide +kernel
theorem dX6_raise_40 : decode cX6_raise 40 = .ok (.getfield 16, 3) := by decide +kernel
theorem dX6_raise_43 : decode cX6_raise 43 = .ok (.invokevirtual 102, 3) := by decide +kernel
theorem dX6_raise_46 : decode cX6_raise 46 = .ok (.invokevirtual 106, 3) := by decide +kernel
theorem dX6_raise_49 : decode cX6_raise 49 = .ok (.aload_n 0, 1) := by decide +kernel
theorem dX6_raise_50 : decode cX6_raise 50 = .ok (.getfield 16, 3) := by decide +kernel
theorem dX6_raise_53 : decode cX6_raise 53 = .ok (.getfield 65, 3) := by decide +kernel
theorem dX6_raise_56 : decode cX6_raise 56 = .ok (.if_icmp .gt 15, 3) := by decide +kernel
theorem dX6_raise_59 : decode cX6_raise 59 = .ok (.aload_n 0, 1) := by decide +kernel
theorem dX6_raise_60 : decode cX6_raise 60 = .ok (.getfield 45, 3) := by decide +kernel
theorem dX6_raise_63 : decode cX6_raise 63 = .ok (.iload_n 2, 1) := by decide +kernel
theorem dX6_raise_64 : decode cX6_raise 64 = .ok (.iload_n 1, 1) := by decide +kernel
theorem dX6_raise_65 : decode cX6_raise 65 = .ok (.imul, 1) := by decide +kernel
theorem dX6_raise_66 : decode cX6_raise 66 = .ok (.invokevirtual 87, 3) := by decide +kernel
theorem dX6_raise_69 : decode cX6_raise 69 = .ok (.iload_n 2, 1) := by decide +kernel
theorem dX6_raise_70 : decode cX6_raise 70 = .ok (.ireturn, 1) := by decide +kernel
theorem dX6_raise_71 : decode cX6_raise 71 = .ok (.aload_n 0, 1) := by decide +kernel
theorem dX6_raise_72 : decode cX6_raise 72 = .ok (.getfield 45, 3) := by decide +kernel
theorem dX6_raise_75 : decode cX6_raise 75 = .ok (.iconst 0, 1) := by decide +kernel
theorem dX6_raise_76 : decode cX6_raise 76 = .ok (.invokevirtual 87, 3) := by decide +kernel
theorem dX6_raise_79 : decode cX6_raise 79 = .ok (.iconst 0, 1) := by decide +kernel
theorem dX6_raise_80 : decode cX6_raise 80 = .ok (.istore_n 3, 1) := by decide +kernel
theorem dX6_raise_81 : decode cX6_raise 81 = .ok (.iload_n 3, 1) := by decide +kernel
theorem dX6_raise_82 : decode cX6_raise 82 = .ok (.iload_n 2, 1) := by decide +kernel
theorem dX6_raise_83 : decode cX6_raise 83 = .ok (.if_icmp .ge 37, 3) := by decide +kernel
theorem dX6_raise_86 : decode cX6_raise 86 = .ok (.aload_n 0, 1) := by decide +kernel
theorem dX6_raise_87 : decode cX6_raise 87 = .ok (.getfield 49, 3) := by decide +kernel
theorem dX6_raise_90 : decode cX6_raise 90 = .ok (.iload_n 3, 1) := by decide +kernel
theorem dX6_raise_91 : decode cX6_raise 91 = .ok (.iconst 1, 1) := by decide +kernel
theorem dX6_raise_92 : decode cX6_raise 92 = .ok (.iadd, 1) := by decide +kernel
theorem dX6_raise_93 : decode cX6_raise 93 = .ok (.iload_n 1, 1) := by decide +kernel
theorem dX6_raise_94 : decode cX6_raise 94 = .ok (.imul, 1) := by decide +kernel
theorem dX6_raise_95 : decode cX6_raise 95 = .ok (.invokevirtual 87, 3) := by decide +kernel
theorem dX6_raise_98 : decode cX6_raise 98 = .ok (.aload_n 0, 1) := by decide +kernel
theorem dX6_raise_99 : decode cX6_raise 99 = .ok (.getfield 49, 3) := by decide +kernel
theorem dX6_raise_102 : decode cX6_raise 102 = .ok (.invokevirtual 110, 3) := by decide +kernel
theorem dX6_raise_105 : decode cX6_raise 105 = .ok (.ifCond .eq 5, 3) := by decide +kernel
theorem dX6_raise_108 : decode cX6_raise 108 = .ok (.iload_n 3, 1) := by decide +kernel
theorem dX6_raise_109 : decode cX6_raise 109 = .ok (.ireturn, 1) := by decide +kernel
theorem dX6_raise_110 : decode cX6_raise 110 = .ok (.aload_n 0, 1) := by decide +kernel
theorem dX6_raise_111 : decode cX6_raise 111 = .ok (.invokevirtual 114, 3) := by decide +kernel
theorem dX6_raise_114 : decode cX6_raise 114 = .ok (.iinc 3 1, 3) := by decide +kernel
theorem dX6_raise_117 : decode cX6_raise 117 = .ok (.goto (-36), 3) := by decide +kernel
theorem dX6_raise_120 : decode cX6_raise 120 = .ok (.iload_n 2, 1) := by decide +kernel
theorem dX6_raise_121 : decode cX6_raise 121 = .ok (.ireturn, 1) := by decide +kernel
theorem dX6_chosen_0 : decode cX6_chosen 0 = .ok (.iload_n 1, 1) := by decide +kernel
theorem dX6_chosen_1 : decode cX6_chosen 1 = .ok (.ifCond .lt 26, 3) := by decide +kernel
theorem dX6_chosen_4 : decode cX6_chosen 4 = .ok (.iload_n 1, 1) := by decide +kernel
theorem dX6_chosen_5 : decode cX6_chosen 5 = .ok (.aload_n 0, 1) := by decide +kernel
theorem dX6_chosen_6 : decode cX6_chosen 6 = .ok (.getfield 45, 3) := by decide +kernel
theorem dX6_chosen_9 : decode cX6_chosen 9 = .ok (.getfield 91, 3) := by decide +kernel
theorem dX6_chosen_12 : decode cX6_chosen 12 = .ok (.if_icmp .ge 15, 3) := by decide +kernel
theorem dX6_chosen_15 : decode cX6_chosen 15 = .ok (.aload_n 0, 1) := by decide +kernel
theorem dX6_chosen_16 : decode cX6_chosen 16 = .ok (.getfield 45, 3) := by decide +kernel
theorem dX6_chosen_19 : decode cX6_chosen 19 = .ok (.getfield 117, 3) := by decide +kernel
theorem dX6_chosen_22 : decode cX6_chosen 22 = .ok (.iload_n 1, 1) := by decide +kernel
theorem dX6_chosen_23 : decode cX6_chosen 23 = .ok (.iaload, 1) := by decide +kernel
theorem dX6_chosen_24 : decode cX6_chosen 24 = .ok (.goto 4, 3) := by decide +kernel
theorem dX6_chosen_27 : decode cX6_chosen 27 = .ok (.iconst (-1), 1) := by decide +kernel
theorem dX6_chosen_28 : decode cX6_chosen 28 = .ok (.ireturn, 1) := by decide +kernel
theorem dX6_spent_0 : decode cX6_spent 0 = .ok (.aload_n 0, 1) := by decide +kernel
theorem dX6_spent_1 : decode cX6_spent 1 = .ok (.getfield 45, 3) := by decide +kernel
theorem dX6_spent_4 : decode cX6_spent 4 = .ok (.getfield 120, 3) := by decide +kernel
theorem dX6_spent_7 : decode cX6_spent 7 = .ok (.ireturn, 1) := by decide +kernel
set_option maxRecDepth 20000 in
theorem ggX6_purse_X5_hasVoter : GoodIn wsX6_purse wsX5_hasVoter := goodIn_r _ [10, 11, 12, 13, 14, 93, 94, 95, 96] (by decide +kernel) (by decide +kernel)
set_option maxRecDepth 20000 in
theorem gX6_purse_X5_hasVoter : GoodIn wsX6_purse (wsV RX6 72 RX5 yX5_hasVoter wsX5_hasVoter) := goodIn_app (goodIn_of _ (by decide +kernel)) ggX6_purse_X5_hasVoter
set_option maxRecDepth 20000 in
theorem ggX6_purse_X2_take : GoodIn wsX6_purse wsX2_take := goodIn_r _ [19, 20, 21, 22, 23, 24, 25, 26, 27, 28, 29, 30, 31, 18, 32, 33, 34, 35, 36, 37, 38, 39, 40, 41, 42, 43, 44, 45, 46, 47, 48, 49, 50, 51, 52, 53, 54, 55, 56, 57, 58, 59, 60, 61, 97, 98, 99] (by decide +kernel) (by decide +kernel)
set_option maxRecDepth 20000 in
theorem gX6_purse_X2_take : GoodIn wsX6_purse (wsV RX6 130 RX2 yX2_take wsX2_take) := goodIn_app (goodIn_of _ (by decide +kernel)) ggX6_purse_X2_take
set_option maxRecDepth 20000 in
theorem ggX6_purse_X2_wordOf : GoodIn wsX6_purse wsX2_wordOf := goodIn_r _ [65, 20, 21, 66, 67, 68, 26, 69, 28, 97, 98, 99] (by decide +kernel) (by decide +kernel)
set_option maxRecDepth 20000 in
theorem gX6_purse_X2_wordOf : GoodIn wsX6_purse (wsV RX6 134 RX2 yX2_wordOf wsX2_wordOf) := goodIn_app (goodIn_of _ (by decide +kernel)) ggX6_purse_X2_wordOf
theorem dX6_purse_0 : decode cX6_purse 0 = .ok (.aload_n 0, 1) := by decide +kernel
theorem dX6_purse_1 : decode cX6_purse 1 = .ok (.getfield 16, 3) := by decide +kernel
theorem dX6_purse_4 : decode cX6_purse 4 = .ok (.iload_n 1, 1) := by decide +kernel
theorem dX6_purse_5 : decode cX6_purse 5 = .ok (.invokevirtual 72, 3) := by decide +kernel
theorem dX6_purse_8 : decode cX6_purse 8 = .ok (.ifCond .ne 5, 3) := by decide +kernel
theorem dX6_purse_11 : decode cX6_purse 11 = .ok (.iconst 0, 1) := by decide +kernel
theorem dX6_purse_12 : decode cX6_purse 12 = .ok (.ireturn, 1) := by decide +kernel
theorem dX6_purse_13 : decode cX6_purse 13 = .ok (.aload_n 0, 1) := by decide +kernel
theorem dX6_purse_14 : decode cX6_purse 14 = .ok (.getfield 22, 3) := by decide +kernel
theorem dX6_purse_17 : decode cX6_purse 17 = .ok (.aload_n 0, 1) := by decide +kernel
theorem dX6_purse_18 : decode cX6_purse 18 = .ok (.getfield 45, 3) := by decide +kernel
theorem dX6_purse_21 : decode cX6_purse 21 = .ok (.getfield 123, 3) := by decide +kernel
theorem dX6_purse_24 : decode cX6_purse 24 = .ok (.iload_n 1, 1) := by decide +kernel
theorem dX6_purse_25 : decode cX6_purse 25 = .ok (.aaload, 1) := by decide +kernel
theorem dX6_purse_26 : decode cX6_purse 26 = .ok (.aload_n 0, 1) := by decide +kernel
theorem dX6_purse_27 : decode cX6_purse 27 = .ok (.getfield 45, 3) := by decide +kernel
theorem dX6_purse_30 : decode cX6_purse 30 = .ok (.getfield 127, 3) := by decide +kernel
theorem dX6_purse_33 : decode cX6_purse 33 = .ok (.invokevirtual 130, 3) := by decide +kernel
theorem dX6_purse_36 : decode cX6_purse 36 = .ok (.aload_n 0, 1) := by decide +kernel
theorem dX6_purse_37 : decode cX6_purse 37 = .ok (.getfield 22, 3) := by decide +kernel
theorem dX6_purse_40 : decode cX6_purse 40 = .ok (.iload_n 2, 1) := by decide +kernel
theorem dX6_purse_41 : decode cX6_purse 41 = .ok (.iload_n 3, 1) := by decide +kernel
theorem dX6_purse_42 : decode cX6_purse 42 = .ok (.invokevirtual 134, 3) := by decide +kernel
theorem dX6_purse_45 : decode cX6_purse 45 = .ok (.ireturn, 1) := by decide +kernel
set_option maxRecDepth 20000 in
theorem ggX6_paid_X5_hasVoter : GoodIn wsX6_paid wsX5_hasVoter := goodIn_r _ [9, 10, 11, 12, 13, 113, 114, 115, 116] (by decide +kernel) (by decide +kernel)
set_option maxRecDepth 20000 in
theorem gX6_paid_X5_hasVoter : GoodIn wsX6_paid (wsV RX6 72 RX5 yX5_hasVoter wsX5_hasVoter) := goodIn_app (goodIn_of _ (by decide +kernel)) ggX6_paid_X5_hasVoter
set_option maxRecDepth 20000 in
theorem ggX6_paid_X1_roundOf : GoodIn wsX6_paid wsX1_roundOf := goodIn_r _ [18, 19, 20, 97, 98, 99, 100, 101, 102, 103, 104, 105, 106, 107, 108, 109, 110, 111, 112] (by decide +kernel) (by decide +kernel)
set_option maxRecDepth 20000 in
theorem gX6_paid_X1_roundOf : GoodIn wsX6_paid (wsV RX6 138 RX1 yX1_roundOf wsX1_roundOf) := goodIn_app (goodIn_of _ (by decide +kernel)) ggX6_paid_X1_roundOf
set_option maxRecDepth 20000 in
theorem ggX6_paid_X1_payment : GoodIn wsX6_paid wsX1_payment := goodIn_r _ [24, 25, 26, 20, 27, 28, 29, 30, 31, 8, 32, 33, 97, 98, 99, 100, 101, 102, 103, 104, 105, 106, 107, 108, 109, 110, 111, 112, 113, 114, 115, 116] (by decide +kernel) (by decide +kernel)
set_option maxRecDepth 20000 in
theorem gX6_paid_X1_payment : GoodIn wsX6_paid (wsV RX6 141 RX1 yX1_payment wsX1_payment) := goodIn_app (goodIn_of _ (by decide +kernel)) ggX6_paid_X1_payment
set_option maxRecDepth 20000 in
theorem ggX6_paid_X2_takeZero : GoodIn wsX6_paid wsX2_takeZero := goodIn_r _ [38, 39, 40, 41, 42, 43, 44, 45, 46, 47, 48, 49, 50, 117, 118, 119] (by decide +kernel) (by decide +kernel)
set_option maxRecDepth 20000 in
theorem gX6_paid_X2_takeZero : GoodIn wsX6_paid (wsV RX6 145 RX2 yX2_takeZero wsX2_takeZero) := goodIn_app (goodIn_of _ (by decide +kernel)) ggX6_paid_X2_takeZero
set_option maxRecDepth 20000 in
theorem ggX6_paid_X2_take : GoodIn wsX6_paid wsX2_take := goodIn_r _ [54, 39, 40, 55, 56, 57, 58, 44, 59, 46, 60, 35, 36, 37, 38, 41, 42, 43, 45, 47, 48, 49, 50, 61, 62, 63, 64, 65, 66, 67, 68, 69, 70, 71, 72, 73, 74, 75, 76, 77, 78, 79, 80, 81, 117, 118, 119] (by decide +kernel) (by decide +kernel)
set_option maxRecDepth 20000 in
theorem gX6_paid_X2_take : GoodIn wsX6_paid (wsV RX6 130 RX2 yX2_take wsX2_take) := goodIn_app (goodIn_of _ (by decide +kernel)) ggX6_paid_X2_take
set_option maxRecDepth 20000 in
theorem ggX6_paid_X2_wordOf : GoodIn wsX6_paid wsX2_wordOf := goodIn_r _ [85, 39, 40, 86, 87, 88, 44, 89, 46, 117, 118, 119] (by decide +kernel) (by decide +kernel)
set_option maxRecDepth 20000 in
theorem gX6_paid_X2_wordOf : GoodIn wsX6_paid (wsV RX6 134 RX2 yX2_wordOf wsX2_wordOf) := goodIn_app (goodIn_of _ (by decide +kernel)) ggX6_paid_X2_wordOf
theorem dX6_paid_0 : decode cX6_paid 0 = .ok (.aload_n 0, 1) := by decide +kernel
theorem dX6_paid_1 : decode cX6_paid 1 = .ok (.getfield 16, 3) := by decide +kernel
theorem dX6_paid_4 : decode cX6_paid 4 = .ok (.iload_n 1, 1) := by decide +kernel
theorem dX6_paid_5 : decode cX6_paid 5 = .ok (.invokevirtual 72, 3) := by decide +kernel
theorem dX6_paid_8 : decode cX6_paid 8 = .ok (.ifCond .ne 5, 3) := by decide +kernel
theorem dX6_paid_11 : decode cX6_paid 11 = .ok (.iconst 0, 1) := by decide +kernel
theorem dX6_paid_12 : decode cX6_paid 12 = .ok (.ireturn, 1) := by decide +kernel
theorem dX6_paid_13 : decode cX6_paid 13 = .ok (.aload_n 0, 1) := by decide +kernel
theorem dX6_paid_14 : decode cX6_paid 14 = .ok (.getfield 45, 3) := by decide +kernel
theorem dX6_paid_17 : decode cX6_paid 17 = .ok (.iload_n 2, 1) := by decide +kernel
theorem dX6_paid_18 : decode cX6_paid 18 = .ok (.invokevirtual 138, 3) := by decide +kernel
theorem dX6_paid_21 : decode cX6_paid 21 = .ok (.istore 5, 2) := by decide +kernel
theorem dX6_paid_23 : decode cX6_paid 23 = .ok (.aload_n 0, 1) := by decide +kernel
theorem dX6_paid_24 : decode cX6_paid 24 = .ok (.getfield 45, 3) := by decide +kernel
theorem dX6_paid_27 : decode cX6_paid 27 = .ok (.iload_n 1, 1) := by decide +kernel
theorem dX6_paid_28 : decode cX6_paid 28 = .ok (.iload 5, 2) := by decide +kernel
theorem dX6_paid_30 : decode cX6_paid 30 = .ok (.invokevirtual 141, 3) := by decide +kernel
theorem dX6_paid_33 : decode cX6_paid 33 = .ok (.astore 6, 2) := by decide +kernel
theorem dX6_paid_35 : decode cX6_paid 35 = .ok (.aload 6, 2) := by decide +kernel
theorem dX6_paid_37 : decode cX6_paid 37 = .ok (.ifnonnull 13, 3) := by decide +kernel
theorem dX6_paid_40 : decode cX6_paid 40 = .ok (.aload_n 0, 1) := by decide +kernel
theorem dX6_paid_41 : decode cX6_paid 41 = .ok (.getfield 22, 3) := by decide +kernel
theorem dX6_paid_44 : decode cX6_paid 44 = .ok (.invokevirtual 145, 3) := by decide +kernel
theorem dX6_paid_47 : decode cX6_paid 47 = .ok (.goto 22, 3) := by decide +kernel
theorem dX6_paid_50 : decode cX6_paid 50 = .ok (.aload_n 0, 1) := by decide +kernel
theorem dX6_paid_51 : decode cX6_paid 51 = .ok (.getfield 22, 3) := by decide +kernel
theorem dX6_paid_54 : decode cX6_paid 54 = .ok (.aload 6, 2) := by decide +kernel
theorem dX6_paid_56 : decode cX6_paid 56 = .ok (.aload_n 0, 1) := by decide +kernel
theorem dX6_paid_57 : decode cX6_paid 57 = .ok (.getfield 45, 3) := by decide +kernel
theorem dX6_paid_60 : decode cX6_paid 60 = .ok (.getfield 148, 3) := by decide +kernel
theorem dX6_paid_63 : decode cX6_paid 63 = .ok (.iload 5, 2) := by decide +kernel
theorem dX6_paid_65 : decode cX6_paid 65 = .ok (.aaload, 1) := by decide +kernel
theorem dX6_paid_66 : decode cX6_paid 66 = .ok (.invokevirtual 130, 3) := by decide +kernel
theorem dX6_paid_69 : decode cX6_paid 69 = .ok (.aload_n 0, 1) := by decide +kernel
theorem dX6_paid_70 : decode cX6_paid 70 = .ok (.getfield 22, 3) := by decide +kernel
theorem dX6_paid_73 : decode cX6_paid 73 = .ok (.iload_n 3, 1) := by decide +kernel
theorem dX6_paid_74 : decode cX6_paid 74 = .ok (.iload 4, 2) := by decide +kernel
theorem dX6_paid_76 : decode cX6_paid 76 = .ok (.invokevirtual 134, 3) := by decide +kernel
theorem dX6_paid_79 : decode cX6_paid 79 = .ok (.ireturn, 1) := by decide +kernel
set_option maxRecDepth 20000 in
theorem ggX6_rate_X1_roundOf : GoodIn wsX6_rate wsX1_roundOf := goodIn_r _ [9, 10, 11, 74, 75, 76, 77, 78, 79, 80, 81, 82, 83, 84, 85, 86, 87, 88, 89] (by decide +kernel) (by decide +kernel)
set_option maxRecDepth 20000 in
theorem gX6_rate_X1_roundOf : GoodIn wsX6_rate (wsV RX6 138 RX1 yX1_roundOf wsX1_roundOf) := goodIn_app (goodIn_of _ (by decide +kernel)) ggX6_rate_X1_roundOf
set_option maxRecDepth 20000 in
theorem ggX6_rate_X2_take : GoodIn wsX6_rate wsX2_take := goodIn_r _ [16, 17, 18, 19, 20, 21, 22, 23, 24, 25, 26, 27, 28, 15, 29, 30, 31, 32, 33, 34, 35, 36, 37, 38, 39, 40, 41, 42, 43, 44, 45, 46, 47, 48, 49, 50, 51, 52, 53, 54, 55, 56, 57, 58, 90, 91, 92] (by decide +kernel) (by decide +kernel)
set_option maxRecDepth 20000 in
theorem gX6_rate_X2_take : GoodIn wsX6_rate (wsV RX6 130 RX2 yX2_take wsX2_take) := goodIn_app (goodIn_of _ (by decide +kernel)) ggX6_rate_X2_take
set_option maxRecDepth 20000 in
theorem ggX6_rate_X2_wordOf : GoodIn wsX6_rate wsX2_wordOf := goodIn_r _ [62, 17, 18, 63, 64, 65, 23, 66, 25, 90, 91, 92] (by decide +kernel) (by decide +kernel)
set_option maxRecDepth 20000 in
theorem gX6_rate_X2_wordOf : GoodIn wsX6_rate (wsV RX6 134 RX2 yX2_wordOf wsX2_wordOf) := goodIn_app (goodIn_of _ (by decide +kernel)) ggX6_rate_X2_wordOf
theorem dX6_rate_0 : decode cX6_rate 0 = .ok (.aload_n 0, 1) := by decide +kernel
theorem dX6_rate_1 : decode cX6_rate 1 = .ok (.getfield 45, 3) := by decide +kernel
theorem dX6_rate_4 : decode cX6_rate 4 = .ok (.iload_n 1, 1) := by decide +kernel
theorem dX6_rate_5 : decode cX6_rate 5 = .ok (.invokevirtual 138, 3) := by decide +kernel
theorem dX6_rate_8 : decode cX6_rate 8 = .ok (.istore 4, 2) := by decide +kernel
theorem dX6_rate_10 : decode cX6_rate 10 = .ok (.iload 4, 2) := by decide +kernel
theorem dX6_rate_12 : decode cX6_rate 12 = .ok (.iconst (-1), 1) := by decide +kernel
theorem dX6_rate_13 : decode cX6_rate 13 = .ok (.if_icmp .ne 5, 3) := by decide +kernel
theorem dX6_rate_16 : decode cX6_rate 16 = .ok (.iconst 0, 1) := by decide +kernel
theorem dX6_rate_17 : decode cX6_rate 17 = .ok (.ireturn, 1) := by decide +kernel
theorem dX6_rate_18 : decode cX6_rate 18 = .ok (.aload_n 0, 1) := by decide +kernel
theorem dX6_rate_19 : decode cX6_rate 19 = .ok (.getfield 22, 3) := by decide +kernel
theorem dX6_rate_22 : decode cX6_rate 22 = .ok (.aload_n 0, 1) := by decide +kernel
theorem dX6_rate_23 : decode cX6_rate 23 = .ok (.getfield 45, 3) := by decide +kernel
theorem dX6_rate_26 : decode cX6_rate 26 = .ok (.getfield 151, 3) := by decide +kernel
theorem dX6_rate_29 : decode cX6_rate 29 = .ok (.iload 4, 2) := by decide +kernel
theorem dX6_rate_31 : decode cX6_rate 31 = .ok (.aaload, 1) := by decide +kernel
theorem dX6_rate_32 : decode cX6_rate 32 = .ok (.aload_n 0, 1) := by decide +kernel
theorem dX6_rate_33 : decode cX6_rate 33 = .ok (.getfield 45, 3) := by decide +kernel
theorem dX6_rate_36 : decode cX6_rate 36 = .ok (.getfield 148, 3) := by decide +kernel
theorem dX6_rate_39 : decode cX6_rate 39 = .ok (.iload 4, 2) := by decide +kernel
theorem dX6_rate_41 : decode cX6_rate 41 = .ok (.aaload, 1) := by decide +kernel
theorem dX6_rate_42 : decode cX6_rate 42 = .ok (.invokevirtual 130, 3) := by decide +kernel
theorem dX6_rate_45 : decode cX6_rate 45 = .ok (.aload_n 0, 1) := by decide +kernel
theorem dX6_rate_46 : decode cX6_rate 46 = .ok (.getfield 22, 3) := by decide +kernel
theorem dX6_rate_49 : decode cX6_rate 49 = .ok (.iload_n 2, 1) := by decide +kernel
theorem dX6_rate_50 : decode cX6_rate 50 = .ok (.iload_n 3, 1) := by decide +kernel
theorem dX6_rate_51 : decode cX6_rate 51 = .ok (.invokevirtual 134, 3) := by decide +kernel
theorem dX6_rate_54 : decode cX6_rate 54 = .ok (.ireturn, 1) := by decide +kernel
set_option maxRecDepth 20000 in
theorem ggX6_missing_X5_hasProject : GoodIn wsX6_missing wsX5_hasProject := goodIn_r _ [10, 11, 12, 13, 14, 124, 125, 126, 127] (by decide +kernel) (by decide +kernel)
set_option maxRecDepth 20000 in
theorem gX6_missing_X5_hasProject : GoodIn wsX6_missing (wsV RX6 61 RX5 yX5_hasProject wsX5_hasProject) := goodIn_app (goodIn_of _ (by decide +kernel)) ggX6_missing_X5_hasProject
set_option maxRecDepth 20000 in
theorem ggX6_missing_X1_roundOf : GoodIn wsX6_missing wsX1_roundOf := goodIn_r _ [19, 20, 21, 108, 109, 110, 111, 112, 113, 114, 115, 116, 117, 118, 119, 120, 121, 122, 123] (by decide +kernel) (by decide +kernel)
set_option maxRecDepth 20000 in
theorem gX6_missing_X1_roundOf : GoodIn wsX6_missing (wsV RX6 138 RX1 yX1_roundOf wsX1_roundOf) := goodIn_app (goodIn_of _ (by decide +kernel)) ggX6_missing_X1_roundOf
set_option maxRecDepth 20000 in
theorem ggX6_missing_X1_measureLack : GoodIn wsX6_missing wsX1_measureLack := goodIn_r _ [25, 26, 27, 28, 29, 30, 31, 32, 33, 34, 35, 36, 37, 38, 39, 40, 41, 42, 43, 44, 45, 46, 47, 48, 49, 9, 50, 51, 52, 53, 54, 55, 108, 109, 110, 111, 112, 113, 114, 115, 116, 117, 118, 119, 120, 121, 122, 123, 124, 125, 126, 127, 128] (by decide +kernel) (by decide +kernel)
set_option maxRecDepth 20000 in
theorem gX6_missing_X1_measureLack : GoodIn wsX6_missing (wsV RX6 154 RX1 yX1_measureLack wsX1_measureLack) := goodIn_app (goodIn_of _ (by decide +kernel)) ggX6_missing_X1_measureLack
set_option maxRecDepth 20000 in
theorem ggX6_missing_X2_take : GoodIn wsX6_missing wsX2_take := goodIn_r _ [60, 61, 62, 63, 64, 65, 66, 35, 67, 37, 68, 69, 70, 59, 71, 72, 73, 74, 75, 76, 77, 78, 79, 80, 33, 34, 36, 38, 39, 40, 41, 81, 82, 83, 84, 85, 86, 87, 88, 46, 89, 90, 91, 92, 129, 130, 128] (by decide +kernel) (by decide +kernel)
set_option maxRecDepth 20000 in
theorem gX6_missing_X2_take : GoodIn wsX6_missing (wsV RX6 130 RX2 yX2_take wsX2_take) := goodIn_app (goodIn_of _ (by decide +kernel)) ggX6_missing_X2_take
set_option maxRecDepth 20000 in
theorem ggX6_missing_X2_wordOf : GoodIn wsX6_missing wsX2_wordOf := goodIn_r _ [96, 61, 62, 97, 98, 99, 35, 100, 37, 129, 130, 128] (by decide +kernel) (by decide +kernel)
set_option maxRecDepth 20000 in
theorem gX6_missing_X2_wordOf : GoodIn wsX6_missing (wsV RX6 134 RX2 yX2_wordOf wsX2_wordOf) := goodIn_app (goodIn_of _ (by decide +kernel)) ggX6_missing_X2_wordOf
theorem dX6_missing_0 : decode cX6_missing 0 = .ok (.aload_n 0, 1) := by decide +kernel
theorem dX6_missing_1 : decode cX6_missing 1 = .ok (.getfield 16, 3) := by decide +kernel
theorem dX6_missing_4 : decode cX6_missing 4 = .ok (.iload_n 1, 1) := by decide +kernel
theorem dX6_missing_5 : decode cX6_missing 5 = .ok (.invokevirtual 61, 3) := by decide +kernel
theorem dX6_missing_8 : decode cX6_missing 8 = .ok (.ifCond .eq 15, 3) := by decide +kernel
theorem dX6_missing_11 : decode cX6_missing 11 = .ok (.aload_n 0, 1) := by decide +kernel
theorem dX6_missing_12 : decode cX6_missing 12 = .ok (.getfield 45, 3) := by decide +kernel
theorem dX6_missing_15 : decode cX6_missing 15 = .ok (.iload_n 1, 1) := by decide +kernel
theorem dX6_missing_16 : decode cX6_missing 16 = .ok (.invokevirtual 138, 3) := by decide +kernel
theorem dX6_missing_19 : decode cX6_missing 19 = .ok (.iconst (-1), 1) := by decide +kernel
theorem dX6_missing_20 : decode cX6_missing 20 = .ok (.if_icmp .eq 5, 3) := by decide +kernel
theorem dX6_missing_23 : decode cX6_missing 23 = .ok (.iconst 0, 1) := by decide +kernel
theorem dX6_missing_24 : decode cX6_missing 24 = .ok (.ireturn, 1) := by decide +kernel
theorem dX6_missing_25 : decode cX6_missing 25 = .ok (.aload_n 0, 1) := by decide +kernel
theorem dX6_missing_26 : decode cX6_missing 26 = .ok (.getfield 45, 3) := by decide +kernel
theorem dX6_missing_29 : decode cX6_missing 29 = .ok (.iload_n 1, 1) := by decide +kernel
theorem dX6_missing_30 : decode cX6_missing 30 = .ok (.aload_n 0, 1) := by decide +kernel
theorem dX6_missing_31 : decode cX6_missing 31 = .ok (.getfield 29, 3) := by decide +kernel
theorem dX6_missing_34 : decode cX6_missing 34 = .ok (.invokevirtual 154, 3) := by decide +kernel
theorem dX6_missing_37 : decode cX6_missing 37 = .ok (.aload_n 0, 1) := by decide +kernel
theorem dX6_missing_38 : decode cX6_missing 38 = .ok (.getfield 22, 3) := by decide +kernel
theorem dX6_missing_41 : decode cX6_missing 41 = .ok (.aload_n 0, 1) := by decide +kernel
theorem dX6_missing_42 : decode cX6_missing 42 = .ok (.getfield 29, 3) := by decide +kernel
theorem dX6_missing_45 : decode cX6_missing 45 = .ok (.aload_n 0, 1) := by decide +kernel
theorem dX6_missing_46 : decode cX6_missing 46 = .ok (.getfield 45, 3) := by decide +kernel
theorem dX6_missing_49 : decode cX6_missing 49 = .ok (.getfield 127, 3) := by decide +kernel
theorem dX6_missing_52 : decode cX6_missing 52 = .ok (.invokevirtual 130, 3) := by decide +kernel
theorem dX6_missing_55 : decode cX6_missing 55 = .ok (.aload_n 0, 1) := by decide +kernel
theorem dX6_missing_56 : decode cX6_missing 56 = .ok (.getfield 22, 3) := by decide +kernel
theorem dX6_missing_59 : decode cX6_missing 59 = .ok (.iload_n 2, 1) := by decide +kernel
theorem dX6_missing_60 : decode cX6_missing 60 = .ok (.iload_n 3, 1) := by decide +kernel
theorem dX6_missing_61 : decode cX6_missing 61 = .ok (.invokevirtual 134, 3) := by decide +kernel
theorem dX6_missing_64 : decode cX6_missing 64 = .ok (.ireturn, 1) := by decide +kernel
set_option maxRecDepth 20000 in
theorem ggX6_served_X5_hasVoter : GoodIn wsX6_served wsX5_hasVoter := goodIn_r _ [7, 8, 9, 10, 11, 34, 35, 36, 37] (by decide +kernel) (by decide +kernel)
set_option maxRecDepth 20000 in
theorem gX6_served_X5_hasVoter : GoodIn wsX6_served (wsV RX6 72 RX5 yX5_hasVoter wsX5_hasVoter) := goodIn_app (goodIn_of _ (by decide +kernel)) ggX6_served_X5_hasVoter
set_option maxRecDepth 20000 in
theorem ggX6_served_X1_countServed : GoodIn wsX6_served wsX1_countServed := goodIn_r _ [16, 17, 18, 19, 20, 21, 22, 23, 24, 25, 26, 38, 39, 40, 41, 42, 43, 44, 45, 46, 47, 48, 49, 50, 51, 52, 53, 34, 35, 36, 37] (by decide +kernel) (by decide +kernel)
set_option maxRecDepth 20000 in
theorem gX6_served_X1_countServed : GoodIn wsX6_served (wsV RX6 158 RX1 yX1_countServed wsX1_countServed) := goodIn_app (goodIn_of _ (by decide +kernel)) ggX6_served_X1_countServed
theorem dX6_served_0 : decode cX6_served 0 = .ok (.aload_n 0, 1) := by decide +kernel
theorem dX6_served_1 : decode cX6_served 1 = .ok (.getfield 16, 3) := by decide +kernel
theorem dX6_served_4 : decode cX6_served 4 = .ok (.iload_n 1, 1) := by decide +kernel
theorem dX6_served_5 : decode cX6_served 5 = .ok (.invokevirtual 72, 3) := by decide +kernel
theorem dX6_served_8 : decode cX6_served 8 = .ok (.ifCond .eq 14, 3) := by decide +kernel
theorem dX6_served_11 : decode cX6_served 11 = .ok (.aload_n 0, 1) := by decide +kernel
theorem dX6_served_12 : decode cX6_served 12 = .ok (.getfield 45, 3) := by decide +kernel
theorem dX6_served_15 : decode cX6_served 15 = .ok (.iload_n 1, 1) := by decide +kernel
theorem dX6_served_16 : decode cX6_served 16 = .ok (.invokevirtual 158, 3) := by decide +kernel
theorem dX6_served_19 : decode cX6_served 19 = .ok (.goto 4, 3) := by decide +kernel
theorem dX6_served_22 : decode cX6_served 22 = .ok (.iconst 0, 1) := by decide +kernel
theorem dX6_served_23 : decode cX6_served 23 = .ok (.ireturn, 1) := by decide +kernel
theorem dX6_passedOver_0 : decode cX6_passedOver 0 = .ok (.iload_n 1, 1) := by decide +kernel
theorem dX6_passedOver_1 : decode cX6_passedOver 1 = .ok (.iconst 1, 1) := by decide +kernel
theorem dX6_passedOver_2 : decode cX6_passedOver 2 = .ok (.if_icmp .lt 8, 3) := by decide +kernel
theorem dX6_passedOver_5 : decode cX6_passedOver 5 = .ok (.iload_n 1, 1) := by decide +kernel
theorem dX6_passedOver_6 : decode cX6_passedOver 6 = .ok (.iconst 4, 1) := by decide +kernel
theorem dX6_passedOver_7 : decode cX6_passedOver 7 = .ok (.if_icmp .le 13, 3) := by decide +kernel
theorem dX6_passedOver_10 : decode cX6_passedOver 10 = .ok (.new 95, 3) := by decide +kernel
theorem dX6_passedOver_13 : decode cX6_passedOver 13 = .ok (.dup, 1) := by decide +kernel
theorem dX6_passedOver_14 : decode cX6_passedOver 14 = .ok (.ldc 161, 2) := by decide +kernel
theorem dX6_passedOver_16 : decode cX6_passedOver 16 = .ok (.invokespecial 99, 3) := by decide +kernel
theorem dX6_passedOver_19 : decode cX6_passedOver 19 = .ok (.athrow, 1) := by decide +kernel
theorem dX6_passedOver_20 : decode cX6_passedOver 20 = .ok (.aload_n 0, 1) := by decide +kernel
theorem dX6_passedOver_21 : decode cX6_passedOver 21 = .ok (.getfield 16, 3) := by decide +kernel
theorem dX6_passedOver_24 : decode cX6_passedOver 24 = .ok (.invokevirtual 163, 3) := by decide +kernel
theorem dX6_passedOver_27 : decode cX6_passedOver 27 = .ok (.istore_n 2, 1) := by decide +kernel
theorem dX6_passedOver_28 : decode cX6_passedOver 28 = .ok (.iload_n 2, 1) := by decide +kernel
theorem dX6_passedOver_29 : decode cX6_passedOver 29 = .ok (.ifCond .ne 5, 3) := by decide +kernel
theorem dX6_passedOver_32 : decode cX6_passedOver 32 = .ok (.iconst 0, 1) := by decide +kernel
theorem dX6_passedOver_33 : decode cX6_passedOver 33 = .ok (.ireturn, 1) := by decide +kernel
theorem dX6_passedOver_34 : decode cX6_passedOver 34 = .ok (.aload_n 0, 1) := by decide +kernel
theorem dX6_passedOver_35 : decode cX6_passedOver 35 = .ok (.getfield 16, 3) := by decide +kernel
theorem dX6_passedOver_38 : decode cX6_passedOver 38 = .ok (.invokevirtual 102, 3) := by decide +kernel
theorem dX6_passedOver_41 : decode cX6_passedOver 41 = .ok (.istore_n 3, 1) := by decide +kernel
theorem dX6_passedOver_42 : decode cX6_passedOver 42 = .ok (.iconst 1, 1) := by decide +kernel
theorem dX6_passedOver_43 : decode cX6_passedOver 43 = .ok (.iload_n 1, 1) := by decide +kernel
theorem dX6_passedOver_44 : decode cX6_passedOver 44 = .ok (.ishl, 1) := by decide +kernel
theorem dX6_passedOver_45 : decode cX6_passedOver 45 = .ok (.iconst 1, 1) := by decide +kernel
theorem dX6_passedOver_46 : decode cX6_passedOver 46 = .ok (.isub, 1) := by decide +kernel
theorem dX6_passedOver_47 : decode cX6_passedOver 47 = .ok (.istore 4, 2) := by decide +kernel
theorem dX6_passedOver_49 : decode cX6_passedOver 49 = .ok (.iconst 0, 1) := by decide +kernel
theorem dX6_passedOver_50 : decode cX6_passedOver 50 = .ok (.istore 5, 2) := by decide +kernel
theorem dX6_passedOver_52 : decode cX6_passedOver 52 = .ok (.iload 5, 2) := by decide +kernel
theorem dX6_passedOver_54 : decode cX6_passedOver 54 = .ok (.sipush 1820, 3) := by decide +kernel
theorem dX6_passedOver_57 : decode cX6_passedOver 57 = .ok (.if_icmp .ge 46, 3) := by decide +kernel
theorem dX6_passedOver_60 : decode cX6_passedOver 60 = .ok (.iload 4, 2) := by decide +kernel
theorem dX6_passedOver_62 : decode cX6_passedOver 62 = .ok (.ldc 166, 2) := by decide +kernel
theorem dX6_passedOver_64 : decode cX6_passedOver 64 = .ok (.if_icmp .ge 39, 3) := by decide +kernel
theorem dX6_passedOver_67 : decode cX6_passedOver 67 = .ok (.iload 4, 2) := by decide +kernel
theorem dX6_passedOver_69 : decode cX6_passedOver 69 = .ok (.iload_n 3, 1) := by decide +kernel
theorem dX6_passedOver_70 : decode cX6_passedOver 70 = .ok (.iconst (-1), 1) := by decide +kernel
theorem dX6_passedOver_71 : decode cX6_passedOver 71 = .ok (.ixor, 1) := by decide +kernel
theorem dX6_passedOver_72 : decode cX6_passedOver 72 = .ok (.iand, 1) := by decide +kernel
theorem dX6_passedOver_73 : decode cX6_passedOver 73 = .ok (.ifCond .ne 17, 3) := by decide +kernel
theorem dX6_passedOver_76 : decode cX6_passedOver 76 = .ok (.aload_n 0, 1) := by decide +kernel
theorem dX6_passedOver_77 : decode cX6_passedOver 77 = .ok (.iload 4, 2) := by decide +kernel
theorem dX6_passedOver_79 : decode cX6_passedOver 79 = .ok (.iload_n 1, 1) := by decide +kernel
theorem dX6_passedOver_80 : decode cX6_passedOver 80 = .ok (.iload_n 2, 1) := by decide +kernel
theorem dX6_passedOver_81 : decode cX6_passedOver 81 = .ok (.invokevirtual 167, 3) := by decide +kernel
theorem dX6_passedOver_84 : decode cX6_passedOver 84 = .ok (.ifCond .eq 6, 3) := by decide +kernel
theorem dX6_passedOver_87 : decode cX6_passedOver 87 = .ok (.iload 4, 2) := by decide +kernel
theorem dX6_passedOver_89 : decode cX6_passedOver 89 = .ok (.ireturn, 1) := by decide +kernel
theorem dX6_passedOver_90 : decode cX6_passedOver 90 = .ok (.iload 4, 2) := by decide +kernel
theorem dX6_passedOver_92 : decode cX6_passedOver 92 = .ok (.invokestatic 171, 3) := by decide +kernel
theorem dX6_passedOver_95 : decode cX6_passedOver 95 = .ok (.istore 4, 2) := by decide +kernel
theorem dX6_passedOver_97 : decode cX6_passedOver 97 = .ok (.iinc 5 1, 3) := by decide +kernel
theorem dX6_passedOver_100 : decode cX6_passedOver 100 = .ok (.goto (-48), 3) := by decide +kernel
theorem dX6_passedOver_103 : decode cX6_passedOver 103 = .ok (.iconst 0, 1) := by decide +kernel
theorem dX6_passedOver_104 : decode cX6_passedOver 104 = .ok (.ireturn, 1) := by decide +kernel
set_option maxRecDepth 20000 in
theorem ggX6_receipt_X5_hasVoter : GoodIn wsX6_receipt wsX5_hasVoter := goodIn_r _ [8, 9, 10, 11, 12, 138, 139, 140, 141] (by decide +kernel) (by decide +kernel)
set_option maxRecDepth 20000 in
theorem gX6_receipt_X5_hasVoter : GoodIn wsX6_receipt (wsV RX6 72 RX5 yX5_hasVoter wsX5_hasVoter) := goodIn_app (goodIn_of _ (by decide +kernel)) ggX6_receipt_X5_hasVoter
set_option maxRecDepth 20000 in
theorem ggX6_receipt_X6_writeSlip : GoodIn wsX6_receipt wsX6_writeSlip := goodIn_r _ [16, 2, 17, 18, 19, 20, 21, 22, 23, 24, 25, 26, 27, 28, 29, 30, 31, 32, 33, 34, 35, 36, 37, 38, 39, 40, 41, 42, 43, 7, 44, 45, 46, 47, 48, 49, 50, 51, 52, 53, 54, 55, 56, 57, 58, 59, 60, 61, 62, 63, 64, 65, 66, 67, 68, 69, 70, 71, 72, 73, 74, 75, 76, 77, 78, 79, 80, 81, 82, 83, 84, 85, 86, 87, 88, 89, 90, 91, 92, 93, 94, 95, 96, 97, 98, 99, 100, 101, 102, 103, 104, 105, 106, 107, 108, 109, 110, 111, 112, 113, 114, 115, 116, 117, 118, 119, 120, 121, 126, 127, 128, 129, 130, 131, 132, 142, 143, 144, 145, 146, 147, 148, 149, 150, 151, 152, 153, 154, 155, 156, 157, 133, 134, 135, 136, 137, 138, 139, 140, 141, 158, 159, 160] (by decide +kernel) (by decide +kernel)
set_option maxRecDepth 20000 in
theorem gX6_receipt_X6_writeSlip : GoodIn wsX6_receipt (wsV RX6 177 RX6 yX6_writeSlip wsX6_writeSlip) := goodIn_app (goodIn_of _ (by decide +kernel)) ggX6_receipt_X6_writeSlip
set_option maxRecDepth 20000 in
theorem ggX6_receipt_X4_charOr : GoodIn wsX6_receipt wsX4_charOr := goodIn_r _ [125, 30, 101, 133, 134, 135, 136, 137] (by decide +kernel) (by decide +kernel)
set_option maxRecDepth 20000 in
theorem gX6_receipt_X4_charOr : GoodIn wsX6_receipt (wsV RX6 180 RX4 yX4_charOr wsX4_charOr) := goodIn_app (goodIn_of _ (by decide +kernel)) ggX6_receipt_X4_charOr
theorem dX6_receipt_0 : decode cX6_receipt 0 = .ok (.aload_n 0, 1) := by decide +kernel
theorem dX6_receipt_1 : decode cX6_receipt 1 = .ok (.getfield 16, 3) := by decide +kernel
theorem dX6_receipt_4 : decode cX6_receipt 4 = .ok (.iload_n 1, 1) := by decide +kernel
theorem dX6_receipt_5 : decode cX6_receipt 5 = .ok (.invokevirtual 72, 3) := by decide +kernel
theorem dX6_receipt_8 : decode cX6_receipt 8 = .ok (.ifCond .ne 5, 3) := by decide +kernel
theorem dX6_receipt_11 : decode cX6_receipt 11 = .ok (.iconst (-1), 1) := by decide +kernel
theorem dX6_receipt_12 : decode cX6_receipt 12 = .ok (.ireturn, 1) := by decide +kernel
theorem dX6_receipt_13 : decode cX6_receipt 13 = .ok (.aload_n 0, 1) := by decide +kernel
theorem dX6_receipt_14 : decode cX6_receipt 14 = .ok (.getfield 36, 3) := by decide +kernel
theorem dX6_receipt_17 : decode cX6_receipt 17 = .ok (.getfield 174, 3) := by decide +kernel
theorem dX6_receipt_20 : decode cX6_receipt 20 = .ok (.iload_n 1, 1) := by decide +kernel
theorem dX6_receipt_21 : decode cX6_receipt 21 = .ok (.if_icmp .eq 8, 3) := by decide +kernel
theorem dX6_receipt_24 : decode cX6_receipt 24 = .ok (.aload_n 0, 1) := by decide +kernel
theorem dX6_receipt_25 : decode cX6_receipt 25 = .ok (.iload_n 1, 1) := by decide +kernel
theorem dX6_receipt_26 : decode cX6_receipt 26 = .ok (.invokevirtual 177, 3) := by decide +kernel
theorem dX6_receipt_29 : decode cX6_receipt 29 = .ok (.aload_n 0, 1) := by decide +kernel
theorem dX6_receipt_30 : decode cX6_receipt 30 = .ok (.getfield 36, 3) := by decide +kernel
theorem dX6_receipt_33 : decode cX6_receipt 33 = .ok (.iload_n 2, 1) := by decide +kernel
theorem dX6_receipt_34 : decode cX6_receipt 34 = .ok (.iconst (-1), 1) := by decide +kernel
theorem dX6_receipt_35 : decode cX6_receipt 35 = .ok (.invokevirtual 180, 3) := by decide +kernel
theorem dX6_receipt_38 : decode cX6_receipt 38 = .ok (.ireturn, 1) := by decide +kernel
set_option maxRecDepth 20000 in
theorem ggX6_keepTown_X5_copy : GoodIn wsX6_keepTown wsX5_copy := goodIn_r _ [8, 9, 10, 11, 12, 13, 14, 15, 16, 31, 32, 33, 34] (by decide +kernel) (by decide +kernel)
set_option maxRecDepth 20000 in
theorem gX6_keepTown_X5_copy : GoodIn wsX6_keepTown (wsV RX6 183 RX5 yX5_copy wsX5_copy) := goodIn_app (goodIn_of _ (by decide +kernel)) ggX6_keepTown_X5_copy
set_option maxRecDepth 20000 in
theorem ggX6_keepTown_X4_clear : GoodIn wsX6_keepTown wsX4_clear := goodIn_r _ [21, 22, 23, 35, 36, 37, 38, 39] (by decide +kernel) (by decide +kernel)
set_option maxRecDepth 20000 in
theorem gX6_keepTown_X4_clear : GoodIn wsX6_keepTown (wsV RX6 186 RX4 yX4_clear wsX4_clear) := goodIn_app (goodIn_of _ (by decide +kernel)) ggX6_keepTown_X4_clear
theorem dX6_keepTown_0 : decode cX6_keepTown 0 = .ok (.aload_n 0, 1) := by decide +kernel
theorem dX6_keepTown_1 : decode cX6_keepTown 1 = .ok (.getfield 16, 3) := by decide +kernel
theorem dX6_keepTown_4 : decode cX6_keepTown 4 = .ok (.aload_n 0, 1) := by decide +kernel
theorem dX6_keepTown_5 : decode cX6_keepTown 5 = .ok (.getfield 10, 3) := by decide +kernel
theorem dX6_keepTown_8 : decode cX6_keepTown 8 = .ok (.invokevirtual 183, 3) := by decide +kernel
theorem dX6_keepTown_11 : decode cX6_keepTown 11 = .ok (.aload_n 0, 1) := by decide +kernel
theorem dX6_keepTown_12 : decode cX6_keepTown 12 = .ok (.getfield 36, 3) := by decide +kernel
theorem dX6_keepTown_15 : decode cX6_keepTown 15 = .ok (.iconst (-1), 1) := by decide +kernel
theorem dX6_keepTown_16 : decode cX6_keepTown 16 = .ok (.invokevirtual 186, 3) := by decide +kernel
theorem dX6_keepTown_19 : decode cX6_keepTown 19 = .ok (.return_, 1) := by decide +kernel
theorem dX6_swapPhases_0 : decode cX6_swapPhases 0 = .ok (.aload_n 0, 1) := by decide +kernel
theorem dX6_swapPhases_1 : decode cX6_swapPhases 1 = .ok (.getfield 45, 3) := by decide +kernel
theorem dX6_swapPhases_4 : decode cX6_swapPhases 4 = .ok (.astore_n 1, 1) := by decide +kernel
theorem dX6_swapPhases_5 : decode cX6_swapPhases 5 = .ok (.aload_n 0, 1) := by decide +kernel
theorem dX6_swapPhases_6 : decode cX6_swapPhases 6 = .ok (.aload_n 0, 1) := by decide +kernel
theorem dX6_swapPhases_7 : decode cX6_swapPhases 7 = .ok (.getfield 49, 3) := by decide +kernel
theorem dX6_swapPhases_10 : decode cX6_swapPhases 10 = .ok (.putfield 45, 3) := by decide +kernel
theorem dX6_swapPhases_13 : decode cX6_swapPhases 13 = .ok (.aload_n 0, 1) := by decide +kernel
theorem dX6_swapPhases_14 : decode cX6_swapPhases 14 = .ok (.aload_n 1, 1) := by decide +kernel
theorem dX6_swapPhases_15 : decode cX6_swapPhases 15 = .ok (.putfield 49, 3) := by decide +kernel
theorem dX6_swapPhases_18 : decode cX6_swapPhases 18 = .ok (.return_, 1) := by decide +kernel
set_option maxRecDepth 20000 in
theorem ggX6_deservesMore_X5_hasVoter : GoodIn wsX6_deservesMore wsX5_hasVoter := goodIn_r _ [9, 10, 11, 12, 13, 41, 42, 43, 44] (by decide +kernel) (by decide +kernel)
set_option maxRecDepth 20000 in
theorem gX6_deservesMore_X5_hasVoter : GoodIn wsX6_deservesMore (wsV RX6 72 RX5 yX5_hasVoter wsX5_hasVoter) := goodIn_app (goodIn_of _ (by decide +kernel)) ggX6_deservesMore_X5_hasVoter
set_option maxRecDepth 20000 in
theorem ggX6_deservesMore_X1_countServed : GoodIn wsX6_deservesMore wsX1_countServed := goodIn_r _ [18, 19, 20, 21, 22, 23, 24, 25, 26, 27, 28, 45, 46, 47, 48, 49, 50, 51, 52, 53, 54, 55, 56, 57, 58, 59, 60, 41, 42, 43, 44] (by decide +kernel) (by decide +kernel)
set_option maxRecDepth 20000 in
theorem gX6_deservesMore_X1_countServed : GoodIn wsX6_deservesMore (wsV RX6 158 RX1 yX1_countServed wsX1_countServed) := goodIn_app (goodIn_of _ (by decide +kernel)) ggX6_deservesMore_X1_countServed
set_option maxRecDepth 20000 in
theorem ggX6_deservesMore_X5_costOf : GoodIn wsX6_deservesMore wsX5_costOf := goodIn_r _ [32, 33, 41, 42, 43, 44] (by decide +kernel) (by decide +kernel)
set_option maxRecDepth 20000 in
theorem gX6_deservesMore_X5_costOf : GoodIn wsX6_deservesMore (wsV RX6 106 RX5 yX5_costOf wsX5_costOf) := goodIn_app (goodIn_of _ (by decide +kernel)) ggX6_deservesMore_X5_costOf
theorem dX6_deservesMore_0 : decode cX6_deservesMore 0 = .ok (.iconst 0, 1) := by decide +kernel
theorem dX6_deservesMore_1 : decode cX6_deservesMore 1 = .ok (.istore 4, 2) := by decide +kernel
theorem dX6_deservesMore_3 : decode cX6_deservesMore 3 = .ok (.iconst 0, 1) := by decide +kernel
theorem dX6_deservesMore_4 : decode cX6_deservesMore 4 = .ok (.istore 5, 2) := by decide +kernel
theorem dX6_deservesMore_6 : decode cX6_deservesMore 6 = .ok (.iload 5, 2) := by decide +kernel
theorem dX6_deservesMore_8 : decode cX6_deservesMore 8 = .ok (.bipush 48, 2) := by decide +kernel
theorem dX6_deservesMore_10 : decode cX6_deservesMore 10 = .ok (.if_icmp .ge 53, 3) := by decide +kernel
theorem dX6_deservesMore_13 : decode cX6_deservesMore 13 = .ok (.aload_n 0, 1) := by decide +kernel
theorem dX6_deservesMore_14 : decode cX6_deservesMore 14 = .ok (.getfield 16, 3) := by decide +kernel
theorem dX6_deservesMore_17 : decode cX6_deservesMore 17 = .ok (.iload 5, 2) := by decide +kernel
theorem dX6_deservesMore_19 : decode cX6_deservesMore 19 = .ok (.invokevirtual 72, 3) := by decide +kernel
theorem dX6_deservesMore_22 : decode cX6_deservesMore 22 = .ok (.ifCond .eq 35, 3) := by decide +kernel
theorem dX6_deservesMore_25 : decode cX6_deservesMore 25 = .ok (.aload_n 0, 1) := by decide +kernel
theorem dX6_deservesMore_26 : decode cX6_deservesMore 26 = .ok (.getfield 16, 3) := by decide +kernel
theorem dX6_deservesMore_29 : decode cX6_deservesMore 29 = .ok (.getfield 79, 3) := by decide +kernel
theorem dX6_deservesMore_32 : decode cX6_deservesMore 32 = .ok (.iload 5, 2) := by decide +kernel
theorem dX6_deservesMore_34 : decode cX6_deservesMore 34 = .ok (.iaload, 1) := by decide +kernel
theorem dX6_deservesMore_35 : decode cX6_deservesMore 35 = .ok (.iload_n 1, 1) := by decide +kernel
theorem dX6_deservesMore_36 : decode cX6_deservesMore 36 = .ok (.iand, 1) := by decide +kernel
theorem dX6_deservesMore_37 : decode cX6_deservesMore 37 = .ok (.iload_n 1, 1) := by decide +kernel
theorem dX6_deservesMore_38 : decode cX6_deservesMore 38 = .ok (.if_icmp .ne 19, 3) := by decide +kernel
theorem dX6_deservesMore_41 : decode cX6_deservesMore 41 = .ok (.aload_n 0, 1) := by decide +kernel
theorem dX6_deservesMore_42 : decode cX6_deservesMore 42 = .ok (.getfield 45, 3) := by decide +kernel
theorem dX6_deservesMore_45 : decode cX6_deservesMore 45 = .ok (.iload 5, 2) := by decide +kernel
theorem dX6_deservesMore_47 : decode cX6_deservesMore 47 = .ok (.invokevirtual 158, 3) := by decide +kernel
theorem dX6_deservesMore_50 : decode cX6_deservesMore 50 = .ok (.iload_n 2, 1) := by decide +kernel
theorem dX6_deservesMore_51 : decode cX6_deservesMore 51 = .ok (.if_icmp .ge 6, 3) := by decide +kernel
theorem dX6_deservesMore_54 : decode cX6_deservesMore 54 = .ok (.iinc 4 1, 3) := by decide +kernel
theorem dX6_deservesMore_57 : decode cX6_deservesMore 57 = .ok (.iinc 5 1, 3) := by decide +kernel
theorem dX6_deservesMore_60 : decode cX6_deservesMore 60 = .ok (.goto (-54), 3) := by decide +kernel
theorem dX6_deservesMore_63 : decode cX6_deservesMore 63 = .ok (.iload 4, 2) := by decide +kernel
theorem dX6_deservesMore_65 : decode cX6_deservesMore 65 = .ok (.i2l, 1) := by decide +kernel
theorem dX6_deservesMore_66 : decode cX6_deservesMore 66 = .ok (.aload_n 0, 1) := by decide +kernel
theorem dX6_deservesMore_67 : decode cX6_deservesMore 67 = .ok (.getfield 16, 3) := by decide +kernel
theorem dX6_deservesMore_70 : decode cX6_deservesMore 70 = .ok (.getfield 65, 3) := by decide +kernel
theorem dX6_deservesMore_73 : decode cX6_deservesMore 73 = .ok (.i2l, 1) := by decide +kernel
theorem dX6_deservesMore_74 : decode cX6_deservesMore 74 = .ok (.lmul, 1) := by decide +kernel
theorem dX6_deservesMore_75 : decode cX6_deservesMore 75 = .ok (.iload_n 3, 1) := by decide +kernel
theorem dX6_deservesMore_76 : decode cX6_deservesMore 76 = .ok (.i2l, 1) := by decide +kernel
theorem dX6_deservesMore_77 : decode cX6_deservesMore 77 = .ok (.aload_n 0, 1) := by decide +kernel
theorem dX6_deservesMore_78 : decode cX6_deservesMore 78 = .ok (.getfield 16, 3) := by decide +kernel
theorem dX6_deservesMore_81 : decode cX6_deservesMore 81 = .ok (.iload_n 1, 1) := by decide +kernel
theorem dX6_deservesMore_82 : decode cX6_deservesMore 82 = .ok (.invokevirtual 106, 3) := by decide +kernel
theorem dX6_deservesMore_85 : decode cX6_deservesMore 85 = .ok (.i2l, 1) := by decide +kernel
theorem dX6_deservesMore_86 : decode cX6_deservesMore 86 = .ok (.lmul, 1) := by decide +kernel
theorem dX6_deservesMore_87 : decode cX6_deservesMore 87 = .ok (.lcmp, 1) := by decide +kernel
theorem dX6_deservesMore_88 : decode cX6_deservesMore 88 = .ok (.ifCond .lt 7, 3) := by decide +kernel
theorem dX6_deservesMore_91 : decode cX6_deservesMore 91 = .ok (.iconst 1, 1) := by decide +kernel
theorem dX6_deservesMore_92 : decode cX6_deservesMore 92 = .ok (.goto 4, 3) := by decide +kernel
theorem dX6_deservesMore_95 : decode cX6_deservesMore 95 = .ok (.iconst 0, 1) := by decide +kernel
theorem dX6_deservesMore_96 : decode cX6_deservesMore 96 = .ok (.ireturn, 1) := by decide +kernel
set_option maxRecDepth 20000 in
theorem ggX6_nextOfSameSize_J6_numberOfTrailingZeros_0f7a4 : GoodIn wsX6_nextOfSameSize wsJ6_numberOfTrailingZeros_0f7a4 := goodIn_r _ [4, 5] (by decide +kernel) (by decide +kernel)
set_option maxRecDepth 20000 in
theorem gX6_nextOfSameSize_J6_numberOfTrailingZeros_0f7a4 : GoodIn wsX6_nextOfSameSize (va_wsS RX6 189 yJ6_numberOfTrailingZeros_0f7a4 wsJ6_numberOfTrailingZeros_0f7a4) := goodIn_app (goodIn_of _ (by decide +kernel)) ggX6_nextOfSameSize_J6_numberOfTrailingZeros_0f7a4
theorem dX6_nextOfSameSize_0 : decode cX6_nextOfSameSize 0 = .ok (.iload_n 0, 1) := by decide +kernel
theorem dX6_nextOfSameSize_1 : decode cX6_nextOfSameSize 1 = .ok (.iload_n 0, 1) := by decide +kernel
theorem dX6_nextOfSameSize_2 : decode cX6_nextOfSameSize 2 = .ok (.iload_n 0, 1) := by decide +kernel
theorem dX6_nextOfSameSize_3 : decode cX6_nextOfSameSize 3 = .ok (.ineg, 1) := by decide +kernel
theorem dX6_nextOfSameSize_4 : decode cX6_nextOfSameSize 4 = .ok (.iand, 1) := by decide +kernel
theorem dX6_nextOfSameSize_5 : decode cX6_nextOfSameSize 5 = .ok (.iadd, 1) := by decide +kernel
theorem dX6_nextOfSameSize_6 : decode cX6_nextOfSameSize 6 = .ok (.istore_n 1, 1) := by decide +kernel
theorem dX6_nextOfSameSize_7 : decode cX6_nextOfSameSize 7 = .ok (.iload_n 0, 1) := by decide +kernel
theorem dX6_nextOfSameSize_8 : decode cX6_nextOfSameSize 8 = .ok (.iload_n 1, 1) := by decide +kernel
theorem dX6_nextOfSameSize_9 : decode cX6_nextOfSameSize 9 = .ok (.ixor, 1) := by decide +kernel
theorem dX6_nextOfSameSize_10 : decode cX6_nextOfSameSize 10 = .ok (.iconst 2, 1) := by decide +kernel
theorem dX6_nextOfSameSize_11 : decode cX6_nextOfSameSize 11 = .ok (.iload_n 0, 1) := by decide +kernel
theorem dX6_nextOfSameSize_12 : decode cX6_nextOfSameSize 12 = .ok (.invokestatic 189, 3) := by decide +kernel
theorem dX6_nextOfSameSize_15 : decode cX6_nextOfSameSize 15 = .ok (.iadd, 1) := by decide +kernel
theorem dX6_nextOfSameSize_16 : decode cX6_nextOfSameSize 16 = .ok (.iushr, 1) := by decide +kernel
theorem dX6_nextOfSameSize_17 : decode cX6_nextOfSameSize 17 = .ok (.istore_n 2, 1) := by decide +kernel
theorem dX6_nextOfSameSize_18 : decode cX6_nextOfSameSize 18 = .ok (.iload_n 1, 1) := by decide +kernel
theorem dX6_nextOfSameSize_19 : decode cX6_nextOfSameSize 19 = .ok (.iload_n 2, 1) := by decide +kernel
theorem dX6_nextOfSameSize_20 : decode cX6_nextOfSameSize 20 = .ok (.ior, 1) := by decide +kernel
theorem dX6_nextOfSameSize_21 : decode cX6_nextOfSameSize 21 = .ok (.ireturn, 1) := by decide +kernel
set_option maxRecDepth 20000 in
theorem ggX6_writeSlip_X4_clear : GoodIn wsX6_writeSlip wsX4_clear := goodIn_r _ [13, 14, 15, 131, 132, 133, 134, 135] (by decide +kernel) (by decide +kernel)
set_option maxRecDepth 20000 in
theorem gX6_writeSlip_X4_clear : GoodIn wsX6_writeSlip (wsV RX6 186 RX4 yX4_clear wsX4_clear) := goodIn_app (goodIn_of _ (by decide +kernel)) ggX6_writeSlip_X4_clear
set_option maxRecDepth 20000 in
theorem ggX6_writeSlip_X1_payment : GoodIn wsX6_writeSlip wsX1_payment := goodIn_r _ [20, 21, 22, 23, 24, 25, 26, 27, 28, 29, 30, 31, 115, 116, 117, 118, 119, 120, 121, 122, 123, 124, 125, 126, 127, 128, 129, 130, 136, 137, 138, 139] (by decide +kernel) (by decide +kernel)
set_option maxRecDepth 20000 in
theorem gX6_writeSlip_X1_payment : GoodIn wsX6_writeSlip (wsV RX6 141 RX1 yX1_payment wsX1_payment) := goodIn_app (goodIn_of _ (by decide +kernel)) ggX6_writeSlip_X1_payment
set_option maxRecDepth 20000 in
theorem ggX6_writeSlip_X2_take : GoodIn wsX6_writeSlip wsX2_take := goodIn_r _ [36, 37, 38, 39, 40, 41, 42, 43, 44, 45, 46, 47, 48, 35, 49, 50, 51, 52, 53, 54, 55, 56, 57, 58, 59, 60, 61, 62, 63, 64, 65, 66, 67, 68, 69, 70, 71, 72, 73, 74, 75, 76, 77, 78, 140, 141, 142] (by decide +kernel) (by decide +kernel)
set_option maxRecDepth 20000 in
theorem gX6_writeSlip_X2_take : GoodIn wsX6_writeSlip (wsV RX6 130 RX2 yX2_take wsX2_take) := goodIn_app (goodIn_of _ (by decide +kernel)) ggX6_writeSlip_X2_take
set_option maxRecDepth 20000 in
theorem ggX6_writeSlip_X4_putProject : GoodIn wsX6_writeSlip wsX4_putProject := goodIn_r _ [82, 83, 84, 85, 12, 86, 15, 87, 131, 132, 133, 134, 135] (by decide +kernel) (by decide +kernel)
set_option maxRecDepth 20000 in
theorem gX6_writeSlip_X4_putProject : GoodIn wsX6_writeSlip (wsV RX6 194 RX4 yX4_putProject wsX4_putProject) := goodIn_app (goodIn_of _ (by decide +kernel)) ggX6_writeSlip_X4_putProject
set_option maxRecDepth 20000 in
theorem ggX6_writeSlip_X4_putRatio : GoodIn wsX6_writeSlip wsX4_putRatio := goodIn_r _ [91, 92, 93, 94, 95, 96, 12, 97, 98, 99, 100, 59, 60, 43, 61, 45, 62, 63, 64, 65, 101, 76, 77, 78, 74, 102, 41, 42, 44, 83, 84, 85, 86, 15, 87, 103, 104, 105, 106, 140, 141, 131, 132, 133, 134, 135, 142] (by decide +kernel) (by decide +kernel)
set_option maxRecDepth 20000 in
theorem gX6_writeSlip_X4_putRatio : GoodIn wsX6_writeSlip (wsV RX6 197 RX4 yX4_putRatio wsX4_putRatio) := goodIn_app (goodIn_of _ (by decide +kernel)) ggX6_writeSlip_X4_putRatio
set_option maxRecDepth 20000 in
theorem ggX6_writeSlip_X4_put : GoodIn wsX6_writeSlip wsX4_put := goodIn_r _ [86, 15, 87, 131, 132, 133, 134, 135] (by decide +kernel) (by decide +kernel)
set_option maxRecDepth 20000 in
theorem gX6_writeSlip_X4_put : GoodIn wsX6_writeSlip (wsV RX6 201 RX4 yX4_put wsX4_put) := goodIn_app (goodIn_of _ (by decide +kernel)) ggX6_writeSlip_X4_put
theorem dX6_writeSlip_0 : decode cX6_writeSlip 0 = .ok (.aload_n 0, 1) := by decide +kernel
theorem dX6_writeSlip_1 : decode cX6_writeSlip 1 = .ok (.getfield 36, 3) := by decide +kernel
theorem dX6_writeSlip_4 : decode cX6_writeSlip 4 = .ok (.iload_n 1, 1) := by decide +kernel
theorem dX6_writeSlip_5 : decode cX6_writeSlip 5 = .ok (.invokevirtual 186, 3) := by decide +kernel
theorem dX6_writeSlip_8 : decode cX6_writeSlip 8 = .ok (.iconst 0, 1) := by decide +kernel
theorem dX6_writeSlip_9 : decode cX6_writeSlip 9 = .ok (.istore_n 2, 1) := by decide +kernel
theorem dX6_writeSlip_10 : decode cX6_writeSlip 10 = .ok (.iload_n 2, 1) := by decide +kernel
theorem dX6_writeSlip_11 : decode cX6_writeSlip 11 = .ok (.aload_n 0, 1) := by decide +kernel
theorem dX6_writeSlip_12 : decode cX6_writeSlip 12 = .ok (.getfield 45, 3) := by decide +kernel
theorem dX6_writeSlip_15 : decode cX6_writeSlip 15 = .ok (.getfield 91, 3) := by decide +kernel
theorem dX6_writeSlip_18 : decode cX6_writeSlip 18 = .ok (.if_icmp .ge 76, 3) := by decide +kernel
theorem dX6_writeSlip_21 : decode cX6_writeSlip 21 = .ok (.aload_n 0, 1) := by decide +kernel
theorem dX6_writeSlip_22 : decode cX6_writeSlip 22 = .ok (.getfield 45, 3) := by decide +kernel
theorem dX6_writeSlip_25 : decode cX6_writeSlip 25 = .ok (.iload_n 1, 1) := by decide +kernel
theorem dX6_writeSlip_26 : decode cX6_writeSlip 26 = .ok (.iload_n 2, 1) := by decide +kernel
theorem dX6_writeSlip_27 : decode cX6_writeSlip 27 = .ok (.invokevirtual 141, 3) := by decide +kernel
theorem dX6_writeSlip_30 : decode cX6_writeSlip 30 = .ok (.astore_n 3, 1) := by decide +kernel
theorem dX6_writeSlip_31 : decode cX6_writeSlip 31 = .ok (.aload_n 3, 1) := by decide +kernel
theorem dX6_writeSlip_32 : decode cX6_writeSlip 32 = .ok (.ifnull 56, 3) := by decide +kernel
theorem dX6_writeSlip_35 : decode cX6_writeSlip 35 = .ok (.aload_n 0, 1) := by decide +kernel
theorem dX6_writeSlip_36 : decode cX6_writeSlip 36 = .ok (.getfield 22, 3) := by decide +kernel
theorem dX6_writeSlip_39 : decode cX6_writeSlip 39 = .ok (.aload_n 3, 1) := by decide +kernel
theorem dX6_writeSlip_40 : decode cX6_writeSlip 40 = .ok (.aload_n 0, 1) := by decide +kernel
theorem dX6_writeSlip_41 : decode cX6_writeSlip 41 = .ok (.getfield 45, 3) := by decide +kernel
theorem dX6_writeSlip_44 : decode cX6_writeSlip 44 = .ok (.getfield 148, 3) := by decide +kernel
theorem dX6_writeSlip_47 : decode cX6_writeSlip 47 = .ok (.iload_n 2, 1) := by decide +kernel
theorem dX6_writeSlip_48 : decode cX6_writeSlip 48 = .ok (.aaload, 1) := by decide +kernel
theorem dX6_writeSlip_49 : decode cX6_writeSlip 49 = .ok (.invokevirtual 130, 3) := by decide +kernel
theorem dX6_writeSlip_52 : decode cX6_writeSlip 52 = .ok (.aload_n 0, 1) := by decide +kernel
theorem dX6_writeSlip_53 : decode cX6_writeSlip 53 = .ok (.getfield 36, 3) := by decide +kernel
theorem dX6_writeSlip_56 : decode cX6_writeSlip 56 = .ok (.aload_n 0, 1) := by decide +kernel
theorem dX6_writeSlip_57 : decode cX6_writeSlip 57 = .ok (.getfield 45, 3) := by decide +kernel
theorem dX6_writeSlip_60 : decode cX6_writeSlip 60 = .ok (.getfield 117, 3) := by decide +kernel
theorem dX6_writeSlip_63 : decode cX6_writeSlip 63 = .ok (.iload_n 2, 1) := by decide +kernel
theorem dX6_writeSlip_64 : decode cX6_writeSlip 64 = .ok (.iaload, 1) := by decide +kernel
theorem dX6_writeSlip_65 : decode cX6_writeSlip 65 = .ok (.invokevirtual 194, 3) := by decide +kernel
theorem dX6_writeSlip_68 : decode cX6_writeSlip 68 = .ok (.aload_n 0, 1) := by decide +kernel
theorem dX6_writeSlip_69 : decode cX6_writeSlip 69 = .ok (.getfield 36, 3) := by decide +kernel
theorem dX6_writeSlip_72 : decode cX6_writeSlip 72 = .ok (.aload_n 0, 1) := by decide +kernel
theorem dX6_writeSlip_73 : decode cX6_writeSlip 73 = .ok (.getfield 22, 3) := by decide +kernel
theorem dX6_writeSlip_76 : decode cX6_writeSlip 76 = .ok (.invokevirtual 197, 3) := by decide +kernel
theorem dX6_writeSlip_79 : decode cX6_writeSlip 79 = .ok (.aload_n 0, 1) := by decide +kernel
theorem dX6_writeSlip_80 : decode cX6_writeSlip 80 = .ok (.getfield 36, 3) := by decide +kernel
theorem dX6_writeSlip_83 : decode cX6_writeSlip 83 = .ok (.bipush 59, 2) := by decide +kernel
theorem dX6_writeSlip_85 : decode cX6_writeSlip 85 = .ok (.invokevirtual 201, 3) := by decide +kernel
theorem dX6_writeSlip_88 : decode cX6_writeSlip 88 = .ok (.iinc 2 1, 3) := by decide +kernel
theorem dX6_writeSlip_91 : decode cX6_writeSlip 91 = .ok (.goto (-81), 3) := by decide +kernel
theorem dX6_writeSlip_94 : decode cX6_writeSlip 94 = .ok (.aload_n 0, 1) := by decide +kernel
theorem dX6_writeSlip_95 : decode cX6_writeSlip 95 = .ok (.getfield 22, 3) := by decide +kernel
theorem dX6_writeSlip_98 : decode cX6_writeSlip 98 = .ok (.aload_n 0, 1) := by decide +kernel
theorem dX6_writeSlip_99 : decode cX6_writeSlip 99 = .ok (.getfield 45, 3) := by decide +kernel
theorem dX6_writeSlip_102 : decode cX6_writeSlip 102 = .ok (.getfield 123, 3) := by decide +kernel
theorem dX6_writeSlip_105 : decode cX6_writeSlip 105 = .ok (.iload_n 1, 1) := by decide +kernel
theorem dX6_writeSlip_106 : decode cX6_writeSlip 106 = .ok (.aaload, 1) := by decide +kernel
theorem dX6_writeSlip_107 : decode cX6_writeSlip 107 = .ok (.aload_n 0, 1) := by decide +kernel
theorem dX6_writeSlip_108 : decode cX6_writeSlip 108 = .ok (.getfield 45, 3) := by decide +kernel
theorem dX6_writeSlip_111 : decode cX6_writeSlip 111 = .ok (.getfield 127, 3) := by decide +kernel
theorem dX6_writeSlip_114 : decode cX6_writeSlip 114 = .ok (.invokevirtual 130, 3) := by decide +kernel
theorem dX6_writeSlip_117 : decode cX6_writeSlip 117 = .ok (.aload_n 0, 1) := by decide +kernel
theorem dX6_writeSlip_118 : decode cX6_writeSlip 118 = .ok (.getfield 36, 3) := by decide +kernel
theorem dX6_writeSlip_121 : decode cX6_writeSlip 121 = .ok (.bipush 61, 2) := by decide +kernel
theorem dX6_writeSlip_123 : decode cX6_writeSlip 123 = .ok (.invokevirtual 201, 3) := by decide +kernel
theorem dX6_writeSlip_126 : decode cX6_writeSlip 126 = .ok (.aload_n 0, 1) := by decide +kernel
theorem dX6_writeSlip_127 : decode cX6_writeSlip 127 = .ok (.getfield 36, 3) := by decide +kernel
theorem dX6_writeSlip_130 : decode cX6_writeSlip 130 = .ok (.aload_n 0, 1) := by decide +kernel
theorem dX6_writeSlip_131 : decode cX6_writeSlip 131 = .ok (.getfield 22, 3) := by decide +kernel
theorem dX6_writeSlip_134 : decode cX6_writeSlip 134 = .ok (.invokevirtual 197, 3) := by decide +kernel
theorem dX6_writeSlip_137 : decode cX6_writeSlip 137 = .ok (.aload_n 0, 1) := by decide +kernel
theorem dX6_writeSlip_138 : decode cX6_writeSlip 138 = .ok (.getfield 36, 3) := by decide +kernel
theorem dX6_writeSlip_141 : decode cX6_writeSlip 141 = .ok (.bipush 46, 2) := by decide +kernel
theorem dX6_writeSlip_143 : decode cX6_writeSlip 143 = .ok (.invokevirtual 201, 3) := by decide +kernel
theorem dX6_writeSlip_146 : decode cX6_writeSlip 146 = .ok (.return_, 1) := by decide +kernel
