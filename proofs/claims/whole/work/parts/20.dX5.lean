theorem dX5_init_0 : decode cX5_init 0 = .ok (.aload_n 0, 1) := by decide +kernel
theorem dX5_init_1 : decode cX5_init 1 = .ok (.invokespecial 3, 3) := by decide +kernel
theorem dX5_init_4 : decode cX5_init 4 = .ok (.aload_n 0, 1) := by decide +kernel
theorem dX5_init_5 : decode cX5_init 5 = .ok (.bipush 16, 2) := by decide +kernel
theorem dX5_init_7 : decode cX5_init 7 = .ok (.newarray .int, 2) := by decide +kernel
theorem dX5_init_9 : decode cX5_init 9 = .ok (.putfield 9, 3) := by decide +kernel
theorem dX5_init_12 : decode cX5_init 12 = .ok (.aload_n 0, 1) := by decide +kernel
theorem dX5_init_13 : decode cX5_init 13 = .ok (.bipush 48, 2) := by decide +kernel
theorem dX5_init_15 : decode cX5_init 15 = .ok (.newarray .int, 2) := by decide +kernel
theorem dX5_init_17 : decode cX5_init 17 = .ok (.putfield 15, 3) := by decide +kernel
theorem dX5_init_20 : decode cX5_init 20 = .ok (.aload_n 0, 1) := by decide +kernel
theorem dX5_init_21 : decode cX5_init 21 = .ok (.iconst 1, 1) := by decide +kernel
theorem dX5_init_22 : decode cX5_init 22 = .ok (.putfield 18, 3) := by decide +kernel
theorem dX5_init_25 : decode cX5_init 25 = .ok (.return_, 1) := by decide +kernel
set_option maxRecDepth 20000 in
theorem ggX5_hasProject_X6_isProjectNumber : GoodIn wsX5_hasProject wsX6_isProjectNumber := goodIn_r _ [4] (by decide +kernel) (by decide +kernel)
set_option maxRecDepth 20000 in
theorem gX5_hasProject_X6_isProjectNumber_n22 : GoodIn wsX5_hasProject (wsX6_isProjectNumber) := ggX5_hasProject_X6_isProjectNumber
theorem dX5_hasProject_0 : decode cX5_hasProject 0 = .ok (.iload_n 1, 1) := by decide +kernel
theorem dX5_hasProject_1 : decode cX5_hasProject 1 = .ok (.invokestatic 22, 3) := by decide +kernel
theorem dX5_hasProject_4 : decode cX5_hasProject 4 = .ok (.ifCond .eq 16, 3) := by decide +kernel
theorem dX5_hasProject_7 : decode cX5_hasProject 7 = .ok (.aload_n 0, 1) := by decide +kernel
theorem dX5_hasProject_8 : decode cX5_hasProject 8 = .ok (.getfield 9, 3) := by decide +kernel
theorem dX5_hasProject_11 : decode cX5_hasProject 11 = .ok (.iload_n 1, 1) := by decide +kernel
theorem dX5_hasProject_12 : decode cX5_hasProject 12 = .ok (.iaload, 1) := by decide +kernel
theorem dX5_hasProject_13 : decode cX5_hasProject 13 = .ok (.ifCond .le 7, 3) := by decide +kernel
theorem dX5_hasProject_16 : decode cX5_hasProject 16 = .ok (.iconst 1, 1) := by decide +kernel
theorem dX5_hasProject_17 : decode cX5_hasProject 17 = .ok (.goto 4, 3) := by decide +kernel
theorem dX5_hasProject_20 : decode cX5_hasProject 20 = .ok (.iconst 0, 1) := by decide +kernel
theorem dX5_hasProject_21 : decode cX5_hasProject 21 = .ok (.ireturn, 1) := by decide +kernel
set_option maxRecDepth 20000 in
theorem ggX5_hasVoter_X6_isVoterNumber : GoodIn wsX5_hasVoter wsX6_isVoterNumber := goodIn_r _ [4] (by decide +kernel) (by decide +kernel)
set_option maxRecDepth 20000 in
theorem gX5_hasVoter_X6_isVoterNumber_n26 : GoodIn wsX5_hasVoter (wsX6_isVoterNumber) := ggX5_hasVoter_X6_isVoterNumber
theorem dX5_hasVoter_0 : decode cX5_hasVoter 0 = .ok (.iload_n 1, 1) := by decide +kernel
theorem dX5_hasVoter_1 : decode cX5_hasVoter 1 = .ok (.invokestatic 26, 3) := by decide +kernel
theorem dX5_hasVoter_4 : decode cX5_hasVoter 4 = .ok (.ifCond .eq 20, 3) := by decide +kernel
theorem dX5_hasVoter_7 : decode cX5_hasVoter 7 = .ok (.aload_n 0, 1) := by decide +kernel
theorem dX5_hasVoter_8 : decode cX5_hasVoter 8 = .ok (.getfield 29, 3) := by decide +kernel
theorem dX5_hasVoter_11 : decode cX5_hasVoter 11 = .ok (.iload_n 1, 1) := by decide +kernel
theorem dX5_hasVoter_12 : decode cX5_hasVoter 12 = .ok (.lshr, 1) := by decide +kernel
theorem dX5_hasVoter_13 : decode cX5_hasVoter 13 = .ok (.lconst 1, 1) := by decide +kernel
theorem dX5_hasVoter_14 : decode cX5_hasVoter 14 = .ok (.land, 1) := by decide +kernel
theorem dX5_hasVoter_15 : decode cX5_hasVoter 15 = .ok (.lconst 0, 1) := by decide +kernel
theorem dX5_hasVoter_16 : decode cX5_hasVoter 16 = .ok (.lcmp, 1) := by decide +kernel
theorem dX5_hasVoter_17 : decode cX5_hasVoter 17 = .ok (.ifCond .eq 7, 3) := by decide +kernel
theorem dX5_hasVoter_20 : decode cX5_hasVoter 20 = .ok (.iconst 1, 1) := by decide +kernel
theorem dX5_hasVoter_21 : decode cX5_hasVoter 21 = .ok (.goto 4, 3) := by decide +kernel
theorem dX5_hasVoter_24 : decode cX5_hasVoter 24 = .ok (.iconst 0, 1) := by decide +kernel
theorem dX5_hasVoter_25 : decode cX5_hasVoter 25 = .ok (.ireturn, 1) := by decide +kernel
theorem dX5_approves_0 : decode cX5_approves 0 = .ok (.aload_n 0, 1) := by decide +kernel
theorem dX5_approves_1 : decode cX5_approves 1 = .ok (.getfield 15, 3) := by decide +kernel
theorem dX5_approves_4 : decode cX5_approves 4 = .ok (.iload_n 1, 1) := by decide +kernel
theorem dX5_approves_5 : decode cX5_approves 5 = .ok (.iaload, 1) := by decide +kernel
theorem dX5_approves_6 : decode cX5_approves 6 = .ok (.iload_n 2, 1) := by decide +kernel
theorem dX5_approves_7 : decode cX5_approves 7 = .ok (.ishr, 1) := by decide +kernel
theorem dX5_approves_8 : decode cX5_approves 8 = .ok (.iconst 1, 1) := by decide +kernel
theorem dX5_approves_9 : decode cX5_approves 9 = .ok (.iand, 1) := by decide +kernel
theorem dX5_approves_10 : decode cX5_approves 10 = .ok (.ifCond .eq 7, 3) := by decide +kernel
theorem dX5_approves_13 : decode cX5_approves 13 = .ok (.iconst 1, 1) := by decide +kernel
theorem dX5_approves_14 : decode cX5_approves 14 = .ok (.goto 4, 3) := by decide +kernel
theorem dX5_approves_17 : decode cX5_approves 17 = .ok (.iconst 0, 1) := by decide +kernel
theorem dX5_approves_18 : decode cX5_approves 18 = .ok (.ireturn, 1) := by decide +kernel
set_option maxRecDepth 20000 in
theorem ggX5_countVoters_J13_bitCount_95d88 : GoodIn wsX5_countVoters wsJ13_bitCount_95d88 := goodIn_r _ [5, 6, 7, 8] (by decide +kernel) (by decide +kernel)
set_option maxRecDepth 20000 in
theorem gX5_countVoters_J13_bitCount_95d88 : GoodIn wsX5_countVoters (va_wsS RX5 33 yJ13_bitCount_95d88 wsJ13_bitCount_95d88) := goodIn_app (goodIn_of _ (by decide +kernel)) ggX5_countVoters_J13_bitCount_95d88
theorem dX5_countVoters_0 : decode cX5_countVoters 0 = .ok (.aload_n 0, 1) := by decide +kernel
theorem dX5_countVoters_1 : decode cX5_countVoters 1 = .ok (.getfield 29, 3) := by decide +kernel
theorem dX5_countVoters_4 : decode cX5_countVoters 4 = .ok (.invokestatic 33, 3) := by decide +kernel
theorem dX5_countVoters_7 : decode cX5_countVoters 7 = .ok (.ireturn, 1) := by decide +kernel
theorem dX5_allProjects_0 : decode cX5_allProjects 0 = .ok (.iconst 0, 1) := by decide +kernel
theorem dX5_allProjects_1 : decode cX5_allProjects 1 = .ok (.istore_n 1, 1) := by decide +kernel
theorem dX5_allProjects_2 : decode cX5_allProjects 2 = .ok (.iconst 0, 1) := by decide +kernel
theorem dX5_allProjects_3 : decode cX5_allProjects 3 = .ok (.istore_n 2, 1) := by decide +kernel
theorem dX5_allProjects_4 : decode cX5_allProjects 4 = .ok (.iload_n 2, 1) := by decide +kernel
theorem dX5_allProjects_5 : decode cX5_allProjects 5 = .ok (.bipush 16, 2) := by decide +kernel
theorem dX5_allProjects_7 : decode cX5_allProjects 7 = .ok (.if_icmp .ge 24, 3) := by decide +kernel
theorem dX5_allProjects_10 : decode cX5_allProjects 10 = .ok (.aload_n 0, 1) := by decide +kernel
theorem dX5_allProjects_11 : decode cX5_allProjects 11 = .ok (.getfield 9, 3) := by decide +kernel
theorem dX5_allProjects_14 : decode cX5_allProjects 14 = .ok (.iload_n 2, 1) := by decide +kernel
theorem dX5_allProjects_15 : decode cX5_allProjects 15 = .ok (.iaload, 1) := by decide +kernel
theorem dX5_allProjects_16 : decode cX5_allProjects 16 = .ok (.ifCond .le 9, 3) := by decide +kernel
theorem dX5_allProjects_19 : decode cX5_allProjects 19 = .ok (.iload_n 1, 1) := by decide +kernel
theorem dX5_allProjects_20 : decode cX5_allProjects 20 = .ok (.iconst 1, 1) := by decide +kernel
theorem dX5_allProjects_21 : decode cX5_allProjects 21 = .ok (.iload_n 2, 1) := by decide +kernel
theorem dX5_allProjects_22 : decode cX5_allProjects 22 = .ok (.ishl, 1) := by decide +kernel
theorem dX5_allProjects_23 : decode cX5_allProjects 23 = .ok (.ior, 1) := by decide +kernel
theorem dX5_allProjects_24 : decode cX5_allProjects 24 = .ok (.istore_n 1, 1) := by decide +kernel
theorem dX5_allProjects_25 : decode cX5_allProjects 25 = .ok (.iinc 2 1, 3) := by decide +kernel
theorem dX5_allProjects_28 : decode cX5_allProjects 28 = .ok (.goto (-24), 3) := by decide +kernel
theorem dX5_allProjects_31 : decode cX5_allProjects 31 = .ok (.iload_n 1, 1) := by decide +kernel
theorem dX5_allProjects_32 : decode cX5_allProjects 32 = .ok (.ireturn, 1) := by decide +kernel
theorem dX5_costOf_0 : decode cX5_costOf 0 = .ok (.iconst 0, 1) := by decide +kernel
theorem dX5_costOf_1 : decode cX5_costOf 1 = .ok (.istore_n 2, 1) := by decide +kernel
theorem dX5_costOf_2 : decode cX5_costOf 2 = .ok (.iconst 0, 1) := by decide +kernel
theorem dX5_costOf_3 : decode cX5_costOf 3 = .ok (.istore_n 3, 1) := by decide +kernel
theorem dX5_costOf_4 : decode cX5_costOf 4 = .ok (.iload_n 3, 1) := by decide +kernel
theorem dX5_costOf_5 : decode cX5_costOf 5 = .ok (.bipush 16, 2) := by decide +kernel
theorem dX5_costOf_7 : decode cX5_costOf 7 = .ok (.if_icmp .ge 26, 3) := by decide +kernel
theorem dX5_costOf_10 : decode cX5_costOf 10 = .ok (.iload_n 1, 1) := by decide +kernel
theorem dX5_costOf_11 : decode cX5_costOf 11 = .ok (.iload_n 3, 1) := by decide +kernel
theorem dX5_costOf_12 : decode cX5_costOf 12 = .ok (.ishr, 1) := by decide +kernel
theorem dX5_costOf_13 : decode cX5_costOf 13 = .ok (.iconst 1, 1) := by decide +kernel
theorem dX5_costOf_14 : decode cX5_costOf 14 = .ok (.iand, 1) := by decide +kernel
theorem dX5_costOf_15 : decode cX5_costOf 15 = .ok (.ifCond .eq 12, 3) := by decide +kernel
theorem dX5_costOf_18 : decode cX5_costOf 18 = .ok (.iload_n 2, 1) := by decide +kernel
theorem dX5_costOf_19 : decode cX5_costOf 19 = .ok (.aload_n 0, 1) := by decide +kernel
theorem dX5_costOf_20 : decode cX5_costOf 20 = .ok (.getfield 9, 3) := by decide +kernel
theorem dX5_costOf_23 : decode cX5_costOf 23 = .ok (.iload_n 3, 1) := by decide +kernel
theorem dX5_costOf_24 : decode cX5_costOf 24 = .ok (.iaload, 1) := by decide +kernel
theorem dX5_costOf_25 : decode cX5_costOf 25 = .ok (.iadd, 1) := by decide +kernel
theorem dX5_costOf_26 : decode cX5_costOf 26 = .ok (.istore_n 2, 1) := by decide +kernel
theorem dX5_costOf_27 : decode cX5_costOf 27 = .ok (.iinc 3 1, 3) := by decide +kernel
theorem dX5_costOf_30 : decode cX5_costOf 30 = .ok (.goto (-26), 3) := by decide +kernel
theorem dX5_costOf_33 : decode cX5_costOf 33 = .ok (.iload_n 2, 1) := by decide +kernel
theorem dX5_costOf_34 : decode cX5_costOf 34 = .ok (.ireturn, 1) := by decide +kernel
theorem dX5_copy_0 : decode cX5_copy 0 = .ok (.aload_n 1, 1) := by decide +kernel
theorem dX5_copy_1 : decode cX5_copy 1 = .ok (.getfield 9, 3) := by decide +kernel
theorem dX5_copy_4 : decode cX5_copy 4 = .ok (.iconst 0, 1) := by decide +kernel
theorem dX5_copy_5 : decode cX5_copy 5 = .ok (.aload_n 0, 1) := by decide +kernel
theorem dX5_copy_6 : decode cX5_copy 6 = .ok (.getfield 9, 3) := by decide +kernel
theorem dX5_copy_9 : decode cX5_copy 9 = .ok (.iconst 0, 1) := by decide +kernel
theorem dX5_copy_10 : decode cX5_copy 10 = .ok (.bipush 16, 2) := by decide +kernel
theorem dX5_copy_12 : decode cX5_copy 12 = .ok (.invokestatic 39, 3) := by decide +kernel
theorem dX5_copy_15 : decode cX5_copy 15 = .ok (.aload_n 1, 1) := by decide +kernel
theorem dX5_copy_16 : decode cX5_copy 16 = .ok (.getfield 15, 3) := by decide +kernel
theorem dX5_copy_19 : decode cX5_copy 19 = .ok (.iconst 0, 1) := by decide +kernel
theorem dX5_copy_20 : decode cX5_copy 20 = .ok (.aload_n 0, 1) := by decide +kernel
theorem dX5_copy_21 : decode cX5_copy 21 = .ok (.getfield 15, 3) := by decide +kernel
theorem dX5_copy_24 : decode cX5_copy 24 = .ok (.iconst 0, 1) := by decide +kernel
theorem dX5_copy_25 : decode cX5_copy 25 = .ok (.bipush 48, 2) := by decide +kernel
theorem dX5_copy_27 : decode cX5_copy 27 = .ok (.invokestatic 39, 3) := by decide +kernel
theorem dX5_copy_30 : decode cX5_copy 30 = .ok (.aload_n 0, 1) := by decide +kernel
theorem dX5_copy_31 : decode cX5_copy 31 = .ok (.aload_n 1, 1) := by decide +kernel
theorem dX5_copy_32 : decode cX5_copy 32 = .ok (.getfield 29, 3) := by decide +kernel
theorem dX5_copy_35 : decode cX5_copy 35 = .ok (.putfield 29, 3) := by decide +kernel
theorem dX5_copy_38 : decode cX5_copy 38 = .ok (.aload_n 0, 1) := by decide +kernel
theorem dX5_copy_39 : decode cX5_copy 39 = .ok (.aload_n 1, 1) := by decide +kernel
theorem dX5_copy_40 : decode cX5_copy 40 = .ok (.getfield 18, 3) := by decide +kernel
theorem dX5_copy_43 : decode cX5_copy 43 = .ok (.putfield 18, 3) := by decide +kernel
theorem dX5_copy_46 : decode cX5_copy 46 = .ok (.return_, 1) := by decide +kernel
theorem dX6_isProjectNumber_0 : decode cX6_isProjectNumber 0 = .ok (.iload_n 0, 1) := by decide +kernel
theorem dX6_isProjectNumber_1 : decode cX6_isProjectNumber 1 = .ok (.ifCond .lt 13, 3) := by decide +kernel
theorem dX6_isProjectNumber_4 : decode cX6_isProjectNumber 4 = .ok (.iload_n 0, 1) := by decide +kernel
theorem dX6_isProjectNumber_5 : decode cX6_isProjectNumber 5 = .ok (.bipush 16, 2) := by decide +kernel
theorem dX6_isProjectNumber_7 : decode cX6_isProjectNumber 7 = .ok (.if_icmp .ge 7, 3) := by decide +kernel
theorem dX6_isProjectNumber_10 : decode cX6_isProjectNumber 10 = .ok (.iconst 1, 1) := by decide +kernel
theorem dX6_isProjectNumber_11 : decode cX6_isProjectNumber 11 = .ok (.goto 4, 3) := by decide +kernel
theorem dX6_isProjectNumber_14 : decode cX6_isProjectNumber 14 = .ok (.iconst 0, 1) := by decide +kernel
theorem dX6_isProjectNumber_15 : decode cX6_isProjectNumber 15 = .ok (.ireturn, 1) := by decide +kernel
theorem dX6_isVoterNumber_0 : decode cX6_isVoterNumber 0 = .ok (.iload_n 0, 1) := by decide +kernel
theorem dX6_isVoterNumber_1 : decode cX6_isVoterNumber 1 = .ok (.ifCond .lt 13, 3) := by decide +kernel
theorem dX6_isVoterNumber_4 : decode cX6_isVoterNumber 4 = .ok (.iload_n 0, 1) := by decide +kernel
theorem dX6_isVoterNumber_5 : decode cX6_isVoterNumber 5 = .ok (.bipush 48, 2) := by decide +kernel
theorem dX6_isVoterNumber_7 : decode cX6_isVoterNumber 7 = .ok (.if_icmp .ge 7, 3) := by decide +kernel
theorem dX6_isVoterNumber_10 : decode cX6_isVoterNumber 10 = .ok (.iconst 1, 1) := by decide +kernel
theorem dX6_isVoterNumber_11 : decode cX6_isVoterNumber 11 = .ok (.goto 4, 3) := by decide +kernel
theorem dX6_isVoterNumber_14 : decode cX6_isVoterNumber 14 = .ok (.iconst 0, 1) := by decide +kernel
theorem dX6_isVoterNumber_15 : decode cX6_isVoterNumber 15 = .ok (.ireturn, 1) := by decide +kernel
