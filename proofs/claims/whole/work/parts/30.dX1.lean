set_option maxRecDepth 20000 in
theorem ggX1_init_X0_init : GoodIn wsX1_init wsX0_init := goodIn_r _ [23, 24, 2, 3, 10, 25, 33] (by decide +kernel) (by decide +kernel)
set_option maxRecDepth 20000 in
theorem gX1_init_X0_init_n11 : GoodIn wsX1_init (wsX0_init) := ggX1_init_X0_init
set_option maxRecDepth 20000 in
theorem ggX1_init_X3_init : GoodIn wsX1_init wsX3_init := goodIn_r _ [27, 28, 2, 3, 29, 5, 6, 30, 31, 32, 22, 23, 24, 10, 25, 33, 50, 51, 52, 53] (by decide +kernel) (by decide +kernel)
set_option maxRecDepth 20000 in
theorem gX1_init_X3_init_n43 : GoodIn wsX1_init (wsX3_init) := ggX1_init_X3_init
theorem dX1_init_0 : decode cX1_init 0 = .ok (.aload_n 0, 1) := by decide +kernel
theorem dX1_init_1 : decode cX1_init 1 = .ok (.invokespecial 3, 3) := by decide +kernel
theorem dX1_init_4 : decode cX1_init 4 = .ok (.aload_n 0, 1) := by decide +kernel
theorem dX1_init_5 : decode cX1_init 5 = .ok (.new 9, 3) := by decide +kernel
theorem dX1_init_8 : decode cX1_init 8 = .ok (.dup, 1) := by decide +kernel
theorem dX1_init_9 : decode cX1_init 9 = .ok (.invokespecial 11, 3) := by decide +kernel
theorem dX1_init_12 : decode cX1_init 12 = .ok (.putfield 12, 3) := by decide +kernel
theorem dX1_init_15 : decode cX1_init 15 = .ok (.aload_n 0, 1) := by decide +kernel
theorem dX1_init_16 : decode cX1_init 16 = .ok (.bipush 48, 2) := by decide +kernel
theorem dX1_init_18 : decode cX1_init 18 = .ok (.anewarray 9, 3) := by decide +kernel
theorem dX1_init_21 : decode cX1_init 21 = .ok (.putfield 18, 3) := by decide +kernel
theorem dX1_init_24 : decode cX1_init 24 = .ok (.aload_n 0, 1) := by decide +kernel
theorem dX1_init_25 : decode cX1_init 25 = .ok (.bipush 48, 2) := by decide +kernel
theorem dX1_init_27 : decode cX1_init 27 = .ok (.anewarray 9, 3) := by decide +kernel
theorem dX1_init_30 : decode cX1_init 30 = .ok (.putfield 22, 3) := by decide +kernel
theorem dX1_init_33 : decode cX1_init 33 = .ok (.aload_n 0, 1) := by decide +kernel
theorem dX1_init_34 : decode cX1_init 34 = .ok (.bipush 48, 2) := by decide +kernel
theorem dX1_init_36 : decode cX1_init 36 = .ok (.newarray .int, 2) := by decide +kernel
theorem dX1_init_38 : decode cX1_init 38 = .ok (.putfield 25, 3) := by decide +kernel
theorem dX1_init_41 : decode cX1_init 41 = .ok (.aload_n 0, 1) := by decide +kernel
theorem dX1_init_42 : decode cX1_init 42 = .ok (.bipush 48, 2) := by decide +kernel
theorem dX1_init_44 : decode cX1_init 44 = .ok (.newarray .int, 2) := by decide +kernel
theorem dX1_init_46 : decode cX1_init 46 = .ok (.putfield 29, 3) := by decide +kernel
theorem dX1_init_49 : decode cX1_init 49 = .ok (.aload_n 0, 1) := by decide +kernel
theorem dX1_init_50 : decode cX1_init 50 = .ok (.bipush 16, 2) := by decide +kernel
theorem dX1_init_52 : decode cX1_init 52 = .ok (.newarray .int, 2) := by decide +kernel
theorem dX1_init_54 : decode cX1_init 54 = .ok (.putfield 32, 3) := by decide +kernel
theorem dX1_init_57 : decode cX1_init 57 = .ok (.aload_n 0, 1) := by decide +kernel
theorem dX1_init_58 : decode cX1_init 58 = .ok (.bipush 16, 2) := by decide +kernel
theorem dX1_init_60 : decode cX1_init 60 = .ok (.anewarray 9, 3) := by decide +kernel
theorem dX1_init_63 : decode cX1_init 63 = .ok (.putfield 35, 3) := by decide +kernel
theorem dX1_init_66 : decode cX1_init 66 = .ok (.aload_n 0, 1) := by decide +kernel
theorem dX1_init_67 : decode cX1_init 67 = .ok (.bipush 16, 2) := by decide +kernel
theorem dX1_init_69 : decode cX1_init 69 = .ok (.anewarray 9, 3) := by decide +kernel
theorem dX1_init_72 : decode cX1_init 72 = .ok (.putfield 38, 3) := by decide +kernel
theorem dX1_init_75 : decode cX1_init 75 = .ok (.aload_n 0, 1) := by decide +kernel
theorem dX1_init_76 : decode cX1_init 76 = .ok (.new 41, 3) := by decide +kernel
theorem dX1_init_79 : decode cX1_init 79 = .ok (.dup, 1) := by decide +kernel
theorem dX1_init_80 : decode cX1_init 80 = .ok (.invokespecial 43, 3) := by decide +kernel
theorem dX1_init_83 : decode cX1_init 83 = .ok (.putfield 44, 3) := by decide +kernel
theorem dX1_init_86 : decode cX1_init 86 = .ok (.aload_n 0, 1) := by decide +kernel
theorem dX1_init_87 : decode cX1_init 87 = .ok (.new 41, 3) := by decide +kernel
theorem dX1_init_90 : decode cX1_init 90 = .ok (.dup, 1) := by decide +kernel
theorem dX1_init_91 : decode cX1_init 91 = .ok (.invokespecial 43, 3) := by decide +kernel
theorem dX1_init_94 : decode cX1_init 94 = .ok (.putfield 48, 3) := by decide +kernel
theorem dX1_init_97 : decode cX1_init 97 = .ok (.aload_n 0, 1) := by decide +kernel
theorem dX1_init_98 : decode cX1_init 98 = .ok (.aload_n 1, 1) := by decide +kernel
theorem dX1_init_99 : decode cX1_init 99 = .ok (.putfield 51, 3) := by decide +kernel
theorem dX1_init_102 : decode cX1_init 102 = .ok (.iconst 0, 1) := by decide +kernel
theorem dX1_init_103 : decode cX1_init 103 = .ok (.istore_n 2, 1) := by decide +kernel
theorem dX1_init_104 : decode cX1_init 104 = .ok (.iload_n 2, 1) := by decide +kernel
theorem dX1_init_105 : decode cX1_init 105 = .ok (.bipush 48, 2) := by decide +kernel
theorem dX1_init_107 : decode cX1_init 107 = .ok (.if_icmp .ge 35, 3) := by decide +kernel
theorem dX1_init_110 : decode cX1_init 110 = .ok (.aload_n 0, 1) := by decide +kernel
theorem dX1_init_111 : decode cX1_init 111 = .ok (.getfield 18, 3) := by decide +kernel
theorem dX1_init_114 : decode cX1_init 114 = .ok (.iload_n 2, 1) := by decide +kernel
theorem dX1_init_115 : decode cX1_init 115 = .ok (.new 9, 3) := by decide +kernel
theorem dX1_init_118 : decode cX1_init 118 = .ok (.dup, 1) := by decide +kernel
theorem dX1_init_119 : decode cX1_init 119 = .ok (.invokespecial 11, 3) := by decide +kernel
theorem dX1_init_122 : decode cX1_init 122 = .ok (.aastore, 1) := by decide +kernel
theorem dX1_init_123 : decode cX1_init 123 = .ok (.aload_n 0, 1) := by decide +kernel
theorem dX1_init_124 : decode cX1_init 124 = .ok (.getfield 22, 3) := by decide +kernel
theorem dX1_init_127 : decode cX1_init 127 = .ok (.iload_n 2, 1) := by decide +kernel
theorem dX1_init_128 : decode cX1_init 128 = .ok (.new 9, 3) := by decide +kernel
theorem dX1_init_131 : decode cX1_init 131 = .ok (.dup, 1) := by decide +kernel
theorem dX1_init_132 : decode cX1_init 132 = .ok (.invokespecial 11, 3) := by decide +kernel
theorem dX1_init_135 : decode cX1_init 135 = .ok (.aastore, 1) := by decide +kernel
theorem dX1_init_136 : decode cX1_init 136 = .ok (.iinc 2 1, 3) := by decide +kernel
theorem dX1_init_139 : decode cX1_init 139 = .ok (.goto (-35), 3) := by decide +kernel
theorem dX1_init_142 : decode cX1_init 142 = .ok (.iconst 0, 1) := by decide +kernel
theorem dX1_init_143 : decode cX1_init 143 = .ok (.istore_n 2, 1) := by decide +kernel
theorem dX1_init_144 : decode cX1_init 144 = .ok (.iload_n 2, 1) := by decide +kernel
theorem dX1_init_145 : decode cX1_init 145 = .ok (.bipush 16, 2) := by decide +kernel
theorem dX1_init_147 : decode cX1_init 147 = .ok (.if_icmp .ge 35, 3) := by decide +kernel
theorem dX1_init_150 : decode cX1_init 150 = .ok (.aload_n 0, 1) := by decide +kernel
theorem dX1_init_151 : decode cX1_init 151 = .ok (.getfield 35, 3) := by decide +kernel
theorem dX1_init_154 : decode cX1_init 154 = .ok (.iload_n 2, 1) := by decide +kernel
theorem dX1_init_155 : decode cX1_init 155 = .ok (.new 9, 3) := by decide +kernel
theorem dX1_init_158 : decode cX1_init 158 = .ok (.dup, 1) := by decide +kernel
theorem dX1_init_159 : decode cX1_init 159 = .ok (.invokespecial 11, 3) := by decide +kernel
theorem dX1_init_162 : decode cX1_init 162 = .ok (.aastore, 1) := by decide +kernel
theorem dX1_init_163 : decode cX1_init 163 = .ok (.aload_n 0, 1) := by decide +kernel
theorem dX1_init_164 : decode cX1_init 164 = .ok (.getfield 38, 3) := by decide +kernel
theorem dX1_init_167 : decode cX1_init 167 = .ok (.iload_n 2, 1) := by decide +kernel
theorem dX1_init_168 : decode cX1_init 168 = .ok (.new 9, 3) := by decide +kernel
theorem dX1_init_171 : decode cX1_init 171 = .ok (.dup, 1) := by decide +kernel
theorem dX1_init_172 : decode cX1_init 172 = .ok (.invokespecial 11, 3) := by decide +kernel
theorem dX1_init_175 : decode cX1_init 175 = .ok (.aastore, 1) := by decide +kernel
theorem dX1_init_176 : decode cX1_init 176 = .ok (.iinc 2 1, 3) := by decide +kernel
theorem dX1_init_179 : decode cX1_init 179 = .ok (.goto (-35), 3) := by decide +kernel
theorem dX1_init_182 : decode cX1_init 182 = .ok (.return_, 1) := by decide +kernel
set_option maxRecDepth 20000 in
theorem ggX1_play_X1_fillPurses : GoodIn wsX1_play wsX1_fillPurses := goodIn_r _ [10, 4, 11, 12, 13, 14, 15, 16, 17, 18, 19, 20, 21, 22, 23, 24, 25, 26, 27, 28, 29, 30, 31, 32, 33, 34, 35, 36, 37, 38, 39, 40, 41, 42, 43, 44, 45, 46, 47, 48, 49, 50, 147, 148, 149, 150, 151, 152, 153, 154, 155, 156, 157, 158, 159, 160, 161, 162, 163, 164, 165, 166, 167] (by decide +kernel) (by decide +kernel)
set_option maxRecDepth 20000 in
theorem gX1_play_X1_fillPurses : GoodIn wsX1_play (wsV RX1 55 RX1 yX1_fillPurses wsX1_fillPurses) := goodIn_app (goodIn_of _ (by decide +kernel)) ggX1_play_X1_fillPurses
set_option maxRecDepth 20000 in
theorem ggX1_play_X5_allProjects : GoodIn wsX1_play wsX5_allProjects := goodIn_r _ [54, 55, 163, 164, 165, 166] (by decide +kernel) (by decide +kernel)
set_option maxRecDepth 20000 in
theorem gX1_play_X5_allProjects : GoodIn wsX1_play (wsV RX1 69 RX5 yX5_allProjects wsX5_allProjects) := goodIn_app (goodIn_of _ (by decide +kernel)) ggX1_play_X5_allProjects
set_option maxRecDepth 20000 in
theorem ggX1_play_X1_overspends : GoodIn wsX1_play wsX1_overspends := goodIn_r _ [59, 3, 4, 19, 147, 148, 149, 150, 151, 152, 153, 154, 155, 156, 157, 158, 159, 160, 161, 162, 163, 164, 165, 166] (by decide +kernel) (by decide +kernel)
set_option maxRecDepth 20000 in
theorem gX1_play_X1_overspends : GoodIn wsX1_play (wsV RX1 78 RX1 yX1_overspends wsX1_overspends) := goodIn_app (goodIn_of _ (by decide +kernel)) ggX1_play_X1_overspends
set_option maxRecDepth 20000 in
theorem ggX1_play_X1_findCheapest : GoodIn wsX1_play wsX1_findCheapest := goodIn_r _ [63, 5, 64, 65, 66, 9, 67, 68, 69, 11, 4, 70, 71, 16, 20, 18, 72, 73, 74, 37, 75, 39, 76, 77, 78, 79, 80, 81, 82, 83, 84, 85, 86, 87, 88, 89, 90, 91, 24, 92, 93, 94, 95, 96, 97, 98, 99, 100, 101, 102, 103, 104, 105, 106, 107, 108, 109, 110, 111, 112, 113, 114, 115, 116, 117, 118, 119, 120, 121, 122, 123, 124, 125, 147, 148, 149, 150, 151, 152, 153, 154, 155, 156, 157, 158, 159, 160, 161, 162, 168, 169, 170, 171, 163, 164, 165, 166, 167] (by decide +kernel) (by decide +kernel)
set_option maxRecDepth 20000 in
theorem gX1_play_X1_findCheapest : GoodIn wsX1_play (wsV RX1 82 RX1 yX1_findCheapest wsX1_findCheapest) := goodIn_app (goodIn_of _ (by decide +kernel)) ggX1_play_X1_findCheapest
set_option maxRecDepth 20000 in
theorem ggX1_play_X1_pay : GoodIn wsX1_play wsX1_pay := goodIn_r _ [129, 11, 116, 71, 130, 131, 69, 16, 20, 18, 4, 132, 1, 2, 3, 70, 5, 80, 81, 82, 37, 83, 39, 84, 72, 73, 74, 75, 76, 77, 78, 79, 89, 90, 91, 24, 92, 93, 133, 134, 135, 9, 136, 137, 17, 138, 105, 106, 107, 108, 109, 110, 111, 34, 35, 36, 38, 40, 41, 42, 43, 139, 140, 141, 142, 147, 148, 149, 150, 151, 152, 153, 154, 155, 156, 157, 158, 159, 160, 161, 162, 168, 169, 170, 171, 163, 164, 165, 166, 167] (by decide +kernel) (by decide +kernel)
set_option maxRecDepth 20000 in
theorem gX1_play_X1_pay : GoodIn wsX1_play (wsV RX1 85 RX1 yX1_pay wsX1_pay) := goodIn_app (goodIn_of _ (by decide +kernel)) ggX1_play_X1_pay
set_option maxRecDepth 20000 in
theorem ggX1_play_X1_sortPayers : GoodIn wsX1_play wsX1_sortPayers := goodIn_r _ [146, 16, 20, 18, 138, 105, 106, 37, 107, 39, 84, 147, 148, 149, 150, 151, 152, 153, 154, 155, 156, 157, 158, 159, 160, 161, 162, 167] (by decide +kernel) (by decide +kernel)
set_option maxRecDepth 20000 in
theorem gX1_play_X1_sortPayers : GoodIn wsX1_play (wsV RX1 89 RX1 yX1_sortPayers wsX1_sortPayers) := goodIn_app (goodIn_of _ (by decide +kernel)) ggX1_play_X1_sortPayers
theorem dX1_play_0 : decode cX1_play 0 = .ok (.aload_n 0, 1) := by decide +kernel
theorem dX1_play_1 : decode cX1_play 1 = .ok (.iload_n 1, 1) := by decide +kernel
theorem dX1_play_2 : decode cX1_play 2 = .ok (.invokevirtual 55, 3) := by decide +kernel
theorem dX1_play_5 : decode cX1_play 5 = .ok (.aload_n 0, 1) := by decide +kernel
theorem dX1_play_6 : decode cX1_play 6 = .ok (.iconst 0, 1) := by decide +kernel
theorem dX1_play_7 : decode cX1_play 7 = .ok (.putfield 59, 3) := by decide +kernel
theorem dX1_play_10 : decode cX1_play 10 = .ok (.aload_n 0, 1) := by decide +kernel
theorem dX1_play_11 : decode cX1_play 11 = .ok (.iconst 0, 1) := by decide +kernel
theorem dX1_play_12 : decode cX1_play 12 = .ok (.putfield 63, 3) := by decide +kernel
theorem dX1_play_15 : decode cX1_play 15 = .ok (.aload_n 0, 1) := by decide +kernel
theorem dX1_play_16 : decode cX1_play 16 = .ok (.iconst 0, 1) := by decide +kernel
theorem dX1_play_17 : decode cX1_play 17 = .ok (.putfield 66, 3) := by decide +kernel
theorem dX1_play_20 : decode cX1_play 20 = .ok (.aload_n 0, 1) := by decide +kernel
theorem dX1_play_21 : decode cX1_play 21 = .ok (.aload_n 0, 1) := by decide +kernel
theorem dX1_play_22 : decode cX1_play 22 = .ok (.getfield 51, 3) := by decide +kernel
theorem dX1_play_25 : decode cX1_play 25 = .ok (.invokevirtual 69, 3) := by decide +kernel
theorem dX1_play_28 : decode cX1_play 28 = .ok (.putfield 75, 3) := by decide +kernel
theorem dX1_play_31 : decode cX1_play 31 = .ok (.iconst 0, 1) := by decide +kernel
theorem dX1_play_32 : decode cX1_play 32 = .ok (.istore_n 2, 1) := by decide +kernel
theorem dX1_play_33 : decode cX1_play 33 = .ok (.iload_n 2, 1) := by decide +kernel
theorem dX1_play_34 : decode cX1_play 34 = .ok (.bipush 16, 2) := by decide +kernel
theorem dX1_play_36 : decode cX1_play 36 = .ok (.if_icmp .ge 39, 3) := by decide +kernel
theorem dX1_play_39 : decode cX1_play 39 = .ok (.aload_n 0, 1) := by decide +kernel
theorem dX1_play_40 : decode cX1_play 40 = .ok (.invokevirtual 78, 3) := by decide +kernel
theorem dX1_play_43 : decode cX1_play 43 = .ok (.ifCond .ne 32, 3) := by decide +kernel
theorem dX1_play_46 : decode cX1_play 46 = .ok (.aload_n 0, 1) := by decide +kernel
theorem dX1_play_47 : decode cX1_play 47 = .ok (.invokevirtual 82, 3) := by decide +kernel
theorem dX1_play_50 : decode cX1_play 50 = .ok (.istore_n 3, 1) := by decide +kernel
theorem dX1_play_51 : decode cX1_play 51 = .ok (.iload_n 3, 1) := by decide +kernel
theorem dX1_play_52 : decode cX1_play 52 = .ok (.iconst (-1), 1) := by decide +kernel
theorem dX1_play_53 : decode cX1_play 53 = .ok (.if_icmp .ne 6, 3) := by decide +kernel
theorem dX1_play_56 : decode cX1_play 56 = .ok (.goto 19, 3) := by decide +kernel
theorem dX1_play_59 : decode cX1_play 59 = .ok (.aload_n 0, 1) := by decide +kernel
theorem dX1_play_60 : decode cX1_play 60 = .ok (.iload_n 3, 1) := by decide +kernel
theorem dX1_play_61 : decode cX1_play 61 = .ok (.iload_n 2, 1) := by decide +kernel
theorem dX1_play_62 : decode cX1_play 62 = .ok (.invokevirtual 85, 3) := by decide +kernel
theorem dX1_play_65 : decode cX1_play 65 = .ok (.aload_n 0, 1) := by decide +kernel
theorem dX1_play_66 : decode cX1_play 66 = .ok (.invokevirtual 89, 3) := by decide +kernel
theorem dX1_play_69 : decode cX1_play 69 = .ok (.iinc 2 1, 3) := by decide +kernel
theorem dX1_play_72 : decode cX1_play 72 = .ok (.goto (-39), 3) := by decide +kernel
theorem dX1_play_75 : decode cX1_play 75 = .ok (.return_, 1) := by decide +kernel
theorem dX1_overspends_0 : decode cX1_overspends 0 = .ok (.aload_n 0, 1) := by decide +kernel
theorem dX1_overspends_1 : decode cX1_overspends 1 = .ok (.getfield 66, 3) := by decide +kernel
theorem dX1_overspends_4 : decode cX1_overspends 4 = .ok (.aload_n 0, 1) := by decide +kernel
theorem dX1_overspends_5 : decode cX1_overspends 5 = .ok (.getfield 51, 3) := by decide +kernel
theorem dX1_overspends_8 : decode cX1_overspends 8 = .ok (.getfield 92, 3) := by decide +kernel
theorem dX1_overspends_11 : decode cX1_overspends 11 = .ok (.if_icmp .le 7, 3) := by decide +kernel
theorem dX1_overspends_14 : decode cX1_overspends 14 = .ok (.iconst 1, 1) := by decide +kernel
theorem dX1_overspends_15 : decode cX1_overspends 15 = .ok (.goto 4, 3) := by decide +kernel
theorem dX1_overspends_18 : decode cX1_overspends 18 = .ok (.iconst 0, 1) := by decide +kernel
theorem dX1_overspends_19 : decode cX1_overspends 19 = .ok (.ireturn, 1) := by decide +kernel
theorem dX1_roundOf_0 : decode cX1_roundOf 0 = .ok (.iconst 0, 1) := by decide +kernel
theorem dX1_roundOf_1 : decode cX1_roundOf 1 = .ok (.istore_n 2, 1) := by decide +kernel
theorem dX1_roundOf_2 : decode cX1_roundOf 2 = .ok (.iload_n 2, 1) := by decide +kernel
theorem dX1_roundOf_3 : decode cX1_roundOf 3 = .ok (.aload_n 0, 1) := by decide +kernel
theorem dX1_roundOf_4 : decode cX1_roundOf 4 = .ok (.getfield 59, 3) := by decide +kernel
theorem dX1_roundOf_7 : decode cX1_roundOf 7 = .ok (.if_icmp .ge 21, 3) := by decide +kernel
theorem dX1_roundOf_10 : decode cX1_roundOf 10 = .ok (.aload_n 0, 1) := by decide +kernel
theorem dX1_roundOf_11 : decode cX1_roundOf 11 = .ok (.getfield 32, 3) := by decide +kernel
theorem dX1_roundOf_14 : decode cX1_roundOf 14 = .ok (.iload_n 2, 1) := by decide +kernel
theorem dX1_roundOf_15 : decode cX1_roundOf 15 = .ok (.iaload, 1) := by decide +kernel
theorem dX1_roundOf_16 : decode cX1_roundOf 16 = .ok (.iload_n 1, 1) := by decide +kernel
theorem dX1_roundOf_17 : decode cX1_roundOf 17 = .ok (.if_icmp .ne 5, 3) := by decide +kernel
theorem dX1_roundOf_20 : decode cX1_roundOf 20 = .ok (.iload_n 2, 1) := by decide +kernel
theorem dX1_roundOf_21 : decode cX1_roundOf 21 = .ok (.ireturn, 1) := by decide +kernel
theorem dX1_roundOf_22 : decode cX1_roundOf 22 = .ok (.iinc 2 1, 3) := by decide +kernel
theorem dX1_roundOf_25 : decode cX1_roundOf 25 = .ok (.goto (-23), 3) := by decide +kernel
theorem dX1_roundOf_28 : decode cX1_roundOf 28 = .ok (.iconst (-1), 1) := by decide +kernel
theorem dX1_roundOf_29 : decode cX1_roundOf 29 = .ok (.ireturn, 1) := by decide +kernel
set_option maxRecDepth 20000 in
theorem ggX1_payment_X5_approves : GoodIn wsX1_payment wsX5_approves := goodIn_r _ [10, 11, 28, 29, 30, 31] (by decide +kernel) (by decide +kernel)
set_option maxRecDepth 20000 in
theorem gX1_payment_X5_approves : GoodIn wsX1_payment (wsV RX1 95 RX5 yX5_approves wsX5_approves) := goodIn_app (goodIn_of _ (by decide +kernel)) ggX1_payment_X5_approves
theorem dX1_payment_0 : decode cX1_payment 0 = .ok (.iload_n 2, 1) := by decide +kernel
theorem dX1_payment_1 : decode cX1_payment 1 = .ok (.iconst (-1), 1) := by decide +kernel
theorem dX1_payment_2 : decode cX1_payment 2 = .ok (.if_icmp .eq 30, 3) := by decide +kernel
theorem dX1_payment_5 : decode cX1_payment 5 = .ok (.iload_n 2, 1) := by decide +kernel
theorem dX1_payment_6 : decode cX1_payment 6 = .ok (.aload_n 0, 1) := by decide +kernel
theorem dX1_payment_7 : decode cX1_payment 7 = .ok (.getfield 25, 3) := by decide +kernel
theorem dX1_payment_10 : decode cX1_payment 10 = .ok (.iload_n 1, 1) := by decide +kernel
theorem dX1_payment_11 : decode cX1_payment 11 = .ok (.iaload, 1) := by decide +kernel
theorem dX1_payment_12 : decode cX1_payment 12 = .ok (.if_icmp .gt 20, 3) := by decide +kernel
theorem dX1_payment_15 : decode cX1_payment 15 = .ok (.aload_n 0, 1) := by decide +kernel
theorem dX1_payment_16 : decode cX1_payment 16 = .ok (.getfield 51, 3) := by decide +kernel
theorem dX1_payment_19 : decode cX1_payment 19 = .ok (.iload_n 1, 1) := by decide +kernel
theorem dX1_payment_20 : decode cX1_payment 20 = .ok (.aload_n 0, 1) := by decide +kernel
theorem dX1_payment_21 : decode cX1_payment 21 = .ok (.getfield 32, 3) := by decide +kernel
theorem dX1_payment_24 : decode cX1_payment 24 = .ok (.iload_n 2, 1) := by decide +kernel
theorem dX1_payment_25 : decode cX1_payment 25 = .ok (.iaload, 1) := by decide +kernel
theorem dX1_payment_26 : decode cX1_payment 26 = .ok (.invokevirtual 95, 3) := by decide +kernel
theorem dX1_payment_29 : decode cX1_payment 29 = .ok (.ifCond .ne 5, 3) := by decide +kernel
theorem dX1_payment_32 : decode cX1_payment 32 = .ok (.aconst_null, 1) := by decide +kernel
theorem dX1_payment_33 : decode cX1_payment 33 = .ok (.areturn, 1) := by decide +kernel
theorem dX1_payment_34 : decode cX1_payment 34 = .ok (.iload_n 2, 1) := by decide +kernel
theorem dX1_payment_35 : decode cX1_payment 35 = .ok (.aload_n 0, 1) := by decide +kernel
theorem dX1_payment_36 : decode cX1_payment 36 = .ok (.getfield 25, 3) := by decide +kernel
theorem dX1_payment_39 : decode cX1_payment 39 = .ok (.iload_n 1, 1) := by decide +kernel
theorem dX1_payment_40 : decode cX1_payment 40 = .ok (.iaload, 1) := by decide +kernel
theorem dX1_payment_41 : decode cX1_payment 41 = .ok (.if_icmp .ne 12, 3) := by decide +kernel
theorem dX1_payment_44 : decode cX1_payment 44 = .ok (.aload_n 0, 1) := by decide +kernel
theorem dX1_payment_45 : decode cX1_payment 45 = .ok (.getfield 22, 3) := by decide +kernel
theorem dX1_payment_48 : decode cX1_payment 48 = .ok (.iload_n 1, 1) := by decide +kernel
theorem dX1_payment_49 : decode cX1_payment 49 = .ok (.aaload, 1) := by decide +kernel
theorem dX1_payment_50 : decode cX1_payment 50 = .ok (.goto 9, 3) := by decide +kernel
theorem dX1_payment_53 : decode cX1_payment 53 = .ok (.aload_n 0, 1) := by decide +kernel
theorem dX1_payment_54 : decode cX1_payment 54 = .ok (.getfield 35, 3) := by decide +kernel
theorem dX1_payment_57 : decode cX1_payment 57 = .ok (.iload_n 2, 1) := by decide +kernel
theorem dX1_payment_58 : decode cX1_payment 58 = .ok (.aaload, 1) := by decide +kernel
theorem dX1_payment_59 : decode cX1_payment 59 = .ok (.areturn, 1) := by decide +kernel
set_option maxRecDepth 20000 in
theorem ggX1_countServed_J6_bitCount_0f7a4 : GoodIn wsX1_countServed wsJ6_bitCount_0f7a4 := goodIn_r _ [7, 8, 9, 10] (by decide +kernel) (by decide +kernel)
set_option maxRecDepth 20000 in
theorem gX1_countServed_J6_bitCount_0f7a4 : GoodIn wsX1_countServed (va_wsS RX1 102 yJ6_bitCount_0f7a4 wsJ6_bitCount_0f7a4) := goodIn_app (goodIn_of _ (by decide +kernel)) ggX1_countServed_J6_bitCount_0f7a4
theorem dX1_countServed_0 : decode cX1_countServed 0 = .ok (.aload_n 0, 1) := by decide +kernel
theorem dX1_countServed_1 : decode cX1_countServed 1 = .ok (.getfield 51, 3) := by decide +kernel
theorem dX1_countServed_4 : decode cX1_countServed 4 = .ok (.getfield 99, 3) := by decide +kernel
theorem dX1_countServed_7 : decode cX1_countServed 7 = .ok (.iload_n 1, 1) := by decide +kernel
theorem dX1_countServed_8 : decode cX1_countServed 8 = .ok (.iaload, 1) := by decide +kernel
theorem dX1_countServed_9 : decode cX1_countServed 9 = .ok (.aload_n 0, 1) := by decide +kernel
theorem dX1_countServed_10 : decode cX1_countServed 10 = .ok (.getfield 63, 3) := by decide +kernel
theorem dX1_countServed_13 : decode cX1_countServed 13 = .ok (.iand, 1) := by decide +kernel
theorem dX1_countServed_14 : decode cX1_countServed 14 = .ok (.invokestatic 102, 3) := by decide +kernel
theorem dX1_countServed_17 : decode cX1_countServed 17 = .ok (.ireturn, 1) := by decide +kernel
set_option maxRecDepth 20000 in
theorem ggX1_measureLack_X0_copy : GoodIn wsX1_measureLack wsX0_copy := goodIn_r _ [11, 12, 13, 14, 15, 16, 52] (by decide +kernel) (by decide +kernel)
set_option maxRecDepth 20000 in
theorem gX1_measureLack_X0_copy : GoodIn wsX1_measureLack (wsV RX1 108 RX0 yX0_copy wsX0_copy) := goodIn_app (goodIn_of _ (by decide +kernel)) ggX1_measureLack_X0_copy
set_option maxRecDepth 20000 in
theorem ggX1_measureLack_X0_times : GoodIn wsX1_measureLack wsX0_times := goodIn_r _ [20, 12, 21, 52] (by decide +kernel) (by decide +kernel)
set_option maxRecDepth 20000 in
theorem gX1_measureLack_X0_times : GoodIn wsX1_measureLack (wsV RX1 115 RX0 yX0_times wsX0_times) := goodIn_app (goodIn_of _ (by decide +kernel)) ggX1_measureLack_X0_times
set_option maxRecDepth 20000 in
theorem ggX1_measureLack_X5_approves : GoodIn wsX1_measureLack wsX5_approves := goodIn_r _ [26, 27, 48, 49, 50, 51] (by decide +kernel) (by decide +kernel)
set_option maxRecDepth 20000 in
theorem gX1_measureLack_X5_approves : GoodIn wsX1_measureLack (wsV RX1 95 RX5 yX5_approves wsX5_approves) := goodIn_app (goodIn_of _ (by decide +kernel)) ggX1_measureLack_X5_approves
set_option maxRecDepth 20000 in
theorem ggX1_measureLack_X0_minus : GoodIn wsX1_measureLack wsX0_minus := goodIn_r _ [31, 12, 21, 52] (by decide +kernel) (by decide +kernel)
set_option maxRecDepth 20000 in
theorem gX1_measureLack_X0_minus : GoodIn wsX1_measureLack (wsV RX1 121 RX0 yX0_minus wsX0_minus) := goodIn_app (goodIn_of _ (by decide +kernel)) ggX1_measureLack_X0_minus
theorem dX1_measureLack_0 : decode cX1_measureLack 0 = .ok (.aload_n 2, 1) := by decide +kernel
theorem dX1_measureLack_1 : decode cX1_measureLack 1 = .ok (.aload_n 0, 1) := by decide +kernel
theorem dX1_measureLack_2 : decode cX1_measureLack 2 = .ok (.getfield 12, 3) := by decide +kernel
theorem dX1_measureLack_5 : decode cX1_measureLack 5 = .ok (.invokevirtual 108, 3) := by decide +kernel
theorem dX1_measureLack_8 : decode cX1_measureLack 8 = .ok (.aload_n 2, 1) := by decide +kernel
theorem dX1_measureLack_9 : decode cX1_measureLack 9 = .ok (.aload_n 0, 1) := by decide +kernel
theorem dX1_measureLack_10 : decode cX1_measureLack 10 = .ok (.getfield 51, 3) := by decide +kernel
theorem dX1_measureLack_13 : decode cX1_measureLack 13 = .ok (.getfield 112, 3) := by decide +kernel
theorem dX1_measureLack_16 : decode cX1_measureLack 16 = .ok (.iload_n 1, 1) := by decide +kernel
theorem dX1_measureLack_17 : decode cX1_measureLack 17 = .ok (.iaload, 1) := by decide +kernel
theorem dX1_measureLack_18 : decode cX1_measureLack 18 = .ok (.invokevirtual 115, 3) := by decide +kernel
theorem dX1_measureLack_21 : decode cX1_measureLack 21 = .ok (.iconst 0, 1) := by decide +kernel
theorem dX1_measureLack_22 : decode cX1_measureLack 22 = .ok (.istore_n 3, 1) := by decide +kernel
theorem dX1_measureLack_23 : decode cX1_measureLack 23 = .ok (.iload_n 3, 1) := by decide +kernel
theorem dX1_measureLack_24 : decode cX1_measureLack 24 = .ok (.aload_n 0, 1) := by decide +kernel
theorem dX1_measureLack_25 : decode cX1_measureLack 25 = .ok (.getfield 118, 3) := by decide +kernel
theorem dX1_measureLack_28 : decode cX1_measureLack 28 = .ok (.if_icmp .ge 41, 3) := by decide +kernel
theorem dX1_measureLack_31 : decode cX1_measureLack 31 = .ok (.aload_n 0, 1) := by decide +kernel
theorem dX1_measureLack_32 : decode cX1_measureLack 32 = .ok (.getfield 51, 3) := by decide +kernel
theorem dX1_measureLack_35 : decode cX1_measureLack 35 = .ok (.aload_n 0, 1) := by decide +kernel
theorem dX1_measureLack_36 : decode cX1_measureLack 36 = .ok (.getfield 29, 3) := by decide +kernel
theorem dX1_measureLack_39 : decode cX1_measureLack 39 = .ok (.iload_n 3, 1) := by decide +kernel
theorem dX1_measureLack_40 : decode cX1_measureLack 40 = .ok (.iaload, 1) := by decide +kernel
theorem dX1_measureLack_41 : decode cX1_measureLack 41 = .ok (.iload_n 1, 1) := by decide +kernel
theorem dX1_measureLack_42 : decode cX1_measureLack 42 = .ok (.invokevirtual 95, 3) := by decide +kernel
theorem dX1_measureLack_45 : decode cX1_measureLack 45 = .ok (.ifCond .eq 18, 3) := by decide +kernel
theorem dX1_measureLack_48 : decode cX1_measureLack 48 = .ok (.aload_n 2, 1) := by decide +kernel
theorem dX1_measureLack_49 : decode cX1_measureLack 49 = .ok (.aload_n 0, 1) := by decide +kernel
theorem dX1_measureLack_50 : decode cX1_measureLack 50 = .ok (.getfield 18, 3) := by decide +kernel
theorem dX1_measureLack_53 : decode cX1_measureLack 53 = .ok (.aload_n 0, 1) := by decide +kernel
theorem dX1_measureLack_54 : decode cX1_measureLack 54 = .ok (.getfield 29, 3) := by decide +kernel
theorem dX1_measureLack_57 : decode cX1_measureLack 57 = .ok (.iload_n 3, 1) := by decide +kernel
theorem dX1_measureLack_58 : decode cX1_measureLack 58 = .ok (.iaload, 1) := by decide +kernel
theorem dX1_measureLack_59 : decode cX1_measureLack 59 = .ok (.aaload, 1) := by decide +kernel
theorem dX1_measureLack_60 : decode cX1_measureLack 60 = .ok (.invokevirtual 121, 3) := by decide +kernel
theorem dX1_measureLack_63 : decode cX1_measureLack 63 = .ok (.iinc 3 1, 3) := by decide +kernel
theorem dX1_measureLack_66 : decode cX1_measureLack 66 = .ok (.goto (-43), 3) := by decide +kernel
theorem dX1_measureLack_69 : decode cX1_measureLack 69 = .ok (.return_, 1) := by decide +kernel
set_option maxRecDepth 20000 in
theorem ggX1_fillPurses_X5_countVoters : GoodIn wsX1_fillPurses wsX5_countVoters := goodIn_r _ [16, 17, 18, 19, 20, 21, 22, 23, 24, 58, 59, 60, 61] (by decide +kernel) (by decide +kernel)
set_option maxRecDepth 20000 in
theorem gX1_fillPurses_X5_countVoters : GoodIn wsX1_fillPurses (wsV RX1 124 RX5 yX5_countVoters wsX5_countVoters) := goodIn_app (goodIn_of _ (by decide +kernel)) ggX1_fillPurses_X5_countVoters
set_option maxRecDepth 20000 in
theorem ggX1_fillPurses_X0_set : GoodIn wsX1_fillPurses wsX0_set := goodIn_r _ [29, 30, 31, 32, 33, 34, 62] (by decide +kernel) (by decide +kernel)
set_option maxRecDepth 20000 in
theorem gX1_fillPurses_X0_set : GoodIn wsX1_fillPurses (wsV RX1 133 RX0 yX0_set wsX0_set) := goodIn_app (goodIn_of _ (by decide +kernel)) ggX1_fillPurses_X0_set
set_option maxRecDepth 20000 in
theorem ggX1_fillPurses_X5_hasVoter : GoodIn wsX1_fillPurses wsX5_hasVoter := goodIn_r _ [38, 17, 39, 40, 41, 58, 59, 60, 61] (by decide +kernel) (by decide +kernel)
set_option maxRecDepth 20000 in
theorem gX1_fillPurses_X5_hasVoter : GoodIn wsX1_fillPurses (wsV RX1 136 RX5 yX5_hasVoter wsX5_hasVoter) := goodIn_app (goodIn_of _ (by decide +kernel)) ggX1_fillPurses_X5_hasVoter
theorem dX1_fillPurses_0 : decode cX1_fillPurses 0 = .ok (.aload_n 0, 1) := by decide +kernel
theorem dX1_fillPurses_1 : decode cX1_fillPurses 1 = .ok (.getfield 51, 3) := by decide +kernel
theorem dX1_fillPurses_4 : decode cX1_fillPurses 4 = .ok (.invokevirtual 124, 3) := by decide +kernel
theorem dX1_fillPurses_7 : decode cX1_fillPurses 7 = .ok (.istore_n 2, 1) := by decide +kernel
theorem dX1_fillPurses_8 : decode cX1_fillPurses 8 = .ok (.aload_n 0, 1) := by decide +kernel
theorem dX1_fillPurses_9 : decode cX1_fillPurses 9 = .ok (.getfield 12, 3) := by decide +kernel
theorem dX1_fillPurses_12 : decode cX1_fillPurses 12 = .ok (.iload_n 2, 1) := by decide +kernel
theorem dX1_fillPurses_13 : decode cX1_fillPurses 13 = .ok (.iconst 1, 1) := by decide +kernel
theorem dX1_fillPurses_14 : decode cX1_fillPurses 14 = .ok (.invokestatic 127, 3) := by decide +kernel
theorem dX1_fillPurses_17 : decode cX1_fillPurses 17 = .ok (.invokevirtual 133, 3) := by decide +kernel
theorem dX1_fillPurses_20 : decode cX1_fillPurses 20 = .ok (.aload_n 0, 1) := by decide +kernel
theorem dX1_fillPurses_21 : decode cX1_fillPurses 21 = .ok (.iconst 0, 1) := by decide +kernel
theorem dX1_fillPurses_22 : decode cX1_fillPurses 22 = .ok (.putfield 118, 3) := by decide +kernel
theorem dX1_fillPurses_25 : decode cX1_fillPurses 25 = .ok (.iconst 0, 1) := by decide +kernel
theorem dX1_fillPurses_26 : decode cX1_fillPurses 26 = .ok (.istore_n 3, 1) := by decide +kernel
theorem dX1_fillPurses_27 : decode cX1_fillPurses 27 = .ok (.iload_n 3, 1) := by decide +kernel
theorem dX1_fillPurses_28 : decode cX1_fillPurses 28 = .ok (.bipush 48, 2) := by decide +kernel
theorem dX1_fillPurses_30 : decode cX1_fillPurses 30 = .ok (.if_icmp .ge 65, 3) := by decide +kernel
theorem dX1_fillPurses_33 : decode cX1_fillPurses 33 = .ok (.aload_n 0, 1) := by decide +kernel
theorem dX1_fillPurses_34 : decode cX1_fillPurses 34 = .ok (.getfield 25, 3) := by decide +kernel
theorem dX1_fillPurses_37 : decode cX1_fillPurses 37 = .ok (.iload_n 3, 1) := by decide +kernel
theorem dX1_fillPurses_38 : decode cX1_fillPurses 38 = .ok (.bipush 16, 2) := by decide +kernel
theorem dX1_fillPurses_40 : decode cX1_fillPurses 40 = .ok (.iastore, 1) := by decide +kernel
theorem dX1_fillPurses_41 : decode cX1_fillPurses 41 = .ok (.aload_n 0, 1) := by decide +kernel
theorem dX1_fillPurses_42 : decode cX1_fillPurses 42 = .ok (.getfield 51, 3) := by decide +kernel
theorem dX1_fillPurses_45 : decode cX1_fillPurses 45 = .ok (.iload_n 3, 1) := by decide +kernel
theorem dX1_fillPurses_46 : decode cX1_fillPurses 46 = .ok (.invokevirtual 136, 3) := by decide +kernel
theorem dX1_fillPurses_49 : decode cX1_fillPurses 49 = .ok (.ifCond .eq 40, 3) := by decide +kernel
theorem dX1_fillPurses_52 : decode cX1_fillPurses 52 = .ok (.aload_n 0, 1) := by decide +kernel
theorem dX1_fillPurses_53 : decode cX1_fillPurses 53 = .ok (.getfield 18, 3) := by decide +kernel
theorem dX1_fillPurses_56 : decode cX1_fillPurses 56 = .ok (.iload_n 3, 1) := by decide +kernel
theorem dX1_fillPurses_57 : decode cX1_fillPurses 57 = .ok (.aaload, 1) := by decide +kernel
theorem dX1_fillPurses_58 : decode cX1_fillPurses 58 = .ok (.aload_n 0, 1) := by decide +kernel
theorem dX1_fillPurses_59 : decode cX1_fillPurses 59 = .ok (.getfield 51, 3) := by decide +kernel
theorem dX1_fillPurses_62 : decode cX1_fillPurses 62 = .ok (.getfield 92, 3) := by decide +kernel
theorem dX1_fillPurses_65 : decode cX1_fillPurses 65 = .ok (.iload_n 2, 1) := by decide +kernel
theorem dX1_fillPurses_66 : decode cX1_fillPurses 66 = .ok (.iload_n 1, 1) := by decide +kernel
theorem dX1_fillPurses_67 : decode cX1_fillPurses 67 = .ok (.imul, 1) := by decide +kernel
theorem dX1_fillPurses_68 : decode cX1_fillPurses 68 = .ok (.iadd, 1) := by decide +kernel
theorem dX1_fillPurses_69 : decode cX1_fillPurses 69 = .ok (.invokevirtual 133, 3) := by decide +kernel
theorem dX1_fillPurses_72 : decode cX1_fillPurses 72 = .ok (.aload_n 0, 1) := by decide +kernel
theorem dX1_fillPurses_73 : decode cX1_fillPurses 73 = .ok (.getfield 29, 3) := by decide +kernel
theorem dX1_fillPurses_76 : decode cX1_fillPurses 76 = .ok (.aload_n 0, 1) := by decide +kernel
theorem dX1_fillPurses_77 : decode cX1_fillPurses 77 = .ok (.dup, 1) := by decide +kernel
theorem dX1_fillPurses_78 : decode cX1_fillPurses 78 = .ok (.getfield 118, 3) := by decide +kernel
theorem dX1_fillPurses_81 : decode cX1_fillPurses 81 = .ok (.dup_x1, 1) := by decide +kernel
theorem dX1_fillPurses_82 : decode cX1_fillPurses 82 = .ok (.iconst 1, 1) := by decide +kernel
theorem dX1_fillPurses_83 : decode cX1_fillPurses 83 = .ok (.iadd, 1) := by decide +kernel
theorem dX1_fillPurses_84 : decode cX1_fillPurses 84 = .ok (.putfield 118, 3) := by decide +kernel
theorem dX1_fillPurses_87 : decode cX1_fillPurses 87 = .ok (.iload_n 3, 1) := by decide +kernel
theorem dX1_fillPurses_88 : decode cX1_fillPurses 88 = .ok (.iastore, 1) := by decide +kernel
theorem dX1_fillPurses_89 : decode cX1_fillPurses 89 = .ok (.iinc 3 1, 3) := by decide +kernel
theorem dX1_fillPurses_92 : decode cX1_fillPurses 92 = .ok (.goto (-65), 3) := by decide +kernel
theorem dX1_fillPurses_95 : decode cX1_fillPurses 95 = .ok (.return_, 1) := by decide +kernel
set_option maxRecDepth 20000 in
theorem ggX1_findCheapest_X1_findShare : GoodIn wsX1_findCheapest wsX1_findShare := goodIn_r _ [6, 7, 8, 9, 10, 11, 12, 13, 14, 15, 16, 17, 18, 19, 20, 21, 22, 23, 24, 25, 26, 27, 28, 29, 30, 31, 32, 33, 5, 34, 35, 36, 37, 38, 39, 40, 41, 42, 43, 44, 45, 46, 47, 48, 49, 50, 51, 52, 53, 54, 55, 56, 57, 58, 73, 74, 75, 76, 77, 78, 79, 80, 81, 82, 83, 84, 85, 86, 87, 88, 89, 90, 91, 92, 93, 94, 95, 96, 97] (by decide +kernel) (by decide +kernel)
set_option maxRecDepth 20000 in
theorem gX1_findCheapest_X1_findShare : GoodIn wsX1_findCheapest (wsV RX1 140 RX1 yX1_findShare wsX1_findShare) := goodIn_app (goodIn_of _ (by decide +kernel)) ggX1_findCheapest_X1_findShare
set_option maxRecDepth 20000 in
theorem ggX1_findCheapest_X1_isBetter : GoodIn wsX1_findCheapest wsX1_isBetter := goodIn_r _ [62, 7, 63, 10, 11, 64, 65, 66, 44, 67, 46, 48, 47, 68, 49, 17, 18, 19, 20, 21, 22, 23, 24, 25, 50, 27, 28, 29, 30, 51, 52, 53, 54, 73, 74, 75, 76, 77, 78, 79, 80, 81, 82, 83, 84, 85, 86, 87, 88, 93, 94, 95, 96, 89, 90, 91, 92, 97] (by decide +kernel) (by decide +kernel)
set_option maxRecDepth 20000 in
theorem gX1_findCheapest_X1_isBetter : GoodIn wsX1_findCheapest (wsV RX1 143 RX1 yX1_isBetter wsX1_isBetter) := goodIn_app (goodIn_of _ (by decide +kernel)) ggX1_findCheapest_X1_isBetter
set_option maxRecDepth 20000 in
theorem ggX1_findCheapest_X1_swapShares : GoodIn wsX1_findCheapest wsX1_swapShares := goodIn_r _ [72, 63, 7, 73, 74, 75, 76, 77, 78, 79, 80, 81, 82, 83, 84, 85, 86, 87, 88] (by decide +kernel) (by decide +kernel)
set_option maxRecDepth 20000 in
theorem gX1_findCheapest_X1_swapShares : GoodIn wsX1_findCheapest (wsV RX1 146 RX1 yX1_swapShares wsX1_swapShares) := goodIn_app (goodIn_of _ (by decide +kernel)) ggX1_findCheapest_X1_swapShares
theorem dX1_findCheapest_0 : decode cX1_findCheapest 0 = .ok (.iconst (-1), 1) := by decide +kernel
theorem dX1_findCheapest_1 : decode cX1_findCheapest 1 = .ok (.istore_n 1, 1) := by decide +kernel
theorem dX1_findCheapest_2 : decode cX1_findCheapest 2 = .ok (.iconst 0, 1) := by decide +kernel
theorem dX1_findCheapest_3 : decode cX1_findCheapest 3 = .ok (.istore_n 2, 1) := by decide +kernel
theorem dX1_findCheapest_4 : decode cX1_findCheapest 4 = .ok (.iload_n 2, 1) := by decide +kernel
theorem dX1_findCheapest_5 : decode cX1_findCheapest 5 = .ok (.bipush 16, 2) := by decide +kernel
theorem dX1_findCheapest_7 : decode cX1_findCheapest 7 = .ok (.if_icmp .ge 68, 3) := by decide +kernel
theorem dX1_findCheapest_10 : decode cX1_findCheapest 10 = .ok (.aload_n 0, 1) := by decide +kernel
theorem dX1_findCheapest_11 : decode cX1_findCheapest 11 = .ok (.getfield 75, 3) := by decide +kernel
theorem dX1_findCheapest_14 : decode cX1_findCheapest 14 = .ok (.iload_n 2, 1) := by decide +kernel
theorem dX1_findCheapest_15 : decode cX1_findCheapest 15 = .ok (.ishr, 1) := by decide +kernel
theorem dX1_findCheapest_16 : decode cX1_findCheapest 16 = .ok (.iconst 1, 1) := by decide +kernel
theorem dX1_findCheapest_17 : decode cX1_findCheapest 17 = .ok (.iand, 1) := by decide +kernel
theorem dX1_findCheapest_18 : decode cX1_findCheapest 18 = .ok (.ifCond .ne 6, 3) := by decide +kernel
theorem dX1_findCheapest_21 : decode cX1_findCheapest 21 = .ok (.goto 48, 3) := by decide +kernel
theorem dX1_findCheapest_24 : decode cX1_findCheapest 24 = .ok (.aload_n 0, 1) := by decide +kernel
theorem dX1_findCheapest_25 : decode cX1_findCheapest 25 = .ok (.iload_n 2, 1) := by decide +kernel
theorem dX1_findCheapest_26 : decode cX1_findCheapest 26 = .ok (.invokevirtual 140, 3) := by decide +kernel
theorem dX1_findCheapest_29 : decode cX1_findCheapest 29 = .ok (.ifCond .ne 20, 3) := by decide +kernel
theorem dX1_findCheapest_32 : decode cX1_findCheapest 32 = .ok (.aload_n 0, 1) := by decide +kernel
theorem dX1_findCheapest_33 : decode cX1_findCheapest 33 = .ok (.dup, 1) := by decide +kernel
theorem dX1_findCheapest_34 : decode cX1_findCheapest 34 = .ok (.getfield 75, 3) := by decide +kernel
theorem dX1_findCheapest_37 : decode cX1_findCheapest 37 = .ok (.iconst 1, 1) := by decide +kernel
theorem dX1_findCheapest_38 : decode cX1_findCheapest 38 = .ok (.iload_n 2, 1) := by decide +kernel
theorem dX1_findCheapest_39 : decode cX1_findCheapest 39 = .ok (.ishl, 1) := by decide +kernel
theorem dX1_findCheapest_40 : decode cX1_findCheapest 40 = .ok (.iconst (-1), 1) := by decide +kernel
theorem dX1_findCheapest_41 : decode cX1_findCheapest 41 = .ok (.ixor, 1) := by decide +kernel
theorem dX1_findCheapest_42 : decode cX1_findCheapest 42 = .ok (.iand, 1) := by decide +kernel
theorem dX1_findCheapest_43 : decode cX1_findCheapest 43 = .ok (.putfield 75, 3) := by decide +kernel
theorem dX1_findCheapest_46 : decode cX1_findCheapest 46 = .ok (.goto 23, 3) := by decide +kernel
theorem dX1_findCheapest_49 : decode cX1_findCheapest 49 = .ok (.iload_n 1, 1) := by decide +kernel
theorem dX1_findCheapest_50 : decode cX1_findCheapest 50 = .ok (.iconst (-1), 1) := by decide +kernel
theorem dX1_findCheapest_51 : decode cX1_findCheapest 51 = .ok (.if_icmp .eq 12, 3) := by decide +kernel
theorem dX1_findCheapest_54 : decode cX1_findCheapest 54 = .ok (.aload_n 0, 1) := by decide +kernel
theorem dX1_findCheapest_55 : decode cX1_findCheapest 55 = .ok (.iload_n 2, 1) := by decide +kernel
theorem dX1_findCheapest_56 : decode cX1_findCheapest 56 = .ok (.iload_n 1, 1) := by decide +kernel
theorem dX1_findCheapest_57 : decode cX1_findCheapest 57 = .ok (.invokevirtual 143, 3) := by decide +kernel
theorem dX1_findCheapest_60 : decode cX1_findCheapest 60 = .ok (.ifCond .eq 9, 3) := by decide +kernel
theorem dX1_findCheapest_63 : decode cX1_findCheapest 63 = .ok (.iload_n 2, 1) := by decide +kernel
theorem dX1_findCheapest_64 : decode cX1_findCheapest 64 = .ok (.istore_n 1, 1) := by decide +kernel
theorem dX1_findCheapest_65 : decode cX1_findCheapest 65 = .ok (.aload_n 0, 1) := by decide +kernel
theorem dX1_findCheapest_66 : decode cX1_findCheapest 66 = .ok (.invokevirtual 146, 3) := by decide +kernel
theorem dX1_findCheapest_69 : decode cX1_findCheapest 69 = .ok (.iinc 2 1, 3) := by decide +kernel
theorem dX1_findCheapest_72 : decode cX1_findCheapest 72 = .ok (.goto (-68), 3) := by decide +kernel
theorem dX1_findCheapest_75 : decode cX1_findCheapest 75 = .ok (.iload_n 1, 1) := by decide +kernel
theorem dX1_findCheapest_76 : decode cX1_findCheapest 76 = .ok (.ireturn, 1) := by decide +kernel
set_option maxRecDepth 20000 in
theorem ggX1_isBetter_X3_against : GoodIn wsX1_isBetter wsX3_against := goodIn_r _ [9, 10, 11, 12, 13, 14, 15, 16, 17, 18, 19, 20, 21, 22, 23, 24, 25, 26, 27, 28, 29, 30, 31, 32, 53, 54, 55, 56, 57] (by decide +kernel) (by decide +kernel)
set_option maxRecDepth 20000 in
theorem gX1_isBetter_X3_against : GoodIn wsX1_isBetter (wsV RX1 149 RX3 yX3_against wsX3_against) := goodIn_app (goodIn_of _ (by decide +kernel)) ggX1_isBetter_X3_against
theorem dX1_isBetter_0 : decode cX1_isBetter 0 = .ok (.aload_n 0, 1) := by decide +kernel
theorem dX1_isBetter_1 : decode cX1_isBetter 1 = .ok (.getfield 48, 3) := by decide +kernel
theorem dX1_isBetter_4 : decode cX1_isBetter 4 = .ok (.aload_n 0, 1) := by decide +kernel
theorem dX1_isBetter_5 : decode cX1_isBetter 5 = .ok (.getfield 44, 3) := by decide +kernel
theorem dX1_isBetter_8 : decode cX1_isBetter 8 = .ok (.invokevirtual 149, 3) := by decide +kernel
theorem dX1_isBetter_11 : decode cX1_isBetter 11 = .ok (.istore_n 3, 1) := by decide +kernel
theorem dX1_isBetter_12 : decode cX1_isBetter 12 = .ok (.iload_n 3, 1) := by decide +kernel
theorem dX1_isBetter_13 : decode cX1_isBetter 13 = .ok (.ifCond .lt 28, 3) := by decide +kernel
theorem dX1_isBetter_16 : decode cX1_isBetter 16 = .ok (.iload_n 3, 1) := by decide +kernel
theorem dX1_isBetter_17 : decode cX1_isBetter 17 = .ok (.ifCond .ne 28, 3) := by decide +kernel
theorem dX1_isBetter_20 : decode cX1_isBetter 20 = .ok (.aload_n 0, 1) := by decide +kernel
theorem dX1_isBetter_21 : decode cX1_isBetter 21 = .ok (.getfield 51, 3) := by decide +kernel
theorem dX1_isBetter_24 : decode cX1_isBetter 24 = .ok (.getfield 112, 3) := by decide +kernel
theorem dX1_isBetter_27 : decode cX1_isBetter 27 = .ok (.iload_n 1, 1) := by decide +kernel
theorem dX1_isBetter_28 : decode cX1_isBetter 28 = .ok (.iaload, 1) := by decide +kernel
theorem dX1_isBetter_29 : decode cX1_isBetter 29 = .ok (.aload_n 0, 1) := by decide +kernel
theorem dX1_isBetter_30 : decode cX1_isBetter 30 = .ok (.getfield 51, 3) := by decide +kernel
theorem dX1_isBetter_33 : decode cX1_isBetter 33 = .ok (.getfield 112, 3) := by decide +kernel
theorem dX1_isBetter_36 : decode cX1_isBetter 36 = .ok (.iload_n 2, 1) := by decide +kernel
theorem dX1_isBetter_37 : decode cX1_isBetter 37 = .ok (.iaload, 1) := by decide +kernel
theorem dX1_isBetter_38 : decode cX1_isBetter 38 = .ok (.if_icmp .ge 7, 3) := by decide +kernel
theorem dX1_isBetter_41 : decode cX1_isBetter 41 = .ok (.iconst 1, 1) := by decide +kernel
theorem dX1_isBetter_42 : decode cX1_isBetter 42 = .ok (.goto 4, 3) := by decide +kernel
theorem dX1_isBetter_45 : decode cX1_isBetter 45 = .ok (.iconst 0, 1) := by decide +kernel
theorem dX1_isBetter_46 : decode cX1_isBetter 46 = .ok (.ireturn, 1) := by decide +kernel
theorem dX1_swapShares_0 : decode cX1_swapShares 0 = .ok (.aload_n 0, 1) := by decide +kernel
theorem dX1_swapShares_1 : decode cX1_swapShares 1 = .ok (.getfield 44, 3) := by decide +kernel
theorem dX1_swapShares_4 : decode cX1_swapShares 4 = .ok (.astore_n 1, 1) := by decide +kernel
theorem dX1_swapShares_5 : decode cX1_swapShares 5 = .ok (.aload_n 0, 1) := by decide +kernel
theorem dX1_swapShares_6 : decode cX1_swapShares 6 = .ok (.aload_n 0, 1) := by decide +kernel
theorem dX1_swapShares_7 : decode cX1_swapShares 7 = .ok (.getfield 48, 3) := by decide +kernel
theorem dX1_swapShares_10 : decode cX1_swapShares 10 = .ok (.putfield 44, 3) := by decide +kernel
theorem dX1_swapShares_13 : decode cX1_swapShares 13 = .ok (.aload_n 0, 1) := by decide +kernel
theorem dX1_swapShares_14 : decode cX1_swapShares 14 = .ok (.aload_n 1, 1) := by decide +kernel
theorem dX1_swapShares_15 : decode cX1_swapShares 15 = .ok (.putfield 48, 3) := by decide +kernel
theorem dX1_swapShares_18 : decode cX1_swapShares 18 = .ok (.return_, 1) := by decide +kernel
set_option maxRecDepth 20000 in
theorem ggX1_findShare_X0_copy : GoodIn wsX1_findShare wsX0_copy := goodIn_r _ [14, 15, 16, 17, 18, 19, 78] (by decide +kernel) (by decide +kernel)
set_option maxRecDepth 20000 in
theorem gX1_findShare_X0_copy : GoodIn wsX1_findShare (wsV RX1 108 RX0 yX0_copy wsX0_copy) := goodIn_app (goodIn_of _ (by decide +kernel)) ggX1_findShare_X0_copy
set_option maxRecDepth 20000 in
theorem ggX1_findShare_X0_times : GoodIn wsX1_findShare wsX0_times := goodIn_r _ [23, 15, 24, 78] (by decide +kernel) (by decide +kernel)
set_option maxRecDepth 20000 in
theorem gX1_findShare_X0_times : GoodIn wsX1_findShare (wsV RX1 115 RX0 yX0_times wsX0_times) := goodIn_app (goodIn_of _ (by decide +kernel)) ggX1_findShare_X0_times
set_option maxRecDepth 20000 in
theorem ggX1_findShare_X1_countPayers : GoodIn wsX1_findShare wsX1_countPayers := goodIn_r _ [29, 7, 4, 8, 30, 31, 32, 33, 34, 35, 54, 55, 56, 57, 58, 59, 60, 61, 62, 63, 64, 65, 66, 67, 68, 69, 74, 75, 76, 77] (by decide +kernel) (by decide +kernel)
set_option maxRecDepth 20000 in
theorem gX1_findShare_X1_countPayers : GoodIn wsX1_findShare (wsV RX1 156 RX1 yX1_countPayers wsX1_countPayers) := goodIn_app (goodIn_of _ (by decide +kernel)) ggX1_findShare_X1_countPayers
set_option maxRecDepth 20000 in
theorem ggX1_findShare_X5_approves : GoodIn wsX1_findShare wsX5_approves := goodIn_r _ [34, 35, 74, 75, 76, 77] (by decide +kernel) (by decide +kernel)
set_option maxRecDepth 20000 in
theorem gX1_findShare_X5_approves : GoodIn wsX1_findShare (wsV RX1 95 RX5 yX5_approves wsX5_approves) := goodIn_app (goodIn_of _ (by decide +kernel)) ggX1_findShare_X5_approves
set_option maxRecDepth 20000 in
theorem ggX1_findShare_X3_isWithin : GoodIn wsX1_findShare wsX3_isWithin := goodIn_r _ [40, 41, 42, 43, 44, 11, 12, 13, 14, 15, 16, 17, 18, 19, 45, 21, 22, 23, 24, 46, 47, 48, 49, 70, 71, 72, 73, 78] (by decide +kernel) (by decide +kernel)
set_option maxRecDepth 20000 in
theorem gX1_findShare_X3_isWithin : GoodIn wsX1_findShare (wsV RX1 161 RX3 yX3_isWithin wsX3_isWithin) := goodIn_app (goodIn_of _ (by decide +kernel)) ggX1_findShare_X3_isWithin
set_option maxRecDepth 20000 in
theorem ggX1_findShare_X0_minus : GoodIn wsX1_findShare wsX0_minus := goodIn_r _ [53, 15, 24, 78] (by decide +kernel) (by decide +kernel)
set_option maxRecDepth 20000 in
theorem gX1_findShare_X0_minus : GoodIn wsX1_findShare (wsV RX1 121 RX0 yX0_minus wsX0_minus) := goodIn_app (goodIn_of _ (by decide +kernel)) ggX1_findShare_X0_minus
theorem dX1_findShare_0 : decode cX1_findShare 0 = .ok (.aload_n 0, 1) := by decide +kernel
theorem dX1_findShare_1 : decode cX1_findShare 1 = .ok (.getfield 48, 3) := by decide +kernel
theorem dX1_findShare_4 : decode cX1_findShare 4 = .ok (.getfield 153, 3) := by decide +kernel
theorem dX1_findShare_7 : decode cX1_findShare 7 = .ok (.aload_n 0, 1) := by decide +kernel
theorem dX1_findShare_8 : decode cX1_findShare 8 = .ok (.getfield 12, 3) := by decide +kernel
theorem dX1_findShare_11 : decode cX1_findShare 11 = .ok (.invokevirtual 108, 3) := by decide +kernel
theorem dX1_findShare_14 : decode cX1_findShare 14 = .ok (.aload_n 0, 1) := by decide +kernel
theorem dX1_findShare_15 : decode cX1_findShare 15 = .ok (.getfield 48, 3) := by decide +kernel
theorem dX1_findShare_18 : decode cX1_findShare 18 = .ok (.getfield 153, 3) := by decide +kernel
theorem dX1_findShare_21 : decode cX1_findShare 21 = .ok (.aload_n 0, 1) := by decide +kernel
theorem dX1_findShare_22 : decode cX1_findShare 22 = .ok (.getfield 51, 3) := by decide +kernel
theorem dX1_findShare_25 : decode cX1_findShare 25 = .ok (.getfield 112, 3) := by decide +kernel
theorem dX1_findShare_28 : decode cX1_findShare 28 = .ok (.iload_n 1, 1) := by decide +kernel
theorem dX1_findShare_29 : decode cX1_findShare 29 = .ok (.iaload, 1) := by decide +kernel
theorem dX1_findShare_30 : decode cX1_findShare 30 = .ok (.invokevirtual 115, 3) := by decide +kernel
theorem dX1_findShare_33 : decode cX1_findShare 33 = .ok (.aload_n 0, 1) := by decide +kernel
theorem dX1_findShare_34 : decode cX1_findShare 34 = .ok (.getfield 48, 3) := by decide +kernel
theorem dX1_findShare_37 : decode cX1_findShare 37 = .ok (.aload_n 0, 1) := by decide +kernel
theorem dX1_findShare_38 : decode cX1_findShare 38 = .ok (.iload_n 1, 1) := by decide +kernel
theorem dX1_findShare_39 : decode cX1_findShare 39 = .ok (.invokevirtual 156, 3) := by decide +kernel
theorem dX1_findShare_42 : decode cX1_findShare 42 = .ok (.putfield 159, 3) := by decide +kernel
theorem dX1_findShare_45 : decode cX1_findShare 45 = .ok (.iconst 0, 1) := by decide +kernel
theorem dX1_findShare_46 : decode cX1_findShare 46 = .ok (.istore_n 2, 1) := by decide +kernel
theorem dX1_findShare_47 : decode cX1_findShare 47 = .ok (.iload_n 2, 1) := by decide +kernel
theorem dX1_findShare_48 : decode cX1_findShare 48 = .ok (.aload_n 0, 1) := by decide +kernel
theorem dX1_findShare_49 : decode cX1_findShare 49 = .ok (.getfield 118, 3) := by decide +kernel
theorem dX1_findShare_52 : decode cX1_findShare 52 = .ok (.if_icmp .ge 78, 3) := by decide +kernel
theorem dX1_findShare_55 : decode cX1_findShare 55 = .ok (.aload_n 0, 1) := by decide +kernel
theorem dX1_findShare_56 : decode cX1_findShare 56 = .ok (.getfield 29, 3) := by decide +kernel
theorem dX1_findShare_59 : decode cX1_findShare 59 = .ok (.iload_n 2, 1) := by decide +kernel
theorem dX1_findShare_60 : decode cX1_findShare 60 = .ok (.iaload, 1) := by decide +kernel
theorem dX1_findShare_61 : decode cX1_findShare 61 = .ok (.istore_n 3, 1) := by decide +kernel
theorem dX1_findShare_62 : decode cX1_findShare 62 = .ok (.aload_n 0, 1) := by decide +kernel
theorem dX1_findShare_63 : decode cX1_findShare 63 = .ok (.getfield 51, 3) := by decide +kernel
theorem dX1_findShare_66 : decode cX1_findShare 66 = .ok (.iload_n 3, 1) := by decide +kernel
theorem dX1_findShare_67 : decode cX1_findShare 67 = .ok (.iload_n 1, 1) := by decide +kernel
theorem dX1_findShare_68 : decode cX1_findShare 68 = .ok (.invokevirtual 95, 3) := by decide +kernel
theorem dX1_findShare_71 : decode cX1_findShare 71 = .ok (.ifCond .ne 6, 3) := by decide +kernel
theorem dX1_findShare_74 : decode cX1_findShare 74 = .ok (.goto 50, 3) := by decide +kernel
theorem dX1_findShare_77 : decode cX1_findShare 77 = .ok (.aload_n 0, 1) := by decide +kernel
theorem dX1_findShare_78 : decode cX1_findShare 78 = .ok (.getfield 48, 3) := by decide +kernel
theorem dX1_findShare_81 : decode cX1_findShare 81 = .ok (.aload_n 0, 1) := by decide +kernel
theorem dX1_findShare_82 : decode cX1_findShare 82 = .ok (.getfield 18, 3) := by decide +kernel
theorem dX1_findShare_85 : decode cX1_findShare 85 = .ok (.iload_n 3, 1) := by decide +kernel
theorem dX1_findShare_86 : decode cX1_findShare 86 = .ok (.aaload, 1) := by decide +kernel
theorem dX1_findShare_87 : decode cX1_findShare 87 = .ok (.invokevirtual 161, 3) := by decide +kernel
theorem dX1_findShare_90 : decode cX1_findShare 90 = .ok (.ifCond .eq 5, 3) := by decide +kernel
theorem dX1_findShare_93 : decode cX1_findShare 93 = .ok (.iconst 1, 1) := by decide +kernel
theorem dX1_findShare_94 : decode cX1_findShare 94 = .ok (.ireturn, 1) := by decide +kernel
theorem dX1_findShare_95 : decode cX1_findShare 95 = .ok (.aload_n 0, 1) := by decide +kernel
theorem dX1_findShare_96 : decode cX1_findShare 96 = .ok (.getfield 48, 3) := by decide +kernel
theorem dX1_findShare_99 : decode cX1_findShare 99 = .ok (.getfield 153, 3) := by decide +kernel
theorem dX1_findShare_102 : decode cX1_findShare 102 = .ok (.aload_n 0, 1) := by decide +kernel
theorem dX1_findShare_103 : decode cX1_findShare 103 = .ok (.getfield 18, 3) := by decide +kernel
theorem dX1_findShare_106 : decode cX1_findShare 106 = .ok (.iload_n 3, 1) := by decide +kernel
theorem dX1_findShare_107 : decode cX1_findShare 107 = .ok (.aaload, 1) := by decide +kernel
theorem dX1_findShare_108 : decode cX1_findShare 108 = .ok (.invokevirtual 121, 3) := by decide +kernel
theorem dX1_findShare_111 : decode cX1_findShare 111 = .ok (.aload_n 0, 1) := by decide +kernel
theorem dX1_findShare_112 : decode cX1_findShare 112 = .ok (.getfield 48, 3) := by decide +kernel
theorem dX1_findShare_115 : decode cX1_findShare 115 = .ok (.dup, 1) := by decide +kernel
theorem dX1_findShare_116 : decode cX1_findShare 116 = .ok (.getfield 159, 3) := by decide +kernel
theorem dX1_findShare_119 : decode cX1_findShare 119 = .ok (.iconst 1, 1) := by decide +kernel
theorem dX1_findShare_120 : decode cX1_findShare 120 = .ok (.isub, 1) := by decide +kernel
theorem dX1_findShare_121 : decode cX1_findShare 121 = .ok (.putfield 159, 3) := by decide +kernel
theorem dX1_findShare_124 : decode cX1_findShare 124 = .ok (.iinc 2 1, 3) := by decide +kernel
theorem dX1_findShare_127 : decode cX1_findShare 127 = .ok (.goto (-80), 3) := by decide +kernel
theorem dX1_findShare_130 : decode cX1_findShare 130 = .ok (.iconst 0, 1) := by decide +kernel
theorem dX1_findShare_131 : decode cX1_findShare 131 = .ok (.ireturn, 1) := by decide +kernel
set_option maxRecDepth 20000 in
theorem ggX1_countPayers_X5_approves : GoodIn wsX1_countPayers wsX5_approves := goodIn_r _ [8, 9, 26, 27, 28, 29] (by decide +kernel) (by decide +kernel)
set_option maxRecDepth 20000 in
theorem gX1_countPayers_X5_approves : GoodIn wsX1_countPayers (wsV RX1 95 RX5 yX5_approves wsX5_approves) := goodIn_app (goodIn_of _ (by decide +kernel)) ggX1_countPayers_X5_approves
theorem dX1_countPayers_0 : decode cX1_countPayers 0 = .ok (.iconst 0, 1) := by decide +kernel
theorem dX1_countPayers_1 : decode cX1_countPayers 1 = .ok (.istore_n 2, 1) := by decide +kernel
theorem dX1_countPayers_2 : decode cX1_countPayers 2 = .ok (.iconst 0, 1) := by decide +kernel
theorem dX1_countPayers_3 : decode cX1_countPayers 3 = .ok (.istore_n 3, 1) := by decide +kernel
theorem dX1_countPayers_4 : decode cX1_countPayers 4 = .ok (.iload_n 3, 1) := by decide +kernel
theorem dX1_countPayers_5 : decode cX1_countPayers 5 = .ok (.aload_n 0, 1) := by decide +kernel
theorem dX1_countPayers_6 : decode cX1_countPayers 6 = .ok (.getfield 118, 3) := by decide +kernel
theorem dX1_countPayers_9 : decode cX1_countPayers 9 = .ok (.if_icmp .ge 29, 3) := by decide +kernel
theorem dX1_countPayers_12 : decode cX1_countPayers 12 = .ok (.aload_n 0, 1) := by decide +kernel
theorem dX1_countPayers_13 : decode cX1_countPayers 13 = .ok (.getfield 51, 3) := by decide +kernel
theorem dX1_countPayers_16 : decode cX1_countPayers 16 = .ok (.aload_n 0, 1) := by decide +kernel
theorem dX1_countPayers_17 : decode cX1_countPayers 17 = .ok (.getfield 29, 3) := by decide +kernel
theorem dX1_countPayers_20 : decode cX1_countPayers 20 = .ok (.iload_n 3, 1) := by decide +kernel
theorem dX1_countPayers_21 : decode cX1_countPayers 21 = .ok (.iaload, 1) := by decide +kernel
theorem dX1_countPayers_22 : decode cX1_countPayers 22 = .ok (.iload_n 1, 1) := by decide +kernel
theorem dX1_countPayers_23 : decode cX1_countPayers 23 = .ok (.invokevirtual 95, 3) := by decide +kernel
theorem dX1_countPayers_26 : decode cX1_countPayers 26 = .ok (.ifCond .eq 6, 3) := by decide +kernel
theorem dX1_countPayers_29 : decode cX1_countPayers 29 = .ok (.iinc 2 1, 3) := by decide +kernel
theorem dX1_countPayers_32 : decode cX1_countPayers 32 = .ok (.iinc 3 1, 3) := by decide +kernel
theorem dX1_countPayers_35 : decode cX1_countPayers 35 = .ok (.goto (-31), 3) := by decide +kernel
theorem dX1_countPayers_38 : decode cX1_countPayers 38 = .ok (.iload_n 2, 1) := by decide +kernel
theorem dX1_countPayers_39 : decode cX1_countPayers 39 = .ok (.ireturn, 1) := by decide +kernel
set_option maxRecDepth 20000 in
theorem ggX1_pay_X0_times : GoodIn wsX1_pay wsX0_times := goodIn_r _ [21, 22, 23, 89] (by decide +kernel) (by decide +kernel)
set_option maxRecDepth 20000 in
theorem gX1_pay_X0_times : GoodIn wsX1_pay (wsV RX1 115 RX0 yX0_times wsX0_times) := goodIn_app (goodIn_of _ (by decide +kernel)) ggX1_pay_X0_times
set_option maxRecDepth 20000 in
theorem ggX1_pay_X0_copy : GoodIn wsX1_pay wsX0_copy := goodIn_r _ [27, 22, 28, 29, 30, 31, 89] (by decide +kernel) (by decide +kernel)
set_option maxRecDepth 20000 in
theorem gX1_pay_X0_copy : GoodIn wsX1_pay (wsV RX1 108 RX0 yX0_copy wsX0_copy) := goodIn_app (goodIn_of _ (by decide +kernel)) ggX1_pay_X0_copy
set_option maxRecDepth 20000 in
theorem ggX1_pay_X5_approves : GoodIn wsX1_pay wsX5_approves := goodIn_r _ [36, 37, 85, 86, 87, 88] (by decide +kernel) (by decide +kernel)
set_option maxRecDepth 20000 in
theorem gX1_pay_X5_approves : GoodIn wsX1_pay (wsV RX1 95 RX5 yX5_approves wsX5_approves) := goodIn_app (goodIn_of _ (by decide +kernel)) ggX1_pay_X5_approves
set_option maxRecDepth 20000 in
theorem ggX1_pay_X1_charge : GoodIn wsX1_pay wsX1_charge := goodIn_r _ [42, 9, 5, 43, 44, 45, 46, 47, 20, 48, 22, 23, 49, 50, 51, 52, 24, 25, 26, 27, 28, 29, 30, 31, 53, 54, 55, 56, 57, 58, 59, 60, 65, 66, 67, 68, 69, 70, 71, 72, 73, 74, 75, 76, 77, 78, 79, 80, 89] (by decide +kernel) (by decide +kernel)
set_option maxRecDepth 20000 in
theorem gX1_pay_X1_charge : GoodIn wsX1_pay (wsV RX1 165 RX1 yX1_charge wsX1_charge) := goodIn_app (goodIn_of _ (by decide +kernel)) ggX1_pay_X1_charge
set_option maxRecDepth 20000 in
theorem ggX1_pay_X0_isZero : GoodIn wsX1_pay wsX0_isZero := goodIn_r _ [64, 22, 89] (by decide +kernel) (by decide +kernel)
set_option maxRecDepth 20000 in
theorem gX1_pay_X0_isZero : GoodIn wsX1_pay (wsV RX1 168 RX0 yX0_isZero wsX0_isZero) := goodIn_app (goodIn_of _ (by decide +kernel)) ggX1_pay_X0_isZero
theorem dX1_pay_0 : decode cX1_pay 0 = .ok (.aload_n 0, 1) := by decide +kernel
theorem dX1_pay_1 : decode cX1_pay 1 = .ok (.getfield 12, 3) := by decide +kernel
theorem dX1_pay_4 : decode cX1_pay 4 = .ok (.aload_n 0, 1) := by decide +kernel
theorem dX1_pay_5 : decode cX1_pay 5 = .ok (.getfield 44, 3) := by decide +kernel
theorem dX1_pay_8 : decode cX1_pay 8 = .ok (.getfield 159, 3) := by decide +kernel
theorem dX1_pay_11 : decode cX1_pay 11 = .ok (.invokevirtual 115, 3) := by decide +kernel
theorem dX1_pay_14 : decode cX1_pay 14 = .ok (.aload_n 0, 1) := by decide +kernel
theorem dX1_pay_15 : decode cX1_pay 15 = .ok (.getfield 38, 3) := by decide +kernel
theorem dX1_pay_18 : decode cX1_pay 18 = .ok (.iload_n 2, 1) := by decide +kernel
theorem dX1_pay_19 : decode cX1_pay 19 = .ok (.aaload, 1) := by decide +kernel
theorem dX1_pay_20 : decode cX1_pay 20 = .ok (.aload_n 0, 1) := by decide +kernel
theorem dX1_pay_21 : decode cX1_pay 21 = .ok (.getfield 12, 3) := by decide +kernel
theorem dX1_pay_24 : decode cX1_pay 24 = .ok (.invokevirtual 108, 3) := by decide +kernel
theorem dX1_pay_27 : decode cX1_pay 27 = .ok (.aload_n 0, 1) := by decide +kernel
theorem dX1_pay_28 : decode cX1_pay 28 = .ok (.getfield 35, 3) := by decide +kernel
theorem dX1_pay_31 : decode cX1_pay 31 = .ok (.iload_n 2, 1) := by decide +kernel
theorem dX1_pay_32 : decode cX1_pay 32 = .ok (.aaload, 1) := by decide +kernel
theorem dX1_pay_33 : decode cX1_pay 33 = .ok (.aload_n 0, 1) := by decide +kernel
theorem dX1_pay_34 : decode cX1_pay 34 = .ok (.getfield 44, 3) := by decide +kernel
theorem dX1_pay_37 : decode cX1_pay 37 = .ok (.getfield 153, 3) := by decide +kernel
theorem dX1_pay_40 : decode cX1_pay 40 = .ok (.invokevirtual 108, 3) := by decide +kernel
theorem dX1_pay_43 : decode cX1_pay 43 = .ok (.iconst 0, 1) := by decide +kernel
theorem dX1_pay_44 : decode cX1_pay 44 = .ok (.istore_n 3, 1) := by decide +kernel
theorem dX1_pay_45 : decode cX1_pay 45 = .ok (.iconst 0, 1) := by decide +kernel
theorem dX1_pay_46 : decode cX1_pay 46 = .ok (.istore 4, 2) := by decide +kernel
theorem dX1_pay_48 : decode cX1_pay 48 = .ok (.iload 4, 2) := by decide +kernel
theorem dX1_pay_50 : decode cX1_pay 50 = .ok (.aload_n 0, 1) := by decide +kernel
theorem dX1_pay_51 : decode cX1_pay 51 = .ok (.getfield 118, 3) := by decide +kernel
theorem dX1_pay_54 : decode cX1_pay 54 = .ok (.if_icmp .ge 79, 3) := by decide +kernel
theorem dX1_pay_57 : decode cX1_pay 57 = .ok (.aload_n 0, 1) := by decide +kernel
theorem dX1_pay_58 : decode cX1_pay 58 = .ok (.getfield 29, 3) := by decide +kernel
theorem dX1_pay_61 : decode cX1_pay 61 = .ok (.iload 4, 2) := by decide +kernel
theorem dX1_pay_63 : decode cX1_pay 63 = .ok (.iaload, 1) := by decide +kernel
theorem dX1_pay_64 : decode cX1_pay 64 = .ok (.istore 5, 2) := by decide +kernel
theorem dX1_pay_66 : decode cX1_pay 66 = .ok (.aload_n 0, 1) := by decide +kernel
theorem dX1_pay_67 : decode cX1_pay 67 = .ok (.getfield 18, 3) := by decide +kernel
theorem dX1_pay_70 : decode cX1_pay 70 = .ok (.iload 5, 2) := by decide +kernel
theorem dX1_pay_72 : decode cX1_pay 72 = .ok (.aaload, 1) := by decide +kernel
theorem dX1_pay_73 : decode cX1_pay 73 = .ok (.aload_n 0, 1) := by decide +kernel
theorem dX1_pay_74 : decode cX1_pay 74 = .ok (.getfield 44, 3) := by decide +kernel
theorem dX1_pay_77 : decode cX1_pay 77 = .ok (.getfield 159, 3) := by decide +kernel
theorem dX1_pay_80 : decode cX1_pay 80 = .ok (.invokevirtual 115, 3) := by decide +kernel
theorem dX1_pay_83 : decode cX1_pay 83 = .ok (.aload_n 0, 1) := by decide +kernel
theorem dX1_pay_84 : decode cX1_pay 84 = .ok (.getfield 51, 3) := by decide +kernel
theorem dX1_pay_87 : decode cX1_pay 87 = .ok (.iload 5, 2) := by decide +kernel
theorem dX1_pay_89 : decode cX1_pay 89 = .ok (.iload_n 1, 1) := by decide +kernel
theorem dX1_pay_90 : decode cX1_pay 90 = .ok (.invokevirtual 95, 3) := by decide +kernel
theorem dX1_pay_93 : decode cX1_pay 93 = .ok (.ifCond .eq 10, 3) := by decide +kernel
theorem dX1_pay_96 : decode cX1_pay 96 = .ok (.aload_n 0, 1) := by decide +kernel
theorem dX1_pay_97 : decode cX1_pay 97 = .ok (.iload 5, 2) := by decide +kernel
theorem dX1_pay_99 : decode cX1_pay 99 = .ok (.iload_n 2, 1) := by decide +kernel
theorem dX1_pay_100 : decode cX1_pay 100 = .ok (.invokevirtual 165, 3) := by decide +kernel
theorem dX1_pay_103 : decode cX1_pay 103 = .ok (.aload_n 0, 1) := by decide +kernel
theorem dX1_pay_104 : decode cX1_pay 104 = .ok (.getfield 18, 3) := by decide +kernel
theorem dX1_pay_107 : decode cX1_pay 107 = .ok (.iload 5, 2) := by decide +kernel
theorem dX1_pay_109 : decode cX1_pay 109 = .ok (.aaload, 1) := by decide +kernel
theorem dX1_pay_110 : decode cX1_pay 110 = .ok (.invokevirtual 168, 3) := by decide +kernel
theorem dX1_pay_113 : decode cX1_pay 113 = .ok (.ifCond .ne 14, 3) := by decide +kernel
theorem dX1_pay_116 : decode cX1_pay 116 = .ok (.aload_n 0, 1) := by decide +kernel
theorem dX1_pay_117 : decode cX1_pay 117 = .ok (.getfield 29, 3) := by decide +kernel
theorem dX1_pay_120 : decode cX1_pay 120 = .ok (.iload_n 3, 1) := by decide +kernel
theorem dX1_pay_121 : decode cX1_pay 121 = .ok (.iinc 3 1, 3) := by decide +kernel
theorem dX1_pay_124 : decode cX1_pay 124 = .ok (.iload 5, 2) := by decide +kernel
theorem dX1_pay_126 : decode cX1_pay 126 = .ok (.iastore, 1) := by decide +kernel
theorem dX1_pay_127 : decode cX1_pay 127 = .ok (.iinc 4 1, 3) := by decide +kernel
theorem dX1_pay_130 : decode cX1_pay 130 = .ok (.goto (-82), 3) := by decide +kernel
theorem dX1_pay_133 : decode cX1_pay 133 = .ok (.aload_n 0, 1) := by decide +kernel
theorem dX1_pay_134 : decode cX1_pay 134 = .ok (.iload_n 3, 1) := by decide +kernel
theorem dX1_pay_135 : decode cX1_pay 135 = .ok (.putfield 118, 3) := by decide +kernel
theorem dX1_pay_138 : decode cX1_pay 138 = .ok (.aload_n 0, 1) := by decide +kernel
theorem dX1_pay_139 : decode cX1_pay 139 = .ok (.getfield 32, 3) := by decide +kernel
theorem dX1_pay_142 : decode cX1_pay 142 = .ok (.iload_n 2, 1) := by decide +kernel
theorem dX1_pay_143 : decode cX1_pay 143 = .ok (.iload_n 1, 1) := by decide +kernel
theorem dX1_pay_144 : decode cX1_pay 144 = .ok (.iastore, 1) := by decide +kernel
theorem dX1_pay_145 : decode cX1_pay 145 = .ok (.aload_n 0, 1) := by decide +kernel
theorem dX1_pay_146 : decode cX1_pay 146 = .ok (.iload_n 2, 1) := by decide +kernel
theorem dX1_pay_147 : decode cX1_pay 147 = .ok (.iconst 1, 1) := by decide +kernel
theorem dX1_pay_148 : decode cX1_pay 148 = .ok (.iadd, 1) := by decide +kernel
theorem dX1_pay_149 : decode cX1_pay 149 = .ok (.putfield 59, 3) := by decide +kernel
theorem dX1_pay_152 : decode cX1_pay 152 = .ok (.aload_n 0, 1) := by decide +kernel
theorem dX1_pay_153 : decode cX1_pay 153 = .ok (.dup, 1) := by decide +kernel
theorem dX1_pay_154 : decode cX1_pay 154 = .ok (.getfield 63, 3) := by decide +kernel
theorem dX1_pay_157 : decode cX1_pay 157 = .ok (.iconst 1, 1) := by decide +kernel
theorem dX1_pay_158 : decode cX1_pay 158 = .ok (.iload_n 1, 1) := by decide +kernel
theorem dX1_pay_159 : decode cX1_pay 159 = .ok (.ishl, 1) := by decide +kernel
theorem dX1_pay_160 : decode cX1_pay 160 = .ok (.ior, 1) := by decide +kernel
theorem dX1_pay_161 : decode cX1_pay 161 = .ok (.putfield 63, 3) := by decide +kernel
theorem dX1_pay_164 : decode cX1_pay 164 = .ok (.aload_n 0, 1) := by decide +kernel
theorem dX1_pay_165 : decode cX1_pay 165 = .ok (.dup, 1) := by decide +kernel
theorem dX1_pay_166 : decode cX1_pay 166 = .ok (.getfield 66, 3) := by decide +kernel
theorem dX1_pay_169 : decode cX1_pay 169 = .ok (.aload_n 0, 1) := by decide +kernel
theorem dX1_pay_170 : decode cX1_pay 170 = .ok (.getfield 51, 3) := by decide +kernel
theorem dX1_pay_173 : decode cX1_pay 173 = .ok (.getfield 112, 3) := by decide +kernel
theorem dX1_pay_176 : decode cX1_pay 176 = .ok (.iload_n 1, 1) := by decide +kernel
theorem dX1_pay_177 : decode cX1_pay 177 = .ok (.iaload, 1) := by decide +kernel
theorem dX1_pay_178 : decode cX1_pay 178 = .ok (.iadd, 1) := by decide +kernel
theorem dX1_pay_179 : decode cX1_pay 179 = .ok (.putfield 66, 3) := by decide +kernel
theorem dX1_pay_182 : decode cX1_pay 182 = .ok (.aload_n 0, 1) := by decide +kernel
theorem dX1_pay_183 : decode cX1_pay 183 = .ok (.dup, 1) := by decide +kernel
theorem dX1_pay_184 : decode cX1_pay 184 = .ok (.getfield 75, 3) := by decide +kernel
theorem dX1_pay_187 : decode cX1_pay 187 = .ok (.iconst 1, 1) := by decide +kernel
theorem dX1_pay_188 : decode cX1_pay 188 = .ok (.iload_n 1, 1) := by decide +kernel
theorem dX1_pay_189 : decode cX1_pay 189 = .ok (.ishl, 1) := by decide +kernel
theorem dX1_pay_190 : decode cX1_pay 190 = .ok (.iconst (-1), 1) := by decide +kernel
theorem dX1_pay_191 : decode cX1_pay 191 = .ok (.ixor, 1) := by decide +kernel
theorem dX1_pay_192 : decode cX1_pay 192 = .ok (.iand, 1) := by decide +kernel
theorem dX1_pay_193 : decode cX1_pay 193 = .ok (.putfield 75, 3) := by decide +kernel
theorem dX1_pay_196 : decode cX1_pay 196 = .ok (.return_, 1) := by decide +kernel
set_option maxRecDepth 20000 in
theorem ggX1_charge_X0_against : GoodIn wsX1_charge wsX0_against := goodIn_r _ [9, 10, 11, 48] (by decide +kernel) (by decide +kernel)
set_option maxRecDepth 20000 in
theorem gX1_charge_X0_against : GoodIn wsX1_charge (wsV RX1 171 RX0 yX0_against wsX0_against) := goodIn_app (goodIn_of _ (by decide +kernel)) ggX1_charge_X0_against
set_option maxRecDepth 20000 in
theorem ggX1_charge_X0_minus : GoodIn wsX1_charge wsX0_minus := goodIn_r _ [15, 10, 11, 48] (by decide +kernel) (by decide +kernel)
set_option maxRecDepth 20000 in
theorem gX1_charge_X0_minus : GoodIn wsX1_charge (wsV RX1 121 RX0 yX0_minus wsX0_minus) := goodIn_app (goodIn_of _ (by decide +kernel)) ggX1_charge_X0_minus
set_option maxRecDepth 20000 in
theorem ggX1_charge_X0_copy : GoodIn wsX1_charge wsX0_copy := goodIn_r _ [19, 10, 20, 21, 22, 23, 48] (by decide +kernel) (by decide +kernel)
set_option maxRecDepth 20000 in
theorem gX1_charge_X0_copy : GoodIn wsX1_charge (wsV RX1 108 RX0 yX0_copy wsX0_copy) := goodIn_app (goodIn_of _ (by decide +kernel)) ggX1_charge_X0_copy
set_option maxRecDepth 20000 in
theorem ggX1_charge_X0_set : GoodIn wsX1_charge wsX0_set := goodIn_r _ [27, 10, 28, 29, 30, 31, 48] (by decide +kernel) (by decide +kernel)
set_option maxRecDepth 20000 in
theorem gX1_charge_X0_set : GoodIn wsX1_charge (wsV RX1 133 RX0 yX0_set wsX0_set) := goodIn_app (goodIn_of _ (by decide +kernel)) ggX1_charge_X0_set
theorem dX1_charge_0 : decode cX1_charge 0 = .ok (.aload_n 0, 1) := by decide +kernel
theorem dX1_charge_1 : decode cX1_charge 1 = .ok (.getfield 18, 3) := by decide +kernel
theorem dX1_charge_4 : decode cX1_charge 4 = .ok (.iload_n 1, 1) := by decide +kernel
theorem dX1_charge_5 : decode cX1_charge 5 = .ok (.aaload, 1) := by decide +kernel
theorem dX1_charge_6 : decode cX1_charge 6 = .ok (.aload_n 0, 1) := by decide +kernel
theorem dX1_charge_7 : decode cX1_charge 7 = .ok (.getfield 35, 3) := by decide +kernel
theorem dX1_charge_10 : decode cX1_charge 10 = .ok (.iload_n 2, 1) := by decide +kernel
theorem dX1_charge_11 : decode cX1_charge 11 = .ok (.aaload, 1) := by decide +kernel
theorem dX1_charge_12 : decode cX1_charge 12 = .ok (.invokevirtual 171, 3) := by decide +kernel
theorem dX1_charge_15 : decode cX1_charge 15 = .ok (.ifCond .le 19, 3) := by decide +kernel
theorem dX1_charge_18 : decode cX1_charge 18 = .ok (.aload_n 0, 1) := by decide +kernel
theorem dX1_charge_19 : decode cX1_charge 19 = .ok (.getfield 18, 3) := by decide +kernel
theorem dX1_charge_22 : decode cX1_charge 22 = .ok (.iload_n 1, 1) := by decide +kernel
theorem dX1_charge_23 : decode cX1_charge 23 = .ok (.aaload, 1) := by decide +kernel
theorem dX1_charge_24 : decode cX1_charge 24 = .ok (.aload_n 0, 1) := by decide +kernel
theorem dX1_charge_25 : decode cX1_charge 25 = .ok (.getfield 35, 3) := by decide +kernel
theorem dX1_charge_28 : decode cX1_charge 28 = .ok (.iload_n 2, 1) := by decide +kernel
theorem dX1_charge_29 : decode cX1_charge 29 = .ok (.aaload, 1) := by decide +kernel
theorem dX1_charge_30 : decode cX1_charge 30 = .ok (.invokevirtual 121, 3) := by decide +kernel
theorem dX1_charge_33 : decode cX1_charge 33 = .ok (.return_, 1) := by decide +kernel
theorem dX1_charge_34 : decode cX1_charge 34 = .ok (.aload_n 0, 1) := by decide +kernel
theorem dX1_charge_35 : decode cX1_charge 35 = .ok (.getfield 22, 3) := by decide +kernel
theorem dX1_charge_38 : decode cX1_charge 38 = .ok (.iload_n 1, 1) := by decide +kernel
theorem dX1_charge_39 : decode cX1_charge 39 = .ok (.aaload, 1) := by decide +kernel
theorem dX1_charge_40 : decode cX1_charge 40 = .ok (.aload_n 0, 1) := by decide +kernel
theorem dX1_charge_41 : decode cX1_charge 41 = .ok (.getfield 18, 3) := by decide +kernel
theorem dX1_charge_44 : decode cX1_charge 44 = .ok (.iload_n 1, 1) := by decide +kernel
theorem dX1_charge_45 : decode cX1_charge 45 = .ok (.aaload, 1) := by decide +kernel
theorem dX1_charge_46 : decode cX1_charge 46 = .ok (.invokevirtual 108, 3) := by decide +kernel
theorem dX1_charge_49 : decode cX1_charge 49 = .ok (.aload_n 0, 1) := by decide +kernel
theorem dX1_charge_50 : decode cX1_charge 50 = .ok (.getfield 25, 3) := by decide +kernel
theorem dX1_charge_53 : decode cX1_charge 53 = .ok (.iload_n 1, 1) := by decide +kernel
theorem dX1_charge_54 : decode cX1_charge 54 = .ok (.iload_n 2, 1) := by decide +kernel
theorem dX1_charge_55 : decode cX1_charge 55 = .ok (.iastore, 1) := by decide +kernel
theorem dX1_charge_56 : decode cX1_charge 56 = .ok (.aload_n 0, 1) := by decide +kernel
theorem dX1_charge_57 : decode cX1_charge 57 = .ok (.getfield 18, 3) := by decide +kernel
theorem dX1_charge_60 : decode cX1_charge 60 = .ok (.iload_n 1, 1) := by decide +kernel
theorem dX1_charge_61 : decode cX1_charge 61 = .ok (.aaload, 1) := by decide +kernel
theorem dX1_charge_62 : decode cX1_charge 62 = .ok (.iconst 0, 1) := by decide +kernel
theorem dX1_charge_63 : decode cX1_charge 63 = .ok (.invokevirtual 133, 3) := by decide +kernel
theorem dX1_charge_66 : decode cX1_charge 66 = .ok (.return_, 1) := by decide +kernel
set_option maxRecDepth 20000 in
theorem ggX1_sortPayers_X0_against : GoodIn wsX1_sortPayers wsX0_against := goodIn_r _ [8, 9, 10, 27] (by decide +kernel) (by decide +kernel)
set_option maxRecDepth 20000 in
theorem gX1_sortPayers_X0_against : GoodIn wsX1_sortPayers (wsV RX1 171 RX0 yX0_against wsX0_against) := goodIn_app (goodIn_of _ (by decide +kernel)) ggX1_sortPayers_X0_against
theorem dX1_sortPayers_0 : decode cX1_sortPayers 0 = .ok (.iconst 1, 1) := by decide +kernel
theorem dX1_sortPayers_1 : decode cX1_sortPayers 1 = .ok (.istore_n 1, 1) := by decide +kernel
theorem dX1_sortPayers_2 : decode cX1_sortPayers 2 = .ok (.iload_n 1, 1) := by decide +kernel
theorem dX1_sortPayers_3 : decode cX1_sortPayers 3 = .ok (.aload_n 0, 1) := by decide +kernel
theorem dX1_sortPayers_4 : decode cX1_sortPayers 4 = .ok (.getfield 118, 3) := by decide +kernel
theorem dX1_sortPayers_7 : decode cX1_sortPayers 7 = .ok (.if_icmp .ge 74, 3) := by decide +kernel
theorem dX1_sortPayers_10 : decode cX1_sortPayers 10 = .ok (.aload_n 0, 1) := by decide +kernel
theorem dX1_sortPayers_11 : decode cX1_sortPayers 11 = .ok (.getfield 29, 3) := by decide +kernel
theorem dX1_sortPayers_14 : decode cX1_sortPayers 14 = .ok (.iload_n 1, 1) := by decide +kernel
theorem dX1_sortPayers_15 : decode cX1_sortPayers 15 = .ok (.iaload, 1) := by decide +kernel
theorem dX1_sortPayers_16 : decode cX1_sortPayers 16 = .ok (.istore_n 2, 1) := by decide +kernel
theorem dX1_sortPayers_17 : decode cX1_sortPayers 17 = .ok (.iload_n 1, 1) := by decide +kernel
theorem dX1_sortPayers_18 : decode cX1_sortPayers 18 = .ok (.istore_n 3, 1) := by decide +kernel
theorem dX1_sortPayers_19 : decode cX1_sortPayers 19 = .ok (.iload_n 3, 1) := by decide +kernel
theorem dX1_sortPayers_20 : decode cX1_sortPayers 20 = .ok (.ifCond .le 48, 3) := by decide +kernel
theorem dX1_sortPayers_23 : decode cX1_sortPayers 23 = .ok (.aload_n 0, 1) := by decide +kernel
theorem dX1_sortPayers_24 : decode cX1_sortPayers 24 = .ok (.getfield 18, 3) := by decide +kernel
theorem dX1_sortPayers_27 : decode cX1_sortPayers 27 = .ok (.aload_n 0, 1) := by decide +kernel
theorem dX1_sortPayers_28 : decode cX1_sortPayers 28 = .ok (.getfield 29, 3) := by decide +kernel
theorem dX1_sortPayers_31 : decode cX1_sortPayers 31 = .ok (.iload_n 3, 1) := by decide +kernel
theorem dX1_sortPayers_32 : decode cX1_sortPayers 32 = .ok (.iconst 1, 1) := by decide +kernel
theorem dX1_sortPayers_33 : decode cX1_sortPayers 33 = .ok (.isub, 1) := by decide +kernel
theorem dX1_sortPayers_34 : decode cX1_sortPayers 34 = .ok (.iaload, 1) := by decide +kernel
theorem dX1_sortPayers_35 : decode cX1_sortPayers 35 = .ok (.aaload, 1) := by decide +kernel
theorem dX1_sortPayers_36 : decode cX1_sortPayers 36 = .ok (.aload_n 0, 1) := by decide +kernel
theorem dX1_sortPayers_37 : decode cX1_sortPayers 37 = .ok (.getfield 18, 3) := by decide +kernel
theorem dX1_sortPayers_40 : decode cX1_sortPayers 40 = .ok (.iload_n 2, 1) := by decide +kernel
theorem dX1_sortPayers_41 : decode cX1_sortPayers 41 = .ok (.aaload, 1) := by decide +kernel
theorem dX1_sortPayers_42 : decode cX1_sortPayers 42 = .ok (.invokevirtual 171, 3) := by decide +kernel
theorem dX1_sortPayers_45 : decode cX1_sortPayers 45 = .ok (.ifCond .le 23, 3) := by decide +kernel
theorem dX1_sortPayers_48 : decode cX1_sortPayers 48 = .ok (.aload_n 0, 1) := by decide +kernel
theorem dX1_sortPayers_49 : decode cX1_sortPayers 49 = .ok (.getfield 29, 3) := by decide +kernel
theorem dX1_sortPayers_52 : decode cX1_sortPayers 52 = .ok (.iload_n 3, 1) := by decide +kernel
theorem dX1_sortPayers_53 : decode cX1_sortPayers 53 = .ok (.aload_n 0, 1) := by decide +kernel
theorem dX1_sortPayers_54 : decode cX1_sortPayers 54 = .ok (.getfield 29, 3) := by decide +kernel
theorem dX1_sortPayers_57 : decode cX1_sortPayers 57 = .ok (.iload_n 3, 1) := by decide +kernel
theorem dX1_sortPayers_58 : decode cX1_sortPayers 58 = .ok (.iconst 1, 1) := by decide +kernel
theorem dX1_sortPayers_59 : decode cX1_sortPayers 59 = .ok (.isub, 1) := by decide +kernel
theorem dX1_sortPayers_60 : decode cX1_sortPayers 60 = .ok (.iaload, 1) := by decide +kernel
theorem dX1_sortPayers_61 : decode cX1_sortPayers 61 = .ok (.iastore, 1) := by decide +kernel
theorem dX1_sortPayers_62 : decode cX1_sortPayers 62 = .ok (.iinc 3 (-1), 3) := by decide +kernel
theorem dX1_sortPayers_65 : decode cX1_sortPayers 65 = .ok (.goto (-46), 3) := by decide +kernel
theorem dX1_sortPayers_68 : decode cX1_sortPayers 68 = .ok (.aload_n 0, 1) := by decide +kernel
theorem dX1_sortPayers_69 : decode cX1_sortPayers 69 = .ok (.getfield 29, 3) := by decide +kernel
theorem dX1_sortPayers_72 : decode cX1_sortPayers 72 = .ok (.iload_n 3, 1) := by decide +kernel
theorem dX1_sortPayers_73 : decode cX1_sortPayers 73 = .ok (.iload_n 2, 1) := by decide +kernel
theorem dX1_sortPayers_74 : decode cX1_sortPayers 74 = .ok (.iastore, 1) := by decide +kernel
theorem dX1_sortPayers_75 : decode cX1_sortPayers 75 = .ok (.iinc 1 1, 3) := by decide +kernel
theorem dX1_sortPayers_78 : decode cX1_sortPayers 78 = .ok (.goto (-76), 3) := by decide +kernel
theorem dX1_sortPayers_81 : decode cX1_sortPayers 81 = .ok (.return_, 1) := by decide +kernel
