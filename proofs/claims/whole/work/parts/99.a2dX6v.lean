set_option maxRecDepth 20000 in
theorem ggX6_raise_X6_keepTown : GoodIn wsX6_raise wsX6_keepTown := goodIn_r _ [12, 4, 13, 14, 15, 16, 17, 18, 19, 20, 21, 22, 23, 24, 25, 26, 27, 28, 29, 30, 31, 32, 33, 34, 187, 188, 189, 190, 191, 192, 193, 194, 195, 196, 197, 198, 199, 200, 201, 202] (by decide +kernel) (by decide +kernel)
set_option maxRecDepth 20000 in
theorem gX6_raise_X6_keepTown : GoodIn wsX6_raise (wsV RX6 84 RX6 yX6_keepTown wsX6_keepTown) := goodIn_app (goodIn_of _ (by decide +kernel)) ggX6_raise_X6_keepTown
set_option maxRecDepth 20000 in
theorem ggX6_raise_X5_allProjects : GoodIn wsX6_raise wsX5_allProjects := goodIn_r _ [38, 20, 194, 195, 196, 197] (by decide +kernel) (by decide +kernel)
set_option maxRecDepth 20000 in
theorem gX6_raise_X5_allProjects : GoodIn wsX6_raise (wsV RX6 102 RX5 yX5_allProjects wsX5_allProjects) := goodIn_app (goodIn_of _ (by decide +kernel)) ggX6_raise_X5_allProjects
set_option maxRecDepth 20000 in
theorem ggX6_raise_X5_costOf : GoodIn wsX6_raise wsX5_costOf := goodIn_r _ [42, 20, 194, 195, 196, 197] (by decide +kernel) (by decide +kernel)
set_option maxRecDepth 20000 in
theorem gX6_raise_X5_costOf : GoodIn wsX6_raise (wsV RX6 106 RX5 yX5_costOf wsX5_costOf) := goodIn_app (goodIn_of _ (by decide +kernel)) ggX6_raise_X5_costOf
set_option maxRecDepth 20000 in
theorem ggX6_raise_X1_play : GoodIn wsX6_raise wsX1_play := goodIn_r _ [47, 48, 49, 50, 51, 52, 53, 54, 55, 46, 56, 57, 58, 59, 60, 61, 62, 63, 64, 65, 66, 67, 68, 69, 18, 70, 26, 71, 72, 73, 74, 75, 76, 77, 78, 79, 80, 81, 82, 83, 84, 85, 86, 87, 88, 89, 90, 91, 92, 11, 93, 94, 36, 37, 38, 20, 95, 96, 97, 98, 99, 100, 101, 102, 103, 104, 105, 106, 107, 108, 109, 110, 111, 112, 113, 114, 115, 22, 23, 24, 116, 117, 118, 119, 120, 121, 122, 123, 124, 125, 126, 127, 128, 25, 129, 130, 131, 132, 133, 134, 135, 136, 137, 138, 139, 140, 141, 142, 143, 144, 145, 146, 147, 148, 149, 150, 151, 152, 153, 154, 155, 156, 157, 158, 159, 160, 161, 162, 163, 164, 165, 166, 167, 168, 169, 170, 171, 172, 173, 174, 175, 176, 177, 178, 179, 180, 181, 203, 204, 205, 206, 207, 208, 209, 210, 211, 212, 213, 214, 215, 216, 217, 218, 194, 195, 196, 197, 219, 220, 221, 222, 223] (by decide +kernel) (by decide +kernel)
set_option maxRecDepth 20000 in
theorem gX6_raise_X1_play : GoodIn wsX6_raise (wsV RX6 87 RX1 yX1_play wsX1_play) := goodIn_app (goodIn_of _ (by decide +kernel)) ggX6_raise_X1_play
set_option maxRecDepth 20000 in
theorem ggX6_raise_X1_overspends : GoodIn wsX6_raise wsX1_overspends := goodIn_r _ [98, 50, 51, 65, 203, 204, 205, 206, 207, 208, 209, 210, 211, 212, 213, 214, 215, 216, 217, 218, 194, 195, 196, 197] (by decide +kernel) (by decide +kernel)
set_option maxRecDepth 20000 in
theorem gX6_raise_X1_overspends : GoodIn wsX6_raise (wsV RX6 110 RX1 yX1_overspends wsX1_overspends) := goodIn_app (goodIn_of _ (by decide +kernel)) ggX6_raise_X1_overspends
set_option maxRecDepth 20000 in
theorem ggX6_raise_X6_swapPhases : GoodIn wsX6_raise wsX6_swapPhases := goodIn_r _ [186, 6, 7, 187, 188, 189, 190, 191, 192, 193] (by decide +kernel) (by decide +kernel)
set_option maxRecDepth 20000 in
theorem gX6_raise_X6_swapPhases : GoodIn wsX6_raise (wsV RX6 114 RX6 yX6_swapPhases wsX6_swapPhases) := goodIn_app (goodIn_of _ (by decide +kernel)) ggX6_raise_X6_swapPhases
set_option maxRecDepth 20000 in
theorem ggX6_passedOver_X5_countVoters : GoodIn wsX6_passedOver wsX5_countVoters := goodIn_r _ [9, 10, 11, 12, 13, 14, 15, 16, 17, 70, 71, 72, 73] (by decide +kernel) (by decide +kernel)
set_option maxRecDepth 20000 in
theorem gX6_passedOver_X5_countVoters : GoodIn wsX6_passedOver (wsV RX6 163 RX5 yX5_countVoters wsX5_countVoters) := goodIn_app (goodIn_of _ (by decide +kernel)) ggX6_passedOver_X5_countVoters
set_option maxRecDepth 20000 in
theorem ggX6_passedOver_X5_allProjects : GoodIn wsX6_passedOver wsX5_allProjects := goodIn_r _ [21, 22, 70, 71, 72, 73] (by decide +kernel) (by decide +kernel)
set_option maxRecDepth 20000 in
theorem gX6_passedOver_X5_allProjects : GoodIn wsX6_passedOver (wsV RX6 102 RX5 yX5_allProjects wsX5_allProjects) := goodIn_app (goodIn_of _ (by decide +kernel)) ggX6_passedOver_X5_allProjects
set_option maxRecDepth 20000 in
theorem ggX6_passedOver_X6_deservesMore : GoodIn wsX6_passedOver wsX6_deservesMore := goodIn_r _ [27, 3, 28, 29, 30, 31, 32, 33, 8, 34, 10, 35, 26, 36, 37, 38, 39, 40, 41, 42, 43, 44, 45, 46, 47, 48, 49, 50, 51, 52, 53, 54, 55, 22, 63, 64, 65, 66, 67, 68, 69, 70, 71, 72, 73, 74, 75, 76, 77, 78, 79, 80, 81, 82, 83, 84, 85, 86, 87, 88, 89] (by decide +kernel) (by decide +kernel)
set_option maxRecDepth 20000 in
theorem gX6_passedOver_X6_deservesMore : GoodIn wsX6_passedOver (wsV RX6 167 RX6 yX6_deservesMore wsX6_deservesMore) := goodIn_app (goodIn_of _ (by decide +kernel)) ggX6_passedOver_X6_deservesMore
set_option maxRecDepth 20000 in
theorem ggX6_passedOver_X6_nextOfSameSize : GoodIn wsX6_passedOver wsX6_nextOfSameSize := goodIn_r _ [58, 59, 60, 47, 61, 62] (by decide +kernel) (by decide +kernel)
set_option maxRecDepth 20000 in
theorem gX6_passedOver_X6_nextOfSameSize : GoodIn wsX6_passedOver (va_wsS RX6 171 yX6_nextOfSameSize wsX6_nextOfSameSize) := goodIn_app (goodIn_of _ (by decide +kernel)) ggX6_passedOver_X6_nextOfSameSize
