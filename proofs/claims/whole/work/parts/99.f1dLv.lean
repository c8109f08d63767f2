set_option maxRecDepth 20000 in
theorem ggL_raise_X6_raise : GoodIn wsL_raise wsX6_raise := goodIn_ca (goodIn_r _ [6, 7, 8, 9, 10, 11, 12, 13, 14, 15, 16, 5, 17, 18, 19, 20, 21, 22, 23, 24, 25, 26, 27, 28, 29, 30, 31, 32, 33, 34, 35, 36, 37, 38, 39, 40, 41, 42, 43, 44, 45, 46, 47, 48, 49, 50, 51, 52, 53, 54, 55, 56, 57, 58, 59, 60, 61, 62, 63, 64, 65, 66, 67, 68, 69, 70, 71, 72, 73, 74, 75, 76, 77, 78, 79, 80, 81, 82, 83, 84, 85, 86, 87, 88, 89, 90, 91, 92, 93, 94, 95, 96, 97, 98, 99, 100, 101, 102, 103, 104, 105, 106, 107, 108, 109, 110, 111, 112, 113, 114, 115, 116, 117, 118, 119, 120, 121, 122, 123, 124, 125, 126, 127, 128, 129, 130, 131, 132, 133, 134, 135, 136, 137, 138, 139, 140, 141, 142, 143, 144, 145, 146, 147, 148, 149, 150, 151, 152, 153, 154, 155, 156, 157, 158, 159, 160, 161, 162, 163, 164, 165, 166, 167, 168, 169, 170, 171, 172, 173, 174, 175, 176, 177, 178, 179, 180, 181, 182, 183, 184, 185, 186, 187, 188, 189, 190, 191, 192, 193, 194, 195, 196, 197, 198, 199, 200, 201, 202, 203, 204, 205, 206, 207, 208, 209, 210, 211, 212, 213, 214, 215, 216, 217, 218, 219, 220, 221, 222, 223, 224, 225, 226, 227, 228] (by decide +kernel) (by decide +kernel)) (goodIn_sub (fun _ h => List.mem_cons_of_mem _ (List.mem_append_right _ h)) (by decide +kernel))
set_option maxRecDepth 20000 in
theorem gL_raise_X6_raise : GoodIn wsL_raise (wsV RL 7 RX6 yX6_raise wsX6_raise) := goodIn_app (goodIn_of _ (by decide +kernel)) ggL_raise_X6_raise
set_option maxRecDepth 20000 in
theorem ggL_passedOver_X6_passedOver : GoodIn wsL_passedOver wsX6_passedOver := goodIn_ca (goodIn_r _ [6, 7, 8, 9, 10, 11, 12, 13, 14, 15, 16, 17, 18, 19, 20, 21, 22, 23, 24, 25, 26, 27, 28, 29, 30, 31, 5, 32, 33, 34, 35, 36, 37, 38, 39, 40, 41, 42, 43, 44, 45, 46, 47, 48, 49, 50, 51, 52, 53, 54, 55, 56, 57, 58, 59, 60, 61, 62, 63, 64, 65, 66, 67, 68, 69, 70, 71, 72, 73, 74, 75, 76, 77, 78, 79, 80, 81, 82, 83, 84, 85, 86, 87, 88, 89, 90, 91, 92, 93, 94] (by decide +kernel) (by decide +kernel)) (goodIn_sub (fun _ h => List.mem_cons_of_mem _ (List.mem_append_right _ h)) (by decide +kernel))
set_option maxRecDepth 20000 in
theorem gL_passedOver_X6_passedOver : GoodIn wsL_passedOver (wsV RL 15 RX6 yX6_passedOver wsX6_passedOver) := goodIn_app (goodIn_of _ (by decide +kernel)) ggL_passedOver_X6_passedOver
set_option maxRecDepth 20000 in
theorem ggL_law_X6_init : GoodIn wsL_law wsX6_init := goodIn_r _ [9, 10, 11, 12, 13, 14, 15, 16, 17, 18, 19, 20, 21, 22, 23, 24, 25, 26, 27, 28, 29, 30, 31, 32, 33, 34, 35, 36, 37, 38, 39, 40, 41, 42, 43, 44, 45, 46, 47, 48, 49, 50, 51, 52, 53, 54, 55, 56, 57, 58, 59, 60, 61, 62, 63, 64, 65, 66, 67, 68, 69, 70, 71, 72, 73, 74, 75, 76, 77, 78, 79, 80, 81, 82, 83, 84, 85, 86, 693, 694, 695, 696, 668, 669, 670, 671, 672, 673, 674, 697, 698, 699, 700, 701, 702, 703, 704, 705, 706, 707, 708, 709, 710, 711, 712, 713, 714, 715, 716, 717, 718, 719, 720, 721, 722, 723, 724] (by decide +kernel) (by decide +kernel)
set_option maxRecDepth 20000 in
theorem gL_law_X6_init : GoodIn wsL_law (wsX6_init) := ggL_law_X6_init
set_option maxRecDepth 20000 in
theorem ggL_law_X7_init : GoodIn wsL_law wsX7_init := goodIn_r _ [89, 90, 11, 12, 38, 91, 92, 93, 94, 95, 96, 97, 98, 99, 100, 101, 102, 103, 104, 675, 676, 677, 678, 679, 680, 681, 682, 683, 684, 685, 686, 687, 688, 689, 690, 691, 692] (by decide +kernel) (by decide +kernel)
set_option maxRecDepth 20000 in
theorem gL_law_X7_init : GoodIn wsL_law (wsX7_init) := ggL_law_X7_init
set_option maxRecDepth 20000 in
theorem ggL_law_X6_project : GoodIn wsL_law wsX6_project := goodIn_r _ [108, 109, 16, 110, 111, 112, 2, 113, 668, 669, 670, 671, 672, 673, 674, 693, 694, 695, 696] (by decide +kernel) (by decide +kernel)
set_option maxRecDepth 20000 in
theorem gL_law_X6_project : GoodIn wsL_law (wsV RL 23 RX6 yX6_project wsX6_project) := goodIn_app (goodIn_of _ (by decide +kernel)) ggL_law_X6_project
set_option maxRecDepth 20000 in
theorem ggL_law_X7_project : GoodIn wsL_law wsX7_project := goodIn_r _ [117, 118, 119, 92, 120, 121, 5, 122, 675, 676, 677, 678, 679, 680, 681, 682, 683, 684, 685, 686, 687, 688, 689, 690, 691, 692] (by decide +kernel) (by decide +kernel)
set_option maxRecDepth 20000 in
theorem gL_law_X7_project : GoodIn wsL_law (wsV RL 27 RX7 yX7_project wsX7_project) := goodIn_app (goodIn_of _ (by decide +kernel)) ggL_law_X7_project
set_option maxRecDepth 20000 in
theorem ggL_law_X6_drop : GoodIn wsL_law wsX6_drop := goodIn_r _ [126, 16, 110, 127, 128, 129, 15, 130, 39, 112, 2, 113, 668, 669, 670, 671, 672, 673, 674, 693, 694, 695, 696] (by decide +kernel) (by decide +kernel)
set_option maxRecDepth 20000 in
theorem gL_law_X6_drop : GoodIn wsL_law (wsV RL 28 RX6 yX6_drop wsX6_drop) := goodIn_app (goodIn_of _ (by decide +kernel)) ggL_law_X6_drop
set_option maxRecDepth 20000 in
theorem ggL_law_X7_drop : GoodIn wsL_law wsX7_drop := goodIn_r _ [134, 118, 92, 120, 121, 5, 122, 675, 676, 677, 678, 679, 680, 681, 682, 683, 684, 685, 686, 687, 688, 689, 690, 691, 692] (by decide +kernel) (by decide +kernel)
set_option maxRecDepth 20000 in
theorem gL_law_X7_drop : GoodIn wsL_law (wsV RL 32 RX7 yX7_drop wsX7_drop) := goodIn_app (goodIn_of _ (by decide +kernel)) ggL_law_X7_drop
set_option maxRecDepth 20000 in
theorem ggL_law_X6_budget : GoodIn wsL_law wsX6_budget := goodIn_r _ [138, 139, 16, 140, 668, 669, 670, 671, 672, 673, 674, 693, 694, 695, 696] (by decide +kernel) (by decide +kernel)
set_option maxRecDepth 20000 in
theorem gL_law_X6_budget : GoodIn wsL_law (wsV RL 33 RX6 yX6_budget wsX6_budget) := goodIn_app (goodIn_of _ (by decide +kernel)) ggL_law_X6_budget
set_option maxRecDepth 20000 in
theorem ggL_law_X7_budget : GoodIn wsL_law wsX7_budget := goodIn_r _ [144, 118, 145, 96, 120, 121, 5, 122, 675, 676, 677, 678, 679, 680, 681, 682, 683, 684, 685, 686, 687, 688, 689, 690, 691, 692] (by decide +kernel) (by decide +kernel)
set_option maxRecDepth 20000 in
theorem gL_law_X7_budget : GoodIn wsL_law (wsV RL 36 RX7 yX7_budget wsX7_budget) := goodIn_app (goodIn_of _ (by decide +kernel)) ggL_law_X7_budget
set_option maxRecDepth 20000 in
theorem ggL_law_X6_voter : GoodIn wsL_law wsX6_voter := goodIn_r _ [149, 16, 150, 151, 152, 153, 2, 154, 155, 156, 157, 15, 158, 159, 668, 669, 670, 671, 672, 673, 674, 693, 694, 695, 696] (by decide +kernel) (by decide +kernel)
set_option maxRecDepth 20000 in
theorem gL_law_X6_voter : GoodIn wsL_law (wsV RL 37 RX6 yX6_voter wsX6_voter) := goodIn_app (goodIn_of _ (by decide +kernel)) ggL_law_X6_voter
set_option maxRecDepth 20000 in
theorem ggL_law_X7_voter : GoodIn wsL_law wsX7_voter := goodIn_r _ [163, 118, 94, 95, 120, 121, 5, 122, 675, 676, 677, 678, 679, 680, 681, 682, 683, 684, 685, 686, 687, 688, 689, 690, 691, 692] (by decide +kernel) (by decide +kernel)
set_option maxRecDepth 20000 in
theorem gL_law_X7_voter : GoodIn wsL_law (wsV RL 40 RX7 yX7_voter wsX7_voter) := goodIn_app (goodIn_of _ (by decide +kernel)) ggL_law_X7_voter
set_option maxRecDepth 20000 in
theorem ggL_law_X6_strike : GoodIn wsL_law wsX6_strike := goodIn_r _ [167, 16, 150, 168, 155, 156, 157, 15, 158, 159, 153, 2, 154, 668, 669, 670, 671, 672, 673, 674, 693, 694, 695, 696] (by decide +kernel) (by decide +kernel)
set_option maxRecDepth 20000 in
theorem gL_law_X6_strike : GoodIn wsL_law (wsV RL 41 RX6 yX6_strike wsX6_strike) := goodIn_app (goodIn_of _ (by decide +kernel)) ggL_law_X6_strike
set_option maxRecDepth 20000 in
theorem ggL_law_X7_strike : GoodIn wsL_law wsX7_strike := goodIn_r _ [172, 118, 94, 120, 121, 5, 122, 675, 676, 677, 678, 679, 680, 681, 682, 683, 684, 685, 686, 687, 688, 689, 690, 691, 692] (by decide +kernel) (by decide +kernel)
set_option maxRecDepth 20000 in
theorem gL_law_X7_strike : GoodIn wsL_law (wsV RL 44 RX7 yX7_strike wsX7_strike) := goodIn_app (goodIn_of _ (by decide +kernel)) ggL_law_X7_strike
set_option maxRecDepth 20000 in
theorem ggL_law_X6_approve : GoodIn wsL_law wsX6_approve := goodIn_r _ [176, 16, 151, 155, 156, 157, 15, 158, 159, 153, 2, 154, 111, 112, 113, 668, 669, 670, 671, 672, 673, 674, 693, 694, 695, 696] (by decide +kernel) (by decide +kernel)
set_option maxRecDepth 20000 in
theorem gL_law_X6_approve : GoodIn wsL_law (wsV RL 45 RX6 yX6_approve wsX6_approve) := goodIn_app (goodIn_of _ (by decide +kernel)) ggL_law_X6_approve
set_option maxRecDepth 20000 in
theorem ggL_law_X7_approve : GoodIn wsL_law wsX7_approve := goodIn_r _ [180, 118, 94, 95, 120, 121, 5, 122, 675, 676, 677, 678, 679, 680, 681, 682, 683, 684, 685, 686, 687, 688, 689, 690, 691, 692] (by decide +kernel) (by decide +kernel)
set_option maxRecDepth 20000 in
theorem gL_law_X7_approve : GoodIn wsL_law (wsV RL 49 RX7 yX7_approve wsX7_approve) := goodIn_app (goodIn_of _ (by decide +kernel)) ggL_law_X7_approve
set_option maxRecDepth 20000 in
theorem ggL_law_X6_run : GoodIn wsL_law wsX6_run := goodIn_r _ [184, 33, 185, 186, 187, 188, 2, 189, 17, 16, 29, 190, 191, 192, 15, 193, 39, 194, 195, 196, 197, 40, 159, 41, 198, 199, 200, 28, 201, 55, 202, 203, 204, 205, 32, 206, 207, 208, 209, 79, 210, 211, 212, 213, 214, 66, 215, 216, 217, 218, 219, 69, 67, 220, 70, 221, 222, 223, 224, 225, 226, 227, 228, 229, 230, 231, 232, 233, 234, 24, 235, 51, 236, 237, 238, 239, 240, 156, 157, 158, 153, 154, 241, 242, 243, 244, 245, 246, 247, 248, 249, 250, 251, 252, 253, 254, 255, 256, 78, 257, 258, 259, 260, 261, 262, 263, 264, 265, 266, 267, 268, 269, 270, 271, 272, 273, 274, 275, 276, 277, 278, 279, 280, 76, 281, 85, 282, 84, 283, 284, 285, 286, 287, 288, 289, 290, 291, 292, 293, 294, 295, 296, 77, 297, 298, 299, 300, 86, 301, 302, 303, 304, 305, 306, 307, 308, 73, 72, 71, 309, 310, 311, 312, 68, 313, 314, 315, 316, 317, 318, 319, 320, 321, 668, 669, 670, 671, 672, 673, 674, 705, 706, 707, 708, 709, 710, 711, 712, 713, 714, 715, 716, 717, 718, 719, 720, 693, 694, 695, 696, 700, 701, 702, 703, 704, 699, 721, 722, 723, 724] (by decide +kernel) (by decide +kernel)
set_option maxRecDepth 20000 in
theorem gL_law_X6_run : GoodIn wsL_law (wsV RL 50 RX6 yX6_run wsX6_run) := goodIn_app (goodIn_of _ (by decide +kernel)) ggL_law_X6_run
set_option maxRecDepth 20000 in
theorem ggL_law_X7_run : GoodIn wsL_law wsX7_run := goodIn_r _ [325, 118, 326, 327, 328, 329, 5, 330, 331, 96, 100, 97, 92, 102, 98, 94, 99, 95, 332, 333, 334, 335, 91, 336, 337, 338, 339, 340, 341, 342, 343, 344, 345, 346, 347, 348, 349, 350, 351, 352, 353, 354, 355, 356, 357, 358, 359, 360, 361, 362, 363, 364, 365, 366, 367, 368, 369, 370, 103, 371, 372, 373, 374, 375, 376, 377, 378, 379, 380, 381, 382, 101, 383, 384, 385, 386, 675, 676, 677, 678, 679, 680, 681, 682, 683, 684, 685, 686, 687, 688, 689, 690, 691, 692] (by decide +kernel) (by decide +kernel)
set_option maxRecDepth 20000 in
theorem gL_law_X7_run : GoodIn wsL_law (wsV RL 54 RX7 yX7_run wsX7_run) := goodIn_app (goodIn_of _ (by decide +kernel)) ggL_law_X7_run
set_option maxRecDepth 20000 in
theorem ggL_law_L_raise : GoodIn wsL_law wsL_raise := goodIn_ca (goodIn_r _ [390, 391, 392, 393, 394, 2, 395, 396, 397, 398, 17, 140, 33, 34, 186, 187, 188, 189, 16, 29, 190, 191, 192, 15, 193, 39, 194, 195, 196, 197, 40, 159, 41, 198, 199, 200, 28, 201, 55, 202, 399, 242, 243, 244, 400, 401, 402, 403, 203, 204, 205, 32, 206, 207, 208, 209, 79, 210, 211, 212, 213, 214, 66, 215, 216, 217, 218, 219, 69, 67, 220, 70, 221, 222, 223, 224, 225, 226, 227, 228, 229, 230, 231, 232, 233, 234, 24, 235, 51, 236, 237, 238, 239, 240, 156, 157, 158, 153, 154, 241, 245, 246, 247, 248, 249, 250, 251, 252, 253, 254, 255, 256, 78, 257, 258, 259, 260, 261, 262, 263, 264, 265, 266, 267, 268, 269, 270, 271, 272, 273, 274, 275, 276, 277, 278, 279, 280, 76, 281, 85, 282, 84, 283, 284, 285, 286, 287, 288, 289, 290, 291, 292, 293, 294, 295, 296, 77, 297, 298, 299, 300, 86, 301, 302, 303, 304, 305, 306, 307, 308, 73, 72, 71, 309, 310, 311, 312, 68, 313, 314, 315, 316, 317, 318, 319, 320, 321, 404, 405, 406, 407, 408, 668, 669, 670, 671, 672, 673, 674, 693, 694, 695, 696, 700, 701, 702, 703, 704, 705, 706, 707, 708, 709, 710, 711, 712, 713, 714, 715, 716, 717, 718, 719, 720, 699, 721, 722, 723, 724] (by decide +kernel) (by decide +kernel)) (goodIn_sub (fun _ h => List.mem_append_right _ h) (by decide +kernel))
set_option maxRecDepth 20000 in
theorem gL_law_L_raise : GoodIn wsL_law (va_wsS RL 55 yL_raise wsL_raise) := goodIn_app (goodIn_of _ (by decide +kernel)) ggL_law_L_raise
set_option maxRecDepth 20000 in
theorem ggL_law_X7_raise : GoodIn wsL_law wsX7_raise := goodIn_r _ [412, 413, 118, 96, 120, 121, 5, 122, 327, 328, 329, 330, 331, 326, 100, 97, 92, 102, 98, 94, 99, 95, 332, 333, 334, 335, 91, 336, 337, 338, 339, 340, 341, 342, 343, 344, 345, 346, 347, 348, 349, 350, 351, 352, 353, 354, 355, 356, 357, 358, 359, 360, 361, 362, 363, 364, 365, 366, 367, 368, 369, 370, 103, 371, 372, 373, 374, 375, 376, 377, 378, 379, 380, 381, 382, 101, 383, 384, 385, 386, 675, 676, 677, 678, 679, 680, 681, 682, 683, 684, 685, 686, 687, 688, 689, 690, 691, 692] (by decide +kernel) (by decide +kernel)
set_option maxRecDepth 20000 in
theorem gL_law_X7_raise : GoodIn wsL_law (wsV RL 60 RX7 yX7_raise wsX7_raise) := goodIn_app (goodIn_of _ (by decide +kernel)) ggL_law_X7_raise
set_option maxRecDepth 20000 in
theorem ggL_law_X7_thrown : GoodIn wsL_law wsX7_thrown := goodIn_r _ [417, 118, 675, 676, 677, 678, 679, 680, 681, 682, 683, 684, 685, 686, 687, 688, 689, 690, 691, 692] (by decide +kernel) (by decide +kernel)
set_option maxRecDepth 20000 in
theorem gL_law_X7_thrown : GoodIn wsL_law (wsV RL 61 RX7 yX7_thrown wsX7_thrown) := goodIn_app (goodIn_of _ (by decide +kernel)) ggL_law_X7_thrown
set_option maxRecDepth 20000 in
theorem ggL_law_X6_chosen : GoodIn wsL_law wsX6_chosen := goodIn_r _ [421, 33, 185, 422, 668, 669, 670, 671, 672, 673, 674, 705, 706, 707, 708, 709, 710, 711, 712, 713, 714, 715, 716, 717, 718, 719, 720] (by decide +kernel) (by decide +kernel)
set_option maxRecDepth 20000 in
theorem gL_law_X6_chosen : GoodIn wsL_law (wsV RL 64 RX6 yX6_chosen wsX6_chosen) := goodIn_app (goodIn_of _ (by decide +kernel)) ggL_law_X6_chosen
set_option maxRecDepth 20000 in
theorem ggL_law_X7_chosen : GoodIn wsL_law wsX7_chosen := goodIn_r _ [426, 118, 326, 101, 120, 121, 5, 122, 675, 676, 677, 678, 679, 680, 681, 682, 683, 684, 685, 686, 687, 688, 689, 690, 691, 692] (by decide +kernel) (by decide +kernel)
set_option maxRecDepth 20000 in
theorem gL_law_X7_chosen : GoodIn wsL_law (wsV RL 67 RX7 yX7_chosen wsX7_chosen) := goodIn_app (goodIn_of _ (by decide +kernel)) ggL_law_X7_chosen
set_option maxRecDepth 20000 in
theorem ggL_law_X6_spent : GoodIn wsL_law wsX6_spent := goodIn_r _ [430, 33, 431, 668, 669, 670, 671, 672, 673, 674, 705, 706, 707, 708, 709, 710, 711, 712, 713, 714, 715, 716, 717, 718, 719, 720] (by decide +kernel) (by decide +kernel)
set_option maxRecDepth 20000 in
theorem gL_law_X6_spent : GoodIn wsL_law (wsV RL 68 RX6 yX6_spent wsX6_spent) := goodIn_app (goodIn_of _ (by decide +kernel)) ggL_law_X6_spent
set_option maxRecDepth 20000 in
theorem ggL_law_X7_spent : GoodIn wsL_law wsX7_spent := goodIn_r _ [435, 118, 383, 384, 385, 5, 386, 326, 97, 101, 675, 676, 677, 678, 679, 680, 681, 682, 683, 684, 685, 686, 687, 688, 689, 690, 691, 692] (by decide +kernel) (by decide +kernel)
set_option maxRecDepth 20000 in
theorem gL_law_X7_spent : GoodIn wsL_law (wsV RL 71 RX7 yX7_spent wsX7_spent) := goodIn_app (goodIn_of _ (by decide +kernel)) ggL_law_X7_spent
set_option maxRecDepth 20000 in
theorem ggL_law_X6_purse : GoodIn wsL_law wsX6_purse := goodIn_r _ [439, 17, 21, 33, 440, 441, 155, 156, 157, 15, 158, 159, 153, 2, 154, 442, 443, 444, 20, 445, 46, 47, 446, 447, 315, 316, 24, 317, 51, 448, 449, 450, 451, 452, 233, 234, 235, 236, 237, 238, 239, 453, 261, 262, 263, 264, 195, 196, 197, 454, 455, 456, 457, 458, 459, 460, 461, 269, 462, 463, 464, 465, 466, 467, 468, 469, 470, 471, 472, 473, 668, 669, 670, 671, 672, 673, 674, 705, 706, 707, 708, 709, 710, 711, 712, 713, 714, 715, 716, 717, 718, 719, 720, 693, 694, 695, 696, 697, 698, 699] (by decide +kernel) (by decide +kernel)
set_option maxRecDepth 20000 in
theorem gL_law_X6_purse : GoodIn wsL_law (wsV RL 72 RX6 yX6_purse wsX6_purse) := goodIn_app (goodIn_of _ (by decide +kernel)) ggL_law_X6_purse
set_option maxRecDepth 20000 in
theorem ggL_law_X7_purse : GoodIn wsL_law wsX7_purse := goodIn_r _ [477, 118, 478, 479, 480, 5, 481, 98, 120, 121, 122, 482, 483, 484, 485, 486, 487, 488, 91, 489, 490, 491, 492, 371, 372, 373, 374, 493, 494, 495, 496, 497, 498, 499, 500, 358, 501, 502, 503, 504, 505, 506, 507, 508, 332, 333, 334, 335, 336, 509, 510, 511, 512, 363, 364, 365, 366, 375, 376, 377, 378, 675, 676, 677, 678, 679, 680, 681, 682, 683, 684, 685, 686, 687, 688, 689, 690, 691, 692] (by decide +kernel) (by decide +kernel)
set_option maxRecDepth 20000 in
theorem gL_law_X7_purse : GoodIn wsL_law (wsV RL 76 RX7 yX7_purse wsX7_purse) := goodIn_app (goodIn_of _ (by decide +kernel)) ggL_law_X7_purse
set_option maxRecDepth 20000 in
theorem ggL_law_X6_paid : GoodIn wsL_law wsX6_paid := goodIn_r _ [516, 17, 33, 21, 517, 155, 156, 157, 15, 158, 159, 153, 2, 154, 518, 519, 520, 32, 521, 207, 71, 522, 523, 524, 525, 69, 79, 68, 72, 274, 275, 276, 277, 40, 526, 449, 450, 20, 451, 46, 47, 452, 233, 234, 24, 235, 51, 236, 237, 238, 239, 442, 443, 444, 445, 446, 447, 315, 316, 317, 448, 453, 261, 262, 263, 264, 195, 196, 197, 454, 455, 456, 457, 458, 459, 460, 461, 269, 462, 463, 464, 465, 466, 467, 468, 469, 470, 471, 472, 473, 668, 669, 670, 671, 672, 673, 674, 705, 706, 707, 708, 709, 710, 711, 712, 713, 714, 715, 716, 717, 718, 719, 720, 693, 694, 695, 696, 697, 698, 699] (by decide +kernel) (by decide +kernel)
set_option maxRecDepth 20000 in
theorem gL_law_X6_paid : GoodIn wsL_law (wsV RL 77 RX6 yX6_paid wsX6_paid) := goodIn_app (goodIn_of _ (by decide +kernel)) ggL_law_X6_paid
set_option maxRecDepth 20000 in
theorem ggL_law_X7_paid : GoodIn wsL_law wsX7_paid := goodIn_r _ [530, 118, 478, 479, 480, 5, 481, 98, 120, 121, 122, 482, 483, 484, 531, 532, 533, 534, 326, 101, 485, 486, 487, 488, 91, 489, 490, 491, 492, 371, 372, 373, 374, 493, 494, 495, 496, 497, 498, 499, 500, 358, 501, 502, 503, 504, 505, 506, 507, 508, 332, 333, 334, 335, 336, 509, 510, 511, 512, 363, 364, 365, 366, 375, 376, 377, 378, 675, 676, 677, 678, 679, 680, 681, 682, 683, 684, 685, 686, 687, 688, 689, 690, 691, 692] (by decide +kernel) (by decide +kernel)
set_option maxRecDepth 20000 in
theorem gL_law_X7_paid : GoodIn wsL_law (wsV RL 81 RX7 yX7_paid wsX7_paid) := goodIn_app (goodIn_of _ (by decide +kernel)) ggL_law_X7_paid
set_option maxRecDepth 20000 in
theorem ggL_law_X6_rate : GoodIn wsL_law wsX6_rate := goodIn_r _ [538, 33, 21, 539, 517, 518, 519, 520, 32, 521, 207, 71, 442, 443, 444, 20, 445, 46, 47, 446, 447, 315, 316, 24, 317, 51, 448, 449, 450, 451, 452, 233, 234, 235, 236, 237, 238, 239, 453, 261, 262, 263, 264, 195, 196, 197, 454, 455, 456, 457, 458, 459, 460, 461, 269, 462, 463, 464, 465, 466, 467, 468, 469, 470, 471, 472, 473, 668, 669, 670, 671, 672, 673, 674, 705, 706, 707, 708, 709, 710, 711, 712, 713, 714, 715, 716, 717, 718, 719, 720, 697, 698, 699] (by decide +kernel) (by decide +kernel)
set_option maxRecDepth 20000 in
theorem gL_law_X6_rate : GoodIn wsL_law (wsV RL 82 RX6 yX6_rate wsX6_rate) := goodIn_app (goodIn_of _ (by decide +kernel)) ggL_law_X6_rate
set_option maxRecDepth 20000 in
theorem ggL_law_X7_rate : GoodIn wsL_law wsX7_rate := goodIn_r _ [543, 118, 531, 532, 533, 5, 534, 326, 101, 482, 483, 484, 120, 121, 122, 485, 486, 487, 488, 91, 489, 490, 491, 492, 371, 372, 373, 374, 493, 494, 495, 496, 497, 498, 499, 500, 358, 501, 502, 503, 504, 505, 506, 507, 508, 332, 333, 334, 335, 336, 509, 510, 511, 512, 363, 364, 365, 366, 375, 376, 377, 378, 675, 676, 677, 678, 679, 680, 681, 682, 683, 684, 685, 686, 687, 688, 689, 690, 691, 692] (by decide +kernel) (by decide +kernel)
set_option maxRecDepth 20000 in
theorem gL_law_X7_rate : GoodIn wsL_law (wsV RL 85 RX7 yX7_rate wsX7_rate) := goodIn_app (goodIn_of _ (by decide +kernel)) ggL_law_X7_rate
set_option maxRecDepth 20000 in
theorem ggL_law_X6_missing : GoodIn wsL_law wsX6_missing := goodIn_r _ [547, 17, 33, 25, 21, 441, 127, 128, 129, 15, 130, 39, 112, 2, 113, 518, 519, 520, 32, 521, 207, 71, 548, 549, 550, 551, 66, 79, 258, 219, 70, 67, 260, 261, 262, 24, 263, 51, 264, 195, 196, 197, 265, 266, 267, 268, 269, 274, 275, 276, 277, 40, 289, 290, 291, 292, 442, 443, 444, 20, 445, 46, 47, 446, 447, 315, 316, 317, 448, 449, 450, 451, 452, 233, 234, 235, 236, 237, 238, 239, 453, 454, 455, 456, 457, 458, 459, 460, 461, 462, 463, 464, 465, 466, 467, 468, 469, 470, 471, 472, 473, 668, 669, 670, 671, 672, 673, 674, 705, 706, 707, 708, 709, 710, 711, 712, 713, 714, 715, 716, 717, 718, 719, 720, 693, 694, 695, 696, 699, 697, 698] (by decide +kernel) (by decide +kernel)
set_option maxRecDepth 20000 in
theorem gL_law_X6_missing : GoodIn wsL_law (wsV RL 86 RX6 yX6_missing wsX6_missing) := goodIn_app (goodIn_of _ (by decide +kernel)) ggL_law_X6_missing
set_option maxRecDepth 20000 in
theorem ggL_law_X7_missing : GoodIn wsL_law wsX7_missing := goodIn_r _ [555, 118, 97, 102, 120, 121, 5, 122, 482, 483, 484, 346, 347, 348, 349, 332, 333, 334, 335, 91, 336, 350, 351, 352, 353, 98, 99, 354, 355, 356, 357, 358, 359, 360, 361, 362, 375, 376, 377, 378, 485, 486, 487, 488, 489, 490, 491, 492, 371, 372, 373, 374, 493, 494, 495, 496, 497, 498, 499, 500, 501, 502, 503, 504, 505, 506, 507, 508, 509, 510, 511, 512, 363, 364, 365, 366, 675, 676, 677, 678, 679, 680, 681, 682, 683, 684, 685, 686, 687, 688, 689, 690, 691, 692] (by decide +kernel) (by decide +kernel)
set_option maxRecDepth 20000 in
theorem gL_law_X7_missing : GoodIn wsL_law (wsV RL 89 RX7 yX7_missing wsX7_missing) := goodIn_app (goodIn_of _ (by decide +kernel)) ggL_law_X7_missing
set_option maxRecDepth 20000 in
theorem ggL_law_X6_served : GoodIn wsL_law wsX6_served := goodIn_r _ [559, 17, 33, 155, 156, 157, 15, 158, 159, 153, 2, 154, 560, 561, 562, 32, 563, 79, 564, 208, 565, 566, 567, 568, 569, 570, 571, 668, 669, 670, 671, 672, 673, 674, 693, 694, 695, 696, 705, 706, 707, 708, 709, 710, 711, 712, 713, 714, 715, 716, 717, 718, 719, 720] (by decide +kernel) (by decide +kernel)
set_option maxRecDepth 20000 in
theorem gL_law_X6_served : GoodIn wsL_law (wsV RL 90 RX6 yX6_served wsX6_served) := goodIn_app (goodIn_of _ (by decide +kernel)) ggL_law_X6_served
set_option maxRecDepth 20000 in
theorem ggL_law_X7_served : GoodIn wsL_law wsX7_served := goodIn_r _ [575, 118, 478, 479, 480, 5, 481, 98, 120, 121, 122, 576, 577, 578, 579, 102, 99, 675, 676, 677, 678, 679, 680, 681, 682, 683, 684, 685, 686, 687, 688, 689, 690, 691, 692] (by decide +kernel) (by decide +kernel)
set_option maxRecDepth 20000 in
theorem gL_law_X7_served : GoodIn wsL_law (wsV RL 93 RX7 yX7_served wsX7_served) := goodIn_app (goodIn_of _ (by decide +kernel)) ggL_law_X7_served
set_option maxRecDepth 20000 in
theorem ggL_law_L_passedOver : GoodIn wsL_law wsL_passedOver := goodIn_ca (goodIn_r _ [582, 391, 583, 584, 585, 2, 586, 396, 397, 17, 587, 588, 222, 223, 15, 224, 159, 225, 226, 227, 228, 229, 230, 231, 399, 242, 243, 244, 39, 589, 590, 591, 592, 151, 33, 140, 155, 156, 157, 158, 153, 154, 560, 561, 562, 32, 563, 79, 564, 208, 565, 566, 567, 568, 569, 570, 571, 400, 401, 402, 403, 593, 594, 595, 596, 597, 598, 599, 668, 669, 670, 671, 672, 673, 674, 693, 694, 695, 696, 705, 706, 707, 708, 709, 710, 711, 712, 713, 714, 715, 716, 717, 718, 719, 720] (by decide +kernel) (by decide +kernel)) (goodIn_sub (fun _ h => List.mem_append_right _ h) (by decide +kernel))
set_option maxRecDepth 20000 in
theorem gL_law_L_passedOver : GoodIn wsL_law (va_wsS RL 94 yL_passedOver wsL_passedOver) := goodIn_app (goodIn_of _ (by decide +kernel)) ggL_law_L_passedOver
set_option maxRecDepth 20000 in
theorem ggL_law_X7_passedOver : GoodIn wsL_law wsX7_passedOver := goodIn_r _ [603, 118, 331, 604, 97, 98, 99, 100, 120, 121, 5, 122, 605, 606, 607, 576, 577, 578, 579, 102, 675, 676, 677, 678, 679, 680, 681, 682, 683, 684, 685, 686, 687, 688, 689, 690, 691, 692] (by decide +kernel) (by decide +kernel)
set_option maxRecDepth 20000 in
theorem gL_law_X7_passedOver : GoodIn wsL_law (wsV RL 97 RX7 yX7_passedOver wsX7_passedOver) := goodIn_app (goodIn_of _ (by decide +kernel)) ggL_law_X7_passedOver
set_option maxRecDepth 20000 in
theorem ggL_law_X6_receipt : GoodIn wsL_law wsX6_receipt := goodIn_r _ [611, 17, 29, 612, 155, 156, 157, 15, 158, 159, 153, 2, 154, 613, 614, 615, 616, 33, 185, 21, 517, 422, 440, 441, 198, 199, 200, 28, 201, 55, 202, 522, 523, 524, 32, 525, 69, 79, 71, 68, 72, 274, 275, 276, 277, 40, 442, 443, 444, 20, 445, 46, 47, 446, 447, 315, 316, 24, 317, 51, 448, 449, 450, 451, 452, 233, 234, 235, 236, 237, 238, 239, 453, 261, 262, 263, 264, 195, 196, 197, 454, 455, 456, 457, 458, 459, 460, 461, 269, 462, 463, 464, 465, 617, 618, 619, 620, 621, 622, 623, 624, 57, 625, 626, 627, 628, 629, 630, 631, 632, 633, 634, 60, 58, 635, 636, 637, 638, 639, 640, 641, 642, 643, 644, 645, 646, 668, 669, 670, 671, 672, 673, 674, 700, 701, 702, 703, 704, 693, 694, 695, 696, 705, 706, 707, 708, 709, 710, 711, 712, 713, 714, 715, 716, 717, 718, 719, 720, 697, 698, 699] (by decide +kernel) (by decide +kernel)
set_option maxRecDepth 20000 in
theorem gL_law_X6_receipt : GoodIn wsL_law (wsV RL 98 RX6 yX6_receipt wsX6_receipt) := goodIn_app (goodIn_of _ (by decide +kernel)) ggL_law_X6_receipt
set_option maxRecDepth 20000 in
theorem ggL_law_X7_receipt : GoodIn wsL_law wsX7_receipt := goodIn_r _ [650, 118, 651, 326, 101, 104, 478, 479, 480, 5, 481, 98, 120, 121, 122, 493, 494, 495, 496, 91, 652, 653, 654, 655, 656, 657, 658, 659, 489, 490, 491, 492, 371, 372, 373, 374, 497, 498, 499, 500, 358, 501, 502, 503, 504, 505, 506, 507, 508, 332, 333, 334, 335, 336, 509, 510, 511, 512, 363, 364, 365, 366, 375, 376, 377, 378, 660, 661, 662, 663, 664, 665, 666, 667, 604, 675, 676, 677, 678, 679, 680, 681, 682, 683, 684, 685, 686, 687, 688, 689, 690, 691, 692] (by decide +kernel) (by decide +kernel)
set_option maxRecDepth 20000 in
theorem gL_law_X7_receipt : GoodIn wsL_law (wsV RL 101 RX7 yX7_receipt wsX7_receipt) := goodIn_app (goodIn_of _ (by decide +kernel)) ggL_law_X7_receipt
