set_option maxRecDepth 20000 in
theorem ggL_law_X5_init : GoodIn wsL_law wsX5_init := goodIn_r _ [8, 9, 10, 11, 12, 13, 14, 15, 16, 17, 18, 19, 20, 21, 22, 23, 24, 25, 26, 27, 28, 29, 30, 31, 32, 33, 34, 35, 36, 37, 38, 39, 40, 41, 42, 43, 44, 45, 46, 47, 48, 49, 50, 51, 52, 53, 54, 55, 56, 57, 58, 59, 60, 61, 62, 63, 64, 2, 65, 66, 67, 68, 69, 70, 71, 72, 73, 74, 75, 76, 77, 78, 79, 80, 81, 82, 83, 84, 85, 86, 87, 88, 671, 672, 673, 674, 675, 676, 677, 645, 646, 647, 648, 649, 650, 651, 652, 653, 678, 679, 680, 681, 682, 683, 684, 685, 686, 687, 688, 689, 690, 691, 692, 693, 694, 695, 696, 697, 698, 699] (by decide +kernel) (by decide +kernel)
set_option maxRecDepth 20000 in
theorem gL_law_X5_init : GoodIn wsL_law (wsX5_init) := ggL_law_X5_init
set_option maxRecDepth 20000 in
theorem ggL_law_X6_init : GoodIn wsL_law wsX6_init := goodIn_r _ [91, 92, 10, 11, 93, 94, 95, 35, 96, 97, 98, 99, 100, 101, 102, 103, 104, 105, 106, 107, 108, 654, 655, 656, 657, 658, 659, 660, 661, 662, 663, 664, 665, 666, 667, 668, 669, 670] (by decide +kernel) (by decide +kernel)
set_option maxRecDepth 20000 in
theorem gL_law_X6_init : GoodIn wsL_law (wsX6_init) := ggL_law_X6_init
set_option maxRecDepth 20000 in
theorem ggL_law_X5_board : GoodIn wsL_law wsX5_board := goodIn_r _ [112, 113, 114, 2, 115, 62, 63, 64, 65, 15, 66, 67, 68, 69, 19, 70, 71, 72, 14, 73, 74, 75, 76, 77, 78, 79, 80, 81, 82, 83, 84, 85, 18, 86, 87, 88, 645, 646, 647, 648, 649, 650, 651, 652, 653, 671, 672, 673, 674, 675, 676, 677, 678, 679, 680] (by decide +kernel) (by decide +kernel)
set_option maxRecDepth 20000 in
theorem gL_law_X5_board : GoodIn wsL_law (wsV RL 13 RX5 yX5_board wsX5_board) := goodIn_app (goodIn_of _ (by decide +kernel)) ggL_law_X5_board
set_option maxRecDepth 20000 in
theorem ggL_law_X6_board : GoodIn wsL_law wsX6_board := goodIn_r _ [119, 93, 94, 96, 95, 98, 120, 121, 5, 122, 123, 124, 125, 126, 127, 128, 654, 655, 656, 657, 658, 659, 660, 661, 662, 663, 664, 665, 666, 667, 668, 669, 670] (by decide +kernel) (by decide +kernel)
set_option maxRecDepth 20000 in
theorem gL_law_X6_board : GoodIn wsL_law (wsV RL 17 RX6 yX6_board wsX6_board) := goodIn_app (goodIn_of _ (by decide +kernel)) ggL_law_X6_board
set_option maxRecDepth 20000 in
theorem ggL_law_X5_set : GoodIn wsL_law wsX5_set := goodIn_r _ [132, 15, 68, 69, 19, 133, 134, 2, 135, 136, 137, 138, 14, 139, 74, 75, 140, 141, 142, 143, 66, 144, 67, 145, 81, 82, 83, 84, 85, 18, 86, 87, 88, 645, 646, 647, 648, 649, 650, 651, 652, 653, 671, 672, 673, 674, 675, 676, 677, 678, 679, 680] (by decide +kernel) (by decide +kernel)
set_option maxRecDepth 20000 in
theorem gL_law_X5_set : GoodIn wsL_law (wsV RL 18 RX5 yX5_set wsX5_set) := goodIn_app (goodIn_of _ (by decide +kernel)) ggL_law_X5_set
set_option maxRecDepth 20000 in
theorem ggL_law_X6_set : GoodIn wsL_law wsX6_set := goodIn_r _ [149, 96, 95, 98, 150, 151, 152, 5, 153, 154, 155, 156, 157, 93, 94, 120, 121, 122, 123, 124, 125, 126, 127, 128, 654, 655, 656, 657, 658, 659, 660, 661, 662, 663, 664, 665, 666, 667, 668, 669, 670] (by decide +kernel) (by decide +kernel)
set_option maxRecDepth 20000 in
theorem gL_law_X6_set : GoodIn wsL_law (wsV RL 22 RX6 yX6_set wsX6_set) := goodIn_app (goodIn_of _ (by decide +kernel)) ggL_law_X6_set
set_option maxRecDepth 20000 in
theorem ggL_law_X5_lay : GoodIn wsL_law wsX5_lay := goodIn_r _ [161, 15, 19, 136, 137, 138, 14, 139, 74, 75, 162, 163, 164, 2, 165, 66, 67, 145, 81, 82, 166, 167, 168, 169, 170, 171, 172, 173, 77, 174, 175, 176, 177, 78, 178, 179, 180, 181, 182, 183, 184, 185, 186, 187, 188, 189, 80, 190, 79, 76, 191, 192, 193, 194, 195, 196, 197, 198, 199, 200, 201, 18, 202, 87, 36, 88, 203, 204, 205, 206, 68, 140, 141, 142, 143, 144, 207, 208, 209, 645, 646, 647, 648, 649, 650, 651, 652, 653, 671, 672, 673, 674, 675, 676, 677, 678, 679, 680] (by decide +kernel) (by decide +kernel)
set_option maxRecDepth 20000 in
theorem gL_law_X5_lay : GoodIn wsL_law (wsV RL 23 RX5 yX5_lay wsX5_lay) := goodIn_app (goodIn_of _ (by decide +kernel)) ggL_law_X5_lay
set_option maxRecDepth 20000 in
theorem ggL_law_X6_lay : GoodIn wsL_law wsX6_lay := goodIn_r _ [213, 96, 150, 151, 152, 5, 153, 154, 155, 156, 157, 93, 94, 120, 121, 122, 214, 215, 216, 217, 218, 219, 220, 221, 100, 222, 223, 224, 225, 226, 227, 228, 229, 230, 231, 232, 233, 234, 235, 236, 237, 238, 239, 240, 241, 242, 243, 97, 127, 128, 244, 245, 246, 247, 95, 654, 655, 656, 657, 658, 659, 660, 661, 662, 663, 664, 665, 666, 667, 668, 669, 670] (by decide +kernel) (by decide +kernel)
set_option maxRecDepth 20000 in
theorem gL_law_X6_lay : GoodIn wsL_law (wsV RL 27 RX6 yX6_lay wsX6_lay) := goodIn_app (goodIn_of _ (by decide +kernel)) ggL_law_X6_lay
set_option maxRecDepth 20000 in
theorem ggL_law_X5_swap : GoodIn wsL_law wsX5_swap := goodIn_r _ [251, 69, 15, 19, 252, 253, 254, 14, 255, 74, 256, 257, 258, 259, 75, 260, 261, 262, 18, 263, 87, 166, 167, 168, 2, 169, 66, 67, 170, 171, 172, 173, 77, 174, 175, 176, 177, 78, 178, 179, 180, 181, 182, 183, 184, 185, 186, 187, 188, 189, 80, 190, 79, 76, 191, 192, 193, 194, 195, 196, 197, 198, 199, 200, 201, 202, 36, 88, 264, 265, 266, 267, 68, 268, 269, 270, 271, 81, 82, 645, 646, 647, 648, 649, 650, 651, 652, 653, 671, 672, 673, 674, 675, 676, 677, 678, 679, 680] (by decide +kernel) (by decide +kernel)
set_option maxRecDepth 20000 in
theorem gL_law_X5_swap : GoodIn wsL_law (wsV RL 28 RX5 yX5_swap wsX5_swap) := goodIn_app (goodIn_of _ (by decide +kernel)) ggL_law_X5_swap
set_option maxRecDepth 20000 in
theorem ggL_law_X6_swap : GoodIn wsL_law wsX6_swap := goodIn_r _ [275, 93, 94, 98, 127, 97, 214, 215, 216, 5, 217, 218, 219, 220, 221, 100, 96, 154, 155, 156, 157, 222, 223, 224, 225, 226, 227, 228, 229, 230, 231, 232, 233, 234, 235, 236, 120, 121, 122, 237, 238, 239, 240, 241, 242, 243, 128, 244, 245, 246, 247, 95, 654, 655, 656, 657, 658, 659, 660, 661, 662, 663, 664, 665, 666, 667, 668, 669, 670] (by decide +kernel) (by decide +kernel)
set_option maxRecDepth 20000 in
theorem gL_law_X6_swap : GoodIn wsL_law (wsV RL 32 RX6 yX6_swap wsX6_swap) := goodIn_app (goodIn_of _ (by decide +kernel)) ggL_law_X6_swap
set_option maxRecDepth 20000 in
theorem ggL_law_X5_undo : GoodIn wsL_law wsX5_undo := goodIn_r _ [279, 19, 68, 280, 281, 282, 18, 283, 87, 36, 284, 285, 286, 2, 287, 15, 67, 66, 268, 269, 270, 14, 271, 74, 75, 81, 82, 140, 141, 142, 143, 144, 145, 207, 208, 209, 645, 646, 647, 648, 649, 650, 651, 652, 653, 678, 679, 680, 671, 672, 673, 674, 675, 676, 677] (by decide +kernel) (by decide +kernel)
set_option maxRecDepth 20000 in
theorem gL_law_X5_undo : GoodIn wsL_law (wsV RL 33 RX5 yX5_undo wsX5_undo) := goodIn_app (goodIn_of _ (by decide +kernel)) ggL_law_X5_undo
set_option maxRecDepth 20000 in
theorem ggL_law_X6_undo : GoodIn wsL_law wsX6_undo := goodIn_r _ [291, 127, 128, 97, 292, 293, 294, 5, 295, 96, 95, 94, 654, 655, 656, 657, 658, 659, 660, 661, 662, 663, 664, 665, 666, 667, 668, 669, 670] (by decide +kernel) (by decide +kernel)
set_option maxRecDepth 20000 in
theorem gL_law_X6_undo : GoodIn wsL_law (wsV RL 36 RX6 yX6_undo wsX6_undo) := goodIn_app (goodIn_of _ (by decide +kernel)) ggL_law_X6_undo
set_option maxRecDepth 20000 in
theorem ggL_law_X5_redo : GoodIn wsL_law wsX5_redo := goodIn_r _ [299, 19, 300, 301, 302, 18, 303, 87, 88, 36, 264, 265, 266, 2, 267, 15, 66, 67, 68, 268, 269, 270, 14, 271, 74, 75, 81, 82, 203, 204, 205, 206, 140, 141, 142, 143, 144, 145, 207, 208, 209, 645, 646, 647, 648, 649, 650, 651, 652, 653, 678, 679, 680, 671, 672, 673, 674, 675, 676, 677] (by decide +kernel) (by decide +kernel)
set_option maxRecDepth 20000 in
theorem gL_law_X5_redo : GoodIn wsL_law (wsV RL 37 RX5 yX5_redo wsX5_redo) := goodIn_app (goodIn_of _ (by decide +kernel)) ggL_law_X5_redo
