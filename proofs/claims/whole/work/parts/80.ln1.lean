set_option maxRecDepth 20000 in
theorem ggL_law_X6_redo : GoodIn wsL_law wsX6_redo := goodIn_r _ [307, 128, 97, 127, 244, 245, 246, 5, 247, 96, 95, 94, 654, 655, 656, 657, 658, 659, 660, 661, 662, 663, 664, 665, 666, 667, 668, 669, 670] (by decide +kernel) (by decide +kernel)
set_option maxRecDepth 20000 in
theorem gL_law_X6_redo : GoodIn wsL_law (wsV RL 40 RX6 yX6_redo wsX6_redo) := goodIn_app (goodIn_of _ (by decide +kernel)) ggL_law_X6_redo
set_option maxRecDepth 20000 in
theorem ggL_law_X5_change : GoodIn wsL_law wsX5_change := goodIn_r _ [311, 15, 67, 66, 68, 69, 19, 268, 269, 270, 14, 271, 74, 75, 81, 2, 82, 256, 257, 258, 259, 252, 253, 254, 255, 70, 71, 72, 73, 76, 77, 78, 79, 80, 207, 208, 209, 83, 84, 85, 18, 86, 87, 88, 645, 646, 647, 648, 649, 650, 651, 652, 653, 671, 672, 673, 674, 675, 676, 677, 678, 679, 680] (by decide +kernel) (by decide +kernel)
set_option maxRecDepth 20000 in
theorem gL_law_X5_change : GoodIn wsL_law (wsV RL 41 RX5 yX5_change wsX5_change) := goodIn_app (goodIn_of _ (by decide +kernel)) ggL_law_X5_change
set_option maxRecDepth 20000 in
theorem ggL_law_X6_change : GoodIn wsL_law wsX6_change := goodIn_r _ [315, 101, 93, 94, 96, 95, 98, 154, 155, 156, 5, 157, 123, 124, 125, 126, 127, 128, 654, 655, 656, 657, 658, 659, 660, 661, 662, 663, 664, 665, 666, 667, 668, 669, 670] (by decide +kernel) (by decide +kernel)
set_option maxRecDepth 20000 in
theorem gL_law_X6_change : GoodIn wsL_law (wsV RL 44 RX6 yX6_change wsX6_change) := goodIn_app (goodIn_of _ (by decide +kernel)) ggL_law_X6_change
set_option maxRecDepth 20000 in
theorem ggL_law_X5_at : GoodIn wsL_law wsX5_at := goodIn_r _ [319, 15, 136, 137, 138, 14, 139, 74, 75, 162, 163, 164, 2, 165, 66, 67, 145, 81, 82, 645, 646, 647, 648, 649, 650, 651, 652, 653, 671, 672, 673, 674, 675, 676, 677] (by decide +kernel) (by decide +kernel)
set_option maxRecDepth 20000 in
theorem gL_law_X5_at : GoodIn wsL_law (wsV RL 45 RX5 yX5_at wsX5_at) := goodIn_app (goodIn_of _ (by decide +kernel)) ggL_law_X5_at
set_option maxRecDepth 20000 in
theorem ggL_law_X6_at : GoodIn wsL_law wsX6_at := goodIn_r _ [323, 96, 150, 151, 152, 5, 153, 154, 155, 156, 157, 93, 94, 120, 121, 122, 654, 655, 656, 657, 658, 659, 660, 661, 662, 663, 664, 665, 666, 667, 668, 669, 670] (by decide +kernel) (by decide +kernel)
set_option maxRecDepth 20000 in
theorem gL_law_X6_at : GoodIn wsL_law (wsV RL 48 RX6 yX6_at wsX6_at) := goodIn_app (goodIn_of _ (by decide +kernel)) ggL_law_X6_at
set_option maxRecDepth 20000 in
theorem ggL_law_X5_group : GoodIn wsL_law wsX5_group := goodIn_r _ [327, 328, 329, 330, 2, 331, 15, 136, 137, 138, 14, 139, 74, 75, 162, 163, 164, 165, 66, 67, 145, 81, 82, 332, 333, 334, 335, 336, 183, 184, 185, 186, 187, 188, 189, 80, 190, 79, 76, 337, 338, 339, 340, 341, 342, 343, 344, 345, 346, 645, 646, 647, 648, 649, 650, 651, 652, 653, 671, 672, 673, 674, 675, 676, 677] (by decide +kernel) (by decide +kernel)
set_option maxRecDepth 20000 in
theorem gL_law_X5_group : GoodIn wsL_law (wsV RL 49 RX5 yX5_group wsX5_group) := goodIn_app (goodIn_of _ (by decide +kernel)) ggL_law_X5_group
set_option maxRecDepth 20000 in
theorem ggL_law_X6_group : GoodIn wsL_law wsX6_group := goodIn_r _ [350, 100, 351, 352, 353, 5, 354, 96, 150, 151, 152, 153, 154, 155, 156, 157, 93, 94, 120, 121, 122, 355, 356, 357, 358, 359, 360, 361, 362, 229, 230, 231, 232, 233, 234, 235, 236, 654, 655, 656, 657, 658, 659, 660, 661, 662, 663, 664, 665, 666, 667, 668, 669, 670] (by decide +kernel) (by decide +kernel)
set_option maxRecDepth 20000 in
theorem gL_law_X6_group : GoodIn wsL_law (wsV RL 52 RX6 yX6_group wsX6_group) := goodIn_app (goodIn_of _ (by decide +kernel)) ggL_law_X6_group
set_option maxRecDepth 20000 in
theorem ggL_law_X5_look : GoodIn wsL_law wsX5_look := goodIn_r _ [366, 15, 328, 329, 330, 2, 331, 136, 137, 138, 14, 139, 74, 75, 162, 163, 164, 165, 66, 67, 145, 81, 82, 332, 333, 334, 335, 336, 183, 184, 185, 186, 187, 188, 189, 80, 190, 79, 76, 340, 341, 342, 343, 344, 345, 346, 367, 368, 369, 370, 77, 78, 371, 372, 373, 374, 375, 144, 376, 377, 378, 379, 645, 646, 647, 648, 649, 650, 651, 652, 653, 671, 672, 673, 674, 675, 676, 677] (by decide +kernel) (by decide +kernel)
set_option maxRecDepth 20000 in
theorem gL_law_X5_look : GoodIn wsL_law (wsV RL 53 RX5 yX5_look wsX5_look) := goodIn_app (goodIn_of _ (by decide +kernel)) ggL_law_X5_look
set_option maxRecDepth 20000 in
theorem ggL_law_X6_look : GoodIn wsL_law wsX6_look := goodIn_r _ [383, 100, 96, 351, 352, 353, 5, 354, 150, 151, 152, 153, 154, 155, 156, 157, 93, 94, 120, 121, 122, 355, 356, 357, 358, 359, 360, 361, 362, 229, 230, 231, 232, 233, 234, 235, 236, 222, 223, 224, 225, 384, 385, 386, 387, 654, 655, 656, 657, 658, 659, 660, 661, 662, 663, 664, 665, 666, 667, 668, 669, 670] (by decide +kernel) (by decide +kernel)
set_option maxRecDepth 20000 in
theorem gL_law_X6_look : GoodIn wsL_law (wsV RL 57 RX6 yX6_look wsX6_look) := goodIn_app (goodIn_of _ (by decide +kernel)) ggL_law_X6_look
set_option maxRecDepth 20000 in
theorem ggL_law_X5_joined : GoodIn wsL_law wsX5_joined := goodIn_r _ [391, 166, 167, 168, 2, 169, 15, 66, 67, 170, 171, 172, 14, 173, 77, 174, 175, 176, 177, 78, 178, 179, 180, 181, 182, 183, 184, 185, 186, 187, 188, 189, 80, 190, 79, 75, 76, 191, 192, 193, 194, 195, 196, 197, 198, 645, 646, 647, 648, 649, 650, 651, 652, 653, 671, 672, 673, 674, 675, 676, 677] (by decide +kernel) (by decide +kernel)
set_option maxRecDepth 20000 in
theorem gL_law_X5_joined : GoodIn wsL_law (wsV RL 58 RX5 yX5_joined wsX5_joined) := goodIn_app (goodIn_of _ (by decide +kernel)) ggL_law_X5_joined
set_option maxRecDepth 20000 in
theorem ggL_law_X6_joined : GoodIn wsL_law wsX6_joined := goodIn_r _ [217, 218, 219, 220, 5, 221, 100, 96, 154, 155, 156, 157, 93, 94, 222, 223, 224, 225, 226, 227, 228, 229, 230, 231, 232, 233, 234, 235, 236, 120, 121, 122, 237, 238, 239, 654, 655, 656, 657, 658, 659, 660, 661, 662, 663, 664, 665, 666, 667, 668, 669, 670] (by decide +kernel) (by decide +kernel)
set_option maxRecDepth 20000 in
theorem gL_law_X6_joined : GoodIn wsL_law (wsV RL 62 RX6 yX6_joined wsX6_joined) := goodIn_app (goodIn_of _ (by decide +kernel)) ggL_law_X6_joined
set_option maxRecDepth 20000 in
theorem ggL_law_X5_way : GoodIn wsL_law wsX5_way := goodIn_r _ [396, 23, 397, 398, 399, 2, 400, 15, 66, 67, 166, 167, 168, 169, 170, 171, 172, 14, 173, 77, 174, 175, 176, 177, 78, 178, 179, 180, 181, 182, 183, 184, 185, 186, 187, 188, 189, 80, 190, 79, 75, 76, 191, 192, 193, 194, 195, 196, 197, 198, 401, 402, 403, 22, 404, 41, 405, 406, 407, 408, 409, 410, 411, 412, 413, 414, 42, 338, 339, 340, 341, 342, 343, 344, 345, 346, 81, 82, 415, 416, 417, 418, 419, 420, 645, 646, 647, 648, 649, 650, 651, 652, 653, 671, 672, 673, 674, 675, 676, 677, 681, 682, 683] (by decide +kernel) (by decide +kernel)
set_option maxRecDepth 20000 in
theorem gL_law_X5_way : GoodIn wsL_law (wsV RL 63 RX5 yX5_way wsX5_way) := goodIn_app (goodIn_of _ (by decide +kernel)) ggL_law_X5_way
set_option maxRecDepth 20000 in
theorem ggL_law_X6_way : GoodIn wsL_law wsX6_way := goodIn_r _ [424, 102, 425, 426, 427, 5, 428, 214, 215, 216, 217, 218, 219, 220, 221, 100, 96, 154, 155, 156, 157, 93, 94, 222, 223, 224, 225, 226, 227, 228, 229, 230, 231, 232, 233, 234, 235, 236, 120, 121, 122, 237, 238, 239, 429, 430, 431, 432, 654, 655, 656, 657, 658, 659, 660, 661, 662, 663, 664, 665, 666, 667, 668, 669, 670] (by decide +kernel) (by decide +kernel)
set_option maxRecDepth 20000 in
theorem gL_law_X6_way : GoodIn wsL_law (wsV RL 66 RX6 yX6_way wsX6_way) := goodIn_app (goodIn_of _ (by decide +kernel)) ggL_law_X6_way
