set_option maxRecDepth 20000 in
theorem ggL_law_L_score : GoodIn wsL_law wsL_score := goodIn_ca (goodIn_ca (goodIn_r _ [575, 130, 84, 576, 577, 578, 2, 579, 20, 521, 522, 523, 524, 89, 90, 16, 525, 190, 191, 192, 193, 142, 143, 194, 195, 196, 15, 197, 101, 300, 225, 226, 19, 227, 228, 229, 230, 108, 231, 232, 47, 233, 234, 235, 236, 237, 238, 239, 240, 241, 242, 243, 244, 245, 222, 246, 247, 248, 249, 96, 34, 37, 250, 251, 252, 253, 254, 255, 256, 257, 258, 259, 48, 260, 261, 262, 263, 264, 50, 265, 266, 267, 268, 42, 38, 269, 270, 271, 272, 273, 274, 275, 276, 277, 278, 279, 280, 281, 282, 283, 284, 285, 286, 287, 288, 289, 290, 291, 292, 293, 294, 295, 296, 297, 298, 299, 616, 617, 618, 619, 638, 639, 640, 641, 642, 643, 644, 645, 646, 647, 648, 649, 650, 651, 652, 653] (by decide +kernel) (by decide +kernel)) (goodIn_sub (fun _ h => List.mem_append_left _ (List.mem_append_left _ (List.mem_append_right _ h))) (by decide +kernel))) (goodIn_sub (fun _ h => List.mem_append_right _ h) (by decide +kernel))
set_option maxRecDepth 20000 in
theorem gL_law_L_score : GoodIn wsL_law (va_wsS RL 126 yL_score wsL_score) := goodIn_app (goodIn_of _ (by decide +kernel)) ggL_law_L_score
set_option maxRecDepth 20000 in
theorem ggL_law_X5_score : GoodIn wsL_law wsX5_score := goodIn_r _ [583, 534, 535, 536, 5, 537, 74, 206, 207, 208, 209, 182, 163, 164, 165, 118, 119, 120, 121, 122, 310, 311, 312, 313, 314, 315, 73, 316, 317, 318, 319, 70, 71, 320, 78, 321, 322, 323, 324, 325, 76, 326, 117, 68, 327, 328, 329, 330, 77, 331, 332, 333, 334, 335, 336, 337, 338, 339, 340, 341, 342, 343, 344, 345, 72, 346, 347, 348, 349, 350, 351, 352, 353, 354, 355, 356, 620, 621, 622, 623, 624, 625, 626, 627, 628, 629, 630, 631, 632, 633, 634, 635, 636, 637] (by decide +kernel) (by decide +kernel)
set_option maxRecDepth 20000 in
theorem gL_law_X5_score : GoodIn wsL_law (wsV RL 128 RX5 yX5_score wsX5_score) := goodIn_app (goodIn_of _ (by decide +kernel)) ggL_law_X5_score
set_option maxRecDepth 20000 in
theorem ggL_law_X4_worst : GoodIn wsL_law wsX4_worst := goodIn_r _ [587, 20, 218, 219, 220, 19, 221, 47, 222, 223, 224, 225, 226, 227, 228, 229, 230, 108, 231, 232, 233, 234, 235, 236, 237, 238, 239, 240, 241, 242, 243, 244, 245, 246, 247, 248, 15, 249, 96, 34, 37, 250, 251, 252, 253, 254, 255, 256, 257, 258, 259, 48, 260, 261, 262, 263, 264, 50, 265, 266, 267, 268, 42, 38, 269, 270, 271, 272, 273, 274, 275, 276, 277, 278, 279, 280, 281, 282, 283, 284, 285, 286, 287, 288, 289, 2, 290, 291, 292, 293, 294, 295, 296, 297, 298, 299, 616, 617, 618, 619, 648, 649, 650, 651, 652, 653, 638, 639, 640, 641, 642, 643, 644, 645, 646, 647] (by decide +kernel) (by decide +kernel)
set_option maxRecDepth 20000 in
theorem gL_law_X4_worst : GoodIn wsL_law (wsV RL 129 RX4 yX4_worst wsX4_worst) := goodIn_app (goodIn_of _ (by decide +kernel)) ggL_law_X4_worst
set_option maxRecDepth 20000 in
theorem ggL_law_X5_worst : GoodIn wsL_law wsX5_worst := goodIn_r _ [591, 122, 306, 307, 308, 5, 309, 182, 74, 310, 311, 312, 313, 314, 315, 73, 316, 317, 318, 319, 70, 71, 320, 78, 321, 322, 323, 324, 325, 76, 326, 117, 68, 327, 328, 329, 330, 77, 331, 332, 333, 334, 335, 336, 337, 338, 339, 340, 341, 342, 343, 344, 345, 72, 346, 347, 348, 349, 350, 351, 352, 353, 354, 355, 356, 620, 621, 622, 623, 624, 625, 626, 627, 628, 629, 630, 631, 632, 633, 634, 635, 636, 637] (by decide +kernel) (by decide +kernel)
set_option maxRecDepth 20000 in
theorem gL_law_X5_worst : GoodIn wsL_law (wsV RL 132 RX5 yX5_worst wsX5_worst) := goodIn_app (goodIn_of _ (by decide +kernel)) ggL_law_X5_worst
set_option maxRecDepth 20000 in
theorem ggL_law_L_trees : GoodIn wsL_law wsL_trees := goodIn_ca (goodIn_r _ [594, 130, 595, 596, 597, 2, 598, 20, 138, 139, 140, 141, 142, 143, 16, 144, 145, 146, 15, 147, 96, 599, 550, 551, 19, 552, 232, 241, 242, 243, 244, 47, 245, 222, 246, 247, 248, 249, 34, 37, 250, 251, 252, 253, 254, 255, 256, 257, 258, 259, 48, 260, 261, 262, 263, 264, 50, 265, 266, 267, 268, 42, 38, 269, 270, 271, 272, 238, 239, 233, 240, 273, 274, 275, 276, 277, 278, 279, 280, 281, 282, 283, 284, 616, 617, 618, 619, 638, 639, 640, 641, 642, 643, 644, 645, 646, 647, 648, 649, 650, 651, 652, 653] (by decide +kernel) (by decide +kernel)) (goodIn_sub (fun _ h => List.mem_append_right _ h) (by decide +kernel))
set_option maxRecDepth 20000 in
theorem gL_law_L_trees : GoodIn wsL_law (va_wsS RL 133 yL_trees wsL_trees) := goodIn_app (goodIn_of _ (by decide +kernel)) ggL_law_L_trees
set_option maxRecDepth 20000 in
theorem ggL_law_X5_trees : GoodIn wsL_law wsX5_trees := goodIn_r _ [603, 315, 159, 160, 161, 5, 162, 117, 163, 164, 165, 118, 119, 120, 121, 122, 346, 347, 348, 349, 322, 323, 324, 325, 76, 182, 74, 70, 71, 326, 68, 327, 328, 329, 330, 77, 73, 331, 332, 333, 334, 350, 351, 352, 353, 72, 335, 336, 337, 338, 78, 620, 621, 622, 623, 624, 625, 626, 627, 628, 629, 630, 631, 632, 633, 634, 635, 636, 637] (by decide +kernel) (by decide +kernel)
set_option maxRecDepth 20000 in
theorem gL_law_X5_trees : GoodIn wsL_law (wsV RL 135 RX5 yX5_trees wsX5_trees) := goodIn_app (goodIn_of _ (by decide +kernel)) ggL_law_X5_trees
set_option maxRecDepth 20000 in
theorem ggL_law_X4_parts : GoodIn wsL_law wsX4_parts := goodIn_r _ [607, 16, 608, 609, 610, 15, 611, 96, 37, 616, 617, 618, 619, 638, 639, 640, 641, 642, 643, 644, 645, 646, 647] (by decide +kernel) (by decide +kernel)
set_option maxRecDepth 20000 in
theorem gL_law_X4_parts : GoodIn wsL_law (wsV RL 136 RX4 yX4_parts wsX4_parts) := goodIn_app (goodIn_of _ (by decide +kernel)) ggL_law_X4_parts
set_option maxRecDepth 20000 in
theorem ggL_law_X5_parts : GoodIn wsL_law wsX5_parts := goodIn_r _ [615, 122, 117, 76, 322, 323, 324, 5, 325, 182, 74, 70, 71, 326, 68, 620, 621, 622, 623, 624, 625, 626, 627, 628, 629, 630, 631, 632, 633, 634, 635, 636, 637] (by decide +kernel) (by decide +kernel)
set_option maxRecDepth 20000 in
theorem gL_law_X5_parts : GoodIn wsL_law (wsV RL 139 RX5 yX5_parts wsX5_parts) := goodIn_app (goodIn_of _ (by decide +kernel)) ggL_law_X5_parts
