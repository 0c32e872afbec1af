set_option maxRecDepth 20000 in
theorem ggL_law_X4_worst : GoodIn wsL_law wsX4_worst := goodIn_r _ [93, 18, 94, 95, 96, 17, 97, 44, 98, 99, 100, 101, 102, 103, 104, 105, 106, 107, 108, 109, 110, 111, 112, 113, 114, 115, 116, 117, 118, 119, 120, 121, 122, 123, 124, 125, 13, 126, 89, 32, 34, 127, 128, 129, 130, 131, 132, 133, 134, 135, 136, 45, 137, 138, 139, 140, 141, 48, 142, 143, 144, 145, 39, 35, 146, 147, 148, 149, 150, 151, 152, 153, 154, 155, 156, 157, 158, 159, 160, 161, 162, 163, 164, 165, 166, 2, 167, 168, 169, 170, 171, 172, 173, 174, 175, 176, 421, 422, 423, 424, 435, 436, 437, 438, 439, 440, 425, 426, 427, 428, 429, 430, 431, 432, 433, 434] (by decide +kernel) (by decide +kernel)
set_option maxRecDepth 20000 in
theorem gL_law_X4_worst : GoodIn wsL_law (wsV RL 81 RX4 yX4_worst wsX4_worst) := goodIn_app (goodIn_of _ (by decide +kernel)) ggL_law_X4_worst
set_option maxRecDepth 20000 in
theorem ggL_law_X4_score : GoodIn wsL_law wsX4_score := goodIn_ca (goodIn_ca (goodIn_r _ [395, 18, 365, 366, 367, 2, 368, 214, 215, 14, 369, 262, 263, 264, 265, 185, 186, 266, 267, 268, 13, 269, 225, 279, 101, 102, 17, 103, 104, 105, 106, 107, 108, 109, 44, 110, 111, 112, 113, 114, 115, 116, 117, 118, 119, 120, 121, 122, 98, 123, 124, 125, 126, 89, 32, 34, 127, 128, 129, 130, 131, 132, 133, 134, 135, 136, 45, 137, 138, 139, 140, 141, 48, 142, 143, 144, 145, 39, 35, 146, 147, 148, 149, 150, 151, 152, 153, 154, 155, 156, 157, 158, 159, 160, 161, 162, 163, 164, 165, 166, 167, 168, 169, 170, 171, 172, 173, 174, 175, 176, 421, 422, 423, 424, 425, 426, 427, 428, 429, 430, 431, 432, 433, 434, 435, 436, 437, 438, 439, 440] (by decide +kernel) (by decide +kernel)) (goodIn_sub (fun _ h => List.mem_append_left _ (List.mem_append_right _ h)) (by decide +kernel))) (goodIn_sub (fun _ h => List.mem_append_left _ (List.mem_append_left _ (List.mem_append_right _ h))) (by decide +kernel))
set_option maxRecDepth 20000 in
theorem gL_law_X4_score : GoodIn wsL_law (wsV RL 53 RX4 yX4_score wsX4_score) := goodIn_app (goodIn_of _ (by decide +kernel)) ggL_law_X4_score
set_option maxRecDepth 20000 in
theorem ggL_law_X4_end : GoodIn wsL_law wsX4_end := goodIn_r _ [411, 26, 412, 413, 414, 25, 415, 61, 304, 421, 422, 423, 424, 451, 452, 453, 454] (by decide +kernel) (by decide +kernel)
set_option maxRecDepth 20000 in
theorem gL_law_X4_end : GoodIn wsL_law (wsV RL 119 RX4 yX4_end wsX4_end) := goodIn_app (goodIn_of _ (by decide +kernel)) ggL_law_X4_end
set_option maxRecDepth 20000 in
theorem ggL_law_X4_isClosed : GoodIn wsL_law wsX4_isClosed := goodIn_r _ [419, 26, 284, 420, 285, 80, 421, 422, 423, 424, 451, 452, 453, 454] (by decide +kernel) (by decide +kernel)
set_option maxRecDepth 20000 in
theorem gL_law_X4_isClosed : GoodIn wsL_law (wsV RL 122 RX4 yX4_isClosed wsX4_isClosed) := goodIn_app (goodIn_of _ (by decide +kernel)) ggL_law_X4_isClosed
set_option maxRecDepth 20000 in
theorem ggL_law_X4_sum : GoodIn wsL_law wsX4_sum := goodIn_r _ [79, 26, 80, 421, 422, 423, 424, 451, 452, 453, 454] (by decide +kernel) (by decide +kernel)
set_option maxRecDepth 20000 in
theorem gL_law_X4_sum : GoodIn wsL_law (wsV RL 71 RX4 yX4_sum wsX4_sum) := goodIn_app (goodIn_of _ (by decide +kernel)) ggL_law_X4_sum
