set_option maxRecDepth 20000 in
theorem ggL_areSound_X4_sum : GoodIn wsL_areSound wsX4_sum := goodIn_r _ [9, 10, 11, 254, 255, 256, 257, 258, 259, 260, 261] (by decide +kernel) (by decide +kernel)
set_option maxRecDepth 20000 in
theorem gL_areSound_X4_sum : GoodIn wsL_areSound (wsV RL 71 RX4 yX4_sum wsX4_sum) := goodIn_app (goodIn_of _ (by decide +kernel)) ggL_areSound_X4_sum
set_option maxRecDepth 20000 in
theorem ggL_areSound_X4_parts : GoodIn wsL_areSound wsX4_parts := goodIn_r _ [15, 16, 17, 18, 19, 20, 21, 22, 23, 254, 255, 256, 257, 262, 263, 264, 265, 266, 267, 268, 269, 270, 271] (by decide +kernel) (by decide +kernel)
set_option maxRecDepth 20000 in
theorem gL_areSound_X4_parts : GoodIn wsL_areSound (wsV RL 76 RX4 yX4_parts wsX4_parts) := goodIn_app (goodIn_of _ (by decide +kernel)) ggL_areSound_X4_parts
set_option maxRecDepth 20000 in
theorem ggL_areSound_X4_height : GoodIn wsL_areSound wsX4_height := goodIn_ca (goodIn_r _ [27, 28, 29, 30, 31, 8, 32, 33, 34, 16, 35, 36, 37, 20, 38, 22, 39, 40, 41, 42, 43, 44, 45, 46, 47, 48, 49, 50, 51, 52, 53, 54, 55, 56, 57, 58, 23, 59, 60, 61, 62, 63, 64, 65, 66, 67, 68, 69, 70, 71, 72, 73, 74, 75, 76, 77, 78, 79, 80, 81, 82, 83, 84, 85, 86, 87, 88, 89, 90, 91, 92, 93, 94, 95, 96, 97, 98, 99, 100, 101, 102, 103, 104, 105, 106, 107, 108, 109, 110, 111, 254, 255, 256, 257, 262, 263, 264, 265, 266, 267, 268, 269, 270, 271, 272, 273, 274, 275, 276, 277] (by decide +kernel) (by decide +kernel)) (goodIn_sub (fun _ h => List.mem_cons_of_mem _ (List.mem_append_left _ (List.mem_append_right _ h))) (by decide +kernel))
set_option maxRecDepth 20000 in
theorem gL_areSound_X4_height : GoodIn wsL_areSound (wsV RL 34 RX4 yX4_height wsX4_height) := goodIn_app (goodIn_of _ (by decide +kernel)) ggL_areSound_X4_height
set_option maxRecDepth 20000 in
theorem ggL_areSound_X4_free : GoodIn wsL_areSound wsX4_free := goodIn_ca (goodIn_r _ [115, 28, 29, 30, 31, 8, 32, 33, 34, 16, 35, 36, 37, 20, 38, 22, 116, 117, 118, 42, 119, 44, 68, 67, 48, 47, 49, 50, 51, 52, 46, 53, 54, 55, 56, 57, 58, 23, 59, 60, 61, 62, 63, 64, 65, 66, 69, 70, 71, 72, 73, 74, 75, 76, 77, 78, 79, 80, 81, 82, 83, 84, 85, 86, 87, 88, 89, 90, 91, 92, 93, 94, 95, 96, 97, 98, 99, 100, 101, 102, 103, 104, 105, 106, 107, 108, 109, 110, 111, 254, 255, 256, 257, 262, 263, 264, 265, 266, 267, 268, 269, 270, 271, 272, 273, 274, 275, 276, 277] (by decide +kernel) (by decide +kernel)) (goodIn_sub (fun _ h => List.mem_cons_of_mem _ (List.mem_append_left _ (List.mem_append_right _ h))) (by decide +kernel))
set_option maxRecDepth 20000 in
theorem gL_areSound_X4_free : GoodIn wsL_areSound (wsV RL 41 RX4 yX4_free wsX4_free) := goodIn_app (goodIn_of _ (by decide +kernel)) ggL_areSound_X4_free
set_option maxRecDepth 20000 in
theorem ggL_areSound_X4_trees : GoodIn wsL_areSound wsX4_trees := goodIn_ca (goodIn_r _ [123, 28, 29, 30, 31, 8, 32, 33, 34, 16, 35, 36, 37, 20, 38, 22, 124, 125, 126, 42, 127, 47, 49, 50, 51, 52, 44, 46, 53, 54, 55, 56, 57, 58, 23, 59, 60, 61, 62, 63, 64, 65, 66, 67, 68, 69, 70, 71, 72, 73, 74, 75, 76, 77, 78, 79, 80, 81, 82, 83, 84, 85, 86, 87, 88, 89, 90, 91, 92, 93, 94, 95, 96, 97, 98, 99, 100, 101, 254, 255, 256, 257, 262, 263, 264, 265, 266, 267, 268, 269, 270, 271, 272, 273, 274, 275, 276, 277] (by decide +kernel) (by decide +kernel)) (goodIn_sub (fun _ h => List.mem_cons_of_mem _ (List.mem_append_left _ (List.mem_append_right _ h))) (by decide +kernel))
set_option maxRecDepth 20000 in
theorem gL_areSound_X4_trees : GoodIn wsL_areSound (wsV RL 56 RX4 yX4_trees wsX4_trees) := goodIn_app (goodIn_of _ (by decide +kernel)) ggL_areSound_X4_trees
set_option maxRecDepth 20000 in
theorem ggL_areSound_X4_heightAnew : GoodIn wsL_areSound wsX4_heightAnew := goodIn_ca (goodIn_r _ [131, 132, 29, 30, 31, 8, 32, 33, 34, 16, 35, 36, 37, 20, 38, 22, 133, 134, 135, 136, 137, 138, 139, 140, 141, 142, 143, 144, 145, 146, 147, 148, 149, 150, 151, 152, 153, 154, 155, 55, 56, 57, 58, 23, 59, 60, 61, 62, 156, 157, 158, 159, 160, 161, 162, 163, 164, 165, 166, 167, 168, 169, 170, 171, 172, 173, 174, 175, 77, 78, 79, 80, 81, 176, 177, 178, 179, 180, 106, 107, 108, 109, 110, 111, 254, 255, 256, 257, 262, 263, 264, 265, 266, 267, 268, 269, 270, 271, 278, 279, 280, 281, 282, 283, 284, 285, 286, 287] (by decide +kernel) (by decide +kernel)) (goodIn_sub (fun _ h => List.mem_cons_of_mem _ (List.mem_append_left _ (List.mem_append_right _ h))) (by decide +kernel))
set_option maxRecDepth 20000 in
theorem gL_areSound_X4_heightAnew : GoodIn wsL_areSound (wsV RL 38 RX4 yX4_heightAnew wsX4_heightAnew) := goodIn_app (goodIn_of _ (by decide +kernel)) ggL_areSound_X4_heightAnew
set_option maxRecDepth 20000 in
theorem ggL_areSound_X4_worst : GoodIn wsL_areSound wsX4_worst := goodIn_r _ [184, 28, 185, 186, 187, 42, 188, 44, 53, 189, 190, 191, 192, 193, 48, 194, 195, 196, 197, 47, 88, 198, 199, 200, 201, 86, 87, 89, 49, 50, 51, 52, 46, 54, 55, 56, 20, 57, 22, 58, 23, 59, 60, 61, 62, 63, 64, 65, 66, 67, 68, 69, 70, 71, 72, 73, 74, 75, 76, 77, 78, 79, 80, 81, 82, 83, 84, 85, 90, 91, 92, 93, 94, 95, 96, 97, 98, 99, 100, 101, 102, 103, 104, 105, 106, 8, 107, 108, 109, 110, 111, 202, 203, 204, 205, 206, 254, 255, 256, 257, 272, 273, 274, 275, 276, 277, 262, 263, 264, 265, 266, 267, 268, 269, 270, 271] (by decide +kernel) (by decide +kernel)
set_option maxRecDepth 20000 in
theorem gL_areSound_X4_worst : GoodIn wsL_areSound (wsV RL 81 RX4 yX4_worst wsX4_worst) := goodIn_app (goodIn_of _ (by decide +kernel)) ggL_areSound_X4_worst
