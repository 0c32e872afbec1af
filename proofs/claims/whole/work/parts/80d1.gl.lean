set_option maxRecDepth 20000 in
theorem ggL_law_L_clean : GoodIn wsL_law wsL_clean := goodIn_ca (goodIn_r _ [212, 131, 213, 214, 215, 2, 216, 136, 137, 217, 20, 16, 148, 149, 150, 218, 219, 220, 19, 221, 47, 222, 223, 224, 225, 226, 227, 228, 229, 230, 108, 231, 232, 233, 234, 235, 236, 237, 238, 239, 240, 241, 242, 243, 244, 245, 246, 247, 248, 15, 249, 96, 34, 37, 250, 251, 252, 253, 254, 255, 256, 257, 258, 259, 48, 260, 261, 262, 263, 264, 50, 265, 266, 267, 268, 42, 38, 269, 270, 271, 272, 273, 274, 275, 276, 277, 278, 279, 280, 281, 282, 283, 284, 285, 286, 287, 288, 289, 290, 291, 292, 293, 294, 295, 296, 297, 298, 299, 300, 198, 199, 200, 201, 97, 98, 99, 100, 101, 39, 102, 103, 104, 105, 106, 107, 109, 110, 111, 112, 616, 617, 618, 619, 648, 649, 650, 651, 652, 653, 638, 639, 640, 641, 642, 643, 644, 645, 646, 647] (by decide +kernel) (by decide +kernel)) (goodIn_sub (fun _ h => List.mem_append_left _ (List.mem_append_right _ h)) (by decide +kernel))
set_option maxRecDepth 20000 in
theorem gL_law_L_clean : GoodIn wsL_law (va_wsS RL 88 yL_clean wsL_clean) := goodIn_app (goodIn_of _ (by decide +kernel)) ggL_law_L_clean
set_option maxRecDepth 20000 in
theorem ggL_law_X5_clean : GoodIn wsL_law wsX5_clean := goodIn_r _ [304, 305, 74, 163, 164, 5, 165, 118, 119, 120, 121, 122, 306, 307, 308, 309, 182, 310, 311, 312, 313, 314, 315, 73, 316, 317, 318, 319, 70, 71, 320, 78, 321, 322, 323, 324, 325, 76, 326, 117, 68, 327, 328, 329, 330, 77, 331, 332, 333, 334, 335, 336, 337, 338, 339, 340, 341, 342, 343, 344, 345, 72, 346, 347, 348, 349, 350, 351, 352, 353, 354, 355, 356, 620, 621, 622, 623, 624, 625, 626, 627, 628, 629, 630, 631, 632, 633, 634, 635, 636, 637] (by decide +kernel) (by decide +kernel)
set_option maxRecDepth 20000 in
theorem gL_law_X5_clean : GoodIn wsL_law (wsV RL 91 RX5 yX5_clean wsX5_clean) := goodIn_app (goodIn_of _ (by decide +kernel)) ggL_law_X5_clean
set_option maxRecDepth 20000 in
theorem ggL_law_L_go : GoodIn wsL_law wsL_go := goodIn_ca (goodIn_ca (goodIn_r _ [359, 130, 84, 360, 361, 362, 2, 363, 89, 90, 28, 364, 16, 365, 138, 139, 140, 141, 142, 143, 144, 145, 146, 15, 147, 96, 366, 367, 368, 27, 369, 370, 371, 63, 372, 373, 374, 375, 101, 38, 39, 42, 376, 377, 378, 379, 40, 380, 381, 382, 383, 384, 616, 617, 618, 619, 664, 665, 666, 667, 638, 639, 640, 641, 642, 643, 644, 645, 646, 647] (by decide +kernel) (by decide +kernel)) (goodIn_sub (fun _ h => List.mem_append_left _ (List.mem_append_left _ (List.mem_append_right _ h))) (by decide +kernel))) (goodIn_sub (fun _ h => List.mem_append_right _ h) (by decide +kernel))
set_option maxRecDepth 20000 in
theorem gL_law_L_go : GoodIn wsL_law (va_wsS RL 92 yL_go wsL_go) := goodIn_app (goodIn_of _ (by decide +kernel)) ggL_law_L_go
set_option maxRecDepth 20000 in
theorem ggL_law_X5_go : GoodIn wsL_law wsX5_go := goodIn_r _ [388, 389, 75, 79, 71, 72, 159, 160, 161, 5, 162, 117, 163, 164, 165, 390, 391, 392, 393, 182, 70, 74, 118, 119, 120, 121, 122, 620, 621, 622, 623, 624, 625, 626, 627, 628, 629, 630, 631, 632, 633, 634, 635, 636, 637] (by decide +kernel) (by decide +kernel)
set_option maxRecDepth 20000 in
theorem gL_law_X5_go : GoodIn wsL_law (wsV RL 94 RX5 yX5_go wsX5_go) := goodIn_app (goodIn_of _ (by decide +kernel)) ggL_law_X5_go
set_option maxRecDepth 20000 in
theorem ggL_law_X4_end : GoodIn wsL_law wsX4_end := goodIn_r _ [397, 28, 398, 399, 400, 27, 401, 63, 384, 616, 617, 618, 619, 664, 665, 666, 667] (by decide +kernel) (by decide +kernel)
set_option maxRecDepth 20000 in
theorem gL_law_X4_end : GoodIn wsL_law (wsV RL 95 RX4 yX4_end wsX4_end) := goodIn_app (goodIn_of _ (by decide +kernel)) ggL_law_X4_end
set_option maxRecDepth 20000 in
theorem ggL_law_X5_end : GoodIn wsL_law wsX5_end := goodIn_r _ [405, 122, 389, 79, 620, 621, 622, 623, 624, 625, 626, 627, 628, 629, 630, 631, 632, 633, 634, 635, 636, 637] (by decide +kernel) (by decide +kernel)
set_option maxRecDepth 20000 in
theorem gL_law_X5_end : GoodIn wsL_law (wsV RL 98 RX5 yX5_end wsX5_end) := goodIn_app (goodIn_of _ (by decide +kernel)) ggL_law_X5_end
set_option maxRecDepth 20000 in
theorem ggL_law_X4_sum : GoodIn wsL_law wsX4_sum := goodIn_r _ [409, 28, 410, 616, 617, 618, 619, 664, 665, 666, 667] (by decide +kernel) (by decide +kernel)
set_option maxRecDepth 20000 in
theorem gL_law_X4_sum : GoodIn wsL_law (wsV RL 99 RX4 yX4_sum wsX4_sum) := goodIn_app (goodIn_of _ (by decide +kernel)) ggL_law_X4_sum
set_option maxRecDepth 20000 in
theorem ggL_law_X5_sum : GoodIn wsL_law wsX5_sum := goodIn_r _ [414, 122, 79, 620, 621, 622, 623, 624, 625, 626, 627, 628, 629, 630, 631, 632, 633, 634, 635, 636, 637] (by decide +kernel) (by decide +kernel)
set_option maxRecDepth 20000 in
theorem gL_law_X5_sum : GoodIn wsL_law (wsV RL 102 RX5 yX5_sum wsX5_sum) := goodIn_app (goodIn_of _ (by decide +kernel)) ggL_law_X5_sum
set_option maxRecDepth 20000 in
theorem ggL_law_X4_isClosed : GoodIn wsL_law wsX4_isClosed := goodIn_r _ [418, 28, 364, 419, 365, 410, 616, 617, 618, 619, 664, 665, 666, 667] (by decide +kernel) (by decide +kernel)
set_option maxRecDepth 20000 in
theorem gL_law_X4_isClosed : GoodIn wsL_law (wsV RL 103 RX4 yX4_isClosed wsX4_isClosed) := goodIn_app (goodIn_of _ (by decide +kernel)) ggL_law_X4_isClosed
set_option maxRecDepth 20000 in
theorem ggL_law_X5_isClosed : GoodIn wsL_law wsX5_isClosed := goodIn_r _ [423, 122, 389, 75, 79, 620, 621, 622, 623, 624, 625, 626, 627, 628, 629, 630, 631, 632, 633, 634, 635, 636, 637] (by decide +kernel) (by decide +kernel)
set_option maxRecDepth 20000 in
theorem gL_law_X5_isClosed : GoodIn wsL_law (wsV RL 107 RX5 yX5_isClosed wsX5_isClosed) := goodIn_app (goodIn_of _ (by decide +kernel)) ggL_law_X5_isClosed
set_option maxRecDepth 20000 in
theorem ggL_law_L_height : GoodIn wsL_law wsL_height := goodIn_ca (goodIn_r _ [426, 130, 427, 428, 429, 2, 430, 20, 138, 139, 140, 141, 142, 143, 16, 144, 145, 146, 15, 147, 96, 431, 432, 433, 19, 434, 47, 435, 245, 232, 228, 241, 242, 243, 244, 222, 246, 247, 248, 249, 34, 37, 250, 251, 252, 253, 254, 255, 256, 257, 258, 259, 48, 260, 261, 262, 263, 264, 50, 265, 266, 267, 268, 42, 38, 269, 270, 271, 272, 238, 239, 233, 240, 273, 274, 275, 276, 277, 278, 279, 280, 281, 282, 283, 284, 285, 286, 287, 288, 289, 290, 291, 292, 293, 294, 616, 617, 618, 619, 638, 639, 640, 641, 642, 643, 644, 645, 646, 647, 648, 649, 650, 651, 652, 653] (by decide +kernel) (by decide +kernel)) (goodIn_sub (fun _ h => List.mem_append_right _ h) (by decide +kernel))
set_option maxRecDepth 20000 in
theorem gL_law_L_height : GoodIn wsL_law (va_wsS RL 108 yL_height wsL_height) := goodIn_app (goodIn_of _ (by decide +kernel)) ggL_law_L_height
