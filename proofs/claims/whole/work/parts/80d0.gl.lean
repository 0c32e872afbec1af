set_option maxRecDepth 20000 in
theorem ggL_law_X4_init : GoodIn wsL_law wsX4_init := goodIn_r _ [9, 10, 11, 12, 13, 14, 15, 16, 17, 18, 19, 20, 21, 22, 23, 24, 25, 26, 27, 28, 29, 30, 31, 32, 33, 34, 35, 36, 37, 38, 39, 40, 41, 42, 43, 44, 45, 46, 47, 48, 49, 6, 50, 51, 52, 53, 54, 55, 56, 57, 58, 59, 60, 61, 62, 63, 638, 639, 640, 641, 642, 643, 644, 645, 646, 647, 616, 617, 618, 619, 648, 649, 650, 651, 652, 653, 654, 655, 656, 657, 658, 659, 660, 661, 662, 663, 664, 665, 666, 667] (by decide +kernel) (by decide +kernel)
set_option maxRecDepth 20000 in
theorem gL_law_X4_init : GoodIn wsL_law (wsX4_init) := ggL_law_X4_init
set_option maxRecDepth 20000 in
theorem ggL_law_X5_init : GoodIn wsL_law wsX5_init := goodIn_r _ [66, 67, 11, 12, 33, 68, 35, 69, 70, 71, 72, 73, 74, 75, 76, 6, 77, 78, 79, 620, 621, 622, 623, 624, 625, 626, 627, 628, 629, 630, 631, 632, 633, 634, 635, 636, 637] (by decide +kernel) (by decide +kernel)
set_option maxRecDepth 20000 in
theorem gL_law_X5_init : GoodIn wsL_law (wsX5_init) := ggL_law_X5_init
set_option maxRecDepth 20000 in
theorem ggL_law_L_station : GoodIn wsL_law wsL_station := goodIn_ca (goodIn_r _ [83, 84, 85, 86, 87, 2, 88, 89, 90, 16, 91, 92, 93, 94, 15, 95, 96, 97, 98, 99, 100, 37, 101, 42, 38, 39, 102, 103, 104, 105, 106, 107, 108, 109, 110, 111, 112, 616, 617, 618, 619, 638, 639, 640, 641, 642, 643, 644, 645, 646, 647] (by decide +kernel) (by decide +kernel)) (goodIn_sub (fun _ h => List.mem_append_left _ (List.mem_append_left _ (List.mem_append_right _ h))) (by decide +kernel))
set_option maxRecDepth 20000 in
theorem gL_law_L_station : GoodIn wsL_law (va_wsS RL 67 yL_station wsL_station) := goodIn_app (goodIn_of _ (by decide +kernel)) ggL_law_L_station
set_option maxRecDepth 20000 in
theorem ggL_law_X5_station : GoodIn wsL_law wsX5_station := goodIn_r _ [116, 117, 118, 119, 120, 5, 121, 122, 620, 621, 622, 623, 624, 625, 626, 627, 628, 629, 630, 631, 632, 633, 634, 635, 636, 637] (by decide +kernel) (by decide +kernel)
set_option maxRecDepth 20000 in
theorem gL_law_X5_station : GoodIn wsL_law (wsV RL 72 RX5 yX5_station wsX5_station) := goodIn_app (goodIn_of _ (by decide +kernel)) ggL_law_X5_station
set_option maxRecDepth 20000 in
theorem ggL_law_X5_thrown : GoodIn wsL_law wsX5_thrown := goodIn_r _ [126, 122, 620, 621, 622, 623, 624, 625, 626, 627, 628, 629, 630, 631, 632, 633, 634, 635, 636, 637] (by decide +kernel) (by decide +kernel)
set_option maxRecDepth 20000 in
theorem gL_law_X5_thrown : GoodIn wsL_law (wsV RL 73 RX5 yX5_thrown wsX5_thrown) := goodIn_app (goodIn_of _ (by decide +kernel)) ggL_law_X5_thrown
set_option maxRecDepth 20000 in
theorem ggL_law_L_datum : GoodIn wsL_law wsL_datum := goodIn_ca (goodIn_ca (goodIn_r _ [129, 130, 131, 132, 133, 134, 2, 135, 136, 137, 16, 138, 139, 140, 141, 142, 143, 144, 145, 146, 15, 147, 96, 148, 149, 150, 151, 152, 153, 154, 34, 36, 616, 617, 618, 619, 638, 639, 640, 641, 642, 643, 644, 645, 646, 647] (by decide +kernel) (by decide +kernel)) (goodIn_sub (fun _ h => List.mem_append_left _ (List.mem_append_right _ h)) (by decide +kernel))) (goodIn_sub (fun _ h => List.mem_append_right _ h) (by decide +kernel))
set_option maxRecDepth 20000 in
theorem gL_law_L_datum : GoodIn wsL_law (va_wsS RL 76 yL_datum wsL_datum) := goodIn_app (goodIn_of _ (by decide +kernel)) ggL_law_L_datum
set_option maxRecDepth 20000 in
theorem ggL_law_X5_datum : GoodIn wsL_law wsX5_datum := goodIn_r _ [158, 68, 69, 159, 160, 161, 5, 162, 117, 163, 164, 165, 118, 119, 120, 121, 122, 620, 621, 622, 623, 624, 625, 626, 627, 628, 629, 630, 631, 632, 633, 634, 635, 636, 637] (by decide +kernel) (by decide +kernel)
set_option maxRecDepth 20000 in
theorem gL_law_X5_datum : GoodIn wsL_law (wsV RL 79 RX5 yX5_datum wsX5_datum) := goodIn_app (goodIn_of _ (by decide +kernel)) ggL_law_X5_datum
set_option maxRecDepth 20000 in
theorem ggL_law_L_observe : GoodIn wsL_law wsL_observe := goodIn_ca (goodIn_ca (goodIn_ca (goodIn_r _ [168, 130, 131, 84, 169, 170, 171, 2, 172, 136, 137, 89, 90, 16, 173, 138, 139, 140, 141, 142, 143, 144, 145, 146, 15, 147, 96, 148, 149, 150, 174, 175, 176, 177, 101, 38, 39, 40, 41, 97, 98, 99, 100, 37, 42, 102, 103, 104, 105, 106, 107, 108, 109, 110, 111, 112, 616, 617, 618, 619, 638, 639, 640, 641, 642, 643, 644, 645, 646, 647] (by decide +kernel) (by decide +kernel)) (goodIn_sub (fun _ h => List.mem_append_left _ (List.mem_append_right _ h)) (by decide +kernel))) (goodIn_sub (fun _ h => List.mem_append_left _ (List.mem_append_left _ (List.mem_append_right _ h))) (by decide +kernel))) (goodIn_sub (fun _ h => List.mem_append_right _ h) (by decide +kernel))
set_option maxRecDepth 20000 in
theorem gL_law_L_observe : GoodIn wsL_law (va_wsS RL 80 yL_observe wsL_observe) := goodIn_app (goodIn_of _ (by decide +kernel)) ggL_law_L_observe
set_option maxRecDepth 20000 in
theorem ggL_law_X5_observe : GoodIn wsL_law wsX5_observe := goodIn_r _ [181, 182, 70, 71, 72, 73, 159, 160, 161, 5, 162, 117, 163, 164, 165, 118, 119, 120, 121, 122, 620, 621, 622, 623, 624, 625, 626, 627, 628, 629, 630, 631, 632, 633, 634, 635, 636, 637] (by decide +kernel) (by decide +kernel)
set_option maxRecDepth 20000 in
theorem gL_law_X5_observe : GoodIn wsL_law (wsV RL 83 RX5 yX5_observe wsX5_observe) := goodIn_app (goodIn_of _ (by decide +kernel)) ggL_law_X5_observe
set_option maxRecDepth 20000 in
theorem ggL_law_L_withdraw : GoodIn wsL_law wsL_withdraw := goodIn_ca (goodIn_r _ [185, 130, 186, 187, 188, 2, 189, 16, 190, 191, 192, 193, 142, 143, 194, 195, 196, 15, 197, 101, 198, 199, 200, 201, 42, 97, 98, 99, 100, 96, 37, 38, 39, 102, 103, 104, 105, 106, 107, 108, 109, 110, 111, 112, 616, 617, 618, 619, 638, 639, 640, 641, 642, 643, 644, 645, 646, 647] (by decide +kernel) (by decide +kernel)) (goodIn_sub (fun _ h => List.mem_append_right _ h) (by decide +kernel))
set_option maxRecDepth 20000 in
theorem gL_law_L_withdraw : GoodIn wsL_law (va_wsS RL 84 yL_withdraw wsL_withdraw) := goodIn_app (goodIn_of _ (by decide +kernel)) ggL_law_L_withdraw
set_option maxRecDepth 20000 in
theorem ggL_law_X5_withdraw : GoodIn wsL_law wsX5_withdraw := goodIn_r _ [205, 74, 206, 207, 208, 5, 209, 182, 163, 164, 165, 118, 119, 120, 121, 122, 620, 621, 622, 623, 624, 625, 626, 627, 628, 629, 630, 631, 632, 633, 634, 635, 636, 637] (by decide +kernel) (by decide +kernel)
set_option maxRecDepth 20000 in
theorem gL_law_X5_withdraw : GoodIn wsL_law (wsV RL 87 RX5 yX5_withdraw wsX5_withdraw) := goodIn_app (goodIn_of _ (by decide +kernel)) ggL_law_X5_withdraw
