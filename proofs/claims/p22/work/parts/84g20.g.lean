set_option maxRecDepth 20000 in
theorem gh_areSound : GoodIn wsL_law [.code yL_areSound cL_areSound 23 (some .boolean)] := goodIn_r _ [398] rfl (by decide +kernel)
set_option maxRecDepth 20000 in
theorem gc_wsL_areSound_r1 : GoodIn wsL_law wsL_areSound_r1 := goodIn_r _ [399, 400, 401, 402, 76, 77, 78, 2, 79, 26, 80, 81, 82, 83, 84, 14, 85, 86, 87, 13, 88, 89, 34, 177] rfl (by decide +kernel)
set_option maxRecDepth 20000 in
theorem gc_wsL_areSound_r2 : GoodIn wsL_law wsL_areSound_r2 := goodIn_r _ [178, 179, 180, 18, 181, 182, 183, 184, 185, 186, 187, 188, 189, 190, 191, 192, 193, 17, 194, 44, 195, 122, 109, 104] rfl (by decide +kernel)
set_option maxRecDepth 20000 in
theorem gc_wsL_areSound_r3 : GoodIn wsL_law wsL_areSound_r3 := goodIn_r _ [118, 119, 120, 121, 98, 123, 124, 125, 126, 32, 127, 128, 129, 130, 131, 132, 133, 134, 135, 136, 45, 137, 138, 139] rfl (by decide +kernel)
set_option maxRecDepth 20000 in
theorem gc_wsL_areSound_r4 : GoodIn wsL_law wsL_areSound_r4 := goodIn_r _ [140, 141, 48, 142, 143, 144, 145, 39, 35, 146, 147, 148, 149, 115, 116, 110, 117, 150, 151, 152, 153, 154, 155, 156] rfl (by decide +kernel)
set_option maxRecDepth 20000 in
theorem gc_wsL_areSound_r5 : GoodIn wsL_law wsL_areSound_r5 := goodIn_r _ [157, 158, 159, 160, 161, 162, 163, 164, 165, 166, 167, 168, 169, 170, 171, 353, 354, 355, 356, 357, 358, 359, 360, 196] rfl (by decide +kernel)
