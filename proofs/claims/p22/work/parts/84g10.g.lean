set_option maxRecDepth 20000 in
theorem gh_isRefused : GoodIn wsL_law [.code yL_isRefused cL_isRefused 12 (some .boolean)] := goodIn_r _ [65] rfl (by decide +kernel)
set_option maxRecDepth 20000 in
theorem gc_wsL_isRefused_r1 : GoodIn wsL_law wsL_isRefused_r1 := goodIn_r _ [66, 67, 68, 69, 4, 70, 71, 64, 72, 73, 74, 75, 76, 77, 78, 2, 79, 26, 80, 81, 82, 83, 84, 14] rfl (by decide +kernel)
set_option maxRecDepth 20000 in
theorem gc_wsL_isRefused_r2 : GoodIn wsL_law wsL_isRefused_r2 := goodIn_r _ [85, 86, 87, 13, 88, 89, 34, 90, 91, 92, 93, 18, 94, 95, 96, 17, 97, 44, 98, 99, 100, 101, 102, 103] rfl (by decide +kernel)
set_option maxRecDepth 20000 in
theorem gc_wsL_isRefused_r3 : GoodIn wsL_law wsL_isRefused_r3 := goodIn_r _ [104, 105, 106, 107, 108, 109, 110, 111, 112, 113, 114, 115, 116, 117, 118, 119, 120, 121, 122, 123, 124, 125, 126, 32] rfl (by decide +kernel)
set_option maxRecDepth 20000 in
theorem gc_wsL_isRefused_r4 : GoodIn wsL_law wsL_isRefused_r4 := goodIn_r _ [127, 128, 129, 130, 131, 132, 133, 134, 135, 136, 45, 137, 138, 139, 140, 141, 48, 142, 143, 144, 145, 39, 35, 146] rfl (by decide +kernel)
set_option maxRecDepth 20000 in
theorem gc_wsL_isRefused_r5 : GoodIn wsL_law wsL_isRefused_r5 := goodIn_r _ [147, 148, 149, 150, 151, 152, 153, 154, 155, 156, 157, 158, 159, 160, 161, 162, 163, 164, 165, 166, 167, 168, 169, 170] rfl (by decide +kernel)
