set_option maxRecDepth 20000 in
theorem gh_act : GoodIn wsL_law [.codeWith yL_act cL_act 7 (some .long) [(0, 228, 229, 59), (0, 228, 235, 63), (0, 228, 241, 67)]] := goodIn_r _ [206] rfl (by decide +kernel)
set_option maxRecDepth 20000 in
theorem gc_wsL_act_r1 : GoodIn wsL_law wsL_act_r1 := goodIn_r _ [207, 208, 209, 67, 69, 4, 210, 211, 212, 2, 213, 214, 215, 14, 216, 217, 218, 219, 13, 220, 89, 221, 222, 223] rfl (by decide +kernel)
set_option maxRecDepth 20000 in
theorem gc_wsL_act_r2 : GoodIn wsL_law wsL_act_r2 := goodIn_r _ [224, 34, 225, 39, 35, 36, 226, 227, 228, 229, 230, 231, 107, 232, 233, 234, 235, 236, 237, 238, 239, 240, 241, 181] rfl (by decide +kernel)
set_option maxRecDepth 20000 in
theorem gc_wsL_act_r3 : GoodIn wsL_law wsL_act_r3 := goodIn_r _ [182, 183, 184, 185, 186, 187, 188, 189, 190, 242, 243, 244, 245, 246, 247, 248, 32, 33, 249, 250, 251, 252, 253, 254] rfl (by decide +kernel)
set_option maxRecDepth 20000 in
theorem gc_wsL_act_r4 : GoodIn wsL_law wsL_act_r4 := goodIn_r _ [255, 256, 257, 37, 38, 258, 259, 260, 261, 262, 263, 264, 265, 266, 267, 268, 269, 270, 271, 272, 273, 274, 275, 276] rfl (by decide +kernel)
set_option maxRecDepth 20000 in
theorem gc_wsL_act_r5 : GoodIn wsL_law wsL_act_r5 := goodIn_r _ [277, 278, 18, 94, 95, 96, 17, 97, 44, 98, 99, 100, 101, 102, 103, 104, 105, 106, 108, 109, 110, 111, 112, 113] rfl (by decide +kernel)
