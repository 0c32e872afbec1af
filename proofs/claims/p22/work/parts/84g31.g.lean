set_option maxRecDepth 20000 in
theorem gc_wsL_act_r6 : GoodIn wsL_law wsL_act_r6 := goodIn_r _ [114, 115, 116, 117, 118, 119, 120, 121, 122, 123, 124, 125, 126, 127, 128, 129, 130, 131, 132, 133, 134, 135, 136, 45] rfl (by decide +kernel)
set_option maxRecDepth 20000 in
theorem gc_wsL_act_r7 : GoodIn wsL_law wsL_act_r7 := goodIn_r _ [137, 138, 139, 140, 141, 48, 142, 143, 144, 145, 146, 147, 148, 149, 150, 151, 152, 153, 154, 155, 156, 157, 158, 159] rfl (by decide +kernel)
set_option maxRecDepth 20000 in
theorem gc_wsL_act_r8 : GoodIn wsL_law wsL_act_r8 := goodIn_r _ [160, 161, 162, 163, 164, 165, 166, 167, 168, 169, 170, 171, 172, 173, 174, 175, 176, 279, 280, 281, 282, 283, 26, 284] rfl (by decide +kernel)
set_option maxRecDepth 20000 in
theorem gc_wsL_act_r9 : GoodIn wsL_law wsL_act_r9 := goodIn_r _ [285, 286, 287, 288, 25, 289, 290, 291, 61, 292, 293, 294, 295, 296, 297, 298, 299, 300, 301, 302, 303, 304, 177, 178] rfl (by decide +kernel)
set_option maxRecDepth 20000 in
theorem gc_wsL_act_r10 : GoodIn wsL_law wsL_act_r10 := goodIn_r _ [179, 180, 191, 192, 193, 194, 195, 305, 306, 307, 308, 22, 309, 310, 311, 21, 312, 313, 53, 314, 315, 316, 317, 318] rfl (by decide +kernel)
set_option maxRecDepth 20000 in
theorem gc_wsL_act_r11 : GoodIn wsL_law wsL_act_r11 := goodIn_r _ [319, 320, 321, 322, 323, 324, 325, 326, 55, 56, 327, 328, 329, 330, 331, 332, 333, 334, 335, 336, 337, 338, 339, 340] rfl (by decide +kernel)
