set_option maxRecDepth 20000 in
theorem gc_wsL_areSound_r6 : GoodIn wsL_law wsL_areSound_r6 := goodIn_r _ [197, 198, 199, 200, 201, 202, 203, 305, 306, 307, 308, 22, 309, 310, 311, 21, 312, 313, 53, 314, 315, 316, 317, 318] rfl (by decide +kernel)
set_option maxRecDepth 20000 in
theorem gc_wsL_areSound_r7 : GoodIn wsL_law wsL_areSound_r7 := goodIn_r _ [319, 320, 321, 322, 323, 324, 325, 326, 55, 56, 327, 328, 329, 330, 331, 332, 333, 334, 335, 336, 337, 338, 339, 340] rfl (by decide +kernel)
set_option maxRecDepth 20000 in
theorem gc_wsL_areSound_r8 : GoodIn wsL_law wsL_areSound_r8 := goodIn_r _ [341, 342, 343, 344, 345, 346, 347, 348, 349, 350, 351, 352, 90, 91, 92, 93, 94, 95, 96, 97, 99, 100, 101, 102] rfl (by decide +kernel)
set_option maxRecDepth 20000 in
theorem gc_wsL_areSound_r9 : GoodIn wsL_law wsL_areSound_r9 := goodIn_r _ [103, 105, 106, 107, 108, 111, 112, 113, 114, 172, 173, 174, 175, 176, 392, 393, 394, 395, 365, 366, 367, 368, 214, 215] rfl (by decide +kernel)
set_option maxRecDepth 20000 in
theorem gc_wsL_areSound_r10 : GoodIn wsL_law wsL_areSound_r10 := goodIn_r _ [369, 262, 263, 264, 265, 266, 267, 268, 269, 225, 279, 361, 362, 363, 364, 370, 371, 372, 373, 374, 375, 376, 377, 378] rfl (by decide +kernel)
set_option maxRecDepth 20000 in
theorem gc_wsL_areSound_r11 : GoodIn wsL_law wsL_areSound_r11 := goodIn_r _ [379, 380, 381, 382, 383, 384, 385, 386, 387, 388, 389, 390, 391] rfl (by decide +kernel)
