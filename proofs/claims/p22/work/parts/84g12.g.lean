set_option maxRecDepth 20000 in
theorem gc_wsL_isRefused_r12 : GoodIn wsL_law wsL_isRefused_r12 := goodIn_r _ [22, 309, 310, 311, 21, 312, 313, 53, 314, 315, 316, 317, 318, 319, 320, 321, 322, 323, 324, 325, 326, 55, 56, 327] rfl (by decide +kernel)
set_option maxRecDepth 20000 in
theorem gc_wsL_isRefused_r13 : GoodIn wsL_law wsL_isRefused_r13 := goodIn_r _ [328, 329, 330, 331, 332, 333, 334, 335, 336, 337, 338, 339, 340, 341, 342, 343, 344, 345, 346, 347, 348, 349, 350, 351] rfl (by decide +kernel)
set_option maxRecDepth 20000 in
theorem gc_wsL_isRefused_r14 : GoodIn wsL_law wsL_isRefused_r14 := goodIn_r _ [352, 353, 354, 355, 356, 357, 358, 359, 360, 361, 362, 363, 364, 365, 366, 367, 368, 369, 370, 371, 372, 373, 374, 375] rfl (by decide +kernel)
set_option maxRecDepth 20000 in
theorem gc_wsL_isRefused_r15 : GoodIn wsL_law wsL_isRefused_r15 := goodIn_r _ [376, 377, 378, 379, 380, 381, 382, 383, 384, 385, 386, 387, 388, 389, 390, 391, 392, 393, 394, 395] rfl (by decide +kernel)
