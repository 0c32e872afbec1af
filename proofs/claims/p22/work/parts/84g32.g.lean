set_option maxRecDepth 20000 in
theorem gc_wsL_act_r12 : GoodIn wsL_law wsL_act_r12 := goodIn_r _ [341, 342, 343, 344, 345, 346, 347, 348, 349, 350, 351, 352, 353, 354, 355, 356, 357, 358, 359, 360, 361, 362, 363, 364] rfl (by decide +kernel)
set_option maxRecDepth 20000 in
theorem gc_wsL_act_r13 : GoodIn wsL_law wsL_act_r13 := goodIn_r _ [365, 366, 367, 368, 369, 370, 371, 372, 373, 374, 375, 376, 377, 378, 379, 380, 381, 382, 201, 202, 203, 383, 384, 385] rfl (by decide +kernel)
set_option maxRecDepth 20000 in
theorem gc_wsL_act_r14 : GoodIn wsL_law wsL_act_r14 := goodIn_r _ [386, 387, 388, 389, 390, 391, 392, 393, 394, 395, 196, 197, 198, 199, 200] rfl (by decide +kernel)
