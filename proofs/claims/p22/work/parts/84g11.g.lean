set_option maxRecDepth 20000 in
theorem gc_wsL_isRefused_r6 : GoodIn wsL_law wsL_isRefused_r6 := goodIn_r _ [171, 172, 173, 174, 175, 176, 177, 178, 179, 180, 181, 182, 183, 184, 185, 186, 187, 188, 189, 190, 191, 192, 193, 194] rfl (by decide +kernel)
set_option maxRecDepth 20000 in
theorem gc_wsL_isRefused_r7 : GoodIn wsL_law wsL_isRefused_r7 := goodIn_r _ [195, 196, 197, 198, 199, 200, 201, 202, 203, 204, 205, 206, 207, 208, 209, 210, 211, 212, 213, 214, 215, 216, 217, 218] rfl (by decide +kernel)
set_option maxRecDepth 20000 in
theorem gc_wsL_isRefused_r8 : GoodIn wsL_law wsL_isRefused_r8 := goodIn_r _ [219, 220, 221, 222, 223, 224, 225, 36, 226, 227, 228, 229, 230, 231, 232, 233, 234, 235, 236, 237, 238, 239, 240, 241] rfl (by decide +kernel)
set_option maxRecDepth 20000 in
theorem gc_wsL_isRefused_r9 : GoodIn wsL_law wsL_isRefused_r9 := goodIn_r _ [242, 243, 244, 245, 246, 247, 248, 33, 249, 250, 251, 252, 253, 254, 255, 256, 257, 37, 38, 258, 259, 260, 261, 262] rfl (by decide +kernel)
set_option maxRecDepth 20000 in
theorem gc_wsL_isRefused_r10 : GoodIn wsL_law wsL_isRefused_r10 := goodIn_r _ [263, 264, 265, 266, 267, 268, 269, 270, 271, 272, 273, 274, 275, 276, 277, 278, 279, 280, 281, 282, 283, 284, 285, 286] rfl (by decide +kernel)
set_option maxRecDepth 20000 in
theorem gc_wsL_isRefused_r11 : GoodIn wsL_law wsL_isRefused_r11 := goodIn_r _ [287, 288, 25, 289, 290, 291, 61, 292, 293, 294, 295, 296, 297, 298, 299, 300, 301, 302, 303, 304, 305, 306, 307, 308] rfl (by decide +kernel)
