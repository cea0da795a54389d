set_option maxRecDepth 20000 in
theorem ggL_wsX3_read_r1 : GoodIn wsL_law wsX3_read_r1 := goodIn_r _ [813, 751, 100, 159, 160, 161, 5, 162, 92, 91, 814, 815, 816, 817, 98, 818, 99, 819, 820, 821, 822, 170, 171, 172] (by decide +kernel) (by decide +kernel)
set_option maxRecDepth 20000 in
theorem ggL_wsX3_read_r2 : GoodIn wsL_law wsX3_read_r2 := goodIn_r _ [823, 824, 825, 826, 827, 828, 829, 830, 163, 164, 165, 166, 167, 168, 169, 173, 174, 175, 176, 177, 178, 179, 180, 181] (by decide +kernel) (by decide +kernel)
set_option maxRecDepth 20000 in
theorem ggL_wsX3_read_r3 : GoodIn wsL_law wsX3_read_r3 := goodIn_r _ [182, 183, 184, 185, 186, 187, 188, 189, 190, 191, 192, 193, 194, 195, 196, 197, 198, 199, 200, 201, 202, 152, 153, 154] (by decide +kernel) (by decide +kernel)
set_option maxRecDepth 20000 in
theorem ggL_wsX3_read_r4 : GoodIn wsL_law wsX3_read_r4 := goodIn_r _ [203, 204, 205, 206, 207, 208, 209, 210, 211, 212, 213, 214, 215, 216, 217, 218, 219, 220, 221, 285, 286, 287, 288, 251] (by decide +kernel) (by decide +kernel)
set_option maxRecDepth 20000 in
theorem ggL_wsX3_read_r5 : GoodIn wsL_law wsX3_read_r5 := goodIn_r _ [252, 253, 254, 289, 290, 291, 292, 293, 294, 295, 296, 297, 298, 299, 300, 301, 302, 303, 304, 349, 350, 351, 352, 353] (by decide +kernel) (by decide +kernel)
set_option maxRecDepth 20000 in
theorem ggL_wsX3_read_r6 : GoodIn wsL_law wsX3_read_r6 := goodIn_r _ [354, 355, 356, 247, 248, 249, 250, 327, 328, 329, 330, 331, 332, 333, 334, 380, 381, 382, 383, 384, 385, 386, 387, 222] (by decide +kernel) (by decide +kernel)
set_option maxRecDepth 20000 in
theorem ggL_wsX3_read_r7 : GoodIn wsL_law wsX3_read_r7 := goodIn_r _ [223, 224, 225, 226, 94] (by decide +kernel) (by decide +kernel)
set_option maxRecDepth 20000 in
theorem ggL_law_X3_read_h : GoodIn wsL_law [.code yX3_read cX3_read 5 (some .int)] := goodIn_r _ [812] (by decide +kernel) (by decide +kernel)
set_option maxRecDepth 20000 in
theorem ggL_law_X3_read : GoodIn wsL_law wsX3_read := goodIn_app (a := [.code yX3_read cX3_read 5 (some .int)]) ggL_law_X3_read_h (goodIn_app (goodIn_app ggL_wsX3_read_r1 (goodIn_app ggL_wsX3_read_r2 (goodIn_app ggL_wsX3_read_r3 (goodIn_app ggL_wsX3_read_r4 (goodIn_app ggL_wsX3_read_r5 (goodIn_app ggL_wsX3_read_r6 ggL_wsX3_read_r7)))))) (goodIn_sub inlX3 (by decide +kernel)))
set_option maxRecDepth 20000 in
theorem gL_law_X3_read : GoodIn wsL_law (wsV RL 104 RX3 yX3_read wsX3_read) := goodIn_app (goodIn_of _ (by decide +kernel)) ggL_law_X3_read
