set_option maxRecDepth 20000 in
theorem ggQ_X2_ranked : GoodIn wsL_law wsX2_ranked := goodIn_r _ [618, 17, 619, 620, 621, 16, 622, 623, 624, 625, 626, 48, 162, 163, 164, 165, 47, 150, 151, 152, 153, 49, 751, 752, 753, 754, 755, 756, 757, 758, 759, 760, 761, 762, 763, 764, 765, 766, 767, 768, 769, 770, 771, 772, 773, 774, 775, 776, 777, 778, 779, 780] (by decide +kernel) (by decide +kernel)
set_option maxRecDepth 20000 in
theorem gQ_X2_ranked : GoodIn wsL_law (wsV RL 106 RX2 yX2_ranked wsX2_ranked) := goodIn_app (goodIn_of _ (by decide +kernel)) ggQ_X2_ranked
set_option maxRecDepth 20000 in
theorem ggQ_X2_reaches : GoodIn wsL_law wsX2_reaches := goodIn_r _ [548, 17, 374, 375, 2, 376, 549, 128, 129, 16, 130, 45, 51, 751, 752, 753, 754, 755, 756, 757, 758, 759, 760, 761, 762, 763, 764, 765, 766, 767, 768, 769, 770, 771, 772, 773, 774, 775, 776, 777, 778, 779, 780] (by decide +kernel) (by decide +kernel)
set_option maxRecDepth 20000 in
theorem gQ_X2_reaches : GoodIn wsL_law (wsV RL 88 RX2 yX2_reaches wsX2_reaches) := goodIn_app (goodIn_of _ (by decide +kernel)) ggQ_X2_reaches
set_option maxRecDepth 20000 in
theorem ggQ_wsX2_read_r1 : GoodIn wsL_law wsX2_read_r1 := goodIn_r _ [18, 17, 28, 33, 175, 93, 94, 95, 16, 96, 42, 97, 98, 99, 100, 43, 44, 45, 46, 47, 48, 49, 50, 51] (by decide +kernel) (by decide +kernel)
set_option maxRecDepth 20000 in
theorem ggQ_wsX2_read_r2 : GoodIn wsL_law wsX2_read_r2 := goodIn_r _ [52, 53, 54, 55, 56, 57, 306, 307, 308, 27, 309, 63, 62, 310, 311, 312, 313, 314, 315, 316, 317, 64, 318, 319] (by decide +kernel) (by decide +kernel)
set_option maxRecDepth 20000 in
theorem ggQ_wsX2_read_r3 : GoodIn wsL_law wsX2_read_r3 := goodIn_r _ [320, 321, 322, 177, 178, 31, 179, 180, 181, 182, 183, 73, 184, 185, 323, 324, 325, 326, 327, 328, 329, 330, 79, 78] (by decide +kernel) (by decide +kernel)
set_option maxRecDepth 20000 in
theorem ggQ_wsX2_read_r4 : GoodIn wsL_law wsX2_read_r4 := goodIn_r _ [331, 5, 6, 7, 332, 274, 254, 275, 256, 276, 277, 259, 278, 333, 334, 82, 335, 264, 265, 266, 249, 250, 251, 336] (by decide +kernel) (by decide +kernel)
set_option maxRecDepth 20000 in
theorem ggQ_wsX2_read_r5 : GoodIn wsL_law wsX2_read_r5 := goodIn_r _ [337, 338, 339, 65, 340, 341, 342, 343, 344, 345, 346, 347, 66, 348, 349, 350, 351, 67, 352, 353, 354, 355, 356, 357] (by decide +kernel) (by decide +kernel)
set_option maxRecDepth 20000 in
theorem ggQ_wsX2_read_r6 : GoodIn wsL_law wsX2_read_r6 := goodIn_r _ [358, 359, 360, 361, 362, 363, 364, 2, 365, 366, 367, 368, 369, 370, 371, 372, 373, 285, 284, 283, 374, 375, 376, 377] (by decide +kernel) (by decide +kernel)
set_option maxRecDepth 20000 in
theorem ggQ_wsX2_read_r7 : GoodIn wsL_law wsX2_read_r7 := goodIn_r _ [378, 379, 380, 34, 35, 36, 381, 159, 160, 161, 127, 128, 129, 130, 131, 132, 133, 134, 162, 163, 164, 165, 150, 151] (by decide +kernel) (by decide +kernel)
set_option maxRecDepth 20000 in
theorem ggQ_wsX2_read_r8 : GoodIn wsL_law wsX2_read_r8 := goodIn_r _ [152, 153, 382, 383, 384, 385, 386, 387, 388, 389, 390, 391, 392, 393, 394, 395, 396, 397, 290, 398, 124, 125, 126, 135] (by decide +kernel) (by decide +kernel)
set_option maxRecDepth 20000 in
theorem ggQ_wsX2_read_r9 : GoodIn wsL_law wsX2_read_r9 := goodIn_r _ [136, 137, 138, 139, 140, 141, 142, 143, 144, 145, 146, 147, 148, 149, 399, 400, 401, 402, 403, 404, 405, 406, 298, 299] (by decide +kernel) (by decide +kernel)
set_option maxRecDepth 20000 in
theorem ggQ_wsX2_read_r10 : GoodIn wsL_law wsX2_read_r10 := goodIn_r _ [300, 301, 296, 297, 407, 408, 409, 410, 411, 295, 114, 115, 116, 117, 118, 119, 120, 121, 122, 123, 154, 155, 156, 157] (by decide +kernel) (by decide +kernel)
set_option maxRecDepth 20000 in
theorem ggQ_wsX2_read_r11 : GoodIn wsL_law wsX2_read_r11 := goodIn_r _ [158, 412, 413, 414, 415, 416, 417, 418, 419, 420, 421, 194, 195, 196, 197, 198, 199, 200, 201, 202, 203, 204, 205, 206] (by decide +kernel) (by decide +kernel)
set_option maxRecDepth 20000 in
theorem ggQ_wsX2_read_r12 : GoodIn wsL_law wsX2_read_r12 := goodIn_r _ [207, 208, 209, 210, 211, 212, 213, 214, 215, 216, 217, 218, 219, 220, 221, 222, 223, 77, 224, 225, 226, 227, 228, 229] (by decide +kernel) (by decide +kernel)
set_option maxRecDepth 20000 in
theorem ggQ_wsX2_read_r13 : GoodIn wsL_law wsX2_read_r13 := goodIn_r _ [230, 76, 422, 423, 233, 424, 425, 426, 427, 428, 429, 430, 431, 432, 433, 434, 166, 167, 168, 169, 23, 22, 24, 170] (by decide +kernel) (by decide +kernel)
set_option maxRecDepth 20000 in
theorem ggQ_X2_read_wsX20 : GoodIn wsL_law wsX20 := goodIn_r _ [751, 752, 753, 754, 755, 756, 757, 758, 759, 760, 761, 762, 763, 764] (by decide +kernel) (by decide +kernel)
set_option maxRecDepth 20000 in
theorem ggQ_X2_read_wsX10 : GoodIn wsL_law wsX10 := goodIn_r _ [781, 782, 783, 784, 785, 786] (by decide +kernel) (by decide +kernel)
set_option maxRecDepth 20000 in
theorem ggQ_X2_read_wsX00 : GoodIn wsL_law wsX00 := goodIn_r _ [765, 766, 767, 768, 769, 770, 771, 772, 773, 774, 775, 776, 777, 778, 779, 780] (by decide +kernel) (by decide +kernel)
set_option maxRecDepth 20000 in
theorem ggQ_X2_read_wsJ40 : GoodIn wsL_law wsJ40 := goodIn_r _ [787, 788, 789, 790] (by decide +kernel) (by decide +kernel)
set_option maxRecDepth 20000 in
theorem ggQ_X2_read_h : GoodIn wsL_law [.code yX2_read cX2_read 4 (some .int)] := goodIn_r _ [305] (by decide +kernel) (by decide +kernel)
set_option maxRecDepth 20000 in
theorem ggQ_X2_read : GoodIn wsL_law wsX2_read := goodIn_app (a := [.code yX2_read cX2_read 4 (some .int)]) ggQ_X2_read_h (goodIn_app (goodIn_app (goodIn_app (goodIn_app (goodIn_app ggQ_wsX2_read_r1 (goodIn_app ggQ_wsX2_read_r2 (goodIn_app ggQ_wsX2_read_r3 (goodIn_app ggQ_wsX2_read_r4 (goodIn_app ggQ_wsX2_read_r5 (goodIn_app ggQ_wsX2_read_r6 (goodIn_app ggQ_wsX2_read_r7 (goodIn_app ggQ_wsX2_read_r8 (goodIn_app ggQ_wsX2_read_r9 (goodIn_app ggQ_wsX2_read_r10 (goodIn_app ggQ_wsX2_read_r11 (goodIn_app ggQ_wsX2_read_r12 ggQ_wsX2_read_r13)))))))))))) ggQ_X2_read_wsX20) ggQ_X2_read_wsX10) ggQ_X2_read_wsX00) ggQ_X2_read_wsJ40)
set_option maxRecDepth 20000 in
theorem gQ_X2_read : GoodIn wsL_law (wsV RL 23 RX2 yX2_read wsX2_read) := goodIn_app (goodIn_of _ (by decide +kernel)) ggQ_X2_read
set_option maxRecDepth 20000 in
theorem ggQ_X2_refusal : GoodIn wsL_law wsX2_refusal := goodIn_r _ [460, 34, 35, 36, 751, 752, 753, 754, 755, 756, 757, 758, 759, 760, 761, 762, 763, 764] (by decide +kernel) (by decide +kernel)
set_option maxRecDepth 20000 in
theorem gQ_X2_refusal : GoodIn wsL_law (wsV RL 26 RX2 yX2_refusal wsX2_refusal) := goodIn_app (goodIn_of _ (by decide +kernel)) ggQ_X2_refusal
set_option maxRecDepth 20000 in
theorem ggQ_X2_restore : GoodIn wsL_law wsX2_restore := goodIn_r _ [104, 21, 17, 20, 24, 105, 93, 94, 95, 16, 96, 42, 97, 98, 99, 100, 43, 44, 45, 46, 47, 48, 49, 50, 51, 52, 53, 54, 55, 56, 57, 751, 752, 753, 754, 755, 756, 757, 758, 759, 760, 761, 762, 763, 764, 765, 766, 767, 768, 769, 770, 771, 772, 773, 774, 775, 776, 777, 778, 779, 780] (by decide +kernel) (by decide +kernel)
set_option maxRecDepth 20000 in
theorem gQ_X2_restore : GoodIn wsL_law (wsV RL 156 RX2 yX2_restore wsX2_restore) := goodIn_app (goodIn_of _ (by decide +kernel)) ggQ_X2_restore
set_option maxRecDepth 20000 in
theorem ggQ_X2_road : GoodIn wsL_law wsX2_road := goodIn_r _ [492, 18, 17, 93, 94, 95, 16, 96, 42, 97, 98, 99, 100, 43, 44, 45, 46, 47, 48, 49, 50, 51, 52, 53, 54, 55, 56, 57, 399, 400, 401, 2, 402, 403, 374, 375, 376, 404, 405, 406, 377, 378, 379, 380, 34, 35, 33, 36, 298, 299, 300, 301, 296, 297, 166, 167, 168, 169, 23, 22, 24, 170, 5, 6, 7, 751, 752, 753, 754, 755, 756, 757, 758, 759, 760, 761, 762, 763, 764, 765, 766, 767, 768, 769, 770, 771, 772, 773, 774, 775, 776, 777, 778, 779, 780] (by decide +kernel) (by decide +kernel)
set_option maxRecDepth 20000 in
theorem gQ_X2_road : GoodIn wsL_law (wsV RL 50 RX2 yX2_road wsX2_road) := goodIn_app (goodIn_of _ (by decide +kernel)) ggQ_X2_road
set_option maxRecDepth 20000 in
theorem ggQ_X2_save : GoodIn wsL_law wsX2_save := goodIn_r _ [109, 20, 17, 21, 105, 93, 94, 95, 16, 96, 42, 97, 98, 99, 100, 43, 44, 45, 46, 47, 48, 49, 50, 51, 52, 53, 54, 55, 56, 57, 751, 752, 753, 754, 755, 756, 757, 758, 759, 760, 761, 762, 763, 764, 765, 766, 767, 768, 769, 770, 771, 772, 773, 774, 775, 776, 777, 778, 779, 780] (by decide +kernel) (by decide +kernel)
set_option maxRecDepth 20000 in
theorem gQ_X2_save : GoodIn wsL_law (wsV RL 159 RX2 yX2_save wsX2_save) := goodIn_app (goodIn_of _ (by decide +kernel)) ggQ_X2_save
set_option maxRecDepth 20000 in
theorem ggQ_X2_share : GoodIn wsL_law wsX2_share := goodIn_r _ [504, 17, 386, 290, 295, 296, 2, 297, 505, 506, 507, 508, 751, 752, 753, 754, 755, 756, 757, 758, 759, 760, 761, 762, 763, 764, 765, 766, 767, 768, 769, 770, 771, 772, 773, 774, 775, 776, 777, 778, 779, 780] (by decide +kernel) (by decide +kernel)
set_option maxRecDepth 20000 in
theorem gQ_X2_share : GoodIn wsL_law (wsV RL 70 RX2 yX2_share wsX2_share) := goodIn_app (goodIn_of _ (by decide +kernel)) ggQ_X2_share
set_option maxRecDepth 20000 in
theorem ggQ_X2_show : GoodIn wsL_law wsX2_show := goodIn_r _ [606, 32, 17, 290, 386, 374, 375, 2, 376, 413, 414, 415, 31, 416, 417, 418, 182, 419, 73, 420, 185, 78, 421, 194, 195, 196, 197, 198, 79, 199, 200, 201, 202, 203, 204, 205, 206, 207, 208, 209, 140, 6, 141, 210, 211, 212, 213, 214, 215, 216, 217, 218, 219, 220, 221, 222, 223, 77, 224, 5, 7, 225, 98, 99, 100, 226, 227, 228, 229, 230, 76, 422, 423, 233, 424, 425, 426, 427, 428, 429, 430, 431, 432, 82, 433, 434, 607, 608, 609, 610, 535, 534, 186, 187, 188, 189, 190, 191, 192, 193, 231, 232, 234, 235, 236, 237, 238, 239, 80, 81, 83, 84, 85, 86, 87, 240, 241, 242, 243, 244, 245, 246, 247, 248, 249, 250, 251, 252, 253, 254, 255, 256, 257, 258, 259, 260, 261, 262, 263, 264, 265, 266, 267, 268, 269, 270, 271, 272, 273, 274, 275, 276, 277, 278, 564, 565, 566, 567, 568, 569, 570, 571, 572, 573, 574, 575, 576, 577, 578, 579, 580, 581, 582, 583, 584, 585, 586, 587, 588, 589, 590, 591, 592, 593, 594, 595, 596, 597, 176, 177, 178, 179, 180, 181, 183, 184, 751, 752, 753, 754, 755, 756, 757, 758, 759, 760, 761, 762, 763, 764, 765, 766, 767, 768, 769, 770, 771, 772, 773, 774, 775, 776, 777, 778, 779, 780, 787, 788, 789, 790] (by decide +kernel) (by decide +kernel)
set_option maxRecDepth 20000 in
theorem gQ_X2_show : GoodIn wsL_law (wsV RL 100 RX2 yX2_show wsX2_show) := goodIn_app (goodIn_of _ (by decide +kernel)) ggQ_X2_show
