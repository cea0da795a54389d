set_option maxRecDepth 20000 in
theorem ggL_wsX2_read_r1 : GoodIn wsL_law wsX2_read_r1 := goodIn_r _ [16, 15, 26, 31, 746, 105, 106, 107, 14, 108, 40, 109, 110, 111, 112, 41, 42, 43, 44, 45, 46, 47, 48, 49] (by decide +kernel) (by decide +kernel)
set_option maxRecDepth 20000 in
theorem ggL_wsX2_read_r2 : GoodIn wsL_law wsX2_read_r2 := goodIn_r _ [50, 51, 52, 53, 54, 55, 756, 757, 758, 25, 759, 61, 60, 760, 761, 762, 763, 764, 765, 766, 767, 62, 768, 769] (by decide +kernel) (by decide +kernel)
set_option maxRecDepth 20000 in
theorem ggL_wsX2_read_r3 : GoodIn wsL_law wsX2_read_r3 := goodIn_r _ [770, 771, 772, 689, 690, 29, 691, 692, 693, 543, 694, 71, 695, 546, 773, 726, 727, 728, 729, 730, 731, 732, 77, 76] (by decide +kernel) (by decide +kernel)
set_option maxRecDepth 20000 in
theorem ggL_wsX2_read_r4 : GoodIn wsL_law wsX2_read_r4 := goodIn_r _ [733, 152, 153, 154, 734, 683, 628, 684, 630, 685, 686, 633, 687, 735, 736, 80, 737, 619, 643, 644, 623, 624, 625, 774] (by decide +kernel) (by decide +kernel)
set_option maxRecDepth 20000 in
theorem ggL_wsX2_read_r5 : GoodIn wsL_law wsX2_read_r5 := goodIn_r _ [775, 776, 777, 63, 778, 779, 780, 781, 782, 783, 784, 785, 64, 786, 787, 788, 789, 65, 790, 791, 792, 793, 794, 795] (by decide +kernel) (by decide +kernel)
set_option maxRecDepth 20000 in
theorem ggL_wsX2_read_r6 : GoodIn wsL_law wsX2_read_r6 := goodIn_r _ [796, 797, 798, 799, 800, 801, 802, 2, 803, 804, 805, 806, 807, 113, 114, 115, 116, 117, 118, 119, 120, 121, 122, 123] (by decide +kernel) (by decide +kernel)
set_option maxRecDepth 20000 in
theorem ggL_wsX2_read_r7 : GoodIn wsL_law wsX2_read_r7 := goodIn_r _ [124, 125, 126, 32, 33, 34, 127, 128, 129, 130, 131, 132, 133, 134, 135, 136, 137, 138, 139, 140, 141, 142, 143, 144] (by decide +kernel) (by decide +kernel)
set_option maxRecDepth 20000 in
theorem ggL_wsX2_read_r8 : GoodIn wsL_law wsX2_read_r8 := goodIn_r _ [145, 146, 231, 232, 233, 234, 235, 236, 237, 238, 239, 240, 241, 242, 259, 260, 261, 262, 263, 264, 265, 266, 267, 268] (by decide +kernel) (by decide +kernel)
set_option maxRecDepth 20000 in
theorem ggL_wsX2_read_r9 : GoodIn wsL_law wsX2_read_r9 := goodIn_r _ [269, 270, 271, 272, 204, 205, 273, 274, 275, 276, 277, 278, 279, 280, 309, 310, 311, 312, 313, 314, 315, 316, 317, 318] (by decide +kernel) (by decide +kernel)
set_option maxRecDepth 20000 in
theorem ggL_wsX2_read_r10 : GoodIn wsL_law wsX2_read_r10 := goodIn_r _ [319, 320, 321, 322, 339, 340, 341, 342, 343, 344, 361, 362, 363, 364, 365, 366, 367, 368, 369, 370, 371, 372, 373, 374] (by decide +kernel) (by decide +kernel)
set_option maxRecDepth 20000 in
theorem ggL_wsX2_read_r11 : GoodIn wsL_law wsX2_read_r11 := goodIn_r _ [375, 808, 537, 538, 539, 540, 541, 542, 544, 545, 547, 548, 549, 550, 551, 552, 553, 554, 555, 556, 557, 558, 559, 560] (by decide +kernel) (by decide +kernel)
set_option maxRecDepth 20000 in
theorem ggL_wsX2_read_r12 : GoodIn wsL_law wsX2_read_r12 := goodIn_r _ [561, 562, 563, 564, 565, 566, 567, 568, 569, 570, 571, 572, 573, 574, 575, 576, 577, 75, 578, 579, 580, 581, 582, 583] (by decide +kernel) (by decide +kernel)
set_option maxRecDepth 20000 in
theorem ggL_wsX2_read_r13 : GoodIn wsL_law wsX2_read_r13 := goodIn_r _ [584, 74, 585, 586, 587, 588, 589, 590, 591, 592, 593, 594, 595, 596, 597, 598, 147, 148, 149, 150, 21, 20, 22, 151] (by decide +kernel) (by decide +kernel)
set_option maxRecDepth 20000 in
theorem ggL_law_X2_read_h : GoodIn wsL_law [.code yX2_read cX2_read 4 (some .int)] := goodIn_r _ [755] (by decide +kernel) (by decide +kernel)
set_option maxRecDepth 20000 in
theorem ggL_law_X2_read : GoodIn wsL_law wsX2_read := goodIn_app (a := [.code yX2_read cX2_read 4 (some .int)]) ggL_law_X2_read_h (goodIn_app (goodIn_app (goodIn_app (goodIn_app (goodIn_app ggL_wsX2_read_r1 (goodIn_app ggL_wsX2_read_r2 (goodIn_app ggL_wsX2_read_r3 (goodIn_app ggL_wsX2_read_r4 (goodIn_app ggL_wsX2_read_r5 (goodIn_app ggL_wsX2_read_r6 (goodIn_app ggL_wsX2_read_r7 (goodIn_app ggL_wsX2_read_r8 (goodIn_app ggL_wsX2_read_r9 (goodIn_app ggL_wsX2_read_r10 (goodIn_app ggL_wsX2_read_r11 (goodIn_app ggL_wsX2_read_r12 ggL_wsX2_read_r13)))))))))))) (goodIn_sub inlX2 (by decide +kernel))) (goodIn_sub inlX1 (by decide +kernel))) (goodIn_sub inlX0 (by decide +kernel))) (goodIn_sub inlJ4 (by decide +kernel)))
set_option maxRecDepth 20000 in
theorem gL_law_X2_read : GoodIn wsL_law (wsV RL 101 RX2 yX2_read wsX2_read) := goodIn_app (goodIn_of _ (by decide +kernel)) ggL_law_X2_read
