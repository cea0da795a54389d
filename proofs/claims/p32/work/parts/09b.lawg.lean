set_option maxRecDepth 20000 in
theorem ggQ_X2_describe : GoodIn wsL_law wsX2_describe := goodIn_r _ [563, 32, 17, 285, 284, 283, 447, 411, 374, 375, 2, 376, 413, 414, 415, 31, 416, 417, 418, 182, 419, 73, 420, 185, 78, 421, 194, 195, 196, 197, 198, 79, 199, 200, 201, 202, 203, 204, 205, 206, 207, 208, 209, 140, 6, 141, 210, 211, 212, 213, 214, 215, 216, 217, 218, 219, 220, 221, 222, 223, 77, 224, 5, 7, 225, 98, 99, 100, 226, 227, 228, 229, 230, 76, 422, 423, 233, 424, 425, 426, 427, 428, 429, 430, 431, 432, 82, 433, 434, 564, 565, 566, 567, 568, 569, 570, 571, 572, 573, 574, 575, 576, 577, 578, 579, 580, 581, 582, 583, 264, 584, 585, 586, 249, 250, 251, 587, 588, 254, 589, 256, 590, 591, 259, 592, 593, 594, 595, 596, 597, 261, 262, 263, 265, 266, 186, 187, 188, 189, 190, 191, 192, 193, 231, 232, 234, 235, 236, 237, 238, 239, 80, 81, 83, 84, 85, 86, 87, 240, 241, 242, 243, 244, 245, 246, 247, 248, 252, 253, 255, 257, 258, 260, 267, 268, 269, 270, 271, 272, 273, 274, 275, 276, 277, 278, 176, 177, 178, 179, 180, 181, 183, 184, 751, 752, 753, 754, 755, 756, 757, 758, 759, 760, 761, 762, 763, 764, 765, 766, 767, 768, 769, 770, 771, 772, 773, 774, 775, 776, 777, 778, 779, 780, 787, 788, 789, 790] (by decide +kernel) (by decide +kernel)
set_option maxRecDepth 20000 in
theorem gQ_X2_describe : GoodIn wsL_law (wsV RL 97 RX2 yX2_describe wsX2_describe) := goodIn_app (goodIn_of _ (by decide +kernel)) ggQ_X2_describe
set_option maxRecDepth 20000 in
theorem ggQ_X2_dusk : GoodIn wsL_law wsX2_dusk := goodIn_r _ [488, 18, 17, 93, 94, 95, 16, 96, 42, 97, 98, 99, 100, 43, 44, 45, 46, 47, 48, 49, 50, 51, 52, 53, 54, 55, 56, 57, 370, 371, 372, 2, 373, 285, 284, 283, 374, 375, 376, 377, 378, 379, 380, 34, 35, 33, 36, 381, 159, 160, 161, 127, 128, 129, 130, 131, 132, 133, 134, 162, 163, 164, 165, 150, 151, 152, 153, 166, 167, 168, 169, 23, 22, 24, 170, 5, 6, 7, 751, 752, 753, 754, 755, 756, 757, 758, 759, 760, 761, 762, 763, 764, 765, 766, 767, 768, 769, 770, 771, 772, 773, 774, 775, 776, 777, 778, 779, 780] (by decide +kernel) (by decide +kernel)
set_option maxRecDepth 20000 in
theorem gQ_X2_dusk : GoodIn wsL_law (wsV RL 38 RX2 yX2_dusk wsX2_dusk) := goodIn_app (goodIn_of _ (by decide +kernel)) ggQ_X2_dusk
set_option maxRecDepth 20000 in
theorem ggQ_X2_holders : GoodIn wsL_law wsX2_holders := goodIn_r _ [543, 17, 536, 537, 538, 2, 539, 386, 374, 375, 376, 544, 518, 519, 16, 520, 142, 143, 144, 145, 47, 49, 50, 751, 752, 753, 754, 755, 756, 757, 758, 759, 760, 761, 762, 763, 764, 765, 766, 767, 768, 769, 770, 771, 772, 773, 774, 775, 776, 777, 778, 779, 780] (by decide +kernel) (by decide +kernel)
set_option maxRecDepth 20000 in
theorem gQ_X2_holders : GoodIn wsL_law (wsV RL 85 RX2 yX2_holders wsX2_holders) := goodIn_app (goodIn_of _ (by decide +kernel)) ggQ_X2_holders
set_option maxRecDepth 20000 in
theorem ggQ_X2_init : GoodIn wsL_law wsX2_init := goodIn_r _ [10, 11, 12, 13, 14, 15, 16, 17, 18, 19, 20, 21, 22, 23, 24, 25, 26, 27, 28, 29, 30, 31, 32, 33, 34, 35, 36, 37, 38, 39, 40, 41, 42, 43, 44, 45, 46, 47, 48, 49, 50, 51, 52, 53, 54, 55, 56, 57, 58, 59, 60, 61, 62, 63, 64, 65, 66, 67, 68, 69, 70, 71, 72, 73, 74, 75, 76, 77, 78, 79, 80, 81, 82, 83, 84, 85, 86, 87, 88, 765, 766, 767, 768, 769, 770, 771, 772, 773, 774, 775, 776, 777, 778, 779, 780, 751, 752, 753, 754, 755, 756, 757, 758, 759, 760, 761, 762, 763, 764, 781, 782, 783, 784, 785, 786, 787, 788, 789, 790] (by decide +kernel) (by decide +kernel)
theorem gQ_X2_init : GoodIn wsL_law (wsX2_init) := ggQ_X2_init
set_option maxRecDepth 20000 in
theorem ggQ_X2_isWell : GoodIn wsL_law wsX2_isWell := goodIn_r _ [512, 17, 513, 514, 515, 16, 516, 48, 517, 518, 519, 520, 142, 143, 144, 145, 47, 49, 50, 521, 522, 523, 524, 525, 5, 6, 7, 44, 42, 526, 527, 528, 529, 751, 752, 753, 754, 755, 756, 757, 758, 759, 760, 761, 762, 763, 764, 765, 766, 767, 768, 769, 770, 771, 772, 773, 774, 775, 776, 777, 778, 779, 780] (by decide +kernel) (by decide +kernel)
set_option maxRecDepth 20000 in
theorem gQ_X2_isWell : GoodIn wsL_law (wsV RL 73 RX2 yX2_isWell wsX2_isWell) := goodIn_app (goodIn_of _ (by decide +kernel)) ggQ_X2_isWell
set_option maxRecDepth 20000 in
theorem ggQ_X2_letters : GoodIn wsL_law wsX2_letters := goodIn_r _ [468, 17, 387, 388, 2, 389, 469, 470, 471, 16, 472, 48, 50, 751, 752, 753, 754, 755, 756, 757, 758, 759, 760, 761, 762, 763, 764, 765, 766, 767, 768, 769, 770, 771, 772, 773, 774, 775, 776, 777, 778, 779, 780] (by decide +kernel) (by decide +kernel)
set_option maxRecDepth 20000 in
theorem gQ_X2_letters : GoodIn wsL_law (wsV RL 109 RX2 yX2_letters wsX2_letters) := goodIn_app (goodIn_of _ (by decide +kernel)) ggQ_X2_letters
set_option maxRecDepth 20000 in
theorem ggQ_X2_march : GoodIn wsL_law wsX2_march := goodIn_r _ [464, 18, 17, 93, 94, 95, 16, 96, 42, 97, 98, 99, 100, 43, 44, 45, 46, 47, 48, 49, 50, 51, 52, 53, 54, 55, 56, 57, 394, 395, 396, 2, 397, 285, 284, 283, 290, 374, 375, 376, 377, 378, 379, 380, 34, 35, 33, 36, 398, 124, 125, 126, 127, 128, 129, 130, 131, 132, 133, 134, 135, 136, 137, 138, 139, 140, 6, 141, 142, 143, 144, 145, 146, 147, 148, 149, 150, 151, 152, 153, 166, 167, 168, 169, 23, 22, 24, 170, 5, 7, 751, 752, 753, 754, 755, 756, 757, 758, 759, 760, 761, 762, 763, 764, 765, 766, 767, 768, 769, 770, 771, 772, 773, 774, 775, 776, 777, 778, 779, 780] (by decide +kernel) (by decide +kernel)
set_option maxRecDepth 20000 in
theorem gQ_X2_march : GoodIn wsL_law (wsV RL 47 RX2 yX2_march wsX2_march) := goodIn_app (goodIn_of _ (by decide +kernel)) ggQ_X2_march
set_option maxRecDepth 20000 in
theorem ggQ_X2_matches : GoodIn wsL_law wsX2_matches := goodIn_r _ [553, 17, 374, 375, 2, 376, 554, 143, 144, 16, 145, 47, 49, 50, 751, 752, 753, 754, 755, 756, 757, 758, 759, 760, 761, 762, 763, 764, 765, 766, 767, 768, 769, 770, 771, 772, 773, 774, 775, 776, 777, 778, 779, 780] (by decide +kernel) (by decide +kernel)
set_option maxRecDepth 20000 in
theorem gQ_X2_matches : GoodIn wsL_law (wsV RL 91 RX2 yX2_matches wsX2_matches) := goodIn_app (goodIn_of _ (by decide +kernel)) ggQ_X2_matches
set_option maxRecDepth 20000 in
theorem ggQ_X2_matchesAgain : GoodIn wsL_law wsX2_matchesAgain := goodIn_r _ [558, 17, 374, 375, 2, 376, 559, 527, 528, 16, 529, 47, 525, 5, 6, 7, 49, 751, 752, 753, 754, 755, 756, 757, 758, 759, 760, 761, 762, 763, 764, 765, 766, 767, 768, 769, 770, 771, 772, 773, 774, 775, 776, 777, 778, 779, 780] (by decide +kernel) (by decide +kernel)
set_option maxRecDepth 20000 in
theorem gQ_X2_matchesAgain : GoodIn wsL_law (wsV RL 94 RX2 yX2_matchesAgain wsX2_matchesAgain) := goodIn_app (goodIn_of _ (by decide +kernel)) ggQ_X2_matchesAgain
set_option maxRecDepth 20000 in
theorem ggQ_X2_pageOf : GoodIn wsL_law wsX2_pageOf := goodIn_r _ [533, 17, 534, 535, 536, 537, 538, 2, 539, 386, 374, 375, 376, 751, 752, 753, 754, 755, 756, 757, 758, 759, 760, 761, 762, 763, 764, 765, 766, 767, 768, 769, 770, 771, 772, 773, 774, 775, 776, 777, 778, 779, 780] (by decide +kernel) (by decide +kernel)
set_option maxRecDepth 20000 in
theorem gQ_X2_pageOf : GoodIn wsL_law (wsV RL 82 RX2 yX2_pageOf wsX2_pageOf) := goodIn_app (goodIn_of _ (by decide +kernel)) ggQ_X2_pageOf
set_option maxRecDepth 20000 in
theorem ggQ_X2_pass : GoodIn wsL_law wsX2_pass := goodIn_r _ [113, 18, 17, 93, 94, 95, 16, 96, 42, 97, 98, 99, 100, 43, 44, 45, 46, 47, 48, 49, 50, 51, 52, 53, 54, 55, 56, 57, 114, 115, 116, 2, 117, 118, 119, 120, 121, 122, 123, 124, 125, 126, 127, 128, 129, 130, 131, 132, 133, 134, 135, 136, 137, 138, 139, 140, 6, 141, 142, 143, 144, 145, 146, 147, 148, 149, 150, 151, 152, 153, 154, 155, 156, 157, 158, 159, 160, 161, 162, 163, 164, 165, 166, 167, 168, 169, 23, 22, 24, 170, 5, 7, 751, 752, 753, 754, 755, 756, 757, 758, 759, 760, 761, 762, 763, 764, 765, 766, 767, 768, 769, 770, 771, 772, 773, 774, 775, 776, 777, 778, 779, 780] (by decide +kernel) (by decide +kernel)
set_option maxRecDepth 20000 in
theorem gQ_X2_pass : GoodIn wsL_law (wsV RL 57 RX2 yX2_pass wsX2_pass) := goodIn_app (goodIn_of _ (by decide +kernel)) ggQ_X2_pass
