set_option maxRecDepth 20000 in
theorem ggL_law_X3_would : GoodIn wsL_law wsX3_would := goodIn_r _ [487, 167, 168, 5, 169, 170, 171, 172, 173, 174, 175, 176, 177, 178, 179, 180, 91, 488, 489, 490, 491, 93, 187, 188, 189, 190, 191, 192, 193, 194, 195, 196, 197, 198, 199, 200, 201, 202, 152, 153, 154, 203, 204, 205, 206, 207, 208, 209, 210, 211, 212, 213, 214, 215, 216, 217, 218, 219, 220, 221, 492, 493, 494, 495, 937, 938, 939, 940, 941, 942, 943, 944, 945, 946, 947, 948, 949, 950, 951, 952, 953] (by decide +kernel) (by decide +kernel)
set_option maxRecDepth 20000 in
theorem gL_law_X3_would : GoodIn wsL_law (wsV RL 76 RX3 yX3_would wsX3_would) := goodIn_app (goodIn_of _ (by decide +kernel)) ggL_law_X3_would
set_option maxRecDepth 20000 in
theorem ggL_law_X2_captainIn : GoodIn wsL_law wsX2_captainIn := goodIn_r _ [499, 17, 15, 105, 106, 107, 14, 108, 40, 109, 110, 111, 112, 41, 42, 43, 44, 45, 46, 47, 48, 49, 50, 51, 52, 53, 54, 55, 500, 501, 502, 503, 504, 449, 450, 451, 366, 367, 368, 369, 370, 265, 266, 267, 131, 132, 133, 134, 135, 136, 137, 138, 268, 269, 270, 271, 272, 204, 153, 205, 273, 274, 275, 276, 277, 278, 279, 280, 143, 144, 145, 146, 371, 372, 373, 374, 375, 128, 129, 130, 139, 140, 141, 142, 923, 924, 925, 926, 927, 928, 929, 930, 931, 932, 933, 934, 935, 936, 954, 955, 956, 957, 958, 959, 960, 961, 962, 963, 964, 965, 966, 967, 968, 969] (by decide +kernel) (by decide +kernel)
set_option maxRecDepth 20000 in
theorem gL_law_X2_captainIn : GoodIn wsL_law (wsV RL 77 RX2 yX2_captainIn wsX2_captainIn) := goodIn_app (goodIn_of _ (by decide +kernel)) ggL_law_X2_captainIn
set_option maxRecDepth 20000 in
theorem ggL_law_X3_captainIn : GoodIn wsL_law wsX3_captainIn := goodIn_r _ [508, 488, 489, 490, 5, 491, 93, 91, 509, 510, 511, 512, 203, 204, 153, 205, 173, 174, 175, 176, 177, 178, 179, 180, 384, 385, 386, 387, 289, 290, 291, 292, 195, 196, 197, 198, 199, 200, 201, 202, 152, 154, 206, 207, 208, 209, 191, 192, 193, 194, 293, 294, 295, 296, 297, 298, 299, 300, 301, 302, 303, 304, 218, 219, 220, 221, 187, 188, 189, 190, 210, 211, 212, 213, 214, 215, 216, 217, 492, 493, 494, 495, 937, 938, 939, 940, 941, 942, 943, 944, 945, 946, 947, 948, 949, 950, 951, 952, 953] (by decide +kernel) (by decide +kernel)
set_option maxRecDepth 20000 in
theorem gL_law_X3_captainIn : GoodIn wsL_law (wsV RL 80 RX3 yX3_captainIn wsX3_captainIn) := goodIn_app (goodIn_of _ (by decide +kernel)) ggL_law_X3_captainIn
set_option maxRecDepth 20000 in
theorem ggL_law_X2_ranked : GoodIn wsL_law wsX2_ranked := goodIn_r _ [516, 15, 517, 518, 519, 14, 520, 521, 522, 523, 524, 46, 139, 140, 141, 142, 45, 143, 144, 145, 146, 47, 923, 924, 925, 926, 927, 928, 929, 930, 931, 932, 933, 934, 935, 936, 954, 955, 956, 957, 958, 959, 960, 961, 962, 963, 964, 965, 966, 967, 968, 969] (by decide +kernel) (by decide +kernel)
set_option maxRecDepth 20000 in
theorem gL_law_X2_ranked : GoodIn wsL_law (wsV RL 81 RX2 yX2_ranked wsX2_ranked) := goodIn_app (goodIn_of _ (by decide +kernel)) ggL_law_X2_ranked
set_option maxRecDepth 20000 in
theorem ggL_law_X3_ranked : GoodIn wsL_law wsX3_ranked := goodIn_r _ [528, 529, 530, 531, 5, 532, 214, 215, 216, 217, 177, 178, 179, 180, 91, 218, 219, 220, 221, 937, 938, 939, 940, 941, 942, 943, 944, 945, 946, 947, 948, 949, 950, 951, 952, 953] (by decide +kernel) (by decide +kernel)
set_option maxRecDepth 20000 in
theorem gL_law_X3_ranked : GoodIn wsL_law (wsV RL 84 RX3 yX3_ranked wsX3_ranked) := goodIn_app (goodIn_of _ (by decide +kernel)) ggL_law_X3_ranked
set_option maxRecDepth 20000 in
theorem ggL_law_X2_describe : GoodIn wsL_law wsX2_describe := goodIn_r _ [536, 30, 15, 117, 118, 119, 392, 343, 120, 121, 2, 122, 537, 538, 539, 29, 540, 541, 542, 543, 544, 71, 545, 546, 76, 547, 548, 549, 550, 551, 552, 77, 553, 554, 555, 556, 557, 558, 559, 560, 561, 562, 563, 204, 153, 205, 564, 565, 566, 567, 568, 569, 570, 571, 572, 573, 574, 575, 576, 577, 75, 578, 152, 154, 579, 110, 111, 112, 580, 581, 582, 583, 584, 74, 585, 586, 587, 588, 589, 590, 591, 592, 593, 594, 595, 596, 80, 597, 598, 599, 600, 601, 602, 603, 604, 605, 606, 607, 608, 609, 610, 611, 612, 613, 614, 615, 616, 617, 618, 619, 620, 621, 622, 623, 624, 625, 626, 627, 628, 629, 630, 631, 632, 633, 634, 635, 636, 637, 638, 639, 640, 641, 642, 643, 644, 645, 646, 647, 648, 649, 650, 651, 652, 653, 654, 655, 656, 657, 658, 659, 660, 78, 79, 81, 82, 83, 84, 85, 661, 662, 663, 664, 665, 666, 667, 668, 669, 670, 671, 672, 673, 674, 675, 676, 677, 678, 679, 680, 681, 682, 683, 684, 685, 686, 687, 688, 689, 690, 691, 692, 693, 694, 695, 923, 924, 925, 926, 927, 928, 929, 930, 931, 932, 933, 934, 935, 936, 954, 955, 956, 957, 958, 959, 960, 961, 962, 963, 964, 965, 966, 967, 968, 969, 976, 977, 978, 979] (by decide +kernel) (by decide +kernel)
set_option maxRecDepth 20000 in
theorem gL_law_X2_describe : GoodIn wsL_law (wsV RL 85 RX2 yX2_describe wsX2_describe) := goodIn_app (goodIn_of _ (by decide +kernel)) ggL_law_X2_describe
set_option maxRecDepth 20000 in
theorem ggL_law_X3_describe : GoodIn wsL_law wsX3_describe := goodIn_r _ [699, 700, 167, 168, 5, 169, 170, 171, 172, 701, 702, 703, 704, 705, 706, 707, 708, 97, 173, 174, 175, 176, 177, 178, 179, 180, 91, 937, 938, 939, 940, 941, 942, 943, 944, 945, 946, 947, 948, 949, 950, 951, 952, 953] (by decide +kernel) (by decide +kernel)
set_option maxRecDepth 20000 in
theorem gL_law_X3_describe : GoodIn wsL_law (wsV RL 88 RX3 yX3_describe wsX3_describe) := goodIn_app (goodIn_of _ (by decide +kernel)) ggL_law_X3_describe
