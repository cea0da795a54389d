set_option maxRecDepth 20000 in
theorem ggL_law_X2_show : GoodIn wsL_law wsX2_show := goodIn_r _ [712, 30, 15, 263, 235, 120, 121, 2, 122, 537, 538, 539, 29, 540, 541, 542, 543, 544, 71, 545, 546, 76, 547, 548, 549, 550, 551, 552, 77, 553, 554, 555, 556, 557, 558, 559, 560, 561, 562, 563, 204, 153, 205, 564, 565, 566, 567, 568, 569, 570, 571, 572, 573, 574, 575, 576, 577, 75, 578, 152, 154, 579, 110, 111, 112, 580, 581, 582, 583, 584, 74, 585, 586, 587, 588, 589, 590, 591, 592, 593, 594, 595, 596, 80, 597, 598, 713, 714, 715, 716, 403, 402, 645, 646, 647, 648, 649, 650, 651, 652, 653, 654, 655, 656, 657, 658, 659, 660, 78, 79, 81, 82, 83, 84, 85, 661, 662, 663, 664, 665, 666, 667, 668, 669, 623, 624, 625, 670, 671, 628, 672, 630, 673, 674, 633, 675, 640, 641, 642, 619, 643, 644, 676, 677, 678, 679, 680, 681, 682, 683, 684, 685, 686, 687, 599, 600, 601, 602, 603, 604, 605, 606, 607, 608, 609, 610, 611, 612, 613, 614, 615, 616, 617, 618, 620, 621, 622, 626, 627, 629, 631, 632, 634, 635, 636, 637, 638, 639, 688, 689, 690, 691, 692, 693, 694, 695, 923, 924, 925, 926, 927, 928, 929, 930, 931, 932, 933, 934, 935, 936, 954, 955, 956, 957, 958, 959, 960, 961, 962, 963, 964, 965, 966, 967, 968, 969, 976, 977, 978, 979] (by decide +kernel) (by decide +kernel)
set_option maxRecDepth 20000 in
theorem gL_law_X2_show : GoodIn wsL_law (wsV RL 89 RX2 yX2_show wsX2_show) := goodIn_app (goodIn_of _ (by decide +kernel)) ggL_law_X2_show
set_option maxRecDepth 20000 in
theorem ggL_law_X3_show : GoodIn wsL_law wsX3_show := goodIn_r _ [720, 700, 167, 168, 5, 169, 170, 171, 172, 177, 178, 179, 180, 91, 705, 706, 707, 708, 97, 218, 219, 220, 221, 701, 702, 703, 704, 937, 938, 939, 940, 941, 942, 943, 944, 945, 946, 947, 948, 949, 950, 951, 952, 953] (by decide +kernel) (by decide +kernel)
set_option maxRecDepth 20000 in
theorem gL_law_X3_show : GoodIn wsL_law (wsV RL 92 RX3 yX3_show wsX3_show) := goodIn_app (goodIn_of _ (by decide +kernel)) ggL_law_X3_show
set_option maxRecDepth 20000 in
theorem ggL_law_X2_sign : GoodIn wsL_law wsX2_sign := goodIn_r _ [724, 30, 688, 689, 690, 29, 691, 692, 693, 543, 694, 71, 695, 546, 725, 726, 727, 728, 729, 730, 731, 732, 77, 76, 733, 152, 153, 154, 734, 683, 628, 684, 630, 685, 686, 633, 687, 735, 736, 80, 737, 619, 643, 644, 623, 624, 625, 923, 924, 925, 926, 927, 928, 929, 930, 931, 932, 933, 934, 935, 936, 976, 977, 978, 979] (by decide +kernel) (by decide +kernel)
set_option maxRecDepth 20000 in
theorem gL_law_X2_sign : GoodIn wsL_law (wsV RL 93 RX2 yX2_sign wsX2_sign) := goodIn_app (goodIn_of _ (by decide +kernel)) ggL_law_X2_sign
set_option maxRecDepth 20000 in
theorem ggL_law_X3_sign : GoodIn wsL_law wsX3_sign := goodIn_r _ [741, 700, 97, 170, 171, 5, 172, 937, 938, 939, 940, 941, 942, 943, 944, 945, 946, 947, 948, 949, 950, 951, 952, 953] (by decide +kernel) (by decide +kernel)
set_option maxRecDepth 20000 in
theorem gL_law_X3_sign : GoodIn wsL_law (wsV RL 96 RX3 yX3_sign wsX3_sign) := goodIn_app (goodIn_of _ (by decide +kernel)) ggL_law_X3_sign
set_option maxRecDepth 20000 in
theorem ggL_law_X2_append : GoodIn wsL_law wsX2_append := goodIn_r _ [745, 26, 746, 688, 689, 690, 29, 691, 692, 693, 543, 694, 71, 695, 546, 645, 646, 647, 648, 649, 650, 651, 652, 76, 548, 549, 550, 551, 552, 77, 553, 554, 555, 556, 557, 558, 559, 560, 561, 562, 563, 204, 153, 205, 564, 565, 566, 567, 568, 569, 570, 571, 572, 573, 574, 575, 576, 577, 75, 578, 152, 154, 579, 110, 111, 112, 580, 581, 582, 583, 584, 74, 653, 654, 587, 655, 656, 657, 658, 659, 660, 78, 79, 80, 81, 82, 83, 84, 85, 661, 662, 663, 664, 665, 666, 667, 668, 669, 623, 624, 625, 670, 671, 628, 672, 630, 673, 674, 633, 675, 640, 641, 642, 619, 643, 644, 676, 677, 678, 679, 680, 681, 682, 683, 684, 685, 686, 687, 923, 924, 925, 926, 927, 928, 929, 930, 931, 932, 933, 934, 935, 936, 970, 971, 972, 973, 974, 975, 976, 977, 978, 979] (by decide +kernel) (by decide +kernel)
set_option maxRecDepth 20000 in
theorem gL_law_X2_append : GoodIn wsL_law (wsV RL 97 RX2 yX2_append wsX2_append) := goodIn_app (goodIn_of _ (by decide +kernel)) ggL_law_X2_append
set_option maxRecDepth 20000 in
theorem ggL_law_X3_append : GoodIn wsL_law wsX3_append := goodIn_r _ [750, 751, 98, 170, 171, 5, 172, 937, 938, 939, 940, 941, 942, 943, 944, 945, 946, 947, 948, 949, 950, 951, 952, 953] (by decide +kernel) (by decide +kernel)
set_option maxRecDepth 20000 in
theorem gL_law_X3_append : GoodIn wsL_law (wsV RL 100 RX3 yX3_append wsX3_append) := goodIn_app (goodIn_of _ (by decide +kernel)) ggL_law_X3_append
set_option maxRecDepth 20000 in
theorem ggL_law_X2_refusal : GoodIn wsL_law wsX2_refusal := goodIn_r _ [834, 32, 33, 34, 923, 924, 925, 926, 927, 928, 929, 930, 931, 932, 933, 934, 935, 936] (by decide +kernel) (by decide +kernel)
set_option maxRecDepth 20000 in
theorem gL_law_X2_refusal : GoodIn wsL_law (wsV RL 105 RX2 yX2_refusal wsX2_refusal) := goodIn_app (goodIn_of _ (by decide +kernel)) ggL_law_X2_refusal
set_option maxRecDepth 20000 in
theorem ggL_law_X3_refusal : GoodIn wsL_law wsX3_refusal := goodIn_r _ [838, 185, 186, 100, 170, 171, 5, 172, 937, 938, 939, 940, 941, 942, 943, 944, 945, 946, 947, 948, 949, 950, 951, 952, 953] (by decide +kernel) (by decide +kernel)
set_option maxRecDepth 20000 in
theorem gL_law_X3_refusal : GoodIn wsL_law (wsV RL 108 RX3 yX3_refusal wsX3_refusal) := goodIn_app (goodIn_of _ (by decide +kernel)) ggL_law_X3_refusal
set_option maxRecDepth 20000 in
theorem ggL_law_X2_account : GoodIn wsL_law wsX2_account := goodIn_r _ [842, 15, 119, 118, 117, 843, 365, 844, 845, 846, 263, 847, 26, 746, 22, 848, 849, 2, 850, 851, 204, 153, 205, 344, 321, 322, 317, 318, 319, 14, 320, 49, 688, 689, 690, 29, 691, 692, 693, 543, 694, 71, 695, 546, 923, 924, 925, 926, 927, 928, 929, 930, 931, 932, 933, 934, 935, 936, 954, 955, 956, 957, 958, 959, 960, 961, 962, 963, 964, 965, 966, 967, 968, 969, 970, 971, 972, 973, 974, 975, 976, 977, 978, 979] (by decide +kernel) (by decide +kernel)
set_option maxRecDepth 20000 in
theorem gL_law_X2_account : GoodIn wsL_law (wsV RL 109 RX2 yX2_account wsX2_account) := goodIn_app (goodIn_of _ (by decide +kernel)) ggL_law_X2_account
set_option maxRecDepth 20000 in
theorem ggL_law_X3_account : GoodIn wsL_law wsX3_account := goodIn_r _ [855, 203, 204, 153, 205, 91, 751, 226, 177, 178, 179, 5, 180, 353, 354, 355, 356, 173, 174, 175, 176, 331, 332, 333, 334, 937, 938, 939, 940, 941, 942, 943, 944, 945, 946, 947, 948, 949, 950, 951, 952, 953] (by decide +kernel) (by decide +kernel)
set_option maxRecDepth 20000 in
theorem gL_law_X3_account : GoodIn wsL_law (wsV RL 112 RX3 yX3_account wsX3_account) := goodIn_app (goodIn_of _ (by decide +kernel)) ggL_law_X3_account
