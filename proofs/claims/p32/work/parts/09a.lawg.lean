/-! every method of the law is walked over the law's own list of words -/
theorem gM_in {w : Cond} {a : List Cond} (h : GoodIn wsL_law a) : GoodIn (w :: wsL_law) a := fun x hx => ⟨List.mem_cons_of_mem _ (h x hx).1, (h x hx).2⟩
theorem gL_self : GoodIn wsL_law wsL_law := goodIn_sub (fun _ h => h) (by decide +kernel)
set_option maxRecDepth 20000 in
theorem ggQ_J0_charAt_5068e : GoodIn wsL_law wsJ0_charAt_5068e := goodIn_r _ [656, 646, 657, 658, 659, 254, 660, 651, 652, 661, 662, 233, 663, 664, 274, 275, 256, 276, 277, 259, 278, 665, 666, 82, 667, 270, 271, 272, 249, 250, 251, 273, 668, 334, 335, 264, 265, 266, 791, 792, 793, 794] (by decide +kernel) (by decide +kernel)
set_option maxRecDepth 20000 in
theorem gQ_J0_charAt_5068e : GoodIn wsL_law (wsV RL 13 RJ0 yJ0_charAt_5068e wsJ0_charAt_5068e) := goodIn_app (goodIn_of _ (by decide +kernel)) ggQ_J0_charAt_5068e
set_option maxRecDepth 20000 in
theorem ggQ_J0_length_8abf5 : GoodIn wsL_law wsJ0_length_8abf5 := goodIn_r _ [645, 646, 647, 648, 649, 254, 650, 651, 652, 791, 792, 793, 794] (by decide +kernel) (by decide +kernel)
set_option maxRecDepth 20000 in
theorem gQ_J0_length_8abf5 : GoodIn wsL_law (wsV RL 7 RJ0 yJ0_length_8abf5 wsJ0_length_8abf5) := goodIn_app (goodIn_of _ (by decide +kernel)) ggQ_J0_length_8abf5
set_option maxRecDepth 20000 in
theorem ggQ_J4_append_15ec4 : GoodIn wsL_law wsJ4_append_15ec4 := goodIn_r _ [677, 678, 679, 182, 680, 73, 681, 185, 682, 683, 684, 685, 686, 78, 194, 195, 196, 197, 198, 79, 199, 200, 201, 202, 203, 204, 205, 206, 207, 208, 209, 140, 6, 141, 210, 211, 212, 213, 214, 215, 216, 217, 218, 219, 220, 221, 222, 223, 77, 224, 5, 7, 225, 98, 99, 100, 226, 227, 228, 229, 230, 76, 687, 688, 82, 689, 264, 584, 585, 586, 249, 250, 251, 587, 588, 254, 589, 256, 590, 591, 259, 592, 261, 262, 263, 265, 266, 690, 643, 644, 645, 646, 647, 648, 649, 650, 651, 652, 691, 692, 693, 694, 695, 696, 697, 698, 699, 700, 701, 235, 236, 237, 238, 239, 80, 81, 83, 84, 85, 86, 87, 240, 241, 233, 242, 243, 244, 245, 246, 247, 248, 252, 253, 255, 257, 258, 260, 702, 703, 704, 705, 706, 707, 787, 788, 789, 790, 791, 792, 793, 794] (by decide +kernel) (by decide +kernel)
set_option maxRecDepth 20000 in
theorem gQ_J4_append_15ec4 : GoodIn wsL_law (wsV RL 120 RJ4 yJ4_append_15ec4 wsJ4_append_15ec4) := goodIn_app (goodIn_of _ (by decide +kernel)) ggQ_J4_append_15ec4
set_option maxRecDepth 20000 in
theorem ggQ_J4_append_bf812 : GoodIn wsL_law wsJ4_append_bf812 := goodIn_r _ [567, 568, 569, 182, 570, 73, 571, 185, 78, 572, 573, 574, 575, 194, 195, 196, 197, 198, 79, 199, 200, 201, 202, 203, 204, 205, 206, 207, 208, 209, 140, 6, 141, 210, 211, 212, 213, 214, 215, 216, 217, 218, 219, 220, 221, 222, 223, 77, 224, 5, 7, 225, 98, 99, 100, 226, 227, 228, 229, 230, 76, 576, 577, 578, 579, 580, 581, 582, 82, 583, 264, 584, 585, 586, 249, 250, 251, 587, 588, 254, 589, 256, 590, 591, 259, 592, 593, 594, 595, 596, 597, 261, 262, 263, 265, 266, 787, 788, 789, 790] (by decide +kernel) (by decide +kernel)
set_option maxRecDepth 20000 in
theorem gQ_J4_append_bf812 : GoodIn wsL_law (wsV RL 123 RJ4 yJ4_append_bf812 wsJ4_append_bf812) := goodIn_app (goodIn_of _ (by decide +kernel)) ggQ_J4_append_bf812
set_option maxRecDepth 20000 in
theorem ggQ_J4_init_da8c8 : GoodIn wsL_law wsJ4_init_da8c8 := goodIn_r _ [70, 71, 72, 73, 74, 75, 12, 13, 76, 77, 78, 79, 80, 81, 82, 83, 84, 85, 86, 87, 787, 788, 789, 790] (by decide +kernel) (by decide +kernel)
theorem gQ_J4_init_da8c8 : GoodIn wsL_law (wsJ4_init_da8c8) := ggQ_J4_init_da8c8
set_option maxRecDepth 20000 in
theorem ggQ_J4_toString_0e30d : GoodIn wsL_law wsJ4_toString_0e30d := goodIn_r _ [712, 713, 714, 254, 715, 716, 717, 718, 719, 720, 721, 12, 13, 652, 646, 651, 722, 723, 724, 725, 726, 73, 727, 78, 728, 181, 183, 730, 177, 31, 179, 180, 182, 183, 184, 185, 731, 227, 228, 229, 230, 76, 79, 732, 733, 216, 734, 218, 219, 220, 221, 222, 223, 735, 736, 737, 77, 224, 5, 6, 7, 225, 98, 99, 100, 738, 739, 740, 741, 742, 82, 743, 744, 745, 746, 246, 247, 248, 249, 250, 251, 252, 253, 255, 256, 257, 258, 259, 260, 668, 334, 335, 264, 265, 266, 84, 85, 86, 87, 747, 748, 749, 750, 791, 792, 793, 794, 787, 788, 789, 790] (by decide +kernel) (by decide +kernel)
set_option maxRecDepth 20000 in
theorem gQ_J4_toString_0e30d : GoodIn wsL_law (wsV RL 126 RJ4 yJ4_toString_0e30d wsJ4_toString_0e30d) := goodIn_app (goodIn_of _ (by decide +kernel)) ggQ_J4_toString_0e30d
set_option maxRecDepth 20000 in
theorem ggQ_X2_account : GoodIn wsL_law wsX2_account := goodIn_r _ [282, 17, 283, 284, 285, 286, 118, 287, 288, 289, 290, 105, 28, 175, 24, 291, 292, 2, 293, 294, 140, 6, 141, 295, 296, 297, 298, 299, 300, 16, 301, 51, 176, 177, 178, 31, 179, 180, 181, 182, 183, 73, 184, 185, 751, 752, 753, 754, 755, 756, 757, 758, 759, 760, 761, 762, 763, 764, 765, 766, 767, 768, 769, 770, 771, 772, 773, 774, 775, 776, 777, 778, 779, 780, 781, 782, 783, 784, 785, 786, 787, 788, 789, 790] (by decide +kernel) (by decide +kernel)
set_option maxRecDepth 20000 in
theorem gQ_X2_account : GoodIn wsL_law (wsV RL 76 RX2 yX2_account wsX2_account) := goodIn_app (goodIn_of _ (by decide +kernel)) ggQ_X2_account
set_option maxRecDepth 20000 in
theorem ggQ_X2_append : GoodIn wsL_law wsX2_append := goodIn_r _ [174, 28, 175, 176, 177, 178, 31, 179, 180, 181, 182, 183, 73, 184, 185, 186, 187, 188, 189, 190, 191, 192, 193, 78, 194, 195, 196, 197, 198, 79, 199, 200, 201, 202, 203, 204, 205, 206, 207, 208, 209, 140, 6, 141, 210, 211, 212, 213, 214, 215, 216, 217, 218, 219, 220, 221, 222, 223, 77, 224, 5, 7, 225, 98, 99, 100, 226, 227, 228, 229, 230, 76, 231, 232, 233, 234, 235, 236, 237, 238, 239, 80, 81, 82, 83, 84, 85, 86, 87, 240, 241, 242, 243, 244, 245, 246, 247, 248, 249, 250, 251, 252, 253, 254, 255, 256, 257, 258, 259, 260, 261, 262, 263, 264, 265, 266, 267, 268, 269, 270, 271, 272, 273, 274, 275, 276, 277, 278, 751, 752, 753, 754, 755, 756, 757, 758, 759, 760, 761, 762, 763, 764, 781, 782, 783, 784, 785, 786, 787, 788, 789, 790] (by decide +kernel) (by decide +kernel)
set_option maxRecDepth 20000 in
theorem gQ_X2_append : GoodIn wsL_law (wsV RL 17 RX2 yX2_append wsX2_append) := goodIn_app (goodIn_of _ (by decide +kernel)) ggQ_X2_append
set_option maxRecDepth 20000 in
theorem ggQ_X2_campOf : GoodIn wsL_law wsX2_campOf := goodIn_r _ [446, 17, 283, 447, 284, 285, 386, 290, 411, 374, 375, 2, 376, 448, 151, 152, 16, 153, 47, 49, 751, 752, 753, 754, 755, 756, 757, 758, 759, 760, 761, 762, 763, 764, 765, 766, 767, 768, 769, 770, 771, 772, 773, 774, 775, 776, 777, 778, 779, 780] (by decide +kernel) (by decide +kernel)
set_option maxRecDepth 20000 in
theorem gQ_X2_campOf : GoodIn wsL_law (wsV RL 79 RX2 yX2_campOf wsX2_campOf) := goodIn_app (goodIn_of _ (by decide +kernel)) ggQ_X2_campOf
set_option maxRecDepth 20000 in
theorem ggQ_X2_captain : GoodIn wsL_law wsX2_captain := goodIn_r _ [438, 17, 439, 440, 441, 16, 442, 44, 42, 751, 752, 753, 754, 755, 756, 757, 758, 759, 760, 761, 762, 763, 764, 765, 766, 767, 768, 769, 770, 771, 772, 773, 774, 775, 776, 777, 778, 779, 780] (by decide +kernel) (by decide +kernel)
set_option maxRecDepth 20000 in
theorem gQ_X2_captain : GoodIn wsL_law (wsV RL 41 RX2 yX2_captain wsX2_captain) := goodIn_app (goodIn_of _ (by decide +kernel)) ggQ_X2_captain
set_option maxRecDepth 20000 in
theorem ggQ_X2_captainIn : GoodIn wsL_law wsX2_captainIn := goodIn_r _ [630, 19, 17, 93, 94, 95, 16, 96, 42, 97, 98, 99, 100, 43, 44, 45, 46, 47, 48, 49, 50, 51, 52, 53, 54, 55, 56, 57, 631, 632, 633, 634, 635, 440, 441, 442, 119, 120, 121, 122, 123, 124, 125, 126, 127, 128, 129, 130, 131, 132, 133, 134, 135, 136, 137, 138, 139, 140, 6, 141, 142, 143, 144, 145, 146, 147, 148, 149, 150, 151, 152, 153, 154, 155, 156, 157, 158, 159, 160, 161, 162, 163, 164, 165, 751, 752, 753, 754, 755, 756, 757, 758, 759, 760, 761, 762, 763, 764, 765, 766, 767, 768, 769, 770, 771, 772, 773, 774, 775, 776, 777, 778, 779, 780] (by decide +kernel) (by decide +kernel)
set_option maxRecDepth 20000 in
theorem gQ_X2_captainIn : GoodIn wsL_law (wsV RL 112 RX2 yX2_captainIn wsX2_captainIn) := goodIn_app (goodIn_of _ (by decide +kernel)) ggQ_X2_captainIn
