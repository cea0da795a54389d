theorem wl_of {ws : List Cond} {ps : List Nat} (h : ws = ps.filterMap (fun i => lw_tbl[i]?)) : ∀ w ∈ ws, w ∈ lw_tbl := by
  intro w hw
  rw [h] at hw
  obtain ⟨i, -, hi⟩ := List.mem_filterMap.mp hw
  exact List.mem_of_getElem? hi
set_option maxRecDepth 20000 in
theorem wl_wsL_law_r1 : ∀ w ∈ wsL_law_r1, w ∈ lw_tbl := wl_of (ps := [79, 80, 63, 765, 766, 70, 81, 82, 83, 84, 85, 86, 87, 88, 64, 224, 225, 226, 227, 228, 229, 230, 231, 160]) (by decide +kernel)
set_option maxRecDepth 20000 in
theorem wl_wsL_law_r2 : ∀ w ∈ wsL_law_r2, w ∈ lw_tbl := wl_of (ps := [161, 65, 232, 222, 167, 67, 233, 234, 235, 236, 237, 89, 90, 91, 92, 158, 93, 95, 97, 99, 101, 103, 105, 107]) (by decide +kernel)
set_option maxRecDepth 20000 in
theorem wl_wsL_law_r3 : ∀ w ∈ wsL_law_r3, w ∈ lw_tbl := wl_of (ps := [109, 111, 113, 115, 117, 119, 121, 123, 163, 164, 165, 166, 198, 200, 201, 203, 205, 207, 168, 169, 170, 171, 172, 66]) (by decide +kernel)
set_option maxRecDepth 20000 in
theorem wl_wsL_law_r4 : ∀ w ∈ wsL_law_r4, w ∈ lw_tbl := wl_of (ps := [173, 174, 175, 197, 184, 185, 177, 178, 69, 179, 180, 181, 182, 183, 223, 767, 768, 769, 770, 771, 772, 773, 774, 776]) (by decide +kernel)
set_option maxRecDepth 20000 in
theorem wl_wsL_law_r5 : ∀ w ∈ wsL_law_r5, w ∈ lw_tbl := wl_of (ps := [823, 778, 780, 784, 787, 267, 268, 269, 270, 271, 272, 273, 274, 275, 277, 276, 71, 278, 280, 3, 281, 100, 98, 94]) (by decide +kernel)
set_option maxRecDepth 20000 in
theorem wl_wsL_law_r6 : ∀ w ∈ wsL_law_r6, w ∈ lw_tbl := wl_of (ps := [282, 283, 284, 285, 287, 4, 288, 289, 290, 291, 292, 293, 294, 295, 296, 297, 299, 5, 300, 301, 302, 303, 304, 305]) (by decide +kernel)
set_option maxRecDepth 20000 in
theorem wl_wsL_law_r7 : ∀ w ∈ wsL_law_r7, w ∈ lw_tbl := wl_of (ps := [306, 307, 308, 309, 311, 6, 312, 313, 314, 72, 315, 824, 825, 826, 827, 828, 830, 26, 831, 832, 834, 27, 835, 836]) (by decide +kernel)
set_option maxRecDepth 20000 in
theorem wl_wsL_law_r8 : ∀ w ∈ wsL_law_r8, w ∈ lw_tbl := wl_of (ps := [837, 838, 839, 840, 841, 842, 844, 28, 845, 846, 848, 29, 849, 850, 852, 30, 853, 785, 786, 854, 856, 31, 857, 858]) (by decide +kernel)
set_option maxRecDepth 20000 in
theorem wl_wsL_law_r9 : ∀ w ∈ wsL_law_r9, w ∈ lw_tbl := wl_of (ps := [860, 32, 861, 862, 864, 33, 865, 866, 867, 868, 869, 870, 352, 353, 871, 873, 34, 874, 875, 877, 35, 878, 879, 881]) (by decide +kernel)
set_option maxRecDepth 20000 in
theorem wl_wsL_law_r10 : ∀ w ∈ wsL_law_r10, w ∈ lw_tbl := wl_of (ps := [36, 882, 883, 885, 37, 886, 887, 889, 38, 890, 775, 316, 317, 318, 319, 320, 322, 7, 323, 104, 324, 325, 326, 327]) (by decide +kernel)
set_option maxRecDepth 20000 in
theorem wl_wsL_law_r11 : ∀ w ∈ wsL_law_r11, w ∈ lw_tbl := wl_of (ps := [328, 329, 330, 891, 892, 893, 894, 895, 897, 39, 898, 899, 901, 40, 902, 331, 332, 333, 334, 335, 337, 8, 338, 106]) (by decide +kernel)
set_option maxRecDepth 20000 in
theorem wl_wsL_law_r12 : ∀ w ∈ wsL_law_r12, w ∈ lw_tbl := wl_of (ps := [339, 340, 341, 342, 343, 345, 9, 346, 351, 347, 348, 349, 350, 354, 356, 10, 357, 903, 904, 905, 906, 907, 909, 41]) (by decide +kernel)
set_option maxRecDepth 20000 in
theorem wl_wsL_law_r13 : ∀ w ∈ wsL_law_r13, w ∈ lw_tbl := wl_of (ps := [910, 911, 913, 42, 914, 915, 917, 43, 918, 919, 921, 44, 922, 923, 925, 45, 926, 358, 359, 360, 361, 362, 364, 11]) (by decide +kernel)
set_option maxRecDepth 20000 in
theorem wl_wsL_law_r14 : ∀ w ∈ wsL_law_r14, w ∈ lw_tbl := wl_of (ps := [365, 112, 366, 367, 368, 369, 370, 371, 372, 374, 375, 927, 928, 929, 930, 931, 933, 46, 934, 935, 937, 47, 938, 376]) (by decide +kernel)
set_option maxRecDepth 20000 in
theorem wl_wsL_law_r15 : ∀ w ∈ wsL_law_r15, w ∈ lw_tbl := wl_of (ps := [377, 378, 379, 380, 382, 12, 383, 102, 384, 939, 940, 941, 942, 943, 945, 48, 946, 947, 949, 49, 950, 385, 386, 387]) (by decide +kernel)
set_option maxRecDepth 20000 in
theorem wl_wsL_law_r16 : ∀ w ∈ wsL_law_r16, w ∈ lw_tbl := wl_of (ps := [388, 389, 391, 13, 392, 116, 393, 394, 395, 396, 397, 398, 400, 14, 401, 402, 951, 952, 953, 954, 955, 957, 50, 958]) (by decide +kernel)
set_option maxRecDepth 20000 in
theorem wl_wsL_law_r17 : ∀ w ∈ wsL_law_r17, w ∈ lw_tbl := wl_of (ps := [959, 961, 51, 962, 403, 404, 405, 406, 96, 407, 963, 964, 965, 966, 408, 409, 410, 411, 108, 110, 412, 414, 15, 415]) (by decide +kernel)
set_option maxRecDepth 20000 in
theorem wl_wsL_law_r18 : ∀ w ∈ wsL_law_r18, w ∈ lw_tbl := wl_of (ps := [967, 968, 969, 970, 416, 417, 418, 419, 420, 971, 972, 973, 974, 421, 422, 423, 424, 425, 975, 976, 977, 978, 426, 427]) (by decide +kernel)
set_option maxRecDepth 20000 in
theorem wl_wsL_law_r19 : ∀ w ∈ wsL_law_r19, w ∈ lw_tbl := wl_of (ps := [428, 429, 430, 431, 432, 433, 434, 979, 980, 981, 982, 983, 435, 436, 437, 438, 439, 440, 441, 442, 984, 985, 986, 987]) (by decide +kernel)
set_option maxRecDepth 20000 in
theorem wl_wsL_law_r20 : ∀ w ∈ wsL_law_r20, w ∈ lw_tbl := wl_of (ps := [443, 444, 445, 446, 447, 448, 449, 450, 988, 989, 990, 991, 451, 452, 453, 454, 455, 456, 457, 458, 992, 993, 994, 995]) (by decide +kernel)
set_option maxRecDepth 20000 in
theorem wl_wsL_law_r21 : ∀ w ∈ wsL_law_r21, w ∈ lw_tbl := wl_of (ps := [459, 460, 461, 462, 996, 997, 998, 999, 1000, 1002, 52, 1003, 1004, 1006, 53, 1007, 463, 464, 465, 466, 467, 468, 469, 470]) (by decide +kernel)
set_option maxRecDepth 20000 in
theorem wl_wsL_law_r22 : ∀ w ∈ wsL_law_r22, w ∈ lw_tbl := wl_of (ps := [471, 1008, 1009, 1010, 1011, 1012, 1014, 54, 1015, 472, 473, 474, 475, 476, 477, 478, 479, 480, 482, 16, 483, 1016, 1017, 1018]) (by decide +kernel)
set_option maxRecDepth 20000 in
theorem wl_wsL_law_r23 : ∀ w ∈ wsL_law_r23, w ∈ lw_tbl := wl_of (ps := [1019, 1020, 1022, 55, 1023, 484, 485, 486, 487, 488, 489, 490, 491, 492, 1106, 196, 493, 494, 187, 186, 495, 1107, 0, 497]) (by decide +kernel)
set_option maxRecDepth 20000 in
theorem wl_wsL_law_r24 : ∀ w ∈ wsL_law_r24, w ∈ lw_tbl := wl_of (ps := [498, 499, 1108, 1, 501, 502, 511, 503, 504, 73, 505, 506, 507, 508, 509, 510, 512, 513, 74, 514, 515, 516, 517, 518]) (by decide +kernel)
set_option maxRecDepth 20000 in
theorem wl_wsL_law_r25 : ∀ w ∈ wsL_law_r25, w ∈ lw_tbl := wl_of (ps := [519, 521, 522, 523, 524, 526, 527, 525, 528, 529, 530, 75, 531, 532, 533, 534, 535, 536, 537, 538, 539, 540, 541, 542]) (by decide +kernel)
set_option maxRecDepth 20000 in
theorem wl_wsL_law_r26 : ∀ w ∈ wsL_law_r26, w ∈ lw_tbl := wl_of (ps := [543, 544, 545, 546, 1109, 547, 548, 549, 550, 76, 551, 552, 553, 554, 555, 557, 559, 560, 561, 583, 562, 563, 564, 565]) (by decide +kernel)
set_option maxRecDepth 20000 in
theorem wl_wsL_law_r27 : ∀ w ∈ wsL_law_r27, w ∈ lw_tbl := wl_of (ps := [566, 567, 568, 569, 68, 570, 571, 573, 574, 77, 575, 576, 577, 578, 579, 589, 580, 581, 582, 585, 587, 590, 591, 592]) (by decide +kernel)
set_option maxRecDepth 20000 in
theorem wl_wsL_law_r28 : ∀ w ∈ wsL_law_r28, w ∈ lw_tbl := wl_of (ps := [593, 594, 1110, 595, 596, 597, 598, 599, 600, 1111, 2, 602, 603, 604, 605, 606, 607, 608, 609, 610, 611, 612, 613, 614]) (by decide +kernel)
set_option maxRecDepth 20000 in
theorem wl_wsL_law_r29 : ∀ w ∈ wsL_law_r29, w ∈ lw_tbl := wl_of (ps := [615, 616, 617, 618, 619, 620, 621, 622, 623, 624, 625, 626, 627, 628, 629, 630, 631, 632, 633, 634, 635, 1112, 636, 637]) (by decide +kernel)
set_option maxRecDepth 20000 in
theorem wl_wsL_law_r30 : ∀ w ∈ wsL_law_r30, w ∈ lw_tbl := wl_of (ps := [1024, 1025, 1026, 1027, 779, 1028, 1030, 56, 1031, 1032, 1034, 57, 1035, 638, 639, 640, 641, 642, 644, 17, 645, 1036, 1037, 1038]) (by decide +kernel)
set_option maxRecDepth 20000 in
theorem wl_wsL_law_r31 : ∀ w ∈ wsL_law_r31, w ∈ lw_tbl := wl_of (ps := [1039, 646, 647, 648, 649, 650, 651, 652, 653, 654, 1113, 655, 656, 657, 658, 659, 660, 661, 1040, 1041, 1042, 1043, 662, 663]) (by decide +kernel)
set_option maxRecDepth 20000 in
theorem wl_wsL_law_r32 : ∀ w ∈ wsL_law_r32, w ∈ lw_tbl := wl_of (ps := [664, 665, 199, 1044, 1045, 1046, 1047, 781, 666, 667, 668, 669, 670, 671, 672, 673, 674, 675, 676, 677, 678, 679, 680, 681]) (by decide +kernel)
set_option maxRecDepth 20000 in
theorem wl_wsL_law_r33 : ∀ w ∈ wsL_law_r33, w ∈ lw_tbl := wl_of (ps := [682, 684, 18, 685, 686, 687, 688, 690, 19, 691, 692, 694, 20, 695, 696, 698, 21, 699, 700, 702, 22, 703, 704, 705]) (by decide +kernel)
set_option maxRecDepth 20000 in
theorem wl_wsL_law_r34 : ∀ w ∈ wsL_law_r34, w ∈ lw_tbl := wl_of (ps := [706, 707, 708, 710, 23, 711, 712, 713, 714, 716, 24, 717, 202, 204, 206, 208, 718, 1048, 1049, 1050, 1051, 782, 1052, 1054]) (by decide +kernel)
set_option maxRecDepth 20000 in
theorem wl_wsL_law_r35 : ∀ w ∈ wsL_law_r35, w ∈ lw_tbl := wl_of (ps := [58, 1055, 783, 1056, 1058, 59, 1059, 1060, 1062, 60, 1063, 1064, 1066, 61, 1067, 719, 720, 721, 722, 1068, 1069, 1070, 1071, 723]) (by decide +kernel)
set_option maxRecDepth 20000 in
theorem wl_wsL_law_r36 : ∀ w ∈ wsL_law_r36, w ∈ lw_tbl := wl_of (ps := [724, 725, 726, 114, 118, 120, 122, 124, 727, 728, 729, 730, 1072, 1073, 1074, 1075, 731, 732, 733, 734, 735, 736, 737, 738]) (by decide +kernel)
set_option maxRecDepth 20000 in
theorem wl_wsL_law_r37 : ∀ w ∈ wsL_law_r37, w ∈ lw_tbl := wl_of (ps := [739, 740, 742, 25, 743, 744, 1076, 1077, 1078, 1079, 745, 746, 747, 748, 749, 750, 751, 752, 1080, 1081, 1082, 1083, 1084, 1085]) (by decide +kernel)
set_option maxRecDepth 20000 in
theorem wl_wsL_law_r38 : ∀ w ∈ wsL_law_r38, w ∈ lw_tbl := wl_of (ps := [78, 1086, 1090, 1092, 1091, 78, 1093, 1087, 1088, 1089, 753, 754, 755, 756, 1094, 1095, 1096, 1097, 757, 758, 759, 760, 1098, 1099]) (by decide +kernel)
set_option maxRecDepth 20000 in
theorem wl_wsL_law_r39 : ∀ w ∈ wsL_law_r39, w ∈ lw_tbl := wl_of (ps := [1100, 1101, 777, 761, 762, 763, 764, 1102, 1103, 1104, 1105]) (by decide +kernel)
set_option maxRecDepth 20000 in
theorem wl_wsX20 : ∀ w ∈ wsX20, w ∈ lw_tbl := wl_of (ps := [238, 240, 242, 244, 246, 248, 250, 252, 254, 256, 258, 260, 262, 264]) (by decide +kernel)
set_option maxRecDepth 20000 in
theorem wl_wsX30 : ∀ w ∈ wsX30, w ∈ lw_tbl := wl_of (ps := [788, 790, 792, 794, 796, 798, 800, 802, 804, 806, 808, 810, 812, 814, 816, 818, 820]) (by decide +kernel)
set_option maxRecDepth 20000 in
theorem wl_wsX00 : ∀ w ∈ wsX00, w ∈ lw_tbl := wl_of (ps := [125, 127, 129, 131, 133, 135, 137, 139, 141, 143, 145, 147, 149, 151, 153, 155]) (by decide +kernel)
set_option maxRecDepth 20000 in
theorem wl_wsX10 : ∀ w ∈ wsX10, w ∈ lw_tbl := wl_of (ps := [209, 211, 213, 215, 217, 219]) (by decide +kernel)
set_option maxRecDepth 20000 in
theorem wl_wsJ40 : ∀ w ∈ wsJ40, w ∈ lw_tbl := wl_of (ps := [188, 190, 192, 194]) (by decide +kernel)
theorem wsL_law_in : ∀ w ∈ wsL_law, w ∈ lw_tbl := List.forall_mem_append.mpr ⟨List.forall_mem_append.mpr ⟨List.forall_mem_append.mpr ⟨List.forall_mem_append.mpr ⟨List.forall_mem_append.mpr ⟨List.forall_mem_append.mpr ⟨List.forall_mem_append.mpr ⟨wl_wsL_law_r1, List.forall_mem_append.mpr ⟨wl_wsL_law_r2, List.forall_mem_append.mpr ⟨wl_wsL_law_r3, List.forall_mem_append.mpr ⟨wl_wsL_law_r4, List.forall_mem_append.mpr ⟨wl_wsL_law_r5, List.forall_mem_append.mpr ⟨wl_wsL_law_r6, List.forall_mem_append.mpr ⟨wl_wsL_law_r7, List.forall_mem_append.mpr ⟨wl_wsL_law_r8, List.forall_mem_append.mpr ⟨wl_wsL_law_r9, List.forall_mem_append.mpr ⟨wl_wsL_law_r10, List.forall_mem_append.mpr ⟨wl_wsL_law_r11, List.forall_mem_append.mpr ⟨wl_wsL_law_r12, List.forall_mem_append.mpr ⟨wl_wsL_law_r13, List.forall_mem_append.mpr ⟨wl_wsL_law_r14, List.forall_mem_append.mpr ⟨wl_wsL_law_r15, List.forall_mem_append.mpr ⟨wl_wsL_law_r16, List.forall_mem_append.mpr ⟨wl_wsL_law_r17, List.forall_mem_append.mpr ⟨wl_wsL_law_r18, List.forall_mem_append.mpr ⟨wl_wsL_law_r19, List.forall_mem_append.mpr ⟨wl_wsL_law_r20, List.forall_mem_append.mpr ⟨wl_wsL_law_r21, List.forall_mem_append.mpr ⟨wl_wsL_law_r22, List.forall_mem_append.mpr ⟨wl_wsL_law_r23, List.forall_mem_append.mpr ⟨wl_wsL_law_r24, List.forall_mem_append.mpr ⟨wl_wsL_law_r25, List.forall_mem_append.mpr ⟨wl_wsL_law_r26, List.forall_mem_append.mpr ⟨wl_wsL_law_r27, List.forall_mem_append.mpr ⟨wl_wsL_law_r28, List.forall_mem_append.mpr ⟨wl_wsL_law_r29, List.forall_mem_append.mpr ⟨wl_wsL_law_r30, List.forall_mem_append.mpr ⟨wl_wsL_law_r31, List.forall_mem_append.mpr ⟨wl_wsL_law_r32, List.forall_mem_append.mpr ⟨wl_wsL_law_r33, List.forall_mem_append.mpr ⟨wl_wsL_law_r34, List.forall_mem_append.mpr ⟨wl_wsL_law_r35, List.forall_mem_append.mpr ⟨wl_wsL_law_r36, List.forall_mem_append.mpr ⟨wl_wsL_law_r37, List.forall_mem_append.mpr ⟨wl_wsL_law_r38, wl_wsL_law_r39⟩⟩⟩⟩⟩⟩⟩⟩⟩⟩⟩⟩⟩⟩⟩⟩⟩⟩⟩⟩⟩⟩⟩⟩⟩⟩⟩⟩⟩⟩⟩⟩⟩⟩⟩⟩⟩⟩, wl_wsX20⟩, wl_wsX30⟩, wl_wsX00⟩, wl_wsX10⟩, wl_wsJ40⟩, (fun _ h => absurd h List.not_mem_nil)⟩
theorem inlX0 : ∀ w ∈ wsX00, w ∈ wsL_law := fun _ h => List.mem_append_left _ (List.mem_append_left _ (List.mem_append_left _ (List.mem_append_right _ h)))
theorem inX0 : ∀ w ∈ wsX00, w ∈ lw_tbl := fun w h => wsL_law_in w (inlX0 w h)
theorem inlX1 : ∀ w ∈ wsX10, w ∈ wsL_law := fun _ h => List.mem_append_left _ (List.mem_append_left _ (List.mem_append_right _ h))
theorem inX1 : ∀ w ∈ wsX10, w ∈ lw_tbl := fun w h => wsL_law_in w (inlX1 w h)
theorem inlX2 : ∀ w ∈ wsX20, w ∈ wsL_law := fun _ h => List.mem_append_left _ (List.mem_append_left _ (List.mem_append_left _ (List.mem_append_left _ (List.mem_append_left _ (List.mem_append_right _ h)))))
theorem inX2 : ∀ w ∈ wsX20, w ∈ lw_tbl := fun w h => wsL_law_in w (inlX2 w h)
theorem inlX3 : ∀ w ∈ wsX30, w ∈ wsL_law := fun _ h => List.mem_append_left _ (List.mem_append_left _ (List.mem_append_left _ (List.mem_append_left _ (List.mem_append_right _ h))))
theorem inX3 : ∀ w ∈ wsX30, w ∈ lw_tbl := fun w h => wsL_law_in w (inlX3 w h)
theorem inJ5 : ∀ w ∈ wsJ50, w ∈ lw_tbl := by decide +kernel
theorem inJx8e188 : ∀ w ∈ wsJx8e1880, w ∈ lw_tbl := by decide +kernel
theorem inJxf58ca : ∀ w ∈ wsJxf58ca0, w ∈ lw_tbl := by decide +kernel
theorem inJ6 : ∀ w ∈ wsJ60, w ∈ lw_tbl := by decide +kernel
theorem inJ9 : ∀ w ∈ wsJ90, w ∈ lw_tbl := by decide +kernel
theorem inJ0 : ∀ w ∈ wsJ00, w ∈ lw_tbl := by decide +kernel
theorem inlJ4 : ∀ w ∈ wsJ40, w ∈ wsL_law := fun _ h => List.mem_append_left _ (List.mem_append_right _ h)
theorem inJ4 : ∀ w ∈ wsJ40, w ∈ lw_tbl := fun w h => wsL_law_in w (inlJ4 w h)
theorem inJ1 : ∀ w ∈ wsJ10, w ∈ lw_tbl := by decide +kernel
theorem inJ2 : ∀ w ∈ wsJ20, w ∈ lw_tbl := by decide +kernel
theorem inJ10 : ∀ w ∈ wsJ100, w ∈ lw_tbl := by decide +kernel
theorem inJ7 : ∀ w ∈ wsJ70, w ∈ lw_tbl := by decide +kernel
theorem inJ8 : ∀ w ∈ wsJ80, w ∈ lw_tbl := by decide +kernel
theorem inJ3 : ∀ w ∈ wsJ30, w ∈ lw_tbl := by decide +kernel
