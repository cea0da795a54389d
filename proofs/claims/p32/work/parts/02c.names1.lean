set_option maxRecDepth 20000 in
theorem wl_wsL_law_r17 : ∀ w ∈ wsL_law_r17, w ∈ lw_tbl := wl_of (ps := [6, 248, 70, 252, 253, 254, 259, 260, 261, 262, 274, 276, 9, 277, 278, 523, 525, 23, 526, 78, 527, 528, 529, 537]) (by decide +kernel)
set_option maxRecDepth 20000 in
theorem wl_wsL_law_r18 : ∀ w ∈ wsL_law_r18, w ∈ lw_tbl := wl_of (ps := [539, 24, 540, 68, 542, 543, 544, 545, 546, 547, 882, 548, 549, 152, 550, 551, 552, 553, 554, 555, 556, 557, 558, 559]) (by decide +kernel)
set_option maxRecDepth 20000 in
theorem wl_wsL_law_r19 : ∀ w ∈ wsL_law_r19, w ∈ lw_tbl := wl_of (ps := [560, 561, 562, 339, 340, 341, 342, 343, 344, 345, 346, 334, 335, 336, 337, 62, 338, 234, 235, 236, 237, 586, 587, 29]) (by decide +kernel)
set_option maxRecDepth 20000 in
theorem wl_wsL_law_r20 : ∀ w ∈ wsL_law_r20, w ∈ lw_tbl := wl_of (ps := [588, 589, 590, 591, 592, 270, 271, 272, 273, 347, 348, 349, 350, 351, 352, 353, 354, 593, 594, 595, 583, 584, 585, 596]) (by decide +kernel)
set_option maxRecDepth 20000 in
theorem wl_wsL_law_r21 : ∀ w ∈ wsL_law_r21, w ∈ lw_tbl := wl_of (ps := [597, 598, 599, 600, 601, 602, 603, 604, 605, 606, 607, 608, 609, 610, 611, 612, 613, 614, 615, 616, 617, 618, 619, 620]) (by decide +kernel)
set_option maxRecDepth 20000 in
theorem wl_wsL_law_r22 : ∀ w ∈ wsL_law_r22, w ∈ lw_tbl := wl_of (ps := [621, 622, 623, 624, 625, 626, 627, 628, 629, 630, 631, 632, 633, 634, 635, 636, 637, 638, 640, 25, 641, 642, 643, 644]) (by decide +kernel)
set_option maxRecDepth 20000 in
theorem wl_wsL_law_r23 : ∀ w ∈ wsL_law_r23, w ∈ lw_tbl := wl_of (ps := [645, 646, 647, 648, 649, 650, 74, 76, 651, 653, 26, 654, 655, 656, 657, 658, 659, 660, 661, 662, 663, 664, 665, 666]) (by decide +kernel)
set_option maxRecDepth 20000 in
theorem wl_wsL_law_r24 : ∀ w ∈ wsL_law_r24, w ∈ lw_tbl := wl_of (ps := [667, 668, 669, 670, 671, 672, 673, 674, 675, 676, 677, 678, 679, 680, 681, 682, 683, 883, 684, 685, 686, 687, 44, 688]) (by decide +kernel)
