set_option maxRecDepth 20000 in
theorem wl_wsL_law_r25 : ∀ w ∈ wsL_law_r25, w ∈ lw_tbl := wl_of (ps := [689, 690, 691, 692, 694, 696, 697, 698, 699, 700, 701, 702, 703, 704, 705, 706, 707, 708, 709, 710, 711, 712, 713, 714]) (by decide +kernel)
set_option maxRecDepth 20000 in
theorem wl_wsL_law_r26 : ∀ w ∈ wsL_law_r26, w ∈ lw_tbl := wl_of (ps := [715, 716, 717, 718, 719, 720, 721, 722, 724, 27, 725, 726, 727, 728, 729, 730, 731, 732, 733, 734, 735, 736, 737, 738]) (by decide +kernel)
set_option maxRecDepth 20000 in
theorem wl_wsL_law_r27 : ∀ w ∈ wsL_law_r27, w ∈ lw_tbl := wl_of (ps := [740, 28, 741, 742, 743, 744, 745, 746, 747, 748, 749, 750, 867, 868, 869, 848, 849, 850, 851, 772, 773, 774, 836, 775]) (by decide +kernel)
set_option maxRecDepth 20000 in
theorem wl_wsL_law_r28 : ∀ w ∈ wsL_law_r28, w ∈ lw_tbl := wl_of (ps := [776, 777, 778, 779, 837, 852, 853, 854, 855, 856, 857, 858, 859, 860, 861, 862, 863, 864, 865, 866, 831, 751, 752, 753]) (by decide +kernel)
set_option maxRecDepth 20000 in
theorem wl_wsL_law_r29 : ∀ w ∈ wsL_law_r29, w ∈ lw_tbl := wl_of (ps := [754, 755, 757, 758, 759, 760, 761, 884, 762, 763, 764, 885, 3, 766, 767, 768, 769, 770, 771, 780, 886, 4, 782, 783]) (by decide +kernel)
set_option maxRecDepth 20000 in
theorem wl_wsL_law_r30 : ∀ w ∈ wsL_law_r30, w ∈ lw_tbl := wl_of (ps := [784, 887, 5, 786, 787, 788, 789, 790, 791, 792, 793, 794, 795, 796, 797, 798, 799, 800, 801, 802, 803, 804, 805, 806]) (by decide +kernel)
set_option maxRecDepth 20000 in
theorem wl_wsL_law_r31 : ∀ w ∈ wsL_law_r31, w ∈ lw_tbl := wl_of (ps := [807, 808, 153, 809, 811, 812, 810, 813, 814, 364, 888, 815, 816, 817, 818, 819, 820, 821, 822, 823, 824, 825, 826, 827]) (by decide +kernel)
set_option maxRecDepth 20000 in
theorem wl_wsL_law_r32 : ∀ w ∈ wsL_law_r32, w ∈ lw_tbl := wl_of (ps := [828, 829, 830, 832, 833, 834, 835]) (by decide +kernel)
