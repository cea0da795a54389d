set_option maxRecDepth 20000 in
theorem ggQ_X2_sign : GoodIn wsL_law wsX2_sign := goodIn_r _ [601, 32, 176, 177, 178, 31, 179, 180, 181, 182, 183, 73, 184, 185, 602, 324, 325, 326, 327, 328, 329, 330, 79, 78, 331, 5, 6, 7, 332, 274, 254, 275, 256, 276, 277, 259, 278, 333, 334, 82, 335, 264, 265, 266, 249, 250, 251, 751, 752, 753, 754, 755, 756, 757, 758, 759, 760, 761, 762, 763, 764, 787, 788, 789, 790] (by decide +kernel) (by decide +kernel)
set_option maxRecDepth 20000 in
theorem gQ_X2_sign : GoodIn wsL_law (wsV RL 29 RX2 yX2_sign wsX2_sign) := goodIn_app (goodIn_of _ (by decide +kernel)) ggQ_X2_sign
set_option maxRecDepth 20000 in
theorem ggQ_X2_sleep : GoodIn wsL_law wsX2_sleep := goodIn_r _ [496, 18, 17, 93, 94, 95, 16, 96, 42, 97, 98, 99, 100, 43, 44, 45, 46, 47, 48, 49, 50, 51, 52, 53, 54, 55, 56, 57, 407, 408, 409, 2, 410, 285, 284, 411, 374, 375, 376, 404, 405, 406, 377, 378, 379, 380, 34, 35, 33, 36, 295, 296, 297, 166, 167, 168, 169, 23, 22, 24, 170, 5, 6, 7, 751, 752, 753, 754, 755, 756, 757, 758, 759, 760, 761, 762, 763, 764, 765, 766, 767, 768, 769, 770, 771, 772, 773, 774, 775, 776, 777, 778, 779, 780] (by decide +kernel) (by decide +kernel)
set_option maxRecDepth 20000 in
theorem gQ_X2_sleep : GoodIn wsL_law (wsV RL 54 RX2 yX2_sleep wsX2_sleep) := goodIn_app (goodIn_of _ (by decide +kernel)) ggQ_X2_sleep
set_option maxRecDepth 20000 in
theorem ggQ_X2_undo : GoodIn wsL_law wsX2_undo := goodIn_r _ [92, 22, 23, 24, 17, 93, 94, 95, 16, 96, 42, 97, 98, 99, 100, 43, 44, 45, 46, 47, 48, 49, 50, 51, 52, 53, 54, 55, 56, 57, 751, 752, 753, 754, 755, 756, 757, 758, 759, 760, 761, 762, 763, 764, 765, 766, 767, 768, 769, 770, 771, 772, 773, 774, 775, 776, 777, 778, 779, 780] (by decide +kernel) (by decide +kernel)
set_option maxRecDepth 20000 in
theorem gQ_X2_undo : GoodIn wsL_law (wsV RL 153 RX2 yX2_undo wsX2_undo) := goodIn_app (goodIn_of _ (by decide +kernel)) ggQ_X2_undo
set_option maxRecDepth 20000 in
theorem ggQ_X2_would : GoodIn wsL_law wsX2_would := goodIn_r _ [614, 17, 285, 284, 19, 374, 375, 2, 376, 93, 94, 95, 16, 96, 42, 97, 98, 99, 100, 43, 44, 45, 46, 47, 48, 49, 50, 51, 52, 53, 54, 55, 56, 57, 381, 159, 160, 161, 127, 128, 129, 130, 131, 132, 133, 134, 162, 163, 164, 165, 150, 151, 152, 153, 751, 752, 753, 754, 755, 756, 757, 758, 759, 760, 761, 762, 763, 764, 765, 766, 767, 768, 769, 770, 771, 772, 773, 774, 775, 776, 777, 778, 779, 780] (by decide +kernel) (by decide +kernel)
set_option maxRecDepth 20000 in
theorem gQ_X2_would : GoodIn wsL_law (wsV RL 103 RX2 yX2_would wsX2_would) := goodIn_app (goodIn_of _ (by decide +kernel)) ggQ_X2_would
set_option maxRecDepth 20000 in
theorem ggQ_X2_write : GoodIn wsL_law wsX2_write := goodIn_r _ [452, 18, 17, 93, 94, 95, 16, 96, 42, 97, 98, 99, 100, 43, 44, 45, 46, 47, 48, 49, 50, 51, 52, 53, 54, 55, 56, 57, 382, 383, 384, 2, 385, 285, 284, 283, 386, 374, 375, 376, 387, 388, 389, 377, 378, 379, 380, 34, 35, 33, 36, 390, 391, 392, 393, 166, 167, 168, 169, 23, 22, 24, 170, 5, 6, 7, 751, 752, 753, 754, 755, 756, 757, 758, 759, 760, 761, 762, 763, 764, 765, 766, 767, 768, 769, 770, 771, 772, 773, 774, 775, 776, 777, 778, 779, 780] (by decide +kernel) (by decide +kernel)
set_option maxRecDepth 20000 in
theorem gQ_X2_write : GoodIn wsL_law (wsV RL 44 RX2 yX2_write wsX2_write) := goodIn_app (goodIn_of _ (by decide +kernel)) ggQ_X2_write
set_option maxRecDepth 100000 in
theorem gC_L_asks : GoodIn wsL_law [.code yL_asks cL_asks 6 (some .long)] := goodIn_sub (fun w hw => by rw [List.mem_singleton.mp hw]; exact List.mem_of_getElem? (i := 499) rfl) (by decide +kernel)
set_option maxRecDepth 20000 in
theorem gQ_L_asks : GoodIn wsL_law (va_wsS RL 136 yL_asks (.code yL_asks cL_asks 6 (some .long) :: wsL_law)) := goodIn_app (goodIn_of _ (by decide +kernel)) (goodIn_app (a := [.code yL_asks cL_asks 6 (some .long)]) gC_L_asks gL_self)
set_option maxRecDepth 100000 in
theorem gC_L_at : GoodIn wsL_law [.code yL_at cL_at 2 (some .int)] := goodIn_sub (fun w hw => by rw [List.mem_singleton.mp hw]; exact List.mem_of_getElem? (i := 478) rfl) (by decide +kernel)
set_option maxRecDepth 20000 in
theorem gQ_L_at : GoodIn wsL_law (va_wsS RL 60 yL_at (.code yL_at cL_at 2 (some .int) :: wsL_law)) := goodIn_app (goodIn_of _ (by decide +kernel)) (goodIn_app (a := [.code yL_at cL_at 2 (some .int)]) gC_L_at gL_self)
set_option maxRecDepth 100000 in
theorem gC_L_changes : GoodIn wsL_law [.code yL_changes cL_changes 2 (some .boolean)] := goodIn_sub (fun w hw => by rw [List.mem_singleton.mp hw]; exact List.mem_of_getElem? (i := 671) rfl) (by decide +kernel)
set_option maxRecDepth 20000 in
theorem gQ_L_changes : GoodIn wsL_law (va_wsS RL 170 yL_changes (.code yL_changes cL_changes 2 (some .boolean) :: wsL_law)) := goodIn_app (goodIn_of _ (by decide +kernel)) (goodIn_app (a := [.code yL_changes cL_changes 2 (some .boolean)]) gC_L_changes gL_self)
set_option maxRecDepth 100000 in
theorem gC_L_happens : GoodIn wsL_law [.code yL_happens cL_happens 3 (some .int)] := goodIn_sub (fun w hw => by rw [List.mem_singleton.mp hw]; exact List.mem_of_getElem? (i := 481) rfl) (by decide +kernel)
set_option maxRecDepth 20000 in
theorem gQ_L_happens : GoodIn wsL_law (va_wsS RL 64 yL_happens (.code yL_happens cL_happens 3 (some .int) :: wsL_law)) := goodIn_app (goodIn_of _ (by decide +kernel)) (goodIn_app (a := [.code yL_happens cL_happens 3 (some .int)]) gC_L_happens gL_self)
set_option maxRecDepth 100000 in
theorem gC_L_is : GoodIn wsL_law [.code yL_is cL_is 4 (some .boolean)] := goodIn_sub (fun w hw => by rw [List.mem_singleton.mp hw]; exact List.mem_of_getElem? (i := 456) rfl) (by decide +kernel)
set_option maxRecDepth 20000 in
theorem gQ_L_is : GoodIn wsL_law (va_wsS RL 140 yL_is (.code yL_is cL_is 4 (some .boolean) :: wsL_law)) := goodIn_app (goodIn_of _ (by decide +kernel)) (goodIn_app (a := [.code yL_is cL_is 4 (some .boolean)]) gC_L_is gL_self)
set_option maxRecDepth 100000 in
theorem gC_L_makes : GoodIn wsL_law [.code yL_makes cL_makes 5 (some .boolean)] := goodIn_sub (fun w hw => by rw [List.mem_singleton.mp hw]; exact List.mem_of_getElem? (i := 475) rfl) (by decide +kernel)
set_option maxRecDepth 20000 in
theorem gQ_L_makes : GoodIn wsL_law (va_wsS RL 162 yL_makes (.code yL_makes cL_makes 5 (some .boolean) :: wsL_law)) := goodIn_app (goodIn_of _ (by decide +kernel)) (goodIn_app (a := [.code yL_makes cL_makes 5 (some .boolean)]) gC_L_makes gL_self)
set_option maxRecDepth 100000 in
theorem gC_L_reads : GoodIn wsL_law [.code yL_reads cL_reads 3 (some .int)] := goodIn_sub (fun w hw => by rw [List.mem_singleton.mp hw]; exact List.mem_of_getElem? (i := 641) rfl) (by decide +kernel)
set_option maxRecDepth 20000 in
theorem gQ_L_reads : GoodIn wsL_law (va_wsS RL 132 yL_reads (.code yL_reads cL_reads 3 (some .int) :: wsL_law)) := goodIn_app (goodIn_of _ (by decide +kernel)) (goodIn_app (a := [.code yL_reads cL_reads 3 (some .int)]) gC_L_reads gL_self)
set_option maxRecDepth 100000 in
theorem gC_L_refused : GoodIn wsL_law [.code yL_refused cL_refused 8 (some .boolean)] := goodIn_sub (fun w hw => by rw [List.mem_singleton.mp hw]; exact List.mem_of_getElem? (i := 638) rfl) (by decide +kernel)
set_option maxRecDepth 20000 in
theorem gQ_L_refused : GoodIn wsL_law (va_wsS RL 166 yL_refused (.code yL_refused cL_refused 8 (some .boolean) :: wsL_law)) := goodIn_app (goodIn_of _ (by decide +kernel)) (goodIn_app (a := [.code yL_refused cL_refused 8 (some .boolean)]) gC_L_refused gL_self)
set_option maxRecDepth 100000 in
theorem gC_L_some : GoodIn wsL_law [.code yL_some cL_some 3 (some .int)] := goodIn_sub (fun w hw => by rw [List.mem_singleton.mp hw]; exact List.mem_of_getElem? (i := 484) rfl) (by decide +kernel)
set_option maxRecDepth 20000 in
theorem gQ_L_some : GoodIn wsL_law (va_wsS RL 32 yL_some (.code yL_some cL_some 3 (some .int) :: wsL_law)) := goodIn_app (goodIn_of _ (by decide +kernel)) (goodIn_app (a := [.code yL_some cL_some 3 (some .int)]) gC_L_some gL_self)
