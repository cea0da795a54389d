theorem wl_of {ws : List Cond} {ps : List Nat} (h : ws = ps.filterMap (fun i => lw_tbl[i]?)) : ∀ w ∈ ws, w ∈ lw_tbl := by
  intro w hw
  rw [h] at hw
  obtain ⟨i, -, hi⟩ := List.mem_filterMap.mp hw
  exact List.mem_of_getElem? hi
set_option maxRecDepth 20000 in
theorem wl_wsL_law_r1 : ∀ w ∈ wsL_law_r1, w ∈ lw_tbl := wl_of (ps := [45, 46, 30, 875, 874, 268, 38, 269, 47, 48, 49, 50, 51, 52, 53, 54, 31, 191, 192, 193, 194, 195, 196, 197]) (by decide +kernel)
set_option maxRecDepth 20000 in
theorem wl_wsL_law_r2 : ∀ w ∈ wsL_law_r2, w ∈ lw_tbl := wl_of (ps := [198, 126, 127, 32, 199, 189, 133, 34, 200, 201, 202, 203, 204, 55, 56, 57, 58, 124, 59, 61, 63, 65, 67, 69]) (by decide +kernel)
set_option maxRecDepth 20000 in
theorem wl_wsL_law_r3 : ∀ w ∈ wsL_law_r3, w ∈ lw_tbl := wl_of (ps := [71, 73, 75, 77, 79, 81, 83, 85, 87, 89, 129, 130, 131, 132, 165, 167, 168, 170, 172, 174, 134, 135, 136, 137]) (by decide +kernel)
set_option maxRecDepth 20000 in
theorem wl_wsL_law_r4 : ∀ w ∈ wsL_law_r4, w ∈ lw_tbl := wl_of (ps := [138, 33, 139, 140, 141, 164, 150, 151, 143, 144, 36, 145, 146, 147, 148, 149, 190, 571, 572, 573, 574, 238, 239, 240]) (by decide +kernel)
set_option maxRecDepth 20000 in
theorem wl_wsL_law_r5 : ∀ w ∈ wsL_law_r5, w ∈ lw_tbl := wl_of (ps := [241, 242, 244, 243, 37, 579, 580, 581, 582, 90, 575, 576, 577, 578, 309, 310, 311, 312, 313, 315, 13, 316, 82, 317]) (by decide +kernel)
set_option maxRecDepth 20000 in
theorem wl_wsL_law_r6 : ∀ w ∈ wsL_law_r6, w ∈ lw_tbl := wl_of (ps := [318, 319, 320, 321, 279, 280, 281, 282, 283, 284, 285, 286, 288, 10, 289, 290, 292, 11, 293, 298, 299, 300, 294, 295]) (by decide +kernel)
set_option maxRecDepth 20000 in
theorem wl_wsL_law_r7 : ∀ w ∈ wsL_law_r7, w ∈ lw_tbl := wl_of (ps := [296, 297, 301, 303, 12, 304, 305, 306, 307, 308, 322, 324, 14, 325, 326, 327, 328, 329, 330, 331, 332, 333, 263, 265]) (by decide +kernel)
set_option maxRecDepth 20000 in
theorem wl_wsL_law_r8 : ∀ w ∈ wsL_law_r8, w ∈ lw_tbl := wl_of (ps := [8, 266, 267, 355, 356, 357, 358, 166, 359, 360, 361, 362, 363, 876, 163, 364, 365, 154, 366, 367, 368, 369, 370, 877]) (by decide +kernel)
