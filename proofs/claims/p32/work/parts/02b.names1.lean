set_option maxRecDepth 20000 in
theorem wl_wsL_law_r9 : ∀ w ∈ wsL_law_r9, w ∈ lw_tbl := wl_of (ps := [371, 372, 373, 878, 0, 375, 376, 377, 879, 1, 379, 380, 389, 381, 382, 39, 383, 384, 385, 386, 387, 388, 390, 391]) (by decide +kernel)
set_option maxRecDepth 20000 in
theorem wl_wsL_law_r10 : ∀ w ∈ wsL_law_r10, w ∈ lw_tbl := wl_of (ps := [40, 392, 393, 394, 395, 396, 397, 399, 400, 401, 402, 404, 405, 403, 406, 407, 408, 41, 409, 410, 880, 2, 412, 413]) (by decide +kernel)
set_option maxRecDepth 20000 in
theorem wl_wsL_law_r11 : ∀ w ∈ wsL_law_r11, w ∈ lw_tbl := wl_of (ps := [414, 415, 416, 417, 418, 419, 420, 421, 422, 423, 424, 425, 426, 427, 35, 428, 429, 431, 432, 42, 433, 434, 435, 436]) (by decide +kernel)
set_option maxRecDepth 20000 in
theorem wl_wsL_law_r12 : ∀ w ∈ wsL_law_r12, w ∈ lw_tbl := wl_of (ps := [437, 439, 441, 443, 444, 445, 446, 447, 448, 449, 450, 451, 452, 453, 454, 563, 564, 565, 566, 60, 64, 66, 80, 84]) (by decide +kernel)
set_option maxRecDepth 20000 in
theorem wl_wsL_law_r13 : ∀ w ∈ wsL_law_r13, w ∈ lw_tbl := wl_of (ps := [86, 88, 72, 567, 568, 569, 570, 541, 535, 536, 530, 531, 532, 533, 455, 456, 457, 458, 459, 460, 461, 462, 463, 464]) (by decide +kernel)
set_option maxRecDepth 20000 in
theorem wl_wsL_law_r14 : ∀ w ∈ wsL_law_r14, w ∈ lw_tbl := wl_of (ps := [465, 466, 467, 468, 469, 470, 471, 473, 15, 474, 475, 476, 477, 478, 479, 480, 881, 481, 482, 483, 484, 485, 486, 487]) (by decide +kernel)
set_option maxRecDepth 20000 in
theorem wl_wsL_law_r15 : ∀ w ∈ wsL_law_r15, w ∈ lw_tbl := wl_of (ps := [488, 490, 16, 491, 492, 494, 17, 495, 496, 498, 18, 499, 500, 502, 19, 503, 504, 505, 506, 507, 508, 510, 20, 511]) (by decide +kernel)
set_option maxRecDepth 20000 in
theorem wl_wsL_law_r16 : ∀ w ∈ wsL_law_r16, w ∈ lw_tbl := wl_of (ps := [512, 513, 514, 516, 21, 517, 169, 171, 173, 175, 518, 520, 22, 521, 249, 250, 251, 255, 257, 7, 258, 522, 245, 247]) (by decide +kernel)
