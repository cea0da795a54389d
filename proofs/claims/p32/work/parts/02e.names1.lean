set_option maxRecDepth 20000 in
theorem wl_wsX20 : ∀ w ∈ wsX20, w ∈ lw_tbl := wl_of (ps := [205, 207, 209, 211, 213, 215, 217, 219, 221, 223, 225, 227, 229, 231]) (by decide +kernel)
set_option maxRecDepth 20000 in
theorem wl_wsX00 : ∀ w ∈ wsX00, w ∈ lw_tbl := wl_of (ps := [91, 93, 95, 97, 99, 101, 103, 105, 107, 109, 111, 113, 115, 117, 119, 121]) (by decide +kernel)
set_option maxRecDepth 20000 in
theorem wl_wsX10 : ∀ w ∈ wsX10, w ∈ lw_tbl := wl_of (ps := [176, 178, 180, 182, 184, 186]) (by decide +kernel)
set_option maxRecDepth 20000 in
theorem wl_wsJ40 : ∀ w ∈ wsJ40, w ∈ lw_tbl := wl_of (ps := [155, 157, 159, 161]) (by decide +kernel)
set_option maxRecDepth 20000 in
theorem wl_wsJ00 : ∀ w ∈ wsJ00, w ∈ lw_tbl := wl_of (ps := [838, 840, 842, 844]) (by decide +kernel)
