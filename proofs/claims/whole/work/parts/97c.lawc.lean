set_option maxHeartbeats 8000000 in
set_option maxRecDepth 100000 in
theorem law_c21 : LCase 737 := by
  intro p l e s m below meth c b L xs dC dI cI cB cC cP ad ob q B i cells slots H locs ls hF hV hB hi hL hl hcells hslots kk
  obtain ⟨hx, hb, hr, hml, hown, hts, hX, hbl, hlocks, hE, hK2, hK3⟩ := hF
  obtain ⟨Z, O, M, A, hP, hD, hS, hO, hJ⟩ := hV
  have hbA : ¬ aB s.heap.size b := fun h => absurd h (Nat.not_le.mpr hbl)
  obtain ⟨r, O1, M1, hv2, hv3, hJ1⟩ := j_read (N := 1400) (Nat.le_refl _) (by omega) hJ
  refine lv_aload_n hx hb dL_law_737 rfl (lv_at hl 1 rfl) ?_
  refine call_BVE (As := []) (rest := []) ⟨hx, hb, hml, hown, hts⟩ (tX2_read (l := l) (dC := dC) (dI := dI) (cI := cI) (cB := cB) (cP := cP) (ad := ad) (Z := Z) (base := s.heap.size) (R := mdW cI cC ob q M) hv2 hO) (cwV 0 hts gL_law_X2_read rfl rfl rfl (by decide +kernel) ⟨Nat.le_of_ble_eq_true rfl, Nat.le_of_ble_eq_true rfl⟩) hK2 hP hD hS hS.1 (fun U hU hW => Env_step rfl rfl hE hS hU hW) 0 rfl rfl (by rfl) hl.1 rfl (Nat.le_of_ble_eq_true rfl) dL_law_738 ⟨by show _ ≤ 600000; omega, by show _ ≤ 7302250; omega⟩ (fun H locs ws9 hW9 hP hD _ hS => ?_)
  obtain ⟨Z1, rfl, hO⟩ := hW9
  refine lv_aload_n hx hb dL_law_741 rfl (lv_at hl 2 rfl) ?_
  have hP9 : va_P (dC, dI) vwCl (outW cI cB cP ad Z1 O1 ++ (mdW cI cC ob q M ++ [])) H := by rw [List.append_nil]; exact hP
  have hD9 : va_D (aB s.heap.size) (outW cI cB cP ad Z1 O1 ++ (mdW cI cC ob q M ++ [])) := by rw [List.append_nil]; exact hD
  obtain ⟨w1, w2, w3⟩ := aL_in (L := mdL ob q) hP9 hD9 rfl
  refine call_VE (As := []) (rest := [.int r]) ⟨hx, hb, hml, hown, hts⟩ (tX3_read (l := l) (dC := dC) (dI := dI) (cI := cI) (cC := cC) (ob := ob) (q := q) hv3) (cwV 0 hts gL_law_X3_read rfl rfl rfl (by decide +kernel) ⟨Nat.le_of_ble_eq_true rfl, Nat.le_of_ble_eq_true rfl⟩) hK3 w1 w2 hS w3 0 rfl rfl (by rfl) hl.1 rfl (Nat.le_of_ble_eq_true rfl) dL_law_742 ⟨by show _ ≤ 600000; omega, by show _ ≤ 7302250; omega⟩ (fun H locs hP3 _ hk hS => ?_)
  obtain ⟨z1, z2⟩ := aL_back (w1 := mdW cI cC ob q M1) (L := mdL ob q) hP9 hD9 rfl rfl hP3 hk.2
  rw [List.append_nil] at z1 z2
  refine lv_icmp_eq (tgt := 861) hx hb dL_law_745 (by decide) (fun _ => ?_) (fun c1 => absurd rfl c1)
  refine W.widen (k := cells + 54) (n := slots + 13824) (by omega) (by omega) ?_
  exact kk H locs (LV_of z1 z2 hS hO (J_mono hJ1 (by omega)))
set_option maxHeartbeats 8000000 in
set_option maxRecDepth 100000 in
theorem law_c22 : LCase 750 := by
  intro p l e s m below meth c b L xs dC dI cI cB cC cP ad ob q B i cells slots H locs ls hF hV hB hi hL hl hcells hslots kk
  obtain ⟨hx, hb, hr, hml, hown, hts, hX, hbl, hlocks, hE, hK2, hK3⟩ := hF
  obtain ⟨Z, O, M, A, hP, hD, hS, hO, hJ⟩ := hV
  have hbA : ¬ aB s.heap.size b := fun h => absurd h (Nat.not_le.mpr hbl)
  have hi1 : vp_in (nI i + 1) L := law_in (k := 1) hL (by omega)
  obtain ⟨r, hv2, hv3⟩ := q_refusal (N := 1400) hJ.2.2.2.2.1 (xs (nI i + 1).toNatClampNeg)
  refine lv_aload_n hx hb dL_law_750 rfl (lv_at hl 1 rfl) ?_
  refine lv_aload_n hx hb dL_law_751 rfl (lv_at hl 0 rfl) ?_
  refine lv_iload_n hx hb dL_law_752 rfl (lv_at hl 3 rfl) ?_
  refine lv_iconst (v := 1) hx hb dL_law_753 (by decide) ?_
  refine lv_iadd hx hb dL_law_754 ?_
  refine va_sld hx hb hX hbl hbA hS hi1 dL_law_755 ?_
  refine call_BVP (As := [.int (xs (nI i + 1).toNatClampNeg)]) (rest := []) ⟨hx, hb, hml, hown, hts⟩ (tX2_refusal (l := l) (dC := dC) (dI := dI) (cI := cI) (cB := cB) (cP := cP) (ad := ad) (Z := Z) (base := s.heap.size) (R := mdW cI cC ob q M) hv2 hO) (cwV 1 hts gL_law_X2_refusal rfl rfl rfl (by decide +kernel) ⟨Nat.le_of_ble_eq_true rfl, Nat.le_of_ble_eq_true rfl⟩) hK2 hP hD hS.1 (fun U hU hW => Env_step rfl rfl hE hS hU hW) 0 rfl rfl (by rfl) hl.1 rfl (Nat.le_of_ble_eq_true rfl) dL_law_756 ⟨by show _ ≤ 600000; omega, by show _ ≤ 7302250; omega⟩ ?_
  refine lv_aload_n hx hb dL_law_759 rfl (lv_at hl 2 rfl) ?_
  refine lv_aload_n hx hb dL_law_760 rfl (lv_at hl 0 rfl) ?_
  refine lv_iload_n hx hb dL_law_761 rfl (lv_at hl 3 rfl) ?_
  refine lv_iconst (v := 1) hx hb dL_law_762 (by decide) ?_
  refine lv_iadd hx hb dL_law_763 ?_
  refine va_sld hx hb hX hbl hbA hS hi1 dL_law_764 ?_
  refine call_VP (As := [.int (xs (nI i + 1).toNatClampNeg)]) (rest := [.int r]) ⟨hx, hb, hml, hown, hts⟩ (tX3_refusal (l := l) (dC := dC) (dI := dI) (cI := cI) (cC := cC) (ob := ob) (q := q) hv3) (cwV 1 hts gL_law_X3_refusal rfl rfl rfl (by decide +kernel) ⟨Nat.le_of_ble_eq_true rfl, Nat.le_of_ble_eq_true rfl⟩) hK3 (P_app.mp hP).2 0 rfl rfl (by rfl) hl.1 rfl (Nat.le_of_ble_eq_true rfl) dL_law_765 ⟨by show _ ≤ 600000; omega, by show _ ≤ 7302250; omega⟩ ?_
  refine lv_icmp_eq (tgt := 861) hx hb dL_law_768 (by decide) (fun _ => ?_) (fun c1 => absurd rfl c1)
  refine W.widen (k := cells + 54) (n := slots + 13824) (by omega) (by omega) ?_
  exact kk H locs (LV_of hP hD hS hO (J_mono hJ.toJ (by omega)))
set_option maxHeartbeats 8000000 in
set_option maxRecDepth 100000 in
theorem law_c23 : LCase 773 := by
  intro p l e s m below meth c b L xs dC dI cI cB cC cP ad ob q B i cells slots H locs ls hF hV hB hi hL hl hcells hslots kk
  obtain ⟨hx, hb, hr, hml, hown, hts, hX, hbl, hlocks, hE, hK2, hK3⟩ := hF
  obtain ⟨Z, O, M, A, hP, hD, hS, hO, hJ⟩ := hV
  have hbA : ¬ aB s.heap.size b := fun h => absurd h (Nat.not_le.mpr hbl)
  have hi1 : vp_in (nI i + 1) L := law_in (k := 1) hL (by omega)
  obtain ⟨r, hv2, hv3⟩ := q_account (N := 1400) (Nat.le_refl _) (by omega) hJ (xs (nI i + 1).toNatClampNeg)
  refine lv_aload_n hx hb dL_law_773 rfl (lv_at hl 1 rfl) ?_
  refine lv_aload_n hx hb dL_law_774 rfl (lv_at hl 0 rfl) ?_
  refine lv_iload_n hx hb dL_law_775 rfl (lv_at hl 3 rfl) ?_
  refine lv_iconst (v := 1) hx hb dL_law_776 (by decide) ?_
  refine lv_iadd hx hb dL_law_777 ?_
  refine va_sld hx hb hX hbl hbA hS hi1 dL_law_778 ?_
  refine call_BVP (As := [.int (xs (nI i + 1).toNatClampNeg)]) (rest := []) ⟨hx, hb, hml, hown, hts⟩ (tX2_account (l := l) (dC := dC) (dI := dI) (cI := cI) (cB := cB) (cP := cP) (ad := ad) (Z := Z) (base := s.heap.size) (R := mdW cI cC ob q M) hv2 hO) (cwV 1 hts gL_law_X2_account rfl rfl rfl (by decide +kernel) ⟨Nat.le_of_ble_eq_true rfl, Nat.le_of_ble_eq_true rfl⟩) hK2 hP hD hS.1 (fun U hU hW => Env_step rfl rfl hE hS hU hW) 0 rfl rfl (by rfl) hl.1 rfl (Nat.le_of_ble_eq_true rfl) dL_law_779 ⟨by show _ ≤ 600000; omega, by show _ ≤ 7302250; omega⟩ ?_
  refine lv_aload_n hx hb dL_law_782 rfl (lv_at hl 2 rfl) ?_
  refine lv_aload_n hx hb dL_law_783 rfl (lv_at hl 0 rfl) ?_
  refine lv_iload_n hx hb dL_law_784 rfl (lv_at hl 3 rfl) ?_
  refine lv_iconst (v := 1) hx hb dL_law_785 (by decide) ?_
  refine lv_iadd hx hb dL_law_786 ?_
  refine va_sld hx hb hX hbl hbA hS hi1 dL_law_787 ?_
  refine call_VP (As := [.int (xs (nI i + 1).toNatClampNeg)]) (rest := [.int r]) ⟨hx, hb, hml, hown, hts⟩ (tX3_account (l := l) (dC := dC) (dI := dI) (cI := cI) (cC := cC) (ob := ob) (q := q) hv3) (cwV 1 hts gL_law_X3_account rfl rfl rfl (by decide +kernel) ⟨Nat.le_of_ble_eq_true rfl, Nat.le_of_ble_eq_true rfl⟩) hK3 (P_app.mp hP).2 0 rfl rfl (by rfl) hl.1 rfl (Nat.le_of_ble_eq_true rfl) dL_law_788 ⟨by show _ ≤ 600000; omega, by show _ ≤ 7302250; omega⟩ ?_
  refine lv_icmp_eq (tgt := 861) hx hb dL_law_791 (by decide) (fun _ => ?_) (fun c1 => absurd rfl c1)
  refine W.widen (k := cells + 54) (n := slots + 13824) (by omega) (by omega) ?_
  exact kk H locs (LV_of hP hD hS hO (J_mono hJ.toJ (by omega)))
set_option maxHeartbeats 8000000 in
set_option maxRecDepth 100000 in
theorem law_c24 : LCase 796 := by
  intro p l e s m below meth c b L xs dC dI cI cB cC cP ad ob q B i cells slots H locs ls hF hV hB hi hL hl hcells hslots kk
  obtain ⟨hx, hb, hr, hml, hown, hts, hX, hbl, hlocks, hE, hK2, hK3⟩ := hF
  obtain ⟨Z, O, M, A, hP, hD, hS, hO, hJ⟩ := hV
  have hbA : ¬ aB s.heap.size b := fun h => absurd h (Nat.not_le.mpr hbl)
  obtain ⟨r, hv2, hv3⟩ := q_isWell (N := 1400) (M := M) (Nat.le_refl _) hJ.1 (by omega) hJ.2.1
  refine lv_aload_n hx hb dL_law_796 rfl (lv_at hl 1 rfl) ?_
  refine call_BVP (As := []) (rest := []) ⟨hx, hb, hml, hown, hts⟩ (tX2_isWell (l := l) (dC := dC) (dI := dI) (cI := cI) (cB := cB) (cP := cP) (ad := ad) (Z := Z) (base := s.heap.size) (R := mdW cI cC ob q M) hv2 hO) (cwV 0 hts gL_law_X2_isWell rfl rfl rfl (by decide +kernel) ⟨Nat.le_of_ble_eq_true rfl, Nat.le_of_ble_eq_true rfl⟩) hK2 hP hD hS.1 (fun U hU hW => Env_step rfl rfl hE hS hU hW) 0 rfl rfl (by rfl) hl.1 rfl (Nat.le_of_ble_eq_true rfl) dL_law_797 ⟨by show _ ≤ 600000; omega, by show _ ≤ 7302250; omega⟩ ?_
  refine lv_aload_n hx hb dL_law_800 rfl (lv_at hl 2 rfl) ?_
  refine call_VP (As := []) (rest := [.int r]) ⟨hx, hb, hml, hown, hts⟩ (tX3_isWell (l := l) (dC := dC) (dI := dI) (cI := cI) (cC := cC) (ob := ob) (q := q) hv3) (cwV 0 hts gL_law_X3_isWell rfl rfl rfl (by decide +kernel) ⟨Nat.le_of_ble_eq_true rfl, Nat.le_of_ble_eq_true rfl⟩) hK3 (P_app.mp hP).2 0 rfl rfl (by rfl) hl.1 rfl (Nat.le_of_ble_eq_true rfl) dL_law_801 ⟨by show _ ≤ 600000; omega, by show _ ≤ 7302250; omega⟩ ?_
  refine lv_icmp_eq (tgt := 861) hx hb dL_law_804 (by decide) (fun _ => ?_) (fun c1 => absurd rfl c1)
  refine W.widen (k := cells + 54) (n := slots + 13824) (by omega) (by omega) ?_
  exact kk H locs (LV_of hP hD hS hO (J_mono hJ.toJ (by omega)))
set_option maxHeartbeats 8000000 in
set_option maxRecDepth 100000 in
theorem law_c25 : LCase 809 := by
  intro p l e s m below meth c b L xs dC dI cI cB cC cP ad ob q B i cells slots H locs ls hF hV hB hi hL hl hcells hslots kk
  obtain ⟨hx, hb, hr, hml, hown, hts, hX, hbl, hlocks, hE, hK2, hK3⟩ := hF
  obtain ⟨Z, O, M, A, hP, hD, hS, hO, hJ⟩ := hV
  have hbA : ¬ aB s.heap.size b := fun h => absurd h (Nat.not_le.mpr hbl)
  obtain ⟨r, hv2, hv3⟩ := q_share (N := 1400) (Nat.le_refl _) (by omega) hJ
  refine lv_aload_n hx hb dL_law_809 rfl (lv_at hl 1 rfl) ?_
  refine call_BVP (As := []) (rest := []) ⟨hx, hb, hml, hown, hts⟩ (tX2_share (l := l) (dC := dC) (dI := dI) (cI := cI) (cB := cB) (cP := cP) (ad := ad) (Z := Z) (base := s.heap.size) (R := mdW cI cC ob q M) hv2) (cwV 0 hts gL_law_X2_share rfl rfl rfl (by decide +kernel) ⟨Nat.le_of_ble_eq_true rfl, Nat.le_of_ble_eq_true rfl⟩) hK2 hP hD hS.1 (fun U hU hW => Env_step rfl rfl hE hS hU hW) 0 rfl rfl (by rfl) hl.1 rfl (Nat.le_of_ble_eq_true rfl) dL_law_810 ⟨by show _ ≤ 600000; omega, by show _ ≤ 7302250; omega⟩ ?_
  refine lv_aload_n hx hb dL_law_813 rfl (lv_at hl 2 rfl) ?_
  refine call_VP (As := []) (rest := [.int r]) ⟨hx, hb, hml, hown, hts⟩ (tX3_share (l := l) (dC := dC) (dI := dI) (cI := cI) (cC := cC) (ob := ob) (q := q) hv3) (cwV 0 hts gL_law_X3_share rfl rfl rfl (by decide +kernel) ⟨Nat.le_of_ble_eq_true rfl, Nat.le_of_ble_eq_true rfl⟩) hK3 (P_app.mp hP).2 0 rfl rfl (by rfl) hl.1 rfl (Nat.le_of_ble_eq_true rfl) dL_law_814 ⟨by show _ ≤ 600000; omega, by show _ ≤ 7302250; omega⟩ ?_
  refine lv_icmp_eq (tgt := 861) hx hb dL_law_817 (by decide) (fun _ => ?_) (fun c1 => absurd rfl c1)
  refine W.widen (k := cells + 54) (n := slots + 13824) (by omega) (by omega) ?_
  exact kk H locs (LV_of hP hD hS hO (J_mono hJ.toJ (by omega)))
set_option maxHeartbeats 8000000 in
set_option maxRecDepth 100000 in
theorem law_c26 : LCase 822 := by
  intro p l e s m below meth c b L xs dC dI cI cB cC cP ad ob q B i cells slots H locs ls hF hV hB hi hL hl hcells hslots kk
  obtain ⟨hx, hb, hr, hml, hown, hts, hX, hbl, hlocks, hE, hK2, hK3⟩ := hF
  obtain ⟨Z, O, M, A, hP, hD, hS, hO, hJ⟩ := hV
  have hbA : ¬ aB s.heap.size b := fun h => absurd h (Nat.not_le.mpr hbl)
  obtain ⟨r, O1, M1, hv2, hv3, hJ1⟩ := j_undo (N := 1400) (Nat.le_refl _) hJ
  refine lv_aload_n hx hb dL_law_822 rfl (lv_at hl 1 rfl) ?_
  refine call_BVE (As := []) (rest := []) ⟨hx, hb, hml, hown, hts⟩ (tX2_undo (l := l) (dC := dC) (dI := dI) (cI := cI) (cB := cB) (cP := cP) (ad := ad) (Z := Z) (base := s.heap.size) (R := mdW cI cC ob q M) hv2 hO) (cwV 0 hts gL_law_X2_undo rfl rfl rfl (by decide +kernel) ⟨Nat.le_of_ble_eq_true rfl, Nat.le_of_ble_eq_true rfl⟩) hK2 hP hD hS hS.1 (fun U hU hW => Env_step rfl rfl hE hS hU hW) 0 rfl rfl (by rfl) hl.1 rfl (Nat.le_of_ble_eq_true rfl) dL_law_823 ⟨by show _ ≤ 600000; omega, by show _ ≤ 7302250; omega⟩ (fun H locs ws9 hW9 hP hD _ hS => ?_)
  obtain ⟨Z1, rfl, hO⟩ := hW9
  refine lv_aload_n hx hb dL_law_826 rfl (lv_at hl 2 rfl) ?_
  have hP9 : va_P (dC, dI) vwCl (outW cI cB cP ad Z1 O1 ++ (mdW cI cC ob q M ++ [])) H := by rw [List.append_nil]; exact hP
  have hD9 : va_D (aB s.heap.size) (outW cI cB cP ad Z1 O1 ++ (mdW cI cC ob q M ++ [])) := by rw [List.append_nil]; exact hD
  obtain ⟨w1, w2, w3⟩ := aL_in (L := mdL ob q) hP9 hD9 rfl
  refine call_VE (As := []) (rest := [.int r]) ⟨hx, hb, hml, hown, hts⟩ (tX3_undo (l := l) (dC := dC) (dI := dI) (cI := cI) (cC := cC) (ob := ob) (q := q) hv3) (cwV 0 hts gL_law_X3_undo rfl rfl rfl (by decide +kernel) ⟨Nat.le_of_ble_eq_true rfl, Nat.le_of_ble_eq_true rfl⟩) hK3 w1 w2 hS w3 0 rfl rfl (by rfl) hl.1 rfl (Nat.le_of_ble_eq_true rfl) dL_law_827 ⟨by show _ ≤ 600000; omega, by show _ ≤ 7302250; omega⟩ (fun H locs hP3 _ hk hS => ?_)
  obtain ⟨z1, z2⟩ := aL_back (w1 := mdW cI cC ob q M1) (L := mdL ob q) hP9 hD9 rfl rfl hP3 hk.2
  rw [List.append_nil] at z1 z2
  refine lv_icmp_eq (tgt := 861) hx hb dL_law_830 (by decide) (fun _ => ?_) (fun c1 => absurd rfl c1)
  refine W.widen (k := cells + 54) (n := slots + 13824) (by omega) (by omega) ?_
  exact kk H locs (LV_of z1 z2 hS hO (J_mono hJ1 (by omega)))
set_option maxHeartbeats 8000000 in
set_option maxRecDepth 100000 in
theorem law_c27 : LCase 835 := by
  intro p l e s m below meth c b L xs dC dI cI cB cC cP ad ob q B i cells slots H locs ls hF hV hB hi hL hl hcells hslots kk
  obtain ⟨hx, hb, hr, hml, hown, hts, hX, hbl, hlocks, hE, hK2, hK3⟩ := hF
  obtain ⟨Z, O, M, A, hP, hD, hS, hO, hJ⟩ := hV
  have hbA : ¬ aB s.heap.size b := fun h => absurd h (Nat.not_le.mpr hbl)
  obtain ⟨r, O1, M1, hv2, hv3, hJ1⟩ := j_save (N := 1400) (Nat.le_refl _) hJ
  refine lv_aload_n hx hb dL_law_835 rfl (lv_at hl 1 rfl) ?_
  refine call_BVE (As := []) (rest := []) ⟨hx, hb, hml, hown, hts⟩ (tX2_save (l := l) (dC := dC) (dI := dI) (cI := cI) (cB := cB) (cP := cP) (ad := ad) (Z := Z) (base := s.heap.size) (R := mdW cI cC ob q M) hv2 hO) (cwV 0 hts gL_law_X2_save rfl rfl rfl (by decide +kernel) ⟨Nat.le_of_ble_eq_true rfl, Nat.le_of_ble_eq_true rfl⟩) hK2 hP hD hS hS.1 (fun U hU hW => Env_step rfl rfl hE hS hU hW) 0 rfl rfl (by rfl) hl.1 rfl (Nat.le_of_ble_eq_true rfl) dL_law_836 ⟨by show _ ≤ 600000; omega, by show _ ≤ 7302250; omega⟩ (fun H locs ws9 hW9 hP hD _ hS => ?_)
  obtain ⟨Z1, rfl, hO⟩ := hW9
  refine lv_aload_n hx hb dL_law_839 rfl (lv_at hl 2 rfl) ?_
  have hP9 : va_P (dC, dI) vwCl (outW cI cB cP ad Z1 O1 ++ (mdW cI cC ob q M ++ [])) H := by rw [List.append_nil]; exact hP
  have hD9 : va_D (aB s.heap.size) (outW cI cB cP ad Z1 O1 ++ (mdW cI cC ob q M ++ [])) := by rw [List.append_nil]; exact hD
  obtain ⟨w1, w2, w3⟩ := aL_in (L := mdL ob q) hP9 hD9 rfl
  refine call_VE (As := []) (rest := [.int r]) ⟨hx, hb, hml, hown, hts⟩ (tX3_save (l := l) (dC := dC) (dI := dI) (cI := cI) (cC := cC) (ob := ob) (q := q) hv3) (cwV 0 hts gL_law_X3_save rfl rfl rfl (by decide +kernel) ⟨Nat.le_of_ble_eq_true rfl, Nat.le_of_ble_eq_true rfl⟩) hK3 w1 w2 hS w3 0 rfl rfl (by rfl) hl.1 rfl (Nat.le_of_ble_eq_true rfl) dL_law_840 ⟨by show _ ≤ 600000; omega, by show _ ≤ 7302250; omega⟩ (fun H locs hP3 _ hk hS => ?_)
  obtain ⟨z1, z2⟩ := aL_back (w1 := mdW cI cC ob q M1) (L := mdL ob q) hP9 hD9 rfl rfl hP3 hk.2
  rw [List.append_nil] at z1 z2
  refine lv_icmp_eq (tgt := 861) hx hb dL_law_843 (by decide) (fun _ => ?_) (fun c1 => absurd rfl c1)
  refine W.widen (k := cells + 54) (n := slots + 13824) (by omega) (by omega) ?_
  exact kk H locs (LV_of z1 z2 hS hO (J_mono hJ1 (by omega)))
set_option maxHeartbeats 8000000 in
set_option maxRecDepth 100000 in
theorem law_c28 : LCase 848 := by
  intro p l e s m below meth c b L xs dC dI cI cB cC cP ad ob q B i cells slots H locs ls hF hV hB hi hL hl hcells hslots kk
  obtain ⟨hx, hb, hr, hml, hown, hts, hX, hbl, hlocks, hE, hK2, hK3⟩ := hF
  obtain ⟨Z, O, M, A, hP, hD, hS, hO, hJ⟩ := hV
  have hbA : ¬ aB s.heap.size b := fun h => absurd h (Nat.not_le.mpr hbl)
  obtain ⟨r, O1, M1, hv2, hv3, hJ1⟩ := j_restore (N := 1400) (Nat.le_refl _) hJ
  refine lv_aload_n hx hb dL_law_848 rfl (lv_at hl 1 rfl) ?_
  refine call_BVE (As := []) (rest := []) ⟨hx, hb, hml, hown, hts⟩ (tX2_restore (l := l) (dC := dC) (dI := dI) (cI := cI) (cB := cB) (cP := cP) (ad := ad) (Z := Z) (base := s.heap.size) (R := mdW cI cC ob q M) hv2 hO) (cwV 0 hts gL_law_X2_restore rfl rfl rfl (by decide +kernel) ⟨Nat.le_of_ble_eq_true rfl, Nat.le_of_ble_eq_true rfl⟩) hK2 hP hD hS hS.1 (fun U hU hW => Env_step rfl rfl hE hS hU hW) 0 rfl rfl (by rfl) hl.1 rfl (Nat.le_of_ble_eq_true rfl) dL_law_849 ⟨by show _ ≤ 600000; omega, by show _ ≤ 7302250; omega⟩ (fun H locs ws9 hW9 hP hD _ hS => ?_)
  obtain ⟨Z1, rfl, hO⟩ := hW9
  refine lv_aload_n hx hb dL_law_852 rfl (lv_at hl 2 rfl) ?_
  have hP9 : va_P (dC, dI) vwCl (outW cI cB cP ad Z1 O1 ++ (mdW cI cC ob q M ++ [])) H := by rw [List.append_nil]; exact hP
  have hD9 : va_D (aB s.heap.size) (outW cI cB cP ad Z1 O1 ++ (mdW cI cC ob q M ++ [])) := by rw [List.append_nil]; exact hD
  obtain ⟨w1, w2, w3⟩ := aL_in (L := mdL ob q) hP9 hD9 rfl
  refine call_VE (As := []) (rest := [.int r]) ⟨hx, hb, hml, hown, hts⟩ (tX3_restore (l := l) (dC := dC) (dI := dI) (cI := cI) (cC := cC) (ob := ob) (q := q) hv3) (cwV 0 hts gL_law_X3_restore rfl rfl rfl (by decide +kernel) ⟨Nat.le_of_ble_eq_true rfl, Nat.le_of_ble_eq_true rfl⟩) hK3 w1 w2 hS w3 0 rfl rfl (by rfl) hl.1 rfl (Nat.le_of_ble_eq_true rfl) dL_law_853 ⟨by show _ ≤ 600000; omega, by show _ ≤ 7302250; omega⟩ (fun H locs hP3 _ hk hS => ?_)
  obtain ⟨z1, z2⟩ := aL_back (w1 := mdW cI cC ob q M1) (L := mdL ob q) hP9 hD9 rfl rfl hP3 hk.2
  rw [List.append_nil] at z1 z2
  refine lv_icmp_eq (tgt := 861) hx hb dL_law_856 (by decide) (fun _ => ?_) (fun c1 => absurd rfl c1)
  refine W.widen (k := cells + 54) (n := slots + 13824) (by omega) (by omega) ?_
  exact kk H locs (LV_of z1 z2 hS hO (J_mono hJ1 (by omega)))
