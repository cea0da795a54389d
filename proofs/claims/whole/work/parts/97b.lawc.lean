set_option maxHeartbeats 8000000 in
set_option maxRecDepth 100000 in
theorem law_c12 : LCase 530 := by
  intro p l e s m below meth c b L xs dC dI cI cB cC cP ad ob q B i cells slots H locs ls hF hV hB hi hL hl hcells hslots kk
  obtain ⟨hx, hb, hr, hml, hown, hts, hX, hbl, hlocks, hE, hK2, hK3⟩ := hF
  obtain ⟨Z, O, M, A, hP, hD, hS, hO, hJ⟩ := hV
  have hbA : ¬ aB s.heap.size b := fun h => absurd h (Nat.not_le.mpr hbl)
  have hi1 : vp_in (nI i + 1) L := law_in (k := 1) hL (by omega)
  have hi2 : vp_in (nI i + 2) L := law_in (k := 2) hL (by omega)
  obtain ⟨r, hv2, hv3⟩ := q_holders (N := 1400) (Nat.le_refl _) hJ.1 (by omega) hJ.2.1 hJ.2.2.1 (xs (nI i + 1).toNatClampNeg) (xs (nI i + 2).toNatClampNeg)
  refine lv_aload_n hx hb dL_law_530 rfl (lv_at hl 1 rfl) ?_
  refine lv_aload_n hx hb dL_law_531 rfl (lv_at hl 0 rfl) ?_
  refine lv_iload_n hx hb dL_law_532 rfl (lv_at hl 3 rfl) ?_
  refine lv_iconst (v := 1) hx hb dL_law_533 (by decide) ?_
  refine lv_iadd hx hb dL_law_534 ?_
  refine va_sld hx hb hX hbl hbA hS hi1 dL_law_535 ?_
  refine lv_aload_n hx hb dL_law_536 rfl (lv_at hl 0 rfl) ?_
  refine lv_iload_n hx hb dL_law_537 rfl (lv_at hl 3 rfl) ?_
  refine lv_iconst (v := 2) hx hb dL_law_538 (by decide) ?_
  refine lv_iadd hx hb dL_law_539 ?_
  refine va_sld hx hb hX hbl hbA hS hi2 dL_law_540 ?_
  refine call_BVP (As := [.int (xs (nI i + 1).toNatClampNeg), .int (xs (nI i + 2).toNatClampNeg)]) (rest := []) ⟨hx, hb, hml, hown, hts⟩ (tX2_holders (l := l) (dC := dC) (dI := dI) (cI := cI) (cB := cB) (cP := cP) (ad := ad) (Z := Z) (base := s.heap.size) (R := mdW cI cC ob q M) hv2 hO) (cwV 2 hts gL_law_X2_holders rfl rfl rfl (by decide +kernel) ⟨Nat.le_of_ble_eq_true rfl, Nat.le_of_ble_eq_true rfl⟩) hK2 hP hD hS.1 (fun U hU hW => Env_step rfl rfl hE hS hU hW) 0 rfl rfl (by rfl) hl.1 rfl (Nat.le_of_ble_eq_true rfl) dL_law_541 ⟨by show _ ≤ 600000; omega, by show _ ≤ 7302250; omega⟩ ?_
  refine lv_aload_n hx hb dL_law_544 rfl (lv_at hl 2 rfl) ?_
  refine lv_aload_n hx hb dL_law_545 rfl (lv_at hl 0 rfl) ?_
  refine lv_iload_n hx hb dL_law_546 rfl (lv_at hl 3 rfl) ?_
  refine lv_iconst (v := 1) hx hb dL_law_547 (by decide) ?_
  refine lv_iadd hx hb dL_law_548 ?_
  refine va_sld hx hb hX hbl hbA hS hi1 dL_law_549 ?_
  refine lv_aload_n hx hb dL_law_550 rfl (lv_at hl 0 rfl) ?_
  refine lv_iload_n hx hb dL_law_551 rfl (lv_at hl 3 rfl) ?_
  refine lv_iconst (v := 2) hx hb dL_law_552 (by decide) ?_
  refine lv_iadd hx hb dL_law_553 ?_
  refine va_sld hx hb hX hbl hbA hS hi2 dL_law_554 ?_
  refine call_VP (As := [.int (xs (nI i + 1).toNatClampNeg), .int (xs (nI i + 2).toNatClampNeg)]) (rest := [.int r]) ⟨hx, hb, hml, hown, hts⟩ (tX3_holders (l := l) (dC := dC) (dI := dI) (cI := cI) (cC := cC) (ob := ob) (q := q) hv3) (cwV 2 hts gL_law_X3_holders rfl rfl rfl (by decide +kernel) ⟨Nat.le_of_ble_eq_true rfl, Nat.le_of_ble_eq_true rfl⟩) hK3 (P_app.mp hP).2 0 rfl rfl (by rfl) hl.1 rfl (Nat.le_of_ble_eq_true rfl) dL_law_555 ⟨by show _ ≤ 600000; omega, by show _ ≤ 7302250; omega⟩ ?_
  refine lv_icmp_eq (tgt := 861) hx hb dL_law_558 (by decide) (fun _ => ?_) (fun c1 => absurd rfl c1)
  refine W.widen (k := cells + 54) (n := slots + 13824) (by omega) (by omega) ?_
  exact kk H locs (LV_of hP hD hS hO (J_mono hJ.toJ (by omega)))
set_option maxHeartbeats 8000000 in
set_option maxRecDepth 100000 in
theorem law_c13 : LCase 563 := by
  intro p l e s m below meth c b L xs dC dI cI cB cC cP ad ob q B i cells slots H locs ls hF hV hB hi hL hl hcells hslots kk
  obtain ⟨hx, hb, hr, hml, hown, hts, hX, hbl, hlocks, hE, hK2, hK3⟩ := hF
  obtain ⟨Z, O, M, A, hP, hD, hS, hO, hJ⟩ := hV
  have hbA : ¬ aB s.heap.size b := fun h => absurd h (Nat.not_le.mpr hbl)
  have hi1 : vp_in (nI i + 1) L := law_in (k := 1) hL (by omega)
  obtain ⟨r, hv2, hv3⟩ := q_letters (N := 1400) (Nat.le_refl _) hJ.1 (by omega) hJ.2.1 hJ.2.2.1 (xs (nI i + 1).toNatClampNeg)
  refine lv_aload_n hx hb dL_law_563 rfl (lv_at hl 1 rfl) ?_
  refine lv_aload_n hx hb dL_law_564 rfl (lv_at hl 0 rfl) ?_
  refine lv_iload_n hx hb dL_law_565 rfl (lv_at hl 3 rfl) ?_
  refine lv_iconst (v := 1) hx hb dL_law_566 (by decide) ?_
  refine lv_iadd hx hb dL_law_567 ?_
  refine va_sld hx hb hX hbl hbA hS hi1 dL_law_568 ?_
  refine call_BVP (As := [.int (xs (nI i + 1).toNatClampNeg)]) (rest := []) ⟨hx, hb, hml, hown, hts⟩ (tX2_letters (l := l) (dC := dC) (dI := dI) (cI := cI) (cB := cB) (cP := cP) (ad := ad) (Z := Z) (base := s.heap.size) (R := mdW cI cC ob q M) hv2 hO) (cwV 1 hts gL_law_X2_letters rfl rfl rfl (by decide +kernel) ⟨Nat.le_of_ble_eq_true rfl, Nat.le_of_ble_eq_true rfl⟩) hK2 hP hD hS.1 (fun U hU hW => Env_step rfl rfl hE hS hU hW) 0 rfl rfl (by rfl) hl.1 rfl (Nat.le_of_ble_eq_true rfl) dL_law_569 ⟨by show _ ≤ 600000; omega, by show _ ≤ 7302250; omega⟩ ?_
  refine lv_aload_n hx hb dL_law_572 rfl (lv_at hl 2 rfl) ?_
  refine lv_aload_n hx hb dL_law_573 rfl (lv_at hl 0 rfl) ?_
  refine lv_iload_n hx hb dL_law_574 rfl (lv_at hl 3 rfl) ?_
  refine lv_iconst (v := 1) hx hb dL_law_575 (by decide) ?_
  refine lv_iadd hx hb dL_law_576 ?_
  refine va_sld hx hb hX hbl hbA hS hi1 dL_law_577 ?_
  refine call_VP (As := [.int (xs (nI i + 1).toNatClampNeg)]) (rest := [.int r]) ⟨hx, hb, hml, hown, hts⟩ (tX3_letters (l := l) (dC := dC) (dI := dI) (cI := cI) (cC := cC) (ob := ob) (q := q) hv3) (cwV 1 hts gL_law_X3_letters rfl rfl rfl (by decide +kernel) ⟨Nat.le_of_ble_eq_true rfl, Nat.le_of_ble_eq_true rfl⟩) hK3 (P_app.mp hP).2 0 rfl rfl (by rfl) hl.1 rfl (Nat.le_of_ble_eq_true rfl) dL_law_578 ⟨by show _ ≤ 600000; omega, by show _ ≤ 7302250; omega⟩ ?_
  refine lv_icmp_eq (tgt := 861) hx hb dL_law_581 (by decide) (fun _ => ?_) (fun c1 => absurd rfl c1)
  refine W.widen (k := cells + 54) (n := slots + 13824) (by omega) (by omega) ?_
  exact kk H locs (LV_of hP hD hS hO (J_mono hJ.toJ (by omega)))
set_option maxHeartbeats 8000000 in
set_option maxRecDepth 100000 in
theorem law_c14 : LCase 586 := by
  intro p l e s m below meth c b L xs dC dI cI cB cC cP ad ob q B i cells slots H locs ls hF hV hB hi hL hl hcells hslots kk
  obtain ⟨hx, hb, hr, hml, hown, hts, hX, hbl, hlocks, hE, hK2, hK3⟩ := hF
  obtain ⟨Z, O, M, A, hP, hD, hS, hO, hJ⟩ := hV
  have hbA : ¬ aB s.heap.size b := fun h => absurd h (Nat.not_le.mpr hbl)
  have hi1 : vp_in (nI i + 1) L := law_in (k := 1) hL (by omega)
  obtain ⟨r, O1, M1, hv2, hv3, hJ1⟩ := j_would (N := 1400) (Nat.le_refl _) (by omega) hJ (xs (nI i + 1).toNatClampNeg)
  refine lv_aload_n hx hb dL_law_586 rfl (lv_at hl 1 rfl) ?_
  refine lv_aload_n hx hb dL_law_587 rfl (lv_at hl 0 rfl) ?_
  refine lv_iload_n hx hb dL_law_588 rfl (lv_at hl 3 rfl) ?_
  refine lv_iconst (v := 1) hx hb dL_law_589 (by decide) ?_
  refine lv_iadd hx hb dL_law_590 ?_
  refine va_sld hx hb hX hbl hbA hS hi1 dL_law_591 ?_
  refine call_BVE (As := [.int (xs (nI i + 1).toNatClampNeg)]) (rest := []) ⟨hx, hb, hml, hown, hts⟩ (tX2_would (l := l) (dC := dC) (dI := dI) (cI := cI) (cB := cB) (cP := cP) (ad := ad) (Z := Z) (base := s.heap.size) (R := mdW cI cC ob q M) hv2 hO) (cwV 1 hts gL_law_X2_would rfl rfl rfl (by decide +kernel) ⟨Nat.le_of_ble_eq_true rfl, Nat.le_of_ble_eq_true rfl⟩) hK2 hP hD hS hS.1 (fun U hU hW => Env_step rfl rfl hE hS hU hW) 0 rfl rfl (by rfl) hl.1 rfl (Nat.le_of_ble_eq_true rfl) dL_law_592 ⟨by show _ ≤ 600000; omega, by show _ ≤ 7302250; omega⟩ (fun H locs ws9 hW9 hP hD _ hS => ?_)
  obtain ⟨Z1, rfl, hO⟩ := hW9
  refine lv_aload_n hx hb dL_law_595 rfl (lv_at hl 2 rfl) ?_
  refine lv_aload_n hx hb dL_law_596 rfl (lv_at hl 0 rfl) ?_
  refine lv_iload_n hx hb dL_law_597 rfl (lv_at hl 3 rfl) ?_
  refine lv_iconst (v := 1) hx hb dL_law_598 (by decide) ?_
  refine lv_iadd hx hb dL_law_599 ?_
  refine va_sld hx hb hX hbl hbA hS hi1 dL_law_600 ?_
  have hP9 : va_P (dC, dI) vwCl (outW cI cB cP ad Z1 O1 ++ (mdW cI cC ob q M ++ [])) H := by rw [List.append_nil]; exact hP
  have hD9 : va_D (aB s.heap.size) (outW cI cB cP ad Z1 O1 ++ (mdW cI cC ob q M ++ [])) := by rw [List.append_nil]; exact hD
  obtain ⟨w1, w2, w3⟩ := aL_in (L := mdL ob q) hP9 hD9 rfl
  refine call_VE (As := [.int (xs (nI i + 1).toNatClampNeg)]) (rest := [.int r]) ⟨hx, hb, hml, hown, hts⟩ (tX3_would (l := l) (dC := dC) (dI := dI) (cI := cI) (cC := cC) (ob := ob) (q := q) hv3) (cwV 1 hts gL_law_X3_would rfl rfl rfl (by decide +kernel) ⟨Nat.le_of_ble_eq_true rfl, Nat.le_of_ble_eq_true rfl⟩) hK3 w1 w2 hS w3 0 rfl rfl (by rfl) hl.1 rfl (Nat.le_of_ble_eq_true rfl) dL_law_601 ⟨by show _ ≤ 600000; omega, by show _ ≤ 7302250; omega⟩ (fun H locs hP3 _ hk hS => ?_)
  obtain ⟨z1, z2⟩ := aL_back (w1 := mdW cI cC ob q M1) (L := mdL ob q) hP9 hD9 rfl rfl hP3 hk.2
  rw [List.append_nil] at z1 z2
  refine lv_icmp_eq (tgt := 861) hx hb dL_law_604 (by decide) (fun _ => ?_) (fun c1 => absurd rfl c1)
  refine W.widen (k := cells + 54) (n := slots + 13824) (by omega) (by omega) ?_
  exact kk H locs (LV_of z1 z2 hS hO (J_mono hJ1 (by omega)))
set_option maxHeartbeats 8000000 in
set_option maxRecDepth 100000 in
theorem law_c15 : LCase 609 := by
  intro p l e s m below meth c b L xs dC dI cI cB cC cP ad ob q B i cells slots H locs ls hF hV hB hi hL hl hcells hslots kk
  obtain ⟨hx, hb, hr, hml, hown, hts, hX, hbl, hlocks, hE, hK2, hK3⟩ := hF
  obtain ⟨Z, O, M, A, hP, hD, hS, hO, hJ⟩ := hV
  have hbA : ¬ aB s.heap.size b := fun h => absurd h (Nat.not_le.mpr hbl)
  obtain ⟨r, O1, M1, hv2, hv3, hJ1⟩ := j_captainIn (N := 1400) (Nat.le_refl _) (by omega) hJ
  refine lv_aload_n hx hb dL_law_609 rfl (lv_at hl 1 rfl) ?_
  refine call_BVE (As := []) (rest := []) ⟨hx, hb, hml, hown, hts⟩ (tX2_captainIn (l := l) (dC := dC) (dI := dI) (cI := cI) (cB := cB) (cP := cP) (ad := ad) (Z := Z) (base := s.heap.size) (R := mdW cI cC ob q M) hv2 hO) (cwV 0 hts gL_law_X2_captainIn rfl rfl rfl (by decide +kernel) ⟨Nat.le_of_ble_eq_true rfl, Nat.le_of_ble_eq_true rfl⟩) hK2 hP hD hS hS.1 (fun U hU hW => Env_step rfl rfl hE hS hU hW) 0 rfl rfl (by rfl) hl.1 rfl (Nat.le_of_ble_eq_true rfl) dL_law_610 ⟨by show _ ≤ 600000; omega, by show _ ≤ 7302250; omega⟩ (fun H locs ws9 hW9 hP hD _ hS => ?_)
  obtain ⟨Z1, rfl, hO⟩ := hW9
  refine lv_aload_n hx hb dL_law_613 rfl (lv_at hl 2 rfl) ?_
  have hP9 : va_P (dC, dI) vwCl (outW cI cB cP ad Z1 O1 ++ (mdW cI cC ob q M ++ [])) H := by rw [List.append_nil]; exact hP
  have hD9 : va_D (aB s.heap.size) (outW cI cB cP ad Z1 O1 ++ (mdW cI cC ob q M ++ [])) := by rw [List.append_nil]; exact hD
  obtain ⟨w1, w2, w3⟩ := aL_in (L := mdL ob q) hP9 hD9 rfl
  refine call_VE (As := []) (rest := [.int r]) ⟨hx, hb, hml, hown, hts⟩ (tX3_captainIn (l := l) (dC := dC) (dI := dI) (cI := cI) (cC := cC) (ob := ob) (q := q) hv3) (cwV 0 hts gL_law_X3_captainIn rfl rfl rfl (by decide +kernel) ⟨Nat.le_of_ble_eq_true rfl, Nat.le_of_ble_eq_true rfl⟩) hK3 w1 w2 hS w3 0 rfl rfl (by rfl) hl.1 rfl (Nat.le_of_ble_eq_true rfl) dL_law_614 ⟨by show _ ≤ 600000; omega, by show _ ≤ 7302250; omega⟩ (fun H locs hP3 _ hk hS => ?_)
  obtain ⟨z1, z2⟩ := aL_back (w1 := mdW cI cC ob q M1) (L := mdL ob q) hP9 hD9 rfl rfl hP3 hk.2
  rw [List.append_nil] at z1 z2
  refine lv_icmp_eq (tgt := 861) hx hb dL_law_617 (by decide) (fun _ => ?_) (fun c1 => absurd rfl c1)
  refine W.widen (k := cells + 54) (n := slots + 13824) (by omega) (by omega) ?_
  exact kk H locs (LV_of z1 z2 hS hO (J_mono hJ1 (by omega)))
set_option maxHeartbeats 8000000 in
set_option maxRecDepth 100000 in
theorem law_c16 : LCase 622 := by
  intro p l e s m below meth c b L xs dC dI cI cB cC cP ad ob q B i cells slots H locs ls hF hV hB hi hL hl hcells hslots kk
  obtain ⟨hx, hb, hr, hml, hown, hts, hX, hbl, hlocks, hE, hK2, hK3⟩ := hF
  obtain ⟨Z, O, M, A, hP, hD, hS, hO, hJ⟩ := hV
  have hbA : ¬ aB s.heap.size b := fun h => absurd h (Nat.not_le.mpr hbl)
  have hi1 : vp_in (nI i + 1) L := law_in (k := 1) hL (by omega)
  obtain ⟨r, hv2, hv3⟩ := q_ranked (N := 1400) (Nat.le_refl _) hJ.1 (by omega) hJ.2.1 hJ.2.2.1 (xs (nI i + 1).toNatClampNeg)
  refine lv_aload_n hx hb dL_law_622 rfl (lv_at hl 1 rfl) ?_
  refine lv_aload_n hx hb dL_law_623 rfl (lv_at hl 0 rfl) ?_
  refine lv_iload_n hx hb dL_law_624 rfl (lv_at hl 3 rfl) ?_
  refine lv_iconst (v := 1) hx hb dL_law_625 (by decide) ?_
  refine lv_iadd hx hb dL_law_626 ?_
  refine va_sld hx hb hX hbl hbA hS hi1 dL_law_627 ?_
  refine call_BVP (As := [.int (xs (nI i + 1).toNatClampNeg)]) (rest := []) ⟨hx, hb, hml, hown, hts⟩ (tX2_ranked (l := l) (dC := dC) (dI := dI) (cI := cI) (cB := cB) (cP := cP) (ad := ad) (Z := Z) (base := s.heap.size) (R := mdW cI cC ob q M) hv2 hO) (cwV 1 hts gL_law_X2_ranked rfl rfl rfl (by decide +kernel) ⟨Nat.le_of_ble_eq_true rfl, Nat.le_of_ble_eq_true rfl⟩) hK2 hP hD hS.1 (fun U hU hW => Env_step rfl rfl hE hS hU hW) 0 rfl rfl (by rfl) hl.1 rfl (Nat.le_of_ble_eq_true rfl) dL_law_628 ⟨by show _ ≤ 600000; omega, by show _ ≤ 7302250; omega⟩ ?_
  refine lv_aload_n hx hb dL_law_631 rfl (lv_at hl 2 rfl) ?_
  refine lv_aload_n hx hb dL_law_632 rfl (lv_at hl 0 rfl) ?_
  refine lv_iload_n hx hb dL_law_633 rfl (lv_at hl 3 rfl) ?_
  refine lv_iconst (v := 1) hx hb dL_law_634 (by decide) ?_
  refine lv_iadd hx hb dL_law_635 ?_
  refine va_sld hx hb hX hbl hbA hS hi1 dL_law_636 ?_
  refine call_VP (As := [.int (xs (nI i + 1).toNatClampNeg)]) (rest := [.int r]) ⟨hx, hb, hml, hown, hts⟩ (tX3_ranked (l := l) (dC := dC) (dI := dI) (cI := cI) (cC := cC) (ob := ob) (q := q) hv3) (cwV 1 hts gL_law_X3_ranked rfl rfl rfl (by decide +kernel) ⟨Nat.le_of_ble_eq_true rfl, Nat.le_of_ble_eq_true rfl⟩) hK3 (P_app.mp hP).2 0 rfl rfl (by rfl) hl.1 rfl (Nat.le_of_ble_eq_true rfl) dL_law_637 ⟨by show _ ≤ 600000; omega, by show _ ≤ 7302250; omega⟩ ?_
  refine lv_icmp_eq (tgt := 861) hx hb dL_law_640 (by decide) (fun _ => ?_) (fun c1 => absurd rfl c1)
  refine W.widen (k := cells + 54) (n := slots + 13824) (by omega) (by omega) ?_
  exact kk H locs (LV_of hP hD hS hO (J_mono hJ.toJ (by omega)))
set_option maxHeartbeats 8000000 in
set_option maxRecDepth 100000 in
theorem law_c17 : LCase 645 := by
  intro p l e s m below meth c b L xs dC dI cI cB cC cP ad ob q B i cells slots H locs ls hF hV hB hi hL hl hcells hslots kk
  obtain ⟨hx, hb, hr, hml, hown, hts, hX, hbl, hlocks, hE, hK2, hK3⟩ := hF
  obtain ⟨Z, O, M, A, hP, hD, hS, hO, hJ⟩ := hV
  have hbA : ¬ aB s.heap.size b := fun h => absurd h (Nat.not_le.mpr hbl)
  have hi1 : vp_in (nI i + 1) L := law_in (k := 1) hL (by omega)
  obtain ⟨r, O1, M1, hv2, hv3, hJ1⟩ := j_describe (N := 1400) (by omega) hJ (xs (nI i + 1).toNatClampNeg)
  refine lv_aload_n hx hb dL_law_645 rfl (lv_at hl 1 rfl) ?_
  refine lv_aload_n hx hb dL_law_646 rfl (lv_at hl 0 rfl) ?_
  refine lv_iload_n hx hb dL_law_647 rfl (lv_at hl 3 rfl) ?_
  refine lv_iconst (v := 1) hx hb dL_law_648 (by decide) ?_
  refine lv_iadd hx hb dL_law_649 ?_
  refine va_sld hx hb hX hbl hbA hS hi1 dL_law_650 ?_
  refine call_BVE (As := [.int (xs (nI i + 1).toNatClampNeg)]) (rest := []) ⟨hx, hb, hml, hown, hts⟩ (tX2_describe (l := l) (dC := dC) (dI := dI) (cI := cI) (cB := cB) (cP := cP) (ad := ad) (Z := Z) (base := s.heap.size) (R := mdW cI cC ob q M) hv2 hO) (cwV 1 hts gL_law_X2_describe rfl rfl rfl (by decide +kernel) ⟨Nat.le_of_ble_eq_true rfl, Nat.le_of_ble_eq_true rfl⟩) hK2 hP hD hS hS.1 (fun U hU hW => Env_step rfl rfl hE hS hU hW) 0 rfl rfl (by rfl) hl.1 rfl (Nat.le_of_ble_eq_true rfl) dL_law_651 ⟨by show _ ≤ 600000; omega, by show _ ≤ 7302250; omega⟩ (fun H locs ws9 hW9 hP hD _ hS => ?_)
  obtain ⟨Z1, rfl, hO⟩ := hW9
  refine lv_aload_n hx hb dL_law_654 rfl (lv_at hl 2 rfl) ?_
  refine lv_aload_n hx hb dL_law_655 rfl (lv_at hl 0 rfl) ?_
  refine lv_iload_n hx hb dL_law_656 rfl (lv_at hl 3 rfl) ?_
  refine lv_iconst (v := 1) hx hb dL_law_657 (by decide) ?_
  refine lv_iadd hx hb dL_law_658 ?_
  refine va_sld hx hb hX hbl hbA hS hi1 dL_law_659 ?_
  have hP9 : va_P (dC, dI) vwCl (outW cI cB cP ad Z1 O1 ++ (mdW cI cC ob q M ++ [])) H := by rw [List.append_nil]; exact hP
  have hD9 : va_D (aB s.heap.size) (outW cI cB cP ad Z1 O1 ++ (mdW cI cC ob q M ++ [])) := by rw [List.append_nil]; exact hD
  obtain ⟨w1, w2, w3⟩ := aL_in (L := mdL ob q) hP9 hD9 rfl
  refine call_VE (As := [.int (xs (nI i + 1).toNatClampNeg)]) (rest := [.int r]) ⟨hx, hb, hml, hown, hts⟩ (tX3_describe (l := l) (dC := dC) (dI := dI) (cI := cI) (cC := cC) (ob := ob) (q := q) hv3) (cwV 1 hts gL_law_X3_describe rfl rfl rfl (by decide +kernel) ⟨Nat.le_of_ble_eq_true rfl, Nat.le_of_ble_eq_true rfl⟩) hK3 w1 w2 hS w3 0 rfl rfl (by rfl) hl.1 rfl (Nat.le_of_ble_eq_true rfl) dL_law_660 ⟨by show _ ≤ 600000; omega, by show _ ≤ 7302250; omega⟩ (fun H locs hP3 _ hk hS => ?_)
  obtain ⟨z1, z2⟩ := aL_back (w1 := mdW cI cC ob q M1) (L := mdL ob q) hP9 hD9 rfl rfl hP3 hk.2
  rw [List.append_nil] at z1 z2
  refine lv_icmp_eq (tgt := 861) hx hb dL_law_663 (by decide) (fun _ => ?_) (fun c1 => absurd rfl c1)
  refine W.widen (k := cells + 54) (n := slots + 13824) (by omega) (by omega) ?_
  exact kk H locs (LV_of z1 z2 hS hO (J_mono hJ1 (by omega)))
set_option maxHeartbeats 8000000 in
set_option maxRecDepth 100000 in
theorem law_c19 : LCase 691 := by
  intro p l e s m below meth c b L xs dC dI cI cB cC cP ad ob q B i cells slots H locs ls hF hV hB hi hL hl hcells hslots kk
  obtain ⟨hx, hb, hr, hml, hown, hts, hX, hbl, hlocks, hE, hK2, hK3⟩ := hF
  obtain ⟨Z, O, M, A, hP, hD, hS, hO, hJ⟩ := hV
  have hbA : ¬ aB s.heap.size b := fun h => absurd h (Nat.not_le.mpr hbl)
  have hi1 : vp_in (nI i + 1) L := law_in (k := 1) hL (by omega)
  obtain ⟨r, hv2, hv3⟩ := q_sign (N := 1400) hJ.2.2.2.2.2.2.1 (xs (nI i + 1).toNatClampNeg)
  refine lv_aload_n hx hb dL_law_691 rfl (lv_at hl 1 rfl) ?_
  refine lv_aload_n hx hb dL_law_692 rfl (lv_at hl 0 rfl) ?_
  refine lv_iload_n hx hb dL_law_693 rfl (lv_at hl 3 rfl) ?_
  refine lv_iconst (v := 1) hx hb dL_law_694 (by decide) ?_
  refine lv_iadd hx hb dL_law_695 ?_
  refine va_sld hx hb hX hbl hbA hS hi1 dL_law_696 ?_
  refine call_BVP (As := [.int (xs (nI i + 1).toNatClampNeg)]) (rest := []) ⟨hx, hb, hml, hown, hts⟩ (tX2_sign (l := l) (dC := dC) (dI := dI) (cI := cI) (cB := cB) (cP := cP) (ad := ad) (Z := Z) (base := s.heap.size) (R := mdW cI cC ob q M) hv2 hO) (cwV 1 hts gL_law_X2_sign rfl rfl rfl (by decide +kernel) ⟨Nat.le_of_ble_eq_true rfl, Nat.le_of_ble_eq_true rfl⟩) hK2 hP hD hS.1 (fun U hU hW => Env_step rfl rfl hE hS hU hW) 0 rfl rfl (by rfl) hl.1 rfl (Nat.le_of_ble_eq_true rfl) dL_law_697 ⟨by show _ ≤ 600000; omega, by show _ ≤ 7302250; omega⟩ ?_
  refine lv_aload_n hx hb dL_law_700 rfl (lv_at hl 2 rfl) ?_
  refine lv_aload_n hx hb dL_law_701 rfl (lv_at hl 0 rfl) ?_
  refine lv_iload_n hx hb dL_law_702 rfl (lv_at hl 3 rfl) ?_
  refine lv_iconst (v := 1) hx hb dL_law_703 (by decide) ?_
  refine lv_iadd hx hb dL_law_704 ?_
  refine va_sld hx hb hX hbl hbA hS hi1 dL_law_705 ?_
  refine call_VP (As := [.int (xs (nI i + 1).toNatClampNeg)]) (rest := [.int r]) ⟨hx, hb, hml, hown, hts⟩ (tX3_sign (l := l) (dC := dC) (dI := dI) (cI := cI) (cC := cC) (ob := ob) (q := q) hv3) (cwV 1 hts gL_law_X3_sign rfl rfl rfl (by decide +kernel) ⟨Nat.le_of_ble_eq_true rfl, Nat.le_of_ble_eq_true rfl⟩) hK3 (P_app.mp hP).2 0 rfl rfl (by rfl) hl.1 rfl (Nat.le_of_ble_eq_true rfl) dL_law_706 ⟨by show _ ≤ 600000; omega, by show _ ≤ 7302250; omega⟩ ?_
  refine lv_icmp_eq (tgt := 861) hx hb dL_law_709 (by decide) (fun _ => ?_) (fun c1 => absurd rfl c1)
  refine W.widen (k := cells + 54) (n := slots + 13824) (by omega) (by omega) ?_
  exact kk H locs (LV_of hP hD hS hO (J_mono hJ.toJ (by omega)))
set_option maxHeartbeats 8000000 in
set_option maxRecDepth 100000 in
theorem law_c20 : LCase 714 := by
  intro p l e s m below meth c b L xs dC dI cI cB cC cP ad ob q B i cells slots H locs ls hF hV hB hi hL hl hcells hslots kk
  obtain ⟨hx, hb, hr, hml, hown, hts, hX, hbl, hlocks, hE, hK2, hK3⟩ := hF
  obtain ⟨Z, O, M, A, hP, hD, hS, hO, hJ⟩ := hV
  have hbA : ¬ aB s.heap.size b := fun h => absurd h (Nat.not_le.mpr hbl)
  have hi1 : vp_in (nI i + 1) L := law_in (k := 1) hL (by omega)
  obtain ⟨r, O1, M1, hv2, hv3, hJ1⟩ := j_append (N := 1400) hJ (xs (nI i + 1).toNatClampNeg)
  refine lv_aload_n hx hb dL_law_714 rfl (lv_at hl 1 rfl) ?_
  refine lv_aload_n hx hb dL_law_715 rfl (lv_at hl 0 rfl) ?_
  refine lv_iload_n hx hb dL_law_716 rfl (lv_at hl 3 rfl) ?_
  refine lv_iconst (v := 1) hx hb dL_law_717 (by decide) ?_
  refine lv_iadd hx hb dL_law_718 ?_
  refine va_sld hx hb hX hbl hbA hS hi1 dL_law_719 ?_
  refine call_BVE (As := [.int (xs (nI i + 1).toNatClampNeg)]) (rest := []) ⟨hx, hb, hml, hown, hts⟩ (tX2_append (l := l) (dC := dC) (dI := dI) (cI := cI) (cB := cB) (cP := cP) (ad := ad) (Z := Z) (base := s.heap.size) (R := mdW cI cC ob q M) hv2 hO) (cwV 1 hts gL_law_X2_append rfl rfl rfl (by decide +kernel) ⟨Nat.le_of_ble_eq_true rfl, Nat.le_of_ble_eq_true rfl⟩) hK2 hP hD hS hS.1 (fun U hU hW => Env_step rfl rfl hE hS hU hW) 0 rfl rfl (by rfl) hl.1 rfl (Nat.le_of_ble_eq_true rfl) dL_law_720 ⟨by show _ ≤ 600000; omega, by show _ ≤ 7302250; omega⟩ (fun H locs ws9 hW9 hP hD _ hS => ?_)
  obtain ⟨Z1, rfl, hO⟩ := hW9
  refine lv_aload_n hx hb dL_law_723 rfl (lv_at hl 2 rfl) ?_
  refine lv_aload_n hx hb dL_law_724 rfl (lv_at hl 0 rfl) ?_
  refine lv_iload_n hx hb dL_law_725 rfl (lv_at hl 3 rfl) ?_
  refine lv_iconst (v := 1) hx hb dL_law_726 (by decide) ?_
  refine lv_iadd hx hb dL_law_727 ?_
  refine va_sld hx hb hX hbl hbA hS hi1 dL_law_728 ?_
  have hP9 : va_P (dC, dI) vwCl (outW cI cB cP ad Z1 O1 ++ (mdW cI cC ob q M ++ [])) H := by rw [List.append_nil]; exact hP
  have hD9 : va_D (aB s.heap.size) (outW cI cB cP ad Z1 O1 ++ (mdW cI cC ob q M ++ [])) := by rw [List.append_nil]; exact hD
  obtain ⟨w1, w2, w3⟩ := aL_in (L := mdL ob q) hP9 hD9 rfl
  refine call_VE (As := [.int (xs (nI i + 1).toNatClampNeg)]) (rest := [.int r]) ⟨hx, hb, hml, hown, hts⟩ (tX3_append (l := l) (dC := dC) (dI := dI) (cI := cI) (cC := cC) (ob := ob) (q := q) hv3) (cwV 1 hts gL_law_X3_append rfl rfl rfl (by decide +kernel) ⟨Nat.le_of_ble_eq_true rfl, Nat.le_of_ble_eq_true rfl⟩) hK3 w1 w2 hS w3 0 rfl rfl (by rfl) hl.1 rfl (Nat.le_of_ble_eq_true rfl) dL_law_729 ⟨by show _ ≤ 600000; omega, by show _ ≤ 7302250; omega⟩ (fun H locs hP3 _ hk hS => ?_)
  obtain ⟨z1, z2⟩ := aL_back (w1 := mdW cI cC ob q M1) (L := mdL ob q) hP9 hD9 rfl rfl hP3 hk.2
  rw [List.append_nil] at z1 z2
  refine lv_icmp_eq (tgt := 861) hx hb dL_law_732 (by decide) (fun _ => ?_) (fun c1 => absurd rfl c1)
  refine W.widen (k := cells + 54) (n := slots + 13824) (by omega) (by omega) ?_
  exact kk H locs (LV_of z1 z2 hS hO (J_mono hJ1 (by omega)))
