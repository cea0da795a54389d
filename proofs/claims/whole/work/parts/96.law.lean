/-! ===== the law ===== -/
theorem A0t_z : ∀ f i, f ≠ 3 → f ≠ 9 → A0t f i = 0 := fun f i h3 h9 => by
  unfold A0t
  rw [if_neg h3, if_neg h9]
theorem St_i : St 12 A0t := by
  refine ⟨Nat.le_refl _, Inv_0 A0t_z, ?_, ?_, ?_⟩
  · intro f i
    by_cases h3 : f = 3
    · subst h3
      show (if i < 5 then 1 else 0) ≤ 1
      split <;> omega
    · by_cases h9 : f = 9
      · subst h9
        show (if i < 25 ∧ i / 5 ≠ i % 5 then 1 else 0) ≤ 1
        split <;> omega
      · rw [A0t_z f i h3 h9]
        exact Nat.zero_le _
  · intro a ha
    exact (by decide : ∀ a, a < 5 → A0t 9 (a * 5 + a) = 0) a ha
  · intro a b ha hb
    exact (by decide : ∀ a, a < 5 → ∀ b, b < 5 → A0t 9 (a * 5 + b) = A0t 9 (b * 5 + a)) a ha b hb
set_option maxRecDepth 100000 in
theorem J_i : J 12 Oi K3i := by
  refine ⟨A0t, St_i, rfl, by decide +kernel, ?_, ?_, ?_, ?_, by decide⟩
  · exact ⟨0, 0, fun _ => A0t, 0, A0t, by decide, by decide, by decide, fun j hj => absurd hj (Nat.not_lt_zero j), fun h => absurd h (by decide), fun j hj => absurd hj (Nat.not_lt_zero j), fun h => absurd h (by decide), ⟨by decide, by decide, by decide⟩, fun j hj => absurd hj (Nat.not_lt_zero j), fun h => absurd h (by decide), by decide, by decide⟩
  · exact Or.inl ⟨by decide, by decide, by decide, by decide⟩
  · exact ⟨0, fun _ => 0, by decide, ⟨by decide, by decide⟩, fun i hi => absurd hi (Nat.not_lt_zero i)⟩
  · exact ⟨0, fun _ => 0, by decide, ⟨by decide, by decide⟩, fun i hi => absurd hi (Nat.not_lt_zero i)⟩
theorem md_exact {D : va_G} {cl : List vw_C} {cI cC : ClassId} {ob : Nat} {q : Nat → Nat} {M : KT} {A : AT} {X : va_W} {H : Heap} (h : ∀ x, x < 186 → M 0 x = pcM A x) (hP : va_P D cl (X ++ mdW cI cC ob q M) H) : va_P D cl (X ++ mdW cI cC ob q (rm M A)) H := by
  rw [P_app] at hP ⊢
  refine ⟨hP.1, ?_⟩
  have e : mdW cI cC ob q (rm M A) = (mdW cI cC ob q M).set 1 (q 0, .inl (cI, 186, .inl (pcM A))) := rfl
  intro k x hk
  rw [e] at hk
  by_cases hk1 : k = 1
  · subst hk1
    cases hk
    have h1 : H[q 0]? = some (vp_cell cI (186, .inl (M 0))) := hP.2 1 _ rfl
    show H[q 0]? = some (vp_cell cI (186, .inl (pcM A)))
    rw [h1, arr_congr h]
  · rw [List.getElem?_set_ne (Ne.symm hk1)] at hk
    exact hP.2 k x hk
theorem lD_tail {A : Nat → Prop} {X a b : va_W} (h : a.map Prod.fst = b.map Prod.fst) (hD : va_D A (X ++ a)) : va_D A (X ++ b) := by
  rw [D_iff, List.map_append] at hD ⊢
  rw [← h]
  exact hD
/-- the world between two commands of the script -/
def LV (dC : Nat → ClassId) (dI : Nat → Nat → Nat) (cI cB cC cP : ClassId) (ad : Nat → Nat → Nat) (ob : Nat) (q : Nat → Nat) (H0 : Heap) (B : Nat) (H : Heap) (locs : List Loc) : Prop :=
  ∃ (Z : Nat → Nat) (O : OT) (M : KT) (A : AT), va_P (dC, dI) vwCl (outW cI cB cP ad Z O ++ mdW cI cC ob q M) H ∧ va_D (aB H0.size) (outW cI cB cP ad Z O ++ mdW cI cC ob q M) ∧ va_S (aB H0.size) H0 H locs ∧ OF Z O ∧ JX B A O M
theorem LV_of {dC : Nat → ClassId} {dI : Nat → Nat → Nat} {cI cB cC cP : ClassId} {ad : Nat → Nat → Nat} {ob : Nat} {q : Nat → Nat} {H0 : Heap} {B : Nat} {H : Heap} {locs : List Loc} {Z : Nat → Nat} {O : OT} {M : KT} (hP : va_P (dC, dI) vwCl (outW cI cB cP ad Z O ++ mdW cI cC ob q M) H) (hD : va_D (aB H0.size) (outW cI cB cP ad Z O ++ mdW cI cC ob q M)) (hS : va_S (aB H0.size) H0 H locs) (hO : OF Z O) (hJ : J B O M) : LV dC dI cI cB cC cP ad ob q H0 B H locs := by
  obtain ⟨A, hx, he⟩ := J_exact hJ
  exact ⟨Z, O, rm M A, A, md_exact he hP, lD_tail (a := mdW cI cC ob q M) (b := mdW cI cC ob q (rm M A)) rfl hD, hS, hO, hx⟩
/-- what stays -/
def LFix (p : Program) (s : State) (m : MethodId) (meth : Method) (c : Code) (b L : Nat) (xs : Nat → Int32) (dC : Nat → ClassId) (dI : Nat → Nat → Nat) (cI cB cC cP : ClassId) : Prop :=
  p.tables.exec = Jvm.exec ∧ c.code = code ∧ meth.sig.returnType = ret ∧ c.maxLocals = 4 ∧ s.vm.findClass RL = some m.cls ∧ (∀ w ∈ wsL_law, w.before #[Value.ref b] s = true) ∧ va_X b L xs s s.heap ∧ b < s.heap.size ∧ meth.locks = false ∧ EnvB s.heap.size s ∧ va_K (dC, dI) vwCl [(cI, .int), (cB, .byte), (cP, .object RX0)] s ∧ va_K (dC, dI) vwCl [(cI, .int), (cC, .char)] s
abbrev LW (p : Program) (l : Launch) (e : Env) (s : State) (m : MethodId) (b : Nat) (below : List Frame) (meth : Method) (c : Code) (H : Heap) (locs : List Loc) (cells slots : Nat) (g : JFrame) : Prop := W p l e room_1 s m #[Value.ref b] below meth c H locs cells slots (lw_Z below #[Value.ref b] s) g
/-- one command of the script -/
def LCase (pc : Nat) : Prop := ∀ (p : Program) (l : Launch) (e : Env) (s : State) (m : MethodId) (below : List Frame) (meth : Method) (c : Code) (b L : Nat) (xs : Nat → Int32) (dC : Nat → ClassId) (dI : Nat → Nat → Nat) (cI cB cC cP : ClassId) (ad : Nat → Nat → Nat) (ob : Nat) (q : Nat → Nat) (B i cells slots : Nat) (H : Heap) (locs : List Loc) (ls : Array Slot),
  LFix p s m meth c b L xs dC dI cI cB cC cP → LV dC dI cI cB cC cP ad ob q s.heap B H locs → B ≤ 500000000 → i + 4 ≤ L → L ≤ 2048 → lv_has ls 4 [(0, .ref b), (1, .ref (ad 0 0)), (2, .ref ob), (3, .int (nI i))] → cells + 54 ≤ 600000 → slots + 13824 ≤ 7302250 →
  (∀ (H1 : Heap) (locs1 : List Loc), LV dC dI cI cB cC cP ad ob q s.heap (B + 800000) H1 locs1 → LW p l e s m b below meth c H1 locs1 (cells + 54) (slots + 13824) (F0 m 861 ls [])) → LW p l e s m b below meth c H locs cells slots (F0 m pc ls [])
theorem law_in {L i k : Nat} (hL : L ≤ 2048) (h : i + k < L) : vp_in (nI i + nI k) L := by
  rw [nadd]
  exact nI_in h (by omega)
set_option maxHeartbeats 8000000 in
set_option maxRecDepth 100000 in
theorem law_c0 : LCase 164 := by
  intro p l e s m below meth c b L xs dC dI cI cB cC cP ad ob q B i cells slots H locs ls hF hV hB hi hL hl hcells hslots kk
  obtain ⟨hx, hb, hr, hml, hown, hts, hX, hbl, hlocks, hE, hK2, hK3⟩ := hF
  obtain ⟨Z, O, M, A, hP, hD, hS, hO, hJ⟩ := hV
  have hbA : ¬ aB s.heap.size b := fun h => absurd h (Nat.not_le.mpr hbl)
  have hi1 : vp_in (nI i + 1) L := law_in (k := 1) hL (by omega)
  obtain ⟨r, O1, M1, hv2, hv3, hJ1⟩ := j_dusk (N := 1400) (Nat.le_refl _) (by omega) hJ (xs (nI i + 1).toNatClampNeg)
  refine lv_aload_n hx hb dL_law_164 rfl (lv_at hl 1 rfl) ?_
  refine lv_aload_n hx hb dL_law_165 rfl (lv_at hl 0 rfl) ?_
  refine lv_iload_n hx hb dL_law_166 rfl (lv_at hl 3 rfl) ?_
  refine lv_iconst (v := 1) hx hb dL_law_167 (by decide) ?_
  refine lv_iadd hx hb dL_law_168 ?_
  refine va_sld hx hb hX hbl hbA hS hi1 dL_law_169 ?_
  refine call_BVE (As := [.int (xs (nI i + 1).toNatClampNeg)]) (rest := []) ⟨hx, hb, hml, hown, hts⟩ (tX2_dusk (l := l) (dC := dC) (dI := dI) (cI := cI) (cB := cB) (cP := cP) (ad := ad) (Z := Z) (base := s.heap.size) (R := mdW cI cC ob q M) hv2 hO) (cwV 1 hts gL_law_X2_dusk rfl rfl rfl (by decide +kernel) ⟨Nat.le_of_ble_eq_true rfl, Nat.le_of_ble_eq_true rfl⟩) hK2 hP hD hS hS.1 (fun U hU hW => Env_step rfl rfl hE hS hU hW) 0 rfl rfl (by rfl) hl.1 rfl (Nat.le_of_ble_eq_true rfl) dL_law_170 ⟨by show _ ≤ 600000; omega, by show _ ≤ 7302250; omega⟩ (fun H locs ws9 hW9 hP hD _ hS => ?_)
  obtain ⟨Z1, rfl, hO⟩ := hW9
  refine lv_aload_n hx hb dL_law_173 rfl (lv_at hl 2 rfl) ?_
  refine lv_aload_n hx hb dL_law_174 rfl (lv_at hl 0 rfl) ?_
  refine lv_iload_n hx hb dL_law_175 rfl (lv_at hl 3 rfl) ?_
  refine lv_iconst (v := 1) hx hb dL_law_176 (by decide) ?_
  refine lv_iadd hx hb dL_law_177 ?_
  refine va_sld hx hb hX hbl hbA hS hi1 dL_law_178 ?_
  have hP9 : va_P (dC, dI) vwCl (outW cI cB cP ad Z1 O1 ++ (mdW cI cC ob q M ++ [])) H := by rw [List.append_nil]; exact hP
  have hD9 : va_D (aB s.heap.size) (outW cI cB cP ad Z1 O1 ++ (mdW cI cC ob q M ++ [])) := by rw [List.append_nil]; exact hD
  obtain ⟨w1, w2, w3⟩ := aL_in (L := mdL ob q) hP9 hD9 rfl
  refine call_VE (As := [.int (xs (nI i + 1).toNatClampNeg)]) (rest := [.int r]) ⟨hx, hb, hml, hown, hts⟩ (tX3_dusk (l := l) (dC := dC) (dI := dI) (cI := cI) (cC := cC) (ob := ob) (q := q) hv3) (cwV 1 hts gL_law_X3_dusk rfl rfl rfl (by decide +kernel) ⟨Nat.le_of_ble_eq_true rfl, Nat.le_of_ble_eq_true rfl⟩) hK3 w1 w2 hS w3 0 rfl rfl (by rfl) hl.1 rfl (Nat.le_of_ble_eq_true rfl) dL_law_179 ⟨by show _ ≤ 600000; omega, by show _ ≤ 7302250; omega⟩ (fun H locs hP3 _ hk hS => ?_)
  obtain ⟨z1, z2⟩ := aL_back (w1 := mdW cI cC ob q M1) (L := mdL ob q) hP9 hD9 rfl rfl hP3 hk.2
  rw [List.append_nil] at z1 z2
  refine lv_icmp_eq (tgt := 861) hx hb dL_law_182 (by decide) (fun _ => ?_) (fun c1 => absurd rfl c1)
  refine W.widen (k := cells + 54) (n := slots + 13824) (by omega) (by omega) ?_
  exact kk H locs (LV_of z1 z2 hS hO (J_mono hJ1 (by omega)))
set_option maxHeartbeats 8000000 in
set_option maxRecDepth 100000 in
theorem law_c6 : LCase 342 := by
  intro p l e s m below meth c b L xs dC dI cI cB cC cP ad ob q B i cells slots H locs ls hF hV hB hi hL hl hcells hslots kk
  obtain ⟨hx, hb, hr, hml, hown, hts, hX, hbl, hlocks, hE, hK2, hK3⟩ := hF
  obtain ⟨Z, O, M, A, hP, hD, hS, hO, hJ⟩ := hV
  have hbA : ¬ aB s.heap.size b := fun h => absurd h (Nat.not_le.mpr hbl)
  have hi1 : vp_in (nI i + 1) L := law_in (k := 1) hL (by omega)
  have hi2 : vp_in (nI i + 2) L := law_in (k := 2) hL (by omega)
  obtain ⟨r, hv2, hv3⟩ := q_campOf (N := 1400) hJ.1 (by omega) hJ.2.1 hJ.2.2.1 (xs (nI i + 1).toNatClampNeg) (xs (nI i + 2).toNatClampNeg)
  refine lv_aload_n hx hb dL_law_342 rfl (lv_at hl 1 rfl) ?_
  refine lv_aload_n hx hb dL_law_343 rfl (lv_at hl 0 rfl) ?_
  refine lv_iload_n hx hb dL_law_344 rfl (lv_at hl 3 rfl) ?_
  refine lv_iconst (v := 1) hx hb dL_law_345 (by decide) ?_
  refine lv_iadd hx hb dL_law_346 ?_
  refine va_sld hx hb hX hbl hbA hS hi1 dL_law_347 ?_
  refine lv_aload_n hx hb dL_law_348 rfl (lv_at hl 0 rfl) ?_
  refine lv_iload_n hx hb dL_law_349 rfl (lv_at hl 3 rfl) ?_
  refine lv_iconst (v := 2) hx hb dL_law_350 (by decide) ?_
  refine lv_iadd hx hb dL_law_351 ?_
  refine va_sld hx hb hX hbl hbA hS hi2 dL_law_352 ?_
  refine call_BVP (As := [.int (xs (nI i + 1).toNatClampNeg), .int (xs (nI i + 2).toNatClampNeg)]) (rest := []) ⟨hx, hb, hml, hown, hts⟩ (tX2_campOf (l := l) (dC := dC) (dI := dI) (cI := cI) (cB := cB) (cP := cP) (ad := ad) (Z := Z) (base := s.heap.size) (R := mdW cI cC ob q M) hv2 hO) (cwV 2 hts gL_law_X2_campOf rfl rfl rfl (by decide +kernel) ⟨Nat.le_of_ble_eq_true rfl, Nat.le_of_ble_eq_true rfl⟩) hK2 hP hD hS.1 (fun U hU hW => Env_step rfl rfl hE hS hU hW) 0 rfl rfl (by rfl) hl.1 rfl (Nat.le_of_ble_eq_true rfl) dL_law_353 ⟨by show _ ≤ 600000; omega, by show _ ≤ 7302250; omega⟩ ?_
  refine lv_aload_n hx hb dL_law_356 rfl (lv_at hl 2 rfl) ?_
  refine lv_aload_n hx hb dL_law_357 rfl (lv_at hl 0 rfl) ?_
  refine lv_iload_n hx hb dL_law_358 rfl (lv_at hl 3 rfl) ?_
  refine lv_iconst (v := 1) hx hb dL_law_359 (by decide) ?_
  refine lv_iadd hx hb dL_law_360 ?_
  refine va_sld hx hb hX hbl hbA hS hi1 dL_law_361 ?_
  refine lv_aload_n hx hb dL_law_362 rfl (lv_at hl 0 rfl) ?_
  refine lv_iload_n hx hb dL_law_363 rfl (lv_at hl 3 rfl) ?_
  refine lv_iconst (v := 2) hx hb dL_law_364 (by decide) ?_
  refine lv_iadd hx hb dL_law_365 ?_
  refine va_sld hx hb hX hbl hbA hS hi2 dL_law_366 ?_
  refine call_VP (As := [.int (xs (nI i + 1).toNatClampNeg), .int (xs (nI i + 2).toNatClampNeg)]) (rest := [.int r]) ⟨hx, hb, hml, hown, hts⟩ (tX3_campOf (l := l) (dC := dC) (dI := dI) (cI := cI) (cC := cC) (ob := ob) (q := q) hv3) (cwV 2 hts gL_law_X3_campOf rfl rfl rfl (by decide +kernel) ⟨Nat.le_of_ble_eq_true rfl, Nat.le_of_ble_eq_true rfl⟩) hK3 (P_app.mp hP).2 0 rfl rfl (by rfl) hl.1 rfl (Nat.le_of_ble_eq_true rfl) dL_law_367 ⟨by show _ ≤ 600000; omega, by show _ ≤ 7302250; omega⟩ ?_
  refine lv_icmp_eq (tgt := 861) hx hb dL_law_370 (by decide) (fun _ => ?_) (fun c1 => absurd rfl c1)
  refine W.widen (k := cells + 54) (n := slots + 13824) (by omega) (by omega) ?_
  exact kk H locs (LV_of hP hD hS hO (J_mono hJ.toJ (by omega)))
set_option maxHeartbeats 8000000 in
set_option maxRecDepth 100000 in
theorem law_c18 : LCase 668 := by
  intro p l e s m below meth c b L xs dC dI cI cB cC cP ad ob q B i cells slots H locs ls hF hV hB hi hL hl hcells hslots kk
  obtain ⟨hx, hb, hr, hml, hown, hts, hX, hbl, hlocks, hE, hK2, hK3⟩ := hF
  obtain ⟨Z, O, M, A, hP, hD, hS, hO, hJ⟩ := hV
  have hbA : ¬ aB s.heap.size b := fun h => absurd h (Nat.not_le.mpr hbl)
  have hi1 : vp_in (nI i + 1) L := law_in (k := 1) hL (by omega)
  obtain ⟨r, O1, M1, hv2, hv3, hJ1⟩ := j_show (by omega) hJ (xs (nI i + 1).toNatClampNeg)
  have hv3 := hv3 1400 (Nat.le_refl _)
  refine lv_aload_n hx hb dL_law_668 rfl (lv_at hl 1 rfl) ?_
  refine lv_aload_n hx hb dL_law_669 rfl (lv_at hl 0 rfl) ?_
  refine lv_iload_n hx hb dL_law_670 rfl (lv_at hl 3 rfl) ?_
  refine lv_iconst (v := 1) hx hb dL_law_671 (by decide) ?_
  refine lv_iadd hx hb dL_law_672 ?_
  refine va_sld hx hb hX hbl hbA hS hi1 dL_law_673 ?_
  refine call_BVE (As := [.int (xs (nI i + 1).toNatClampNeg)]) (rest := []) ⟨hx, hb, hml, hown, hts⟩ (tX2_show (l := l) (dC := dC) (dI := dI) (cI := cI) (cB := cB) (cP := cP) (ad := ad) (Z := Z) (base := s.heap.size) (R := mdW cI cC ob q M) hv2 hO) (cwV 1 hts gL_law_X2_show rfl rfl rfl (by decide +kernel) ⟨Nat.le_of_ble_eq_true rfl, Nat.le_of_ble_eq_true rfl⟩) hK2 hP hD hS hS.1 (fun U hU hW => Env_step rfl rfl hE hS hU hW) 0 rfl rfl (by rfl) hl.1 rfl (Nat.le_of_ble_eq_true rfl) dL_law_674 ⟨by show _ ≤ 600000; omega, by show _ ≤ 7302250; omega⟩ (fun H locs ws9 hW9 hP hD _ hS => ?_)
  obtain ⟨Z1, rfl, hO⟩ := hW9
  refine lv_aload_n hx hb dL_law_677 rfl (lv_at hl 2 rfl) ?_
  refine lv_aload_n hx hb dL_law_678 rfl (lv_at hl 0 rfl) ?_
  refine lv_iload_n hx hb dL_law_679 rfl (lv_at hl 3 rfl) ?_
  refine lv_iconst (v := 1) hx hb dL_law_680 (by decide) ?_
  refine lv_iadd hx hb dL_law_681 ?_
  refine va_sld hx hb hX hbl hbA hS hi1 dL_law_682 ?_
  have hP9 : va_P (dC, dI) vwCl (outW cI cB cP ad Z1 O1 ++ (mdW cI cC ob q M ++ [])) H := by rw [List.append_nil]; exact hP
  have hD9 : va_D (aB s.heap.size) (outW cI cB cP ad Z1 O1 ++ (mdW cI cC ob q M ++ [])) := by rw [List.append_nil]; exact hD
  obtain ⟨w1, w2, w3⟩ := aL_in (L := mdL ob q) hP9 hD9 rfl
  refine call_VE (As := [.int (xs (nI i + 1).toNatClampNeg)]) (rest := [.int r]) ⟨hx, hb, hml, hown, hts⟩ (tX3_show (l := l) (dC := dC) (dI := dI) (cI := cI) (cC := cC) (ob := ob) (q := q) hv3) (cwV 1 hts gL_law_X3_show rfl rfl rfl (by decide +kernel) ⟨Nat.le_of_ble_eq_true rfl, Nat.le_of_ble_eq_true rfl⟩) hK3 w1 w2 hS w3 0 rfl rfl (by rfl) hl.1 rfl (Nat.le_of_ble_eq_true rfl) dL_law_683 ⟨by show _ ≤ 600000; omega, by show _ ≤ 7302250; omega⟩ (fun H locs hP3 _ hk hS => ?_)
  obtain ⟨z1, z2⟩ := aL_back (w1 := mdW cI cC ob q M1) (L := mdL ob q) hP9 hD9 rfl rfl hP3 hk.2
  rw [List.append_nil] at z1 z2
  refine lv_icmp_eq (tgt := 861) hx hb dL_law_686 (by decide) (fun _ => ?_) (fun c1 => absurd rfl c1)
  refine W.widen (k := cells + 54) (n := slots + 13824) (by omega) (by omega) ?_
  exact kk H locs (LV_of z1 z2 hS hO (J_mono hJ1 (by omega)))
