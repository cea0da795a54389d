set_option maxHeartbeats 8000000 in
set_option maxRecDepth 100000 in
theorem law_c1 : LCase 187 := by
  intro p l e s m below meth c b L xs dC dI cI cB cC cP ad ob q B i cells slots H locs ls hF hV hB hi hL hl hcells hslots kk
  obtain ⟨hx, hb, hr, hml, hown, hts, hX, hbl, hlocks, hE, hK2, hK3⟩ := hF
  obtain ⟨Z, O, M, A, hP, hD, hS, hO, hJ⟩ := hV
  have hbA : ¬ aB s.heap.size b := fun h => absurd h (Nat.not_le.mpr hbl)
  have hi1 : vp_in (nI i + 1) L := law_in (k := 1) hL (by omega)
  have hi2 : vp_in (nI i + 2) L := law_in (k := 2) hL (by omega)
  obtain ⟨r, O1, M1, hv2, hv3, hJ1⟩ := j_write (N := 1400) (Nat.le_refl _) (by omega) hJ (xs (nI i + 1).toNatClampNeg) (xs (nI i + 2).toNatClampNeg)
  refine lv_aload_n hx hb dL_law_187 rfl (lv_at hl 1 rfl) ?_
  refine lv_aload_n hx hb dL_law_188 rfl (lv_at hl 0 rfl) ?_
  refine lv_iload_n hx hb dL_law_189 rfl (lv_at hl 3 rfl) ?_
  refine lv_iconst (v := 1) hx hb dL_law_190 (by decide) ?_
  refine lv_iadd hx hb dL_law_191 ?_
  refine va_sld hx hb hX hbl hbA hS hi1 dL_law_192 ?_
  refine lv_aload_n hx hb dL_law_193 rfl (lv_at hl 0 rfl) ?_
  refine lv_iload_n hx hb dL_law_194 rfl (lv_at hl 3 rfl) ?_
  refine lv_iconst (v := 2) hx hb dL_law_195 (by decide) ?_
  refine lv_iadd hx hb dL_law_196 ?_
  refine va_sld hx hb hX hbl hbA hS hi2 dL_law_197 ?_
  refine call_BVE (As := [.int (xs (nI i + 1).toNatClampNeg), .int (xs (nI i + 2).toNatClampNeg)]) (rest := []) ⟨hx, hb, hml, hown, hts⟩ (tX2_write (l := l) (dC := dC) (dI := dI) (cI := cI) (cB := cB) (cP := cP) (ad := ad) (Z := Z) (base := s.heap.size) (R := mdW cI cC ob q M) hv2 hO) (cwV 2 hts gL_law_X2_write rfl rfl rfl (by decide +kernel) ⟨Nat.le_of_ble_eq_true rfl, Nat.le_of_ble_eq_true rfl⟩) hK2 hP hD hS hS.1 (fun U hU hW => Env_step rfl rfl hE hS hU hW) 0 rfl rfl (by rfl) hl.1 rfl (Nat.le_of_ble_eq_true rfl) dL_law_198 ⟨by show _ ≤ 600000; omega, by show _ ≤ 7302250; omega⟩ (fun H locs ws9 hW9 hP hD _ hS => ?_)
  obtain ⟨Z1, rfl, hO⟩ := hW9
  refine lv_aload_n hx hb dL_law_201 rfl (lv_at hl 2 rfl) ?_
  refine lv_aload_n hx hb dL_law_202 rfl (lv_at hl 0 rfl) ?_
  refine lv_iload_n hx hb dL_law_203 rfl (lv_at hl 3 rfl) ?_
  refine lv_iconst (v := 1) hx hb dL_law_204 (by decide) ?_
  refine lv_iadd hx hb dL_law_205 ?_
  refine va_sld hx hb hX hbl hbA hS hi1 dL_law_206 ?_
  refine lv_aload_n hx hb dL_law_207 rfl (lv_at hl 0 rfl) ?_
  refine lv_iload_n hx hb dL_law_208 rfl (lv_at hl 3 rfl) ?_
  refine lv_iconst (v := 2) hx hb dL_law_209 (by decide) ?_
  refine lv_iadd hx hb dL_law_210 ?_
  refine va_sld hx hb hX hbl hbA hS hi2 dL_law_211 ?_
  have hP9 : va_P (dC, dI) vwCl (outW cI cB cP ad Z1 O1 ++ (mdW cI cC ob q M ++ [])) H := by rw [List.append_nil]; exact hP
  have hD9 : va_D (aB s.heap.size) (outW cI cB cP ad Z1 O1 ++ (mdW cI cC ob q M ++ [])) := by rw [List.append_nil]; exact hD
  obtain ⟨w1, w2, w3⟩ := aL_in (L := mdL ob q) hP9 hD9 rfl
  refine call_VE (As := [.int (xs (nI i + 1).toNatClampNeg), .int (xs (nI i + 2).toNatClampNeg)]) (rest := [.int r]) ⟨hx, hb, hml, hown, hts⟩ (tX3_write (l := l) (dC := dC) (dI := dI) (cI := cI) (cC := cC) (ob := ob) (q := q) hv3) (cwV 2 hts gL_law_X3_write rfl rfl rfl (by decide +kernel) ⟨Nat.le_of_ble_eq_true rfl, Nat.le_of_ble_eq_true rfl⟩) hK3 w1 w2 hS w3 0 rfl rfl (by rfl) hl.1 rfl (Nat.le_of_ble_eq_true rfl) dL_law_212 ⟨by show _ ≤ 600000; omega, by show _ ≤ 7302250; omega⟩ (fun H locs hP3 _ hk hS => ?_)
  obtain ⟨z1, z2⟩ := aL_back (w1 := mdW cI cC ob q M1) (L := mdL ob q) hP9 hD9 rfl rfl hP3 hk.2
  rw [List.append_nil] at z1 z2
  refine lv_icmp_eq (tgt := 861) hx hb dL_law_215 (by decide) (fun _ => ?_) (fun c1 => absurd rfl c1)
  refine W.widen (k := cells + 54) (n := slots + 13824) (by omega) (by omega) ?_
  exact kk H locs (LV_of z1 z2 hS hO (J_mono hJ1 (by omega)))
set_option maxHeartbeats 8000000 in
set_option maxRecDepth 100000 in
theorem law_c2 : LCase 220 := by
  intro p l e s m below meth c b L xs dC dI cI cB cC cP ad ob q B i cells slots H locs ls hF hV hB hi hL hl hcells hslots kk
  obtain ⟨hx, hb, hr, hml, hown, hts, hX, hbl, hlocks, hE, hK2, hK3⟩ := hF
  obtain ⟨Z, O, M, A, hP, hD, hS, hO, hJ⟩ := hV
  have hbA : ¬ aB s.heap.size b := fun h => absurd h (Nat.not_le.mpr hbl)
  have hi1 : vp_in (nI i + 1) L := law_in (k := 1) hL (by omega)
  obtain ⟨r, O1, M1, hv2, hv3, hJ1⟩ := j_march (N := 1400) (Nat.le_refl _) (by omega) hJ (xs (nI i + 1).toNatClampNeg)
  refine lv_aload_n hx hb dL_law_220 rfl (lv_at hl 1 rfl) ?_
  refine lv_aload_n hx hb dL_law_221 rfl (lv_at hl 0 rfl) ?_
  refine lv_iload_n hx hb dL_law_222 rfl (lv_at hl 3 rfl) ?_
  refine lv_iconst (v := 1) hx hb dL_law_223 (by decide) ?_
  refine lv_iadd hx hb dL_law_224 ?_
  refine va_sld hx hb hX hbl hbA hS hi1 dL_law_225 ?_
  refine call_BVE (As := [.int (xs (nI i + 1).toNatClampNeg)]) (rest := []) ⟨hx, hb, hml, hown, hts⟩ (tX2_march (l := l) (dC := dC) (dI := dI) (cI := cI) (cB := cB) (cP := cP) (ad := ad) (Z := Z) (base := s.heap.size) (R := mdW cI cC ob q M) hv2 hO) (cwV 1 hts gL_law_X2_march rfl rfl rfl (by decide +kernel) ⟨Nat.le_of_ble_eq_true rfl, Nat.le_of_ble_eq_true rfl⟩) hK2 hP hD hS hS.1 (fun U hU hW => Env_step rfl rfl hE hS hU hW) 0 rfl rfl (by rfl) hl.1 rfl (Nat.le_of_ble_eq_true rfl) dL_law_226 ⟨by show _ ≤ 600000; omega, by show _ ≤ 7302250; omega⟩ (fun H locs ws9 hW9 hP hD _ hS => ?_)
  obtain ⟨Z1, rfl, hO⟩ := hW9
  refine lv_aload_n hx hb dL_law_229 rfl (lv_at hl 2 rfl) ?_
  refine lv_aload_n hx hb dL_law_230 rfl (lv_at hl 0 rfl) ?_
  refine lv_iload_n hx hb dL_law_231 rfl (lv_at hl 3 rfl) ?_
  refine lv_iconst (v := 1) hx hb dL_law_232 (by decide) ?_
  refine lv_iadd hx hb dL_law_233 ?_
  refine va_sld hx hb hX hbl hbA hS hi1 dL_law_234 ?_
  have hP9 : va_P (dC, dI) vwCl (outW cI cB cP ad Z1 O1 ++ (mdW cI cC ob q M ++ [])) H := by rw [List.append_nil]; exact hP
  have hD9 : va_D (aB s.heap.size) (outW cI cB cP ad Z1 O1 ++ (mdW cI cC ob q M ++ [])) := by rw [List.append_nil]; exact hD
  obtain ⟨w1, w2, w3⟩ := aL_in (L := mdL ob q) hP9 hD9 rfl
  refine call_VE (As := [.int (xs (nI i + 1).toNatClampNeg)]) (rest := [.int r]) ⟨hx, hb, hml, hown, hts⟩ (tX3_march (l := l) (dC := dC) (dI := dI) (cI := cI) (cC := cC) (ob := ob) (q := q) hv3) (cwV 1 hts gL_law_X3_march rfl rfl rfl (by decide +kernel) ⟨Nat.le_of_ble_eq_true rfl, Nat.le_of_ble_eq_true rfl⟩) hK3 w1 w2 hS w3 0 rfl rfl (by rfl) hl.1 rfl (Nat.le_of_ble_eq_true rfl) dL_law_235 ⟨by show _ ≤ 600000; omega, by show _ ≤ 7302250; omega⟩ (fun H locs hP3 _ hk hS => ?_)
  obtain ⟨z1, z2⟩ := aL_back (w1 := mdW cI cC ob q M1) (L := mdL ob q) hP9 hD9 rfl rfl hP3 hk.2
  rw [List.append_nil] at z1 z2
  refine lv_icmp_eq (tgt := 861) hx hb dL_law_238 (by decide) (fun _ => ?_) (fun c1 => absurd rfl c1)
  refine W.widen (k := cells + 54) (n := slots + 13824) (by omega) (by omega) ?_
  exact kk H locs (LV_of z1 z2 hS hO (J_mono hJ1 (by omega)))
set_option maxHeartbeats 8000000 in
set_option maxRecDepth 100000 in
theorem law_c3 : LCase 243 := by
  intro p l e s m below meth c b L xs dC dI cI cB cC cP ad ob q B i cells slots H locs ls hF hV hB hi hL hl hcells hslots kk
  obtain ⟨hx, hb, hr, hml, hown, hts, hX, hbl, hlocks, hE, hK2, hK3⟩ := hF
  obtain ⟨Z, O, M, A, hP, hD, hS, hO, hJ⟩ := hV
  have hbA : ¬ aB s.heap.size b := fun h => absurd h (Nat.not_le.mpr hbl)
  have hi1 : vp_in (nI i + 1) L := law_in (k := 1) hL (by omega)
  have hi2 : vp_in (nI i + 2) L := law_in (k := 2) hL (by omega)
  have hi3 : vp_in (nI i + 3) L := law_in (k := 3) hL (by omega)
  obtain ⟨r, O1, M1, hv2, hv3, hJ1⟩ := j_road (N := 1400) (Nat.le_refl _) (by omega) hJ (xs (nI i + 1).toNatClampNeg) (xs (nI i + 2).toNatClampNeg) (xs (nI i + 3).toNatClampNeg)
  refine lv_aload_n hx hb dL_law_243 rfl (lv_at hl 1 rfl) ?_
  refine lv_aload_n hx hb dL_law_244 rfl (lv_at hl 0 rfl) ?_
  refine lv_iload_n hx hb dL_law_245 rfl (lv_at hl 3 rfl) ?_
  refine lv_iconst (v := 1) hx hb dL_law_246 (by decide) ?_
  refine lv_iadd hx hb dL_law_247 ?_
  refine va_sld hx hb hX hbl hbA hS hi1 dL_law_248 ?_
  refine lv_aload_n hx hb dL_law_249 rfl (lv_at hl 0 rfl) ?_
  refine lv_iload_n hx hb dL_law_250 rfl (lv_at hl 3 rfl) ?_
  refine lv_iconst (v := 2) hx hb dL_law_251 (by decide) ?_
  refine lv_iadd hx hb dL_law_252 ?_
  refine va_sld hx hb hX hbl hbA hS hi2 dL_law_253 ?_
  refine lv_aload_n hx hb dL_law_254 rfl (lv_at hl 0 rfl) ?_
  refine lv_iload_n hx hb dL_law_255 rfl (lv_at hl 3 rfl) ?_
  refine lv_iconst (v := 3) hx hb dL_law_256 (by decide) ?_
  refine lv_iadd hx hb dL_law_257 ?_
  refine va_sld hx hb hX hbl hbA hS hi3 dL_law_258 ?_
  refine call_BVE (As := [.int (xs (nI i + 1).toNatClampNeg), .int (xs (nI i + 2).toNatClampNeg), .int (xs (nI i + 3).toNatClampNeg)]) (rest := []) ⟨hx, hb, hml, hown, hts⟩ (tX2_road (l := l) (dC := dC) (dI := dI) (cI := cI) (cB := cB) (cP := cP) (ad := ad) (Z := Z) (base := s.heap.size) (R := mdW cI cC ob q M) hv2 hO) (cwV 3 hts gL_law_X2_road rfl rfl rfl (by decide +kernel) ⟨Nat.le_of_ble_eq_true rfl, Nat.le_of_ble_eq_true rfl⟩) hK2 hP hD hS hS.1 (fun U hU hW => Env_step rfl rfl hE hS hU hW) 0 rfl rfl (by rfl) hl.1 rfl (Nat.le_of_ble_eq_true rfl) dL_law_259 ⟨by show _ ≤ 600000; omega, by show _ ≤ 7302250; omega⟩ (fun H locs ws9 hW9 hP hD _ hS => ?_)
  obtain ⟨Z1, rfl, hO⟩ := hW9
  refine lv_aload_n hx hb dL_law_262 rfl (lv_at hl 2 rfl) ?_
  refine lv_aload_n hx hb dL_law_263 rfl (lv_at hl 0 rfl) ?_
  refine lv_iload_n hx hb dL_law_264 rfl (lv_at hl 3 rfl) ?_
  refine lv_iconst (v := 1) hx hb dL_law_265 (by decide) ?_
  refine lv_iadd hx hb dL_law_266 ?_
  refine va_sld hx hb hX hbl hbA hS hi1 dL_law_267 ?_
  refine lv_aload_n hx hb dL_law_268 rfl (lv_at hl 0 rfl) ?_
  refine lv_iload_n hx hb dL_law_269 rfl (lv_at hl 3 rfl) ?_
  refine lv_iconst (v := 2) hx hb dL_law_270 (by decide) ?_
  refine lv_iadd hx hb dL_law_271 ?_
  refine va_sld hx hb hX hbl hbA hS hi2 dL_law_272 ?_
  refine lv_aload_n hx hb dL_law_273 rfl (lv_at hl 0 rfl) ?_
  refine lv_iload_n hx hb dL_law_274 rfl (lv_at hl 3 rfl) ?_
  refine lv_iconst (v := 3) hx hb dL_law_275 (by decide) ?_
  refine lv_iadd hx hb dL_law_276 ?_
  refine va_sld hx hb hX hbl hbA hS hi3 dL_law_277 ?_
  have hP9 : va_P (dC, dI) vwCl (outW cI cB cP ad Z1 O1 ++ (mdW cI cC ob q M ++ [])) H := by rw [List.append_nil]; exact hP
  have hD9 : va_D (aB s.heap.size) (outW cI cB cP ad Z1 O1 ++ (mdW cI cC ob q M ++ [])) := by rw [List.append_nil]; exact hD
  obtain ⟨w1, w2, w3⟩ := aL_in (L := mdL ob q) hP9 hD9 rfl
  refine call_VE (As := [.int (xs (nI i + 1).toNatClampNeg), .int (xs (nI i + 2).toNatClampNeg), .int (xs (nI i + 3).toNatClampNeg)]) (rest := [.int r]) ⟨hx, hb, hml, hown, hts⟩ (tX3_road_ (l := l) (dC := dC) (dI := dI) (cI := cI) (cC := cC) (ob := ob) (q := q) hv3) (cwV 3 hts gL_law_X3_road_ rfl rfl rfl (by decide +kernel) ⟨Nat.le_of_ble_eq_true rfl, Nat.le_of_ble_eq_true rfl⟩) hK3 w1 w2 hS w3 0 rfl rfl (by rfl) hl.1 rfl (Nat.le_of_ble_eq_true rfl) dL_law_278 ⟨by show _ ≤ 600000; omega, by show _ ≤ 7302250; omega⟩ (fun H locs hP3 _ hk hS => ?_)
  obtain ⟨z1, z2⟩ := aL_back (w1 := mdW cI cC ob q M1) (L := mdL ob q) hP9 hD9 rfl rfl hP3 hk.2
  rw [List.append_nil] at z1 z2
  refine lv_icmp_eq (tgt := 861) hx hb dL_law_281 (by decide) (fun _ => ?_) (fun c1 => absurd rfl c1)
  refine W.widen (k := cells + 54) (n := slots + 13824) (by omega) (by omega) ?_
  exact kk H locs (LV_of z1 z2 hS hO (J_mono hJ1 (by omega)))
set_option maxHeartbeats 8000000 in
set_option maxRecDepth 100000 in
theorem law_c4 : LCase 286 := by
  intro p l e s m below meth c b L xs dC dI cI cB cC cP ad ob q B i cells slots H locs ls hF hV hB hi hL hl hcells hslots kk
  obtain ⟨hx, hb, hr, hml, hown, hts, hX, hbl, hlocks, hE, hK2, hK3⟩ := hF
  obtain ⟨Z, O, M, A, hP, hD, hS, hO, hJ⟩ := hV
  have hbA : ¬ aB s.heap.size b := fun h => absurd h (Nat.not_le.mpr hbl)
  have hi1 : vp_in (nI i + 1) L := law_in (k := 1) hL (by omega)
  have hi2 : vp_in (nI i + 2) L := law_in (k := 2) hL (by omega)
  obtain ⟨r, O1, M1, hv2, hv3, hJ1⟩ := j_sleep (N := 1400) (Nat.le_refl _) (by omega) hJ (xs (nI i + 1).toNatClampNeg) (xs (nI i + 2).toNatClampNeg)
  refine lv_aload_n hx hb dL_law_286 rfl (lv_at hl 1 rfl) ?_
  refine lv_aload_n hx hb dL_law_287 rfl (lv_at hl 0 rfl) ?_
  refine lv_iload_n hx hb dL_law_288 rfl (lv_at hl 3 rfl) ?_
  refine lv_iconst (v := 1) hx hb dL_law_289 (by decide) ?_
  refine lv_iadd hx hb dL_law_290 ?_
  refine va_sld hx hb hX hbl hbA hS hi1 dL_law_291 ?_
  refine lv_aload_n hx hb dL_law_292 rfl (lv_at hl 0 rfl) ?_
  refine lv_iload_n hx hb dL_law_293 rfl (lv_at hl 3 rfl) ?_
  refine lv_iconst (v := 2) hx hb dL_law_294 (by decide) ?_
  refine lv_iadd hx hb dL_law_295 ?_
  refine va_sld hx hb hX hbl hbA hS hi2 dL_law_296 ?_
  refine call_BVE (As := [.int (xs (nI i + 1).toNatClampNeg), .int (xs (nI i + 2).toNatClampNeg)]) (rest := []) ⟨hx, hb, hml, hown, hts⟩ (tX2_sleep (l := l) (dC := dC) (dI := dI) (cI := cI) (cB := cB) (cP := cP) (ad := ad) (Z := Z) (base := s.heap.size) (R := mdW cI cC ob q M) hv2 hO) (cwV 2 hts gL_law_X2_sleep rfl rfl rfl (by decide +kernel) ⟨Nat.le_of_ble_eq_true rfl, Nat.le_of_ble_eq_true rfl⟩) hK2 hP hD hS hS.1 (fun U hU hW => Env_step rfl rfl hE hS hU hW) 0 rfl rfl (by rfl) hl.1 rfl (Nat.le_of_ble_eq_true rfl) dL_law_297 ⟨by show _ ≤ 600000; omega, by show _ ≤ 7302250; omega⟩ (fun H locs ws9 hW9 hP hD _ hS => ?_)
  obtain ⟨Z1, rfl, hO⟩ := hW9
  refine lv_aload_n hx hb dL_law_300 rfl (lv_at hl 2 rfl) ?_
  refine lv_aload_n hx hb dL_law_301 rfl (lv_at hl 0 rfl) ?_
  refine lv_iload_n hx hb dL_law_302 rfl (lv_at hl 3 rfl) ?_
  refine lv_iconst (v := 1) hx hb dL_law_303 (by decide) ?_
  refine lv_iadd hx hb dL_law_304 ?_
  refine va_sld hx hb hX hbl hbA hS hi1 dL_law_305 ?_
  refine lv_aload_n hx hb dL_law_306 rfl (lv_at hl 0 rfl) ?_
  refine lv_iload_n hx hb dL_law_307 rfl (lv_at hl 3 rfl) ?_
  refine lv_iconst (v := 2) hx hb dL_law_308 (by decide) ?_
  refine lv_iadd hx hb dL_law_309 ?_
  refine va_sld hx hb hX hbl hbA hS hi2 dL_law_310 ?_
  have hP9 : va_P (dC, dI) vwCl (outW cI cB cP ad Z1 O1 ++ (mdW cI cC ob q M ++ [])) H := by rw [List.append_nil]; exact hP
  have hD9 : va_D (aB s.heap.size) (outW cI cB cP ad Z1 O1 ++ (mdW cI cC ob q M ++ [])) := by rw [List.append_nil]; exact hD
  obtain ⟨w1, w2, w3⟩ := aL_in (L := mdL ob q) hP9 hD9 rfl
  refine call_VE (As := [.int (xs (nI i + 1).toNatClampNeg), .int (xs (nI i + 2).toNatClampNeg)]) (rest := [.int r]) ⟨hx, hb, hml, hown, hts⟩ (tX3_sleep (l := l) (dC := dC) (dI := dI) (cI := cI) (cC := cC) (ob := ob) (q := q) hv3) (cwV 2 hts gL_law_X3_sleep rfl rfl rfl (by decide +kernel) ⟨Nat.le_of_ble_eq_true rfl, Nat.le_of_ble_eq_true rfl⟩) hK3 w1 w2 hS w3 0 rfl rfl (by rfl) hl.1 rfl (Nat.le_of_ble_eq_true rfl) dL_law_311 ⟨by show _ ≤ 600000; omega, by show _ ≤ 7302250; omega⟩ (fun H locs hP3 _ hk hS => ?_)
  obtain ⟨z1, z2⟩ := aL_back (w1 := mdW cI cC ob q M1) (L := mdL ob q) hP9 hD9 rfl rfl hP3 hk.2
  rw [List.append_nil] at z1 z2
  refine lv_icmp_eq (tgt := 861) hx hb dL_law_314 (by decide) (fun _ => ?_) (fun c1 => absurd rfl c1)
  refine W.widen (k := cells + 54) (n := slots + 13824) (by omega) (by omega) ?_
  exact kk H locs (LV_of z1 z2 hS hO (J_mono hJ1 (by omega)))
set_option maxHeartbeats 8000000 in
set_option maxRecDepth 100000 in
theorem law_c5 : LCase 319 := by
  intro p l e s m below meth c b L xs dC dI cI cB cC cP ad ob q B i cells slots H locs ls hF hV hB hi hL hl hcells hslots kk
  obtain ⟨hx, hb, hr, hml, hown, hts, hX, hbl, hlocks, hE, hK2, hK3⟩ := hF
  obtain ⟨Z, O, M, A, hP, hD, hS, hO, hJ⟩ := hV
  have hbA : ¬ aB s.heap.size b := fun h => absurd h (Nat.not_le.mpr hbl)
  have hi1 : vp_in (nI i + 1) L := law_in (k := 1) hL (by omega)
  obtain ⟨r, O1, M1, hv2, hv3, hJ1⟩ := j_pass (N := 1400) (Nat.le_refl _) (by omega) hJ (xs (nI i + 1).toNatClampNeg)
  refine lv_aload_n hx hb dL_law_319 rfl (lv_at hl 1 rfl) ?_
  refine lv_aload_n hx hb dL_law_320 rfl (lv_at hl 0 rfl) ?_
  refine lv_iload_n hx hb dL_law_321 rfl (lv_at hl 3 rfl) ?_
  refine lv_iconst (v := 1) hx hb dL_law_322 (by decide) ?_
  refine lv_iadd hx hb dL_law_323 ?_
  refine va_sld hx hb hX hbl hbA hS hi1 dL_law_324 ?_
  refine call_BVE (As := [.int (xs (nI i + 1).toNatClampNeg)]) (rest := []) ⟨hx, hb, hml, hown, hts⟩ (tX2_pass (l := l) (dC := dC) (dI := dI) (cI := cI) (cB := cB) (cP := cP) (ad := ad) (Z := Z) (base := s.heap.size) (R := mdW cI cC ob q M) hv2 hO) (cwV 1 hts gL_law_X2_pass rfl rfl rfl (by decide +kernel) ⟨Nat.le_of_ble_eq_true rfl, Nat.le_of_ble_eq_true rfl⟩) hK2 hP hD hS hS.1 (fun U hU hW => Env_step rfl rfl hE hS hU hW) 0 rfl rfl (by rfl) hl.1 rfl (Nat.le_of_ble_eq_true rfl) dL_law_325 ⟨by show _ ≤ 600000; omega, by show _ ≤ 7302250; omega⟩ (fun H locs ws9 hW9 hP hD _ hS => ?_)
  obtain ⟨Z1, rfl, hO⟩ := hW9
  refine lv_aload_n hx hb dL_law_328 rfl (lv_at hl 2 rfl) ?_
  refine lv_aload_n hx hb dL_law_329 rfl (lv_at hl 0 rfl) ?_
  refine lv_iload_n hx hb dL_law_330 rfl (lv_at hl 3 rfl) ?_
  refine lv_iconst (v := 1) hx hb dL_law_331 (by decide) ?_
  refine lv_iadd hx hb dL_law_332 ?_
  refine va_sld hx hb hX hbl hbA hS hi1 dL_law_333 ?_
  have hP9 : va_P (dC, dI) vwCl (outW cI cB cP ad Z1 O1 ++ (mdW cI cC ob q M ++ [])) H := by rw [List.append_nil]; exact hP
  have hD9 : va_D (aB s.heap.size) (outW cI cB cP ad Z1 O1 ++ (mdW cI cC ob q M ++ [])) := by rw [List.append_nil]; exact hD
  obtain ⟨w1, w2, w3⟩ := aL_in (L := mdL ob q) hP9 hD9 rfl
  refine call_VE (As := [.int (xs (nI i + 1).toNatClampNeg)]) (rest := [.int r]) ⟨hx, hb, hml, hown, hts⟩ (tX3_pass (l := l) (dC := dC) (dI := dI) (cI := cI) (cC := cC) (ob := ob) (q := q) hv3) (cwV 1 hts gL_law_X3_pass rfl rfl rfl (by decide +kernel) ⟨Nat.le_of_ble_eq_true rfl, Nat.le_of_ble_eq_true rfl⟩) hK3 w1 w2 hS w3 0 rfl rfl (by rfl) hl.1 rfl (Nat.le_of_ble_eq_true rfl) dL_law_334 ⟨by show _ ≤ 600000; omega, by show _ ≤ 7302250; omega⟩ (fun H locs hP3 _ hk hS => ?_)
  obtain ⟨z1, z2⟩ := aL_back (w1 := mdW cI cC ob q M1) (L := mdL ob q) hP9 hD9 rfl rfl hP3 hk.2
  rw [List.append_nil] at z1 z2
  refine lv_icmp_eq (tgt := 861) hx hb dL_law_337 (by decide) (fun _ => ?_) (fun c1 => absurd rfl c1)
  refine W.widen (k := cells + 54) (n := slots + 13824) (by omega) (by omega) ?_
  exact kk H locs (LV_of z1 z2 hS hO (J_mono hJ1 (by omega)))
set_option maxHeartbeats 8000000 in
set_option maxRecDepth 100000 in
theorem law_c7 : LCase 375 := by
  intro p l e s m below meth c b L xs dC dI cI cB cC cP ad ob q B i cells slots H locs ls hF hV hB hi hL hl hcells hslots kk
  obtain ⟨hx, hb, hr, hml, hown, hts, hX, hbl, hlocks, hE, hK2, hK3⟩ := hF
  obtain ⟨Z, O, M, A, hP, hD, hS, hO, hJ⟩ := hV
  have hbA : ¬ aB s.heap.size b := fun h => absurd h (Nat.not_le.mpr hbl)
  have hi1 : vp_in (nI i + 1) L := law_in (k := 1) hL (by omega)
  have hi2 : vp_in (nI i + 2) L := law_in (k := 2) hL (by omega)
  have hi3 : vp_in (nI i + 3) L := law_in (k := 3) hL (by omega)
  obtain ⟨r, hv2, hv3⟩ := q_pageOf (N := 1400) hJ.1 (by omega) hJ.2.1 hJ.2.2.1 (xs (nI i + 1).toNatClampNeg) (xs (nI i + 2).toNatClampNeg) (xs (nI i + 3).toNatClampNeg)
  refine lv_aload_n hx hb dL_law_375 rfl (lv_at hl 1 rfl) ?_
  refine lv_aload_n hx hb dL_law_376 rfl (lv_at hl 0 rfl) ?_
  refine lv_iload_n hx hb dL_law_377 rfl (lv_at hl 3 rfl) ?_
  refine lv_iconst (v := 1) hx hb dL_law_378 (by decide) ?_
  refine lv_iadd hx hb dL_law_379 ?_
  refine va_sld hx hb hX hbl hbA hS hi1 dL_law_380 ?_
  refine lv_aload_n hx hb dL_law_381 rfl (lv_at hl 0 rfl) ?_
  refine lv_iload_n hx hb dL_law_382 rfl (lv_at hl 3 rfl) ?_
  refine lv_iconst (v := 2) hx hb dL_law_383 (by decide) ?_
  refine lv_iadd hx hb dL_law_384 ?_
  refine va_sld hx hb hX hbl hbA hS hi2 dL_law_385 ?_
  refine lv_aload_n hx hb dL_law_386 rfl (lv_at hl 0 rfl) ?_
  refine lv_iload_n hx hb dL_law_387 rfl (lv_at hl 3 rfl) ?_
  refine lv_iconst (v := 3) hx hb dL_law_388 (by decide) ?_
  refine lv_iadd hx hb dL_law_389 ?_
  refine va_sld hx hb hX hbl hbA hS hi3 dL_law_390 ?_
  refine call_BVP (As := [.int (xs (nI i + 1).toNatClampNeg), .int (xs (nI i + 2).toNatClampNeg), .int (xs (nI i + 3).toNatClampNeg)]) (rest := []) ⟨hx, hb, hml, hown, hts⟩ (tX2_pageOf (l := l) (dC := dC) (dI := dI) (cI := cI) (cB := cB) (cP := cP) (ad := ad) (Z := Z) (base := s.heap.size) (R := mdW cI cC ob q M) hv2 hO) (cwV 3 hts gL_law_X2_pageOf rfl rfl rfl (by decide +kernel) ⟨Nat.le_of_ble_eq_true rfl, Nat.le_of_ble_eq_true rfl⟩) hK2 hP hD hS.1 (fun U hU hW => Env_step rfl rfl hE hS hU hW) 0 rfl rfl (by rfl) hl.1 rfl (Nat.le_of_ble_eq_true rfl) dL_law_391 ⟨by show _ ≤ 600000; omega, by show _ ≤ 7302250; omega⟩ ?_
  refine lv_aload_n hx hb dL_law_394 rfl (lv_at hl 2 rfl) ?_
  refine lv_aload_n hx hb dL_law_395 rfl (lv_at hl 0 rfl) ?_
  refine lv_iload_n hx hb dL_law_396 rfl (lv_at hl 3 rfl) ?_
  refine lv_iconst (v := 1) hx hb dL_law_397 (by decide) ?_
  refine lv_iadd hx hb dL_law_398 ?_
  refine va_sld hx hb hX hbl hbA hS hi1 dL_law_399 ?_
  refine lv_aload_n hx hb dL_law_400 rfl (lv_at hl 0 rfl) ?_
  refine lv_iload_n hx hb dL_law_401 rfl (lv_at hl 3 rfl) ?_
  refine lv_iconst (v := 2) hx hb dL_law_402 (by decide) ?_
  refine lv_iadd hx hb dL_law_403 ?_
  refine va_sld hx hb hX hbl hbA hS hi2 dL_law_404 ?_
  refine lv_aload_n hx hb dL_law_405 rfl (lv_at hl 0 rfl) ?_
  refine lv_iload_n hx hb dL_law_406 rfl (lv_at hl 3 rfl) ?_
  refine lv_iconst (v := 3) hx hb dL_law_407 (by decide) ?_
  refine lv_iadd hx hb dL_law_408 ?_
  refine va_sld hx hb hX hbl hbA hS hi3 dL_law_409 ?_
  refine call_VP (As := [.int (xs (nI i + 1).toNatClampNeg), .int (xs (nI i + 2).toNatClampNeg), .int (xs (nI i + 3).toNatClampNeg)]) (rest := [.int r]) ⟨hx, hb, hml, hown, hts⟩ (tX3_pageOf (l := l) (dC := dC) (dI := dI) (cI := cI) (cC := cC) (ob := ob) (q := q) hv3) (cwV 3 hts gL_law_X3_pageOf rfl rfl rfl (by decide +kernel) ⟨Nat.le_of_ble_eq_true rfl, Nat.le_of_ble_eq_true rfl⟩) hK3 (P_app.mp hP).2 0 rfl rfl (by rfl) hl.1 rfl (Nat.le_of_ble_eq_true rfl) dL_law_410 ⟨by show _ ≤ 600000; omega, by show _ ≤ 7302250; omega⟩ ?_
  refine lv_icmp_eq (tgt := 861) hx hb dL_law_413 (by decide) (fun _ => ?_) (fun c1 => absurd rfl c1)
  refine W.widen (k := cells + 54) (n := slots + 13824) (by omega) (by omega) ?_
  exact kk H locs (LV_of hP hD hS hO (J_mono hJ.toJ (by omega)))
set_option maxHeartbeats 8000000 in
set_option maxRecDepth 100000 in
theorem law_c8 : LCase 418 := by
  intro p l e s m below meth c b L xs dC dI cI cB cC cP ad ob q B i cells slots H locs ls hF hV hB hi hL hl hcells hslots kk
  obtain ⟨hx, hb, hr, hml, hown, hts, hX, hbl, hlocks, hE, hK2, hK3⟩ := hF
  obtain ⟨Z, O, M, A, hP, hD, hS, hO, hJ⟩ := hV
  have hbA : ¬ aB s.heap.size b := fun h => absurd h (Nat.not_le.mpr hbl)
  have hi1 : vp_in (nI i + 1) L := law_in (k := 1) hL (by omega)
  have hi2 : vp_in (nI i + 2) L := law_in (k := 2) hL (by omega)
  obtain ⟨r, hv2, hv3⟩ := q_reaches (N := 1400) hJ.1 (by omega) hJ.2.1 hJ.2.2.1 (xs (nI i + 1).toNatClampNeg) (xs (nI i + 2).toNatClampNeg)
  refine lv_aload_n hx hb dL_law_418 rfl (lv_at hl 1 rfl) ?_
  refine lv_aload_n hx hb dL_law_419 rfl (lv_at hl 0 rfl) ?_
  refine lv_iload_n hx hb dL_law_420 rfl (lv_at hl 3 rfl) ?_
  refine lv_iconst (v := 1) hx hb dL_law_421 (by decide) ?_
  refine lv_iadd hx hb dL_law_422 ?_
  refine va_sld hx hb hX hbl hbA hS hi1 dL_law_423 ?_
  refine lv_aload_n hx hb dL_law_424 rfl (lv_at hl 0 rfl) ?_
  refine lv_iload_n hx hb dL_law_425 rfl (lv_at hl 3 rfl) ?_
  refine lv_iconst (v := 2) hx hb dL_law_426 (by decide) ?_
  refine lv_iadd hx hb dL_law_427 ?_
  refine va_sld hx hb hX hbl hbA hS hi2 dL_law_428 ?_
  refine call_BVP (As := [.int (xs (nI i + 1).toNatClampNeg), .int (xs (nI i + 2).toNatClampNeg)]) (rest := []) ⟨hx, hb, hml, hown, hts⟩ (tX2_reaches (l := l) (dC := dC) (dI := dI) (cI := cI) (cB := cB) (cP := cP) (ad := ad) (Z := Z) (base := s.heap.size) (R := mdW cI cC ob q M) hv2 hO) (cwV 2 hts gL_law_X2_reaches rfl rfl rfl (by decide +kernel) ⟨Nat.le_of_ble_eq_true rfl, Nat.le_of_ble_eq_true rfl⟩) hK2 hP hD hS.1 (fun U hU hW => Env_step rfl rfl hE hS hU hW) 0 rfl rfl (by rfl) hl.1 rfl (Nat.le_of_ble_eq_true rfl) dL_law_429 ⟨by show _ ≤ 600000; omega, by show _ ≤ 7302250; omega⟩ ?_
  refine lv_aload_n hx hb dL_law_432 rfl (lv_at hl 2 rfl) ?_
  refine lv_aload_n hx hb dL_law_433 rfl (lv_at hl 0 rfl) ?_
  refine lv_iload_n hx hb dL_law_434 rfl (lv_at hl 3 rfl) ?_
  refine lv_iconst (v := 1) hx hb dL_law_435 (by decide) ?_
  refine lv_iadd hx hb dL_law_436 ?_
  refine va_sld hx hb hX hbl hbA hS hi1 dL_law_437 ?_
  refine lv_aload_n hx hb dL_law_438 rfl (lv_at hl 0 rfl) ?_
  refine lv_iload_n hx hb dL_law_439 rfl (lv_at hl 3 rfl) ?_
  refine lv_iconst (v := 2) hx hb dL_law_440 (by decide) ?_
  refine lv_iadd hx hb dL_law_441 ?_
  refine va_sld hx hb hX hbl hbA hS hi2 dL_law_442 ?_
  refine call_VP (As := [.int (xs (nI i + 1).toNatClampNeg), .int (xs (nI i + 2).toNatClampNeg)]) (rest := [.int r]) ⟨hx, hb, hml, hown, hts⟩ (tX3_reaches (l := l) (dC := dC) (dI := dI) (cI := cI) (cC := cC) (ob := ob) (q := q) hv3) (cwV 2 hts gL_law_X3_reaches rfl rfl rfl (by decide +kernel) ⟨Nat.le_of_ble_eq_true rfl, Nat.le_of_ble_eq_true rfl⟩) hK3 (P_app.mp hP).2 0 rfl rfl (by rfl) hl.1 rfl (Nat.le_of_ble_eq_true rfl) dL_law_443 ⟨by show _ ≤ 600000; omega, by show _ ≤ 7302250; omega⟩ ?_
  refine lv_icmp_eq (tgt := 861) hx hb dL_law_446 (by decide) (fun _ => ?_) (fun c1 => absurd rfl c1)
  refine W.widen (k := cells + 54) (n := slots + 13824) (by omega) (by omega) ?_
  exact kk H locs (LV_of hP hD hS hO (J_mono hJ.toJ (by omega)))
set_option maxHeartbeats 8000000 in
set_option maxRecDepth 100000 in
theorem law_c9 : LCase 451 := by
  intro p l e s m below meth c b L xs dC dI cI cB cC cP ad ob q B i cells slots H locs ls hF hV hB hi hL hl hcells hslots kk
  obtain ⟨hx, hb, hr, hml, hown, hts, hX, hbl, hlocks, hE, hK2, hK3⟩ := hF
  obtain ⟨Z, O, M, A, hP, hD, hS, hO, hJ⟩ := hV
  have hbA : ¬ aB s.heap.size b := fun h => absurd h (Nat.not_le.mpr hbl)
  have hi1 : vp_in (nI i + 1) L := law_in (k := 1) hL (by omega)
  have hi2 : vp_in (nI i + 2) L := law_in (k := 2) hL (by omega)
  obtain ⟨r, hv2, hv3⟩ := q_matches (N := 1400) (Nat.le_refl _) hJ.1 (by omega) hJ.2.1 hJ.2.2.1 (xs (nI i + 1).toNatClampNeg) (xs (nI i + 2).toNatClampNeg)
  refine lv_aload_n hx hb dL_law_451 rfl (lv_at hl 1 rfl) ?_
  refine lv_aload_n hx hb dL_law_452 rfl (lv_at hl 0 rfl) ?_
  refine lv_iload_n hx hb dL_law_453 rfl (lv_at hl 3 rfl) ?_
  refine lv_iconst (v := 1) hx hb dL_law_454 (by decide) ?_
  refine lv_iadd hx hb dL_law_455 ?_
  refine va_sld hx hb hX hbl hbA hS hi1 dL_law_456 ?_
  refine lv_aload_n hx hb dL_law_457 rfl (lv_at hl 0 rfl) ?_
  refine lv_iload_n hx hb dL_law_458 rfl (lv_at hl 3 rfl) ?_
  refine lv_iconst (v := 2) hx hb dL_law_459 (by decide) ?_
  refine lv_iadd hx hb dL_law_460 ?_
  refine va_sld hx hb hX hbl hbA hS hi2 dL_law_461 ?_
  refine call_BVP (As := [.int (xs (nI i + 1).toNatClampNeg), .int (xs (nI i + 2).toNatClampNeg)]) (rest := []) ⟨hx, hb, hml, hown, hts⟩ (tX2_matches (l := l) (dC := dC) (dI := dI) (cI := cI) (cB := cB) (cP := cP) (ad := ad) (Z := Z) (base := s.heap.size) (R := mdW cI cC ob q M) hv2 hO) (cwV 2 hts gL_law_X2_matches rfl rfl rfl (by decide +kernel) ⟨Nat.le_of_ble_eq_true rfl, Nat.le_of_ble_eq_true rfl⟩) hK2 hP hD hS.1 (fun U hU hW => Env_step rfl rfl hE hS hU hW) 0 rfl rfl (by rfl) hl.1 rfl (Nat.le_of_ble_eq_true rfl) dL_law_462 ⟨by show _ ≤ 600000; omega, by show _ ≤ 7302250; omega⟩ ?_
  refine lv_aload_n hx hb dL_law_465 rfl (lv_at hl 2 rfl) ?_
  refine lv_aload_n hx hb dL_law_466 rfl (lv_at hl 0 rfl) ?_
  refine lv_iload_n hx hb dL_law_467 rfl (lv_at hl 3 rfl) ?_
  refine lv_iconst (v := 1) hx hb dL_law_468 (by decide) ?_
  refine lv_iadd hx hb dL_law_469 ?_
  refine va_sld hx hb hX hbl hbA hS hi1 dL_law_470 ?_
  refine lv_aload_n hx hb dL_law_471 rfl (lv_at hl 0 rfl) ?_
  refine lv_iload_n hx hb dL_law_472 rfl (lv_at hl 3 rfl) ?_
  refine lv_iconst (v := 2) hx hb dL_law_473 (by decide) ?_
  refine lv_iadd hx hb dL_law_474 ?_
  refine va_sld hx hb hX hbl hbA hS hi2 dL_law_475 ?_
  refine call_VP (As := [.int (xs (nI i + 1).toNatClampNeg), .int (xs (nI i + 2).toNatClampNeg)]) (rest := [.int r]) ⟨hx, hb, hml, hown, hts⟩ (tX3_matches (l := l) (dC := dC) (dI := dI) (cI := cI) (cC := cC) (ob := ob) (q := q) hv3) (cwV 2 hts gL_law_X3_matches rfl rfl rfl (by decide +kernel) ⟨Nat.le_of_ble_eq_true rfl, Nat.le_of_ble_eq_true rfl⟩) hK3 (P_app.mp hP).2 0 rfl rfl (by rfl) hl.1 rfl (Nat.le_of_ble_eq_true rfl) dL_law_476 ⟨by show _ ≤ 600000; omega, by show _ ≤ 7302250; omega⟩ ?_
  refine lv_icmp_eq (tgt := 861) hx hb dL_law_479 (by decide) (fun _ => ?_) (fun c1 => absurd rfl c1)
  refine W.widen (k := cells + 54) (n := slots + 13824) (by omega) (by omega) ?_
  exact kk H locs (LV_of hP hD hS hO (J_mono hJ.toJ (by omega)))
set_option maxHeartbeats 8000000 in
set_option maxRecDepth 100000 in
theorem law_c10 : LCase 484 := by
  intro p l e s m below meth c b L xs dC dI cI cB cC cP ad ob q B i cells slots H locs ls hF hV hB hi hL hl hcells hslots kk
  obtain ⟨hx, hb, hr, hml, hown, hts, hX, hbl, hlocks, hE, hK2, hK3⟩ := hF
  obtain ⟨Z, O, M, A, hP, hD, hS, hO, hJ⟩ := hV
  have hbA : ¬ aB s.heap.size b := fun h => absurd h (Nat.not_le.mpr hbl)
  have hi1 : vp_in (nI i + 1) L := law_in (k := 1) hL (by omega)
  have hi2 : vp_in (nI i + 2) L := law_in (k := 2) hL (by omega)
  obtain ⟨r, hv2, hv3⟩ := q_matchesAgain (N := 1400) (Nat.le_refl _) hJ.1 (by omega) hJ.2.1 hJ.2.2.1 (xs (nI i + 1).toNatClampNeg) (xs (nI i + 2).toNatClampNeg)
  refine lv_aload_n hx hb dL_law_484 rfl (lv_at hl 1 rfl) ?_
  refine lv_aload_n hx hb dL_law_485 rfl (lv_at hl 0 rfl) ?_
  refine lv_iload_n hx hb dL_law_486 rfl (lv_at hl 3 rfl) ?_
  refine lv_iconst (v := 1) hx hb dL_law_487 (by decide) ?_
  refine lv_iadd hx hb dL_law_488 ?_
  refine va_sld hx hb hX hbl hbA hS hi1 dL_law_489 ?_
  refine lv_aload_n hx hb dL_law_490 rfl (lv_at hl 0 rfl) ?_
  refine lv_iload_n hx hb dL_law_491 rfl (lv_at hl 3 rfl) ?_
  refine lv_iconst (v := 2) hx hb dL_law_492 (by decide) ?_
  refine lv_iadd hx hb dL_law_493 ?_
  refine va_sld hx hb hX hbl hbA hS hi2 dL_law_494 ?_
  refine call_BVP (As := [.int (xs (nI i + 1).toNatClampNeg), .int (xs (nI i + 2).toNatClampNeg)]) (rest := []) ⟨hx, hb, hml, hown, hts⟩ (tX2_matchesAgain (l := l) (dC := dC) (dI := dI) (cI := cI) (cB := cB) (cP := cP) (ad := ad) (Z := Z) (base := s.heap.size) (R := mdW cI cC ob q M) hv2 hO) (cwV 2 hts gL_law_X2_matchesAgain rfl rfl rfl (by decide +kernel) ⟨Nat.le_of_ble_eq_true rfl, Nat.le_of_ble_eq_true rfl⟩) hK2 hP hD hS.1 (fun U hU hW => Env_step rfl rfl hE hS hU hW) 0 rfl rfl (by rfl) hl.1 rfl (Nat.le_of_ble_eq_true rfl) dL_law_495 ⟨by show _ ≤ 600000; omega, by show _ ≤ 7302250; omega⟩ ?_
  refine lv_aload_n hx hb dL_law_498 rfl (lv_at hl 2 rfl) ?_
  refine lv_aload_n hx hb dL_law_499 rfl (lv_at hl 0 rfl) ?_
  refine lv_iload_n hx hb dL_law_500 rfl (lv_at hl 3 rfl) ?_
  refine lv_iconst (v := 1) hx hb dL_law_501 (by decide) ?_
  refine lv_iadd hx hb dL_law_502 ?_
  refine va_sld hx hb hX hbl hbA hS hi1 dL_law_503 ?_
  refine lv_aload_n hx hb dL_law_504 rfl (lv_at hl 0 rfl) ?_
  refine lv_iload_n hx hb dL_law_505 rfl (lv_at hl 3 rfl) ?_
  refine lv_iconst (v := 2) hx hb dL_law_506 (by decide) ?_
  refine lv_iadd hx hb dL_law_507 ?_
  refine va_sld hx hb hX hbl hbA hS hi2 dL_law_508 ?_
  refine call_VP (As := [.int (xs (nI i + 1).toNatClampNeg), .int (xs (nI i + 2).toNatClampNeg)]) (rest := [.int r]) ⟨hx, hb, hml, hown, hts⟩ (tX3_matchesAgain (l := l) (dC := dC) (dI := dI) (cI := cI) (cC := cC) (ob := ob) (q := q) hv3) (cwV 2 hts gL_law_X3_matchesAgain rfl rfl rfl (by decide +kernel) ⟨Nat.le_of_ble_eq_true rfl, Nat.le_of_ble_eq_true rfl⟩) hK3 (P_app.mp hP).2 0 rfl rfl (by rfl) hl.1 rfl (Nat.le_of_ble_eq_true rfl) dL_law_509 ⟨by show _ ≤ 600000; omega, by show _ ≤ 7302250; omega⟩ ?_
  refine lv_icmp_eq (tgt := 861) hx hb dL_law_512 (by decide) (fun _ => ?_) (fun c1 => absurd rfl c1)
  refine W.widen (k := cells + 54) (n := slots + 13824) (by omega) (by omega) ?_
  exact kk H locs (LV_of hP hD hS hO (J_mono hJ.toJ (by omega)))
set_option maxHeartbeats 8000000 in
set_option maxRecDepth 100000 in
theorem law_c11 : LCase 517 := by
  intro p l e s m below meth c b L xs dC dI cI cB cC cP ad ob q B i cells slots H locs ls hF hV hB hi hL hl hcells hslots kk
  obtain ⟨hx, hb, hr, hml, hown, hts, hX, hbl, hlocks, hE, hK2, hK3⟩ := hF
  obtain ⟨Z, O, M, A, hP, hD, hS, hO, hJ⟩ := hV
  have hbA : ¬ aB s.heap.size b := fun h => absurd h (Nat.not_le.mpr hbl)
  obtain ⟨r, hv2, hv3⟩ := q_captain (N := 1400) (Nat.le_refl _) hJ.1 (by omega) hJ.2.1 hJ.2.2.1
  refine lv_aload_n hx hb dL_law_517 rfl (lv_at hl 1 rfl) ?_
  refine call_BVP (As := []) (rest := []) ⟨hx, hb, hml, hown, hts⟩ (tX2_captain (l := l) (dC := dC) (dI := dI) (cI := cI) (cB := cB) (cP := cP) (ad := ad) (Z := Z) (base := s.heap.size) (R := mdW cI cC ob q M) hv2 hO) (cwV 0 hts gL_law_X2_captain rfl rfl rfl (by decide +kernel) ⟨Nat.le_of_ble_eq_true rfl, Nat.le_of_ble_eq_true rfl⟩) hK2 hP hD hS.1 (fun U hU hW => Env_step rfl rfl hE hS hU hW) 0 rfl rfl (by rfl) hl.1 rfl (Nat.le_of_ble_eq_true rfl) dL_law_518 ⟨by show _ ≤ 600000; omega, by show _ ≤ 7302250; omega⟩ ?_
  refine lv_aload_n hx hb dL_law_521 rfl (lv_at hl 2 rfl) ?_
  refine call_VP (As := []) (rest := [.int r]) ⟨hx, hb, hml, hown, hts⟩ (tX3_captain (l := l) (dC := dC) (dI := dI) (cI := cI) (cC := cC) (ob := ob) (q := q) hv3) (cwV 0 hts gL_law_X3_captain rfl rfl rfl (by decide +kernel) ⟨Nat.le_of_ble_eq_true rfl, Nat.le_of_ble_eq_true rfl⟩) hK3 (P_app.mp hP).2 0 rfl rfl (by rfl) hl.1 rfl (Nat.le_of_ble_eq_true rfl) dL_law_522 ⟨by show _ ≤ 600000; omega, by show _ ≤ 7302250; omega⟩ ?_
  refine lv_icmp_eq (tgt := 861) hx hb dL_law_525 (by decide) (fun _ => ?_) (fun c1 => absurd rfl c1)
  refine W.widen (k := cells + 54) (n := slots + 13824) (by omega) (by omega) ?_
  exact kk H locs (LV_of hP hD hS hO (J_mono hJ.toJ (by omega)))
