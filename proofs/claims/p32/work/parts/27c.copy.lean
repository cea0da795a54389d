def cvLen : Nat → Nat := fun j => match j with | 7 => 60 | 8 => 60 | 9 => 25 | 10 => 6 | _ => if j < 7 then 5 else 0
theorem arr_congr {cA : ClassId} {n : Nat} {f g : Nat → Int32} (h : ∀ i, i < n → f i = g i) : vp_cell cA (n, .inl f) = vp_cell cA (n, .inl g) := by
  rw [vp_cell_i, vp_cell_i]
  unfold arrV
  have e : (fun j : Fin n => Value.int (f j.val)) = (fun j : Fin n => Value.int (g j.val)) := funext fun j => by rw [h j.val j.isLt]
  rw [e]
theorem cvW_congr {D : va_G} {cl : List vw_C} {cI : ClassId} {ob : Nat} {q : Nat → Nat} {K1 K2 : KT} {w : va_W} {H : Heap} (h : ∀ j i, i < cvLen j → K1 j i = K2 j i) (hP : va_P D cl (cvW cI ob q K1 ++ w) H) : va_P D cl (cvW cI ob q K2 ++ w) H := by
  have es : ∀ i, i < 6 → K1 10 i = K2 10 i := fun i hi => h 10 i hi
  intro k x hk
  match k, hk with
  | 0, hk =>
    cases hk
    have := hP 0 _ rfl
    rw [es 0 (by decide), es 1 (by decide), es 2 (by decide), es 3 (by decide), es 4 (by decide), es 5 (by decide)] at this
    exact this
  | 1, hk =>
    cases hk
    have h1 : H[q 0]? = some (vp_cell cI (5, .inl (K1 0))) := hP 1 _ rfl
    show H[q 0]? = some (vp_cell cI (5, .inl (K2 0)))
    rw [h1, arr_congr (n := 5) (h 0)]
  | 2, hk =>
    cases hk
    have h1 : H[q 1]? = some (vp_cell cI (5, .inl (K1 1))) := hP 2 _ rfl
    show H[q 1]? = some (vp_cell cI (5, .inl (K2 1)))
    rw [h1, arr_congr (n := 5) (h 1)]
  | 3, hk =>
    cases hk
    have h1 : H[q 2]? = some (vp_cell cI (5, .inl (K1 2))) := hP 3 _ rfl
    show H[q 2]? = some (vp_cell cI (5, .inl (K2 2)))
    rw [h1, arr_congr (n := 5) (h 2)]
  | 4, hk =>
    cases hk
    have h1 : H[q 3]? = some (vp_cell cI (5, .inl (K1 3))) := hP 4 _ rfl
    show H[q 3]? = some (vp_cell cI (5, .inl (K2 3)))
    rw [h1, arr_congr (n := 5) (h 3)]
  | 5, hk =>
    cases hk
    have h1 : H[q 4]? = some (vp_cell cI (5, .inl (K1 4))) := hP 5 _ rfl
    show H[q 4]? = some (vp_cell cI (5, .inl (K2 4)))
    rw [h1, arr_congr (n := 5) (h 4)]
  | 6, hk =>
    cases hk
    have h1 : H[q 5]? = some (vp_cell cI (5, .inl (K1 5))) := hP 6 _ rfl
    show H[q 5]? = some (vp_cell cI (5, .inl (K2 5)))
    rw [h1, arr_congr (n := 5) (h 5)]
  | 7, hk =>
    cases hk
    have h1 : H[q 6]? = some (vp_cell cI (5, .inl (K1 6))) := hP 7 _ rfl
    show H[q 6]? = some (vp_cell cI (5, .inl (K2 6)))
    rw [h1, arr_congr (n := 5) (h 6)]
  | 8, hk =>
    cases hk
    have h1 : H[q 7]? = some (vp_cell cI (60, .inl (K1 7))) := hP 8 _ rfl
    show H[q 7]? = some (vp_cell cI (60, .inl (K2 7)))
    rw [h1, arr_congr (n := 60) (h 7)]
  | 9, hk =>
    cases hk
    have h1 : H[q 8]? = some (vp_cell cI (60, .inl (K1 8))) := hP 9 _ rfl
    show H[q 8]? = some (vp_cell cI (60, .inl (K2 8)))
    rw [h1, arr_congr (n := 60) (h 8)]
  | 10, hk =>
    cases hk
    have h1 : H[q 9]? = some (vp_cell cI (25, .inl (K1 9))) := hP 10 _ rfl
    show H[q 9]? = some (vp_cell cI (25, .inl (K2 9)))
    rw [h1, arr_congr (n := 25) (h 9)]
  | k + 11, hk =>
    have hk2 : w[k]? = some x := hk
    exact hP (k + 11) x hk2
def rmX0_copyFrom : Room := { frames := 1, cells := 0, slots := 0, locals := 60 }
set_option maxHeartbeats 4000000 in
set_option maxRecDepth 100000 in
theorem tX0_copyFrom {l : Launch} {dC : Nat → ClassId} {dI : Nat → Nat → Nat} {cI : ClassId} {ob ob2 : Nat} {q q2 : Nat → Nat} {K J : KT} : Met l yX0_copyFrom wsX0_copyFrom rmX0_copyFrom (cPe (dC, dI) vwCl [(cI, .int)] (cvL ob q ++ cvL ob2 q2) (cvW cI ob q K ++ cvW cI ob2 q2 J) [.ref ob, .ref ob2]) (cEv (dC, dI) vwCl (cvL ob q ++ cvL ob2 q2) (cvW cI ob q J ++ cvW cI ob2 q2 J)) 0 0 (aL (cvL ob q ++ cvL ob2 q2)) := by
  refine Met.ofW (cc := cX0_copyFrom) (maxL := 2) (ret := none) (by decide) rfl ?_
  intro p e s m args below meth c s₁ B hml hv
  obtain ⟨rfl, hP, hK, hD⟩ := hv
  have hx := B.exec
  have hb := B.bytes
  have hr := B.returns
  have hts := atoms_spec (ws := wsX0_copyFrom) B.pre
  have hown : s.vm.findClass RX0 = some m.cls := findClass_of_methodNamed B.named
  have hlocks := B.notSynchronized
  have hwX0 : ∀ w ∈ u_ws RX0 TX0 16, w ∈ wsX0_copyFrom := by decide +kernel
  have hf_9 := hts (.fieldLink RX0 9 "CaravanLogs$Caravan" "term" "[I") (by decide +kernel)
  have hf_15 := hts (.fieldLink RX0 15 "CaravanLogs$Caravan" "vote" "[I") (by decide +kernel)
  have hf_18 := hts (.fieldLink RX0 18 "CaravanLogs$Caravan" "isCaptain" "[I") (by decide +kernel)
  have hf_21 := hts (.fieldLink RX0 21 "CaravanLogs$Caravan" "isAwake" "[I") (by decide +kernel)
  have hf_24 := hts (.fieldLink RX0 24 "CaravanLogs$Caravan" "silence" "[I") (by decide +kernel)
  have hf_27 := hts (.fieldLink RX0 27 "CaravanLogs$Caravan" "pages" "[I") (by decide +kernel)
  have hf_30 := hts (.fieldLink RX0 30 "CaravanLogs$Caravan" "settled" "[I") (by decide +kernel)
  have hf_33 := hts (.fieldLink RX0 33 "CaravanLogs$Caravan" "pageTerm" "[I") (by decide +kernel)
  have hf_36 := hts (.fieldLink RX0 36 "CaravanLogs$Caravan" "pageLetter" "[I") (by decide +kernel)
  have hf_39 := hts (.fieldLink RX0 39 "CaravanLogs$Caravan" "isOpen" "[I") (by decide +kernel)
  have hf_42 := hts (.fieldLink RX0 42 "CaravanLogs$Caravan" "dusks" "I") (by decide +kernel)
  have hf_46 := hts (.fieldLink RX0 46 "CaravanLogs$Caravan" "captainsMade" "I") (by decide +kernel)
  have hf_49 := hts (.fieldLink RX0 49 "CaravanLogs$Caravan" "pagesWritten" "I") (by decide +kernel)
  have hf_52 := hts (.fieldLink RX0 52 "CaravanLogs$Caravan" "pagesTorn" "I") (by decide +kernel)
  have hf_55 := hts (.fieldLink RX0 55 "CaravanLogs$Caravan" "marches" "I") (by decide +kernel)
  have hf_58 := hts (.fieldLink RX0 58 "CaravanLogs$Caravan" "hours" "I") (by decide +kernel)
  have hlk := hts (.methodLink RX0 61 arraycopyName) (by decide +kernel)
  have hna := hts (.native arraycopyName) (by decide +kernel)
  have hst := hts (.static arraycopyName) (by decide +kernel)
  have hin := hts (.initialized "java/lang/System") (by decide +kernel)
  have hS : va_S (aL (cvL ob q ++ cvL ob2 q2)) s.heap s.heap [] := va_S.rf
  have hl := lv_entry ([.ref ob, .ref ob2]) (n := 2) (Nat.le_of_ble_eq_true rfl)
  rw [lg_entry_eq]
  generalize (lg_sl ([.ref ob, .ref ob2]) ++ List.replicate (2 - (lg_sl ([.ref ob, .ref ob2])).length) Slot.unset).toArray = ls at hl ⊢
  have hl : lv_has ls 2 [(0, .ref ob), (1, .ref ob2)] := hl
  refine lv_aload_n hx hb dX0_copyFrom_0 rfl (lv_at hl 1 rfl) ?_
  refine va_get (D := (dC, dI)) (ci := 1) (v := .ref (q2 0)) (C := RX0) (T := TX0) (N := 16) hx hb hts hwX0 hown hK hP 11 rfl rfl 0 (by decide) hf_9 (fun _ h9 => h9) rfl dX0_copyFrom_1 ?_
  refine lv_iconst (v := 0) hx hb dX0_copyFrom_4 (by decide) ?_
  refine lv_aload_n hx hb dX0_copyFrom_5 rfl (lv_at hl 0 rfl) ?_
  refine va_get (D := (dC, dI)) (ci := 1) (v := .ref (q 0)) (C := RX0) (T := TX0) (N := 16) hx hb hts hwX0 hown hK hP 0 rfl rfl 0 (by decide) hf_9 (fun _ h9 => h9) rfl dX0_copyFrom_6 ?_
  refine lv_iconst (v := 0) hx hb dX0_copyFrom_9 (by decide) ?_
  refine lv_iconst (v := 5) hx hb dX0_copyFrom_10 (by decide) ?_
  refine va_copyi hx hb (hml.trans hl.1.symm) hown hlk hna hst hin hK hP hD hS 12 1 0 0 rfl rfl rfl rfl rfl (by decide) (by decide) (by decide) (by decide) (by decide) (fun _ _ => rfl) (Nat.le_of_ble_eq_true rfl) (by decide +kernel) dX0_copyFrom_11 (fun H locs hP hD hS => ?_)
  obtain ⟨K1, eK1⟩ : ∃ z, z = rset K 0 (va_cpy (J 0) (K 0) (0 : Int32).toNatClampNeg (0 : Int32).toNatClampNeg (5 : Int32).toNatClampNeg) := ⟨_, rfl⟩
  have hP : va_P (dC, dI) vwCl (cvW cI ob q K1 ++ cvW cI ob2 q2 J) H := by rw [eK1]; exact hP
  have hD : va_D (aL (cvL ob q ++ cvL ob2 q2)) (cvW cI ob q K1 ++ cvW cI ob2 q2 J) := by rw [eK1]; exact hD
  refine lv_aload_n hx hb dX0_copyFrom_14 rfl (lv_at hl 1 rfl) ?_
  refine va_get (D := (dC, dI)) (ci := 1) (v := .ref (q2 1)) (C := RX0) (T := TX0) (N := 16) hx hb hts hwX0 hown hK hP 11 rfl rfl 1 (by decide) hf_15 (fun _ h9 => h9) rfl dX0_copyFrom_15 ?_
  refine lv_iconst (v := 0) hx hb dX0_copyFrom_18 (by decide) ?_
  refine lv_aload_n hx hb dX0_copyFrom_19 rfl (lv_at hl 0 rfl) ?_
  refine va_get (D := (dC, dI)) (ci := 1) (v := .ref (q 1)) (C := RX0) (T := TX0) (N := 16) hx hb hts hwX0 hown hK hP 0 rfl rfl 1 (by decide) hf_15 (fun _ h9 => h9) rfl dX0_copyFrom_20 ?_
  refine lv_iconst (v := 0) hx hb dX0_copyFrom_23 (by decide) ?_
  refine lv_iconst (v := 5) hx hb dX0_copyFrom_24 (by decide) ?_
  refine va_copyi hx hb (hml.trans hl.1.symm) hown hlk hna hst hin hK hP hD hS 13 2 0 0 rfl rfl rfl rfl rfl (by decide) (by decide) (by decide) (by decide) (by decide) (fun _ _ => rfl) (Nat.le_of_ble_eq_true rfl) (by decide +kernel) dX0_copyFrom_25 (fun H locs hP hD hS => ?_)
  obtain ⟨K2, eK2⟩ : ∃ z, z = rset K1 1 (va_cpy (J 1) (K1 1) (0 : Int32).toNatClampNeg (0 : Int32).toNatClampNeg (5 : Int32).toNatClampNeg) := ⟨_, rfl⟩
  have hP : va_P (dC, dI) vwCl (cvW cI ob q K2 ++ cvW cI ob2 q2 J) H := by rw [eK2]; exact hP
  have hD : va_D (aL (cvL ob q ++ cvL ob2 q2)) (cvW cI ob q K2 ++ cvW cI ob2 q2 J) := by rw [eK2]; exact hD
  refine lv_aload_n hx hb dX0_copyFrom_28 rfl (lv_at hl 1 rfl) ?_
  refine va_get (D := (dC, dI)) (ci := 1) (v := .ref (q2 2)) (C := RX0) (T := TX0) (N := 16) hx hb hts hwX0 hown hK hP 11 rfl rfl 2 (by decide) hf_18 (fun _ h9 => h9) rfl dX0_copyFrom_29 ?_
  refine lv_iconst (v := 0) hx hb dX0_copyFrom_32 (by decide) ?_
  refine lv_aload_n hx hb dX0_copyFrom_33 rfl (lv_at hl 0 rfl) ?_
  refine va_get (D := (dC, dI)) (ci := 1) (v := .ref (q 2)) (C := RX0) (T := TX0) (N := 16) hx hb hts hwX0 hown hK hP 0 rfl rfl 2 (by decide) hf_18 (fun _ h9 => h9) rfl dX0_copyFrom_34 ?_
  refine lv_iconst (v := 0) hx hb dX0_copyFrom_37 (by decide) ?_
  refine lv_iconst (v := 5) hx hb dX0_copyFrom_38 (by decide) ?_
  refine va_copyi hx hb (hml.trans hl.1.symm) hown hlk hna hst hin hK hP hD hS 14 3 0 0 rfl rfl rfl rfl rfl (by decide) (by decide) (by decide) (by decide) (by decide) (fun _ _ => rfl) (Nat.le_of_ble_eq_true rfl) (by decide +kernel) dX0_copyFrom_39 (fun H locs hP hD hS => ?_)
  obtain ⟨K3, eK3⟩ : ∃ z, z = rset K2 2 (va_cpy (J 2) (K2 2) (0 : Int32).toNatClampNeg (0 : Int32).toNatClampNeg (5 : Int32).toNatClampNeg) := ⟨_, rfl⟩
  have hP : va_P (dC, dI) vwCl (cvW cI ob q K3 ++ cvW cI ob2 q2 J) H := by rw [eK3]; exact hP
  have hD : va_D (aL (cvL ob q ++ cvL ob2 q2)) (cvW cI ob q K3 ++ cvW cI ob2 q2 J) := by rw [eK3]; exact hD
  refine lv_aload_n hx hb dX0_copyFrom_42 rfl (lv_at hl 1 rfl) ?_
  refine va_get (D := (dC, dI)) (ci := 1) (v := .ref (q2 3)) (C := RX0) (T := TX0) (N := 16) hx hb hts hwX0 hown hK hP 11 rfl rfl 3 (by decide) hf_21 (fun _ h9 => h9) rfl dX0_copyFrom_43 ?_
  refine lv_iconst (v := 0) hx hb dX0_copyFrom_46 (by decide) ?_
  refine lv_aload_n hx hb dX0_copyFrom_47 rfl (lv_at hl 0 rfl) ?_
  refine va_get (D := (dC, dI)) (ci := 1) (v := .ref (q 3)) (C := RX0) (T := TX0) (N := 16) hx hb hts hwX0 hown hK hP 0 rfl rfl 3 (by decide) hf_21 (fun _ h9 => h9) rfl dX0_copyFrom_48 ?_
  refine lv_iconst (v := 0) hx hb dX0_copyFrom_51 (by decide) ?_
  refine lv_iconst (v := 5) hx hb dX0_copyFrom_52 (by decide) ?_
  refine va_copyi hx hb (hml.trans hl.1.symm) hown hlk hna hst hin hK hP hD hS 15 4 0 0 rfl rfl rfl rfl rfl (by decide) (by decide) (by decide) (by decide) (by decide) (fun _ _ => rfl) (Nat.le_of_ble_eq_true rfl) (by decide +kernel) dX0_copyFrom_53 (fun H locs hP hD hS => ?_)
  obtain ⟨K4, eK4⟩ : ∃ z, z = rset K3 3 (va_cpy (J 3) (K3 3) (0 : Int32).toNatClampNeg (0 : Int32).toNatClampNeg (5 : Int32).toNatClampNeg) := ⟨_, rfl⟩
  have hP : va_P (dC, dI) vwCl (cvW cI ob q K4 ++ cvW cI ob2 q2 J) H := by rw [eK4]; exact hP
  have hD : va_D (aL (cvL ob q ++ cvL ob2 q2)) (cvW cI ob q K4 ++ cvW cI ob2 q2 J) := by rw [eK4]; exact hD
  refine lv_aload_n hx hb dX0_copyFrom_56 rfl (lv_at hl 1 rfl) ?_
  refine va_get (D := (dC, dI)) (ci := 1) (v := .ref (q2 4)) (C := RX0) (T := TX0) (N := 16) hx hb hts hwX0 hown hK hP 11 rfl rfl 4 (by decide) hf_24 (fun _ h9 => h9) rfl dX0_copyFrom_57 ?_
  refine lv_iconst (v := 0) hx hb dX0_copyFrom_60 (by decide) ?_
  refine lv_aload_n hx hb dX0_copyFrom_61 rfl (lv_at hl 0 rfl) ?_
  refine va_get (D := (dC, dI)) (ci := 1) (v := .ref (q 4)) (C := RX0) (T := TX0) (N := 16) hx hb hts hwX0 hown hK hP 0 rfl rfl 4 (by decide) hf_24 (fun _ h9 => h9) rfl dX0_copyFrom_62 ?_
  refine lv_iconst (v := 0) hx hb dX0_copyFrom_65 (by decide) ?_
  refine lv_iconst (v := 5) hx hb dX0_copyFrom_66 (by decide) ?_
  refine va_copyi hx hb (hml.trans hl.1.symm) hown hlk hna hst hin hK hP hD hS 16 5 0 0 rfl rfl rfl rfl rfl (by decide) (by decide) (by decide) (by decide) (by decide) (fun _ _ => rfl) (Nat.le_of_ble_eq_true rfl) (by decide +kernel) dX0_copyFrom_67 (fun H locs hP hD hS => ?_)
  obtain ⟨K5, eK5⟩ : ∃ z, z = rset K4 4 (va_cpy (J 4) (K4 4) (0 : Int32).toNatClampNeg (0 : Int32).toNatClampNeg (5 : Int32).toNatClampNeg) := ⟨_, rfl⟩
  have hP : va_P (dC, dI) vwCl (cvW cI ob q K5 ++ cvW cI ob2 q2 J) H := by rw [eK5]; exact hP
  have hD : va_D (aL (cvL ob q ++ cvL ob2 q2)) (cvW cI ob q K5 ++ cvW cI ob2 q2 J) := by rw [eK5]; exact hD
  refine lv_aload_n hx hb dX0_copyFrom_70 rfl (lv_at hl 1 rfl) ?_
  refine va_get (D := (dC, dI)) (ci := 1) (v := .ref (q2 5)) (C := RX0) (T := TX0) (N := 16) hx hb hts hwX0 hown hK hP 11 rfl rfl 5 (by decide) hf_27 (fun _ h9 => h9) rfl dX0_copyFrom_71 ?_
  refine lv_iconst (v := 0) hx hb dX0_copyFrom_74 (by decide) ?_
  refine lv_aload_n hx hb dX0_copyFrom_75 rfl (lv_at hl 0 rfl) ?_
  refine va_get (D := (dC, dI)) (ci := 1) (v := .ref (q 5)) (C := RX0) (T := TX0) (N := 16) hx hb hts hwX0 hown hK hP 0 rfl rfl 5 (by decide) hf_27 (fun _ h9 => h9) rfl dX0_copyFrom_76 ?_
  refine lv_iconst (v := 0) hx hb dX0_copyFrom_79 (by decide) ?_
  refine lv_iconst (v := 5) hx hb dX0_copyFrom_80 (by decide) ?_
  refine va_copyi hx hb (hml.trans hl.1.symm) hown hlk hna hst hin hK hP hD hS 17 6 0 0 rfl rfl rfl rfl rfl (by decide) (by decide) (by decide) (by decide) (by decide) (fun _ _ => rfl) (Nat.le_of_ble_eq_true rfl) (by decide +kernel) dX0_copyFrom_81 (fun H locs hP hD hS => ?_)
  obtain ⟨K6, eK6⟩ : ∃ z, z = rset K5 5 (va_cpy (J 5) (K5 5) (0 : Int32).toNatClampNeg (0 : Int32).toNatClampNeg (5 : Int32).toNatClampNeg) := ⟨_, rfl⟩
  have hP : va_P (dC, dI) vwCl (cvW cI ob q K6 ++ cvW cI ob2 q2 J) H := by rw [eK6]; exact hP
  have hD : va_D (aL (cvL ob q ++ cvL ob2 q2)) (cvW cI ob q K6 ++ cvW cI ob2 q2 J) := by rw [eK6]; exact hD
  refine lv_aload_n hx hb dX0_copyFrom_84 rfl (lv_at hl 1 rfl) ?_
  refine va_get (D := (dC, dI)) (ci := 1) (v := .ref (q2 6)) (C := RX0) (T := TX0) (N := 16) hx hb hts hwX0 hown hK hP 11 rfl rfl 6 (by decide) hf_30 (fun _ h9 => h9) rfl dX0_copyFrom_85 ?_
  refine lv_iconst (v := 0) hx hb dX0_copyFrom_88 (by decide) ?_
  refine lv_aload_n hx hb dX0_copyFrom_89 rfl (lv_at hl 0 rfl) ?_
  refine va_get (D := (dC, dI)) (ci := 1) (v := .ref (q 6)) (C := RX0) (T := TX0) (N := 16) hx hb hts hwX0 hown hK hP 0 rfl rfl 6 (by decide) hf_30 (fun _ h9 => h9) rfl dX0_copyFrom_90 ?_
  refine lv_iconst (v := 0) hx hb dX0_copyFrom_93 (by decide) ?_
  refine lv_iconst (v := 5) hx hb dX0_copyFrom_94 (by decide) ?_
  refine va_copyi hx hb (hml.trans hl.1.symm) hown hlk hna hst hin hK hP hD hS 18 7 0 0 rfl rfl rfl rfl rfl (by decide) (by decide) (by decide) (by decide) (by decide) (fun _ _ => rfl) (Nat.le_of_ble_eq_true rfl) (by decide +kernel) dX0_copyFrom_95 (fun H locs hP hD hS => ?_)
  obtain ⟨K7, eK7⟩ : ∃ z, z = rset K6 6 (va_cpy (J 6) (K6 6) (0 : Int32).toNatClampNeg (0 : Int32).toNatClampNeg (5 : Int32).toNatClampNeg) := ⟨_, rfl⟩
  have hP : va_P (dC, dI) vwCl (cvW cI ob q K7 ++ cvW cI ob2 q2 J) H := by rw [eK7]; exact hP
  have hD : va_D (aL (cvL ob q ++ cvL ob2 q2)) (cvW cI ob q K7 ++ cvW cI ob2 q2 J) := by rw [eK7]; exact hD
  refine lv_aload_n hx hb dX0_copyFrom_98 rfl (lv_at hl 1 rfl) ?_
  refine va_get (D := (dC, dI)) (ci := 1) (v := .ref (q2 7)) (C := RX0) (T := TX0) (N := 16) hx hb hts hwX0 hown hK hP 11 rfl rfl 7 (by decide) hf_33 (fun _ h9 => h9) rfl dX0_copyFrom_99 ?_
  refine lv_iconst (v := 0) hx hb dX0_copyFrom_102 (by decide) ?_
  refine lv_aload_n hx hb dX0_copyFrom_103 rfl (lv_at hl 0 rfl) ?_
  refine va_get (D := (dC, dI)) (ci := 1) (v := .ref (q 7)) (C := RX0) (T := TX0) (N := 16) hx hb hts hwX0 hown hK hP 0 rfl rfl 7 (by decide) hf_33 (fun _ h9 => h9) rfl dX0_copyFrom_104 ?_
  refine lv_iconst (v := 0) hx hb dX0_copyFrom_107 (by decide) ?_
  refine lv_bipush (v := 60) hx hb dX0_copyFrom_108 (by decide) ?_
  refine va_copyi hx hb (hml.trans hl.1.symm) hown hlk hna hst hin hK hP hD hS 19 8 0 0 rfl rfl rfl rfl rfl (by decide) (by decide) (by decide) (by decide) (by decide) (fun _ _ => rfl) (Nat.le_of_ble_eq_true rfl) (by decide +kernel) dX0_copyFrom_110 (fun H locs hP hD hS => ?_)
  obtain ⟨K8, eK8⟩ : ∃ z, z = rset K7 7 (va_cpy (J 7) (K7 7) (0 : Int32).toNatClampNeg (0 : Int32).toNatClampNeg (60 : Int32).toNatClampNeg) := ⟨_, rfl⟩
  have hP : va_P (dC, dI) vwCl (cvW cI ob q K8 ++ cvW cI ob2 q2 J) H := by rw [eK8]; exact hP
  have hD : va_D (aL (cvL ob q ++ cvL ob2 q2)) (cvW cI ob q K8 ++ cvW cI ob2 q2 J) := by rw [eK8]; exact hD
  refine lv_aload_n hx hb dX0_copyFrom_113 rfl (lv_at hl 1 rfl) ?_
  refine va_get (D := (dC, dI)) (ci := 1) (v := .ref (q2 8)) (C := RX0) (T := TX0) (N := 16) hx hb hts hwX0 hown hK hP 11 rfl rfl 8 (by decide) hf_36 (fun _ h9 => h9) rfl dX0_copyFrom_114 ?_
  refine lv_iconst (v := 0) hx hb dX0_copyFrom_117 (by decide) ?_
  refine lv_aload_n hx hb dX0_copyFrom_118 rfl (lv_at hl 0 rfl) ?_
  refine va_get (D := (dC, dI)) (ci := 1) (v := .ref (q 8)) (C := RX0) (T := TX0) (N := 16) hx hb hts hwX0 hown hK hP 0 rfl rfl 8 (by decide) hf_36 (fun _ h9 => h9) rfl dX0_copyFrom_119 ?_
  refine lv_iconst (v := 0) hx hb dX0_copyFrom_122 (by decide) ?_
  refine lv_bipush (v := 60) hx hb dX0_copyFrom_123 (by decide) ?_
  refine va_copyi hx hb (hml.trans hl.1.symm) hown hlk hna hst hin hK hP hD hS 20 9 0 0 rfl rfl rfl rfl rfl (by decide) (by decide) (by decide) (by decide) (by decide) (fun _ _ => rfl) (Nat.le_of_ble_eq_true rfl) (by decide +kernel) dX0_copyFrom_125 (fun H locs hP hD hS => ?_)
  obtain ⟨K9, eK9⟩ : ∃ z, z = rset K8 8 (va_cpy (J 8) (K8 8) (0 : Int32).toNatClampNeg (0 : Int32).toNatClampNeg (60 : Int32).toNatClampNeg) := ⟨_, rfl⟩
  have hP : va_P (dC, dI) vwCl (cvW cI ob q K9 ++ cvW cI ob2 q2 J) H := by rw [eK9]; exact hP
  have hD : va_D (aL (cvL ob q ++ cvL ob2 q2)) (cvW cI ob q K9 ++ cvW cI ob2 q2 J) := by rw [eK9]; exact hD
  refine lv_aload_n hx hb dX0_copyFrom_128 rfl (lv_at hl 1 rfl) ?_
  refine va_get (D := (dC, dI)) (ci := 1) (v := .ref (q2 9)) (C := RX0) (T := TX0) (N := 16) hx hb hts hwX0 hown hK hP 11 rfl rfl 9 (by decide) hf_39 (fun _ h9 => h9) rfl dX0_copyFrom_129 ?_
  refine lv_iconst (v := 0) hx hb dX0_copyFrom_132 (by decide) ?_
  refine lv_aload_n hx hb dX0_copyFrom_133 rfl (lv_at hl 0 rfl) ?_
  refine va_get (D := (dC, dI)) (ci := 1) (v := .ref (q 9)) (C := RX0) (T := TX0) (N := 16) hx hb hts hwX0 hown hK hP 0 rfl rfl 9 (by decide) hf_39 (fun _ h9 => h9) rfl dX0_copyFrom_134 ?_
  refine lv_iconst (v := 0) hx hb dX0_copyFrom_137 (by decide) ?_
  refine lv_bipush (v := 25) hx hb dX0_copyFrom_138 (by decide) ?_
  refine va_copyi hx hb (hml.trans hl.1.symm) hown hlk hna hst hin hK hP hD hS 21 10 0 0 rfl rfl rfl rfl rfl (by decide) (by decide) (by decide) (by decide) (by decide) (fun _ _ => rfl) (Nat.le_of_ble_eq_true rfl) (by decide +kernel) dX0_copyFrom_140 (fun H locs hP hD hS => ?_)
  obtain ⟨K10, eK10⟩ : ∃ z, z = rset K9 9 (va_cpy (J 9) (K9 9) (0 : Int32).toNatClampNeg (0 : Int32).toNatClampNeg (25 : Int32).toNatClampNeg) := ⟨_, rfl⟩
  have hP : va_P (dC, dI) vwCl (cvW cI ob q K10 ++ cvW cI ob2 q2 J) H := by rw [eK10]; exact hP
  have hD : va_D (aL (cvL ob q ++ cvL ob2 q2)) (cvW cI ob q K10 ++ cvW cI ob2 q2 J) := by rw [eK10]; exact hD
  refine lv_aload_n hx hb dX0_copyFrom_143 rfl (lv_at hl 0 rfl) ?_
  refine lv_aload_n hx hb dX0_copyFrom_144 rfl (lv_at hl 1 rfl) ?_
  refine va_get (D := (dC, dI)) (ci := 1) (v := .int (J 10 0)) (C := RX0) (T := TX0) (N := 16) hx hb hts hwX0 hown hK hP 11 rfl rfl 10 (by decide) hf_42 (fun _ h9 => h9) rfl dX0_copyFrom_145 ?_
  refine va_put (D := (dC, dI)) (ci := 1) (v := .int (J 10 0)) (ty := .int) (C := RX0) (T := TX0) (N := 16) hx hb hts hwX0 tyX0 tyX0_ok nmX0 hown hK hP hD hS 0 rfl rfl 10 (by decide) hf_42 (fun _ h9 => h9) rfl (by decide +kernel) rfl rfl (Nat.le_of_ble_eq_true rfl) dX0_copyFrom_148 (fun H locs hP hD hS => ?_)
  obtain ⟨K11, eK11⟩ : ∃ z, z = fset K10 10 0 (J 10 0) := ⟨_, rfl⟩
  have hP : va_P (dC, dI) vwCl (cvW cI ob q K11 ++ cvW cI ob2 q2 J) H := by rw [eK11]; exact hP
  have hD : va_D (aL (cvL ob q ++ cvL ob2 q2)) (cvW cI ob q K11 ++ cvW cI ob2 q2 J) := by rw [eK11]; exact hD
  refine lv_aload_n hx hb dX0_copyFrom_151 rfl (lv_at hl 0 rfl) ?_
  refine lv_aload_n hx hb dX0_copyFrom_152 rfl (lv_at hl 1 rfl) ?_
  refine va_get (D := (dC, dI)) (ci := 1) (v := .int (J 10 1)) (C := RX0) (T := TX0) (N := 16) hx hb hts hwX0 hown hK hP 11 rfl rfl 11 (by decide) hf_46 (fun _ h9 => h9) rfl dX0_copyFrom_153 ?_
  refine va_put (D := (dC, dI)) (ci := 1) (v := .int (J 10 1)) (ty := .int) (C := RX0) (T := TX0) (N := 16) hx hb hts hwX0 tyX0 tyX0_ok nmX0 hown hK hP hD hS 0 rfl rfl 11 (by decide) hf_46 (fun _ h9 => h9) rfl (by decide +kernel) rfl rfl (Nat.le_of_ble_eq_true rfl) dX0_copyFrom_156 (fun H locs hP hD hS => ?_)
  obtain ⟨K12, eK12⟩ : ∃ z, z = fset K11 10 1 (J 10 1) := ⟨_, rfl⟩
  have hP : va_P (dC, dI) vwCl (cvW cI ob q K12 ++ cvW cI ob2 q2 J) H := by rw [eK12]; exact hP
  have hD : va_D (aL (cvL ob q ++ cvL ob2 q2)) (cvW cI ob q K12 ++ cvW cI ob2 q2 J) := by rw [eK12]; exact hD
  refine lv_aload_n hx hb dX0_copyFrom_159 rfl (lv_at hl 0 rfl) ?_
  refine lv_aload_n hx hb dX0_copyFrom_160 rfl (lv_at hl 1 rfl) ?_
  refine va_get (D := (dC, dI)) (ci := 1) (v := .int (J 10 2)) (C := RX0) (T := TX0) (N := 16) hx hb hts hwX0 hown hK hP 11 rfl rfl 12 (by decide) hf_49 (fun _ h9 => h9) rfl dX0_copyFrom_161 ?_
  refine va_put (D := (dC, dI)) (ci := 1) (v := .int (J 10 2)) (ty := .int) (C := RX0) (T := TX0) (N := 16) hx hb hts hwX0 tyX0 tyX0_ok nmX0 hown hK hP hD hS 0 rfl rfl 12 (by decide) hf_49 (fun _ h9 => h9) rfl (by decide +kernel) rfl rfl (Nat.le_of_ble_eq_true rfl) dX0_copyFrom_164 (fun H locs hP hD hS => ?_)
  obtain ⟨K13, eK13⟩ : ∃ z, z = fset K12 10 2 (J 10 2) := ⟨_, rfl⟩
  have hP : va_P (dC, dI) vwCl (cvW cI ob q K13 ++ cvW cI ob2 q2 J) H := by rw [eK13]; exact hP
  have hD : va_D (aL (cvL ob q ++ cvL ob2 q2)) (cvW cI ob q K13 ++ cvW cI ob2 q2 J) := by rw [eK13]; exact hD
  refine lv_aload_n hx hb dX0_copyFrom_167 rfl (lv_at hl 0 rfl) ?_
  refine lv_aload_n hx hb dX0_copyFrom_168 rfl (lv_at hl 1 rfl) ?_
  refine va_get (D := (dC, dI)) (ci := 1) (v := .int (J 10 3)) (C := RX0) (T := TX0) (N := 16) hx hb hts hwX0 hown hK hP 11 rfl rfl 13 (by decide) hf_52 (fun _ h9 => h9) rfl dX0_copyFrom_169 ?_
  refine va_put (D := (dC, dI)) (ci := 1) (v := .int (J 10 3)) (ty := .int) (C := RX0) (T := TX0) (N := 16) hx hb hts hwX0 tyX0 tyX0_ok nmX0 hown hK hP hD hS 0 rfl rfl 13 (by decide) hf_52 (fun _ h9 => h9) rfl (by decide +kernel) rfl rfl (Nat.le_of_ble_eq_true rfl) dX0_copyFrom_172 (fun H locs hP hD hS => ?_)
  obtain ⟨K14, eK14⟩ : ∃ z, z = fset K13 10 3 (J 10 3) := ⟨_, rfl⟩
  have hP : va_P (dC, dI) vwCl (cvW cI ob q K14 ++ cvW cI ob2 q2 J) H := by rw [eK14]; exact hP
  have hD : va_D (aL (cvL ob q ++ cvL ob2 q2)) (cvW cI ob q K14 ++ cvW cI ob2 q2 J) := by rw [eK14]; exact hD
  refine lv_aload_n hx hb dX0_copyFrom_175 rfl (lv_at hl 0 rfl) ?_
  refine lv_aload_n hx hb dX0_copyFrom_176 rfl (lv_at hl 1 rfl) ?_
  refine va_get (D := (dC, dI)) (ci := 1) (v := .int (J 10 4)) (C := RX0) (T := TX0) (N := 16) hx hb hts hwX0 hown hK hP 11 rfl rfl 14 (by decide) hf_55 (fun _ h9 => h9) rfl dX0_copyFrom_177 ?_
  refine va_put (D := (dC, dI)) (ci := 1) (v := .int (J 10 4)) (ty := .int) (C := RX0) (T := TX0) (N := 16) hx hb hts hwX0 tyX0 tyX0_ok nmX0 hown hK hP hD hS 0 rfl rfl 14 (by decide) hf_55 (fun _ h9 => h9) rfl (by decide +kernel) rfl rfl (Nat.le_of_ble_eq_true rfl) dX0_copyFrom_180 (fun H locs hP hD hS => ?_)
  obtain ⟨K15, eK15⟩ : ∃ z, z = fset K14 10 4 (J 10 4) := ⟨_, rfl⟩
  have hP : va_P (dC, dI) vwCl (cvW cI ob q K15 ++ cvW cI ob2 q2 J) H := by rw [eK15]; exact hP
  have hD : va_D (aL (cvL ob q ++ cvL ob2 q2)) (cvW cI ob q K15 ++ cvW cI ob2 q2 J) := by rw [eK15]; exact hD
  refine lv_aload_n hx hb dX0_copyFrom_183 rfl (lv_at hl 0 rfl) ?_
  refine lv_aload_n hx hb dX0_copyFrom_184 rfl (lv_at hl 1 rfl) ?_
  refine va_get (D := (dC, dI)) (ci := 1) (v := .int (J 10 5)) (C := RX0) (T := TX0) (N := 16) hx hb hts hwX0 hown hK hP 11 rfl rfl 15 (by decide) hf_58 (fun _ h9 => h9) rfl dX0_copyFrom_185 ?_
  refine va_put (D := (dC, dI)) (ci := 1) (v := .int (J 10 5)) (ty := .int) (C := RX0) (T := TX0) (N := 16) hx hb hts hwX0 tyX0 tyX0_ok nmX0 hown hK hP hD hS 0 rfl rfl 15 (by decide) hf_58 (fun _ h9 => h9) rfl (by decide +kernel) rfl rfl (Nat.le_of_ble_eq_true rfl) dX0_copyFrom_188 (fun H locs hP hD hS => ?_)
  obtain ⟨K16, eK16⟩ : ∃ z, z = fset K15 10 5 (J 10 5) := ⟨_, rfl⟩
  have hP : va_P (dC, dI) vwCl (cvW cI ob q K16 ++ cvW cI ob2 q2 J) H := by rw [eK16]; exact hP
  have hD : va_D (aL (cvL ob q ++ cvL ob2 q2)) (cvW cI ob q K16 ++ cvW cI ob2 q2 J) := by rw [eK16]; exact hD
  have hco : ∀ j i, i < cvLen j → K16 j i = J j i := by
    have c5 : (5 : Int32).toNatClampNeg = 5 := by decide
    have c60 : (60 : Int32).toNatClampNeg = 60 := by decide
    have c25 : (25 : Int32).toNatClampNeg = 25 := by decide
    have c0 : (0 : Int32).toNatClampNeg = 0 := by decide
    intro j i hi
    match j, hi with
    | 0, hi =>
      have hi : i < 5 := hi
      rw [eK16, eK15, eK14, eK13, eK12, eK11, eK10, eK9, eK8, eK7, eK6, eK5, eK4, eK3, eK2, eK1]
      show va_cpy (J 0) _ _ _ _ i = J 0 i
      unfold va_cpy
      rw [c0, c5, if_pos (by omega)]
      congr 1
      omega
    | 1, hi =>
      have hi : i < 5 := hi
      rw [eK16, eK15, eK14, eK13, eK12, eK11, eK10, eK9, eK8, eK7, eK6, eK5, eK4, eK3, eK2, eK1]
      show va_cpy (J 1) _ _ _ _ i = J 1 i
      unfold va_cpy
      rw [c0, c5, if_pos (by omega)]
      congr 1
      omega
    | 2, hi =>
      have hi : i < 5 := hi
      rw [eK16, eK15, eK14, eK13, eK12, eK11, eK10, eK9, eK8, eK7, eK6, eK5, eK4, eK3, eK2, eK1]
      show va_cpy (J 2) _ _ _ _ i = J 2 i
      unfold va_cpy
      rw [c0, c5, if_pos (by omega)]
      congr 1
      omega
    | 3, hi =>
      have hi : i < 5 := hi
      rw [eK16, eK15, eK14, eK13, eK12, eK11, eK10, eK9, eK8, eK7, eK6, eK5, eK4, eK3, eK2, eK1]
      show va_cpy (J 3) _ _ _ _ i = J 3 i
      unfold va_cpy
      rw [c0, c5, if_pos (by omega)]
      congr 1
      omega
    | 4, hi =>
      have hi : i < 5 := hi
      rw [eK16, eK15, eK14, eK13, eK12, eK11, eK10, eK9, eK8, eK7, eK6, eK5, eK4, eK3, eK2, eK1]
      show va_cpy (J 4) _ _ _ _ i = J 4 i
      unfold va_cpy
      rw [c0, c5, if_pos (by omega)]
      congr 1
      omega
    | 5, hi =>
      have hi : i < 5 := hi
      rw [eK16, eK15, eK14, eK13, eK12, eK11, eK10, eK9, eK8, eK7, eK6, eK5, eK4, eK3, eK2, eK1]
      show va_cpy (J 5) _ _ _ _ i = J 5 i
      unfold va_cpy
      rw [c0, c5, if_pos (by omega)]
      congr 1
      omega
    | 6, hi =>
      have hi : i < 5 := hi
      rw [eK16, eK15, eK14, eK13, eK12, eK11, eK10, eK9, eK8, eK7, eK6, eK5, eK4, eK3, eK2, eK1]
      show va_cpy (J 6) _ _ _ _ i = J 6 i
      unfold va_cpy
      rw [c0, c5, if_pos (by omega)]
      congr 1
      omega
    | 7, hi =>
      have hi : i < 60 := hi
      rw [eK16, eK15, eK14, eK13, eK12, eK11, eK10, eK9, eK8, eK7, eK6, eK5, eK4, eK3, eK2, eK1]
      show va_cpy (J 7) _ _ _ _ i = J 7 i
      unfold va_cpy
      rw [c0, c60, if_pos (by omega)]
      congr 1
      omega
    | 8, hi =>
      have hi : i < 60 := hi
      rw [eK16, eK15, eK14, eK13, eK12, eK11, eK10, eK9, eK8, eK7, eK6, eK5, eK4, eK3, eK2, eK1]
      show va_cpy (J 8) _ _ _ _ i = J 8 i
      unfold va_cpy
      rw [c0, c60, if_pos (by omega)]
      congr 1
      omega
    | 9, hi =>
      have hi : i < 25 := hi
      rw [eK16, eK15, eK14, eK13, eK12, eK11, eK10, eK9, eK8, eK7, eK6, eK5, eK4, eK3, eK2, eK1]
      show va_cpy (J 9) _ _ _ _ i = J 9 i
      unfold va_cpy
      rw [c0, c25, if_pos (by omega)]
      congr 1
      omega
    | 10, hi =>
      have hi : i < 6 := hi
      rw [eK16, eK15, eK14, eK13, eK12, eK11, eK10, eK9, eK8, eK7, eK6, eK5, eK4, eK3, eK2, eK1]
      match i, hi with
      | 0, _ => rfl
      | 1, _ => rfl
      | 2, _ => rfl
      | 3, _ => rfl
      | 4, _ => rfl
      | 5, _ => rfl
    | j + 11, hi =>
      have h1 : cvLen (j + 11) = 0 := by unfold cvLen; exact if_neg (by omega)
      omega
  have hP2 := cvW_congr hco hP
  exact W.vret hx hb hr (fun t ht _ => ⟨rfl, by rw [ht]; exact hP2, D_iff.mpr (by have hD2 := D_iff.mp hD; exact hD2), hS.F ht⟩) hS.2.2 dX0_copyFrom_191
