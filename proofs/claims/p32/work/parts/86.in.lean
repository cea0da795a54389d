/-! ===== the constructors ===== -/
def A0t : AT := fun f i => if f = 3 then (if i < 5 then 1 else 0) else if f = 9 then (if i < 25 ∧ i / 5 ≠ i % 5 then 1 else 0) else 0
theorem perm_ins (L R : va_W) (x : Nat × va_E) : ((L ++ R) ++ [x]).Perm (L ++ (x :: R)) := by
  rw [List.append_assoc]
  exact List.Perm.append_left L (List.perm_append_singleton x R)
def rmX0_init : Room := { frames := 2, cells := 10, slots := 180, locals := 40 }
set_option maxHeartbeats 8000000 in
set_option maxRecDepth 100000 in
theorem tX0_init {l : Launch} {dC : Nat → ClassId} {dI : Nat → Nat → Nat} {cI : ClassId} {ob base : Nat} {R : va_W} : Met l yX0_init wsX0_init rmX0_init (cBp (dC, dI) vwCl [(cI, .int)] base ((ob, .inr (1, [.null, .null, .null, .null, .null, .null, .null, .null, .null, .null, .int 0, .int 0, .int 0, .int 0, .int 0, .int 0])) :: R) [.ref ob]) (cBe (dC, dI) vwCl base none (fun ws => ∃ q : Nat → Nat, ws = cvW cI ob q (pcK A0t) ++ R)) 10 180 (aB base) := by
  refine Met.ofW (cc := cX0_init) (maxL := 3) (ret := none) (by decide) rfl ?_
  intro p e s m args below meth c s₁ B hml hv
  obtain ⟨rfl, hP, hK, hD, hbs, hE⟩ := hv
  have hx := B.exec
  have hb := B.bytes
  have hr := B.returns
  have hts := atoms_spec (ws := wsX0_init) B.pre
  have hown : s.vm.findClass RX0 = some m.cls := findClass_of_methodNamed B.named
  have hlocks := B.notSynchronized
  have hin : meth.name = "<init>" := (name_of_methodNamed B.named B.method).1
  have hf_9 := hts (.fieldLink RX0 9 "CaravanLogs$Caravan" "term" "[I") (by decide +kernel)
  have hf_15 := hts (.fieldLink RX0 15 "CaravanLogs$Caravan" "vote" "[I") (by decide +kernel)
  have hf_18 := hts (.fieldLink RX0 18 "CaravanLogs$Caravan" "isCaptain" "[I") (by decide +kernel)
  have hf_21 := hts (.fieldLink RX0 21 "CaravanLogs$Caravan" "isAwake" "[I") (by decide +kernel)
  have hf_24 := hts (.fieldLink RX0 24 "CaravanLogs$Caravan" "silence" "[I") (by decide +kernel)
  have hf_27 := hts (.fieldLink RX0 27 "CaravanLogs$Caravan" "pages" "[I") (by decide +kernel)
  have hf_30 := hts (.fieldLink RX0 30 "CaravanLogs$Caravan" "settled" "[I") (by decide +kernel)
  have hf_33 := hts (.fieldLink RX0 33 "CaravanLogs$Caravan" "pageTerm" "[I") (by decide +kernel)
  have hf_36 := hts (.fieldLink RX0 36 "CaravanLogs$Caravan" "pageLetter" "[I") (by decide +kernel)
  have hf_39 := hts (.fieldLink RX0 39 "CaravanLogs$Caravan" "isOpen" "[I") (by decide +kernel)
  have hf_42 := hts (.fieldLink RX0 42 "CaravanLogs$Caravan" "dusks" "I") (by decide +kernel)
  have hf_46 := hts (.fieldLink RX0 46 "CaravanLogs$Caravan" "captainsMade" "I") (by decide +kernel)
  have hf_49 := hts (.fieldLink RX0 49 "CaravanLogs$Caravan" "pagesWritten" "I") (by decide +kernel)
  have hf_52 := hts (.fieldLink RX0 52 "CaravanLogs$Caravan" "pagesTorn" "I") (by decide +kernel)
  have hf_55 := hts (.fieldLink RX0 55 "CaravanLogs$Caravan" "marches" "I") (by decide +kernel)
  have hf_58 := hts (.fieldLink RX0 58 "CaravanLogs$Caravan" "hours" "I") (by decide +kernel)
  have hwX0 : ∀ w ∈ u_ws RX0 TX0 16, w ∈ wsX0_init := by decide +kernel
  have hS : va_S (aB base) s.heap s.heap [] := va_S.rf
  have hl := lv_entry ([.ref ob]) (n := 3) (Nat.le_of_ble_eq_true rfl)
  rw [lg_entry_eq]
  generalize (lg_sl ([.ref ob]) ++ List.replicate (3 - (lg_sl ([.ref ob])).length) Slot.unset).toArray = ls at hl ⊢
  have hl : lv_has ls 3 [(0, .ref ob)] := hl
  refine lv_aload_n hx hb dX0_init_0 rfl (lv_at hl 0 rfl) ?_
  refine W.objInit hx hb hown (hts (.methodLink RX0 3 objectInit) (by decide +kernel)) (hts (.instanceMethod objectInit) (by decide +kernel)) (hts _ (List.mem_of_getElem? (i := 3) rfl)) rfl (by rw [hml]; exact hl.1) rfl dX0_init_1 (Nat.le_of_ble_eq_true rfl) (Nat.le_of_ble_eq_true rfl) ?_
  refine W.eq (g2 := F0 m 4 ls []) rfl ?_
  refine lv_aload_n hx hb dX0_init_4 rfl (lv_at hl 0 rfl) ?_
  refine lv_iconst (v := 5) hx hb dX0_init_5 (by decide) ?_
  refine va_newa (atype := .int) (ty := .int) (N' := 5) (a0 := (5, .inl (fun _ => 0))) hx hb (hts (.arrayClass .int) (by decide +kernel)) rfl hK hP hD hS (fun z hz => Nat.le_trans hbs hz) (fun cA => by rw [vp_cell_i]; rfl) (by decide) (by decide) (by decide) (by show _ ≤ 10; omega) (by show _ ≤ 180; omega) dX0_init_6 (fun q0 cA H hK2 hP hD hS => ?_)
  have ec : cA = cI := Option.some.inj ((va_nm_int (hK2.2 1 _ rfl).2).symm.trans (va_nm_int (hK.2 0 _ rfl).2))
  rw [ec] at hP hD
  clear hK2 ec
  have hP := P_perm (perm_ins [(ob, .inr (1, [.null, .null, .null, .null, .null, .null, .null, .null, .null, .null, .int 0, .int 0, .int 0, .int 0, .int 0, .int 0]))] R (q0, .inl (cI, 5, .inl (fun _ => (0 : Int32))))) hP
  have hD := D_perm (perm_ins [(ob, .inr (1, [.null, .null, .null, .null, .null, .null, .null, .null, .null, .null, .int 0, .int 0, .int 0, .int 0, .int 0, .int 0]))] R (q0, .inl (cI, 5, .inl (fun _ => (0 : Int32))))) hD
  have hP : va_P (dC, dI) vwCl ((ob, .inr (1, [.null, .null, .null, .null, .null, .null, .null, .null, .null, .null, .int 0, .int 0, .int 0, .int 0, .int 0, .int 0])) :: (q0, .inl (cI, 5, .inl (fun _ => (0 : Int32)))) :: R : va_W) H := hP
  have hD : va_D (aB base) ((ob, .inr (1, [.null, .null, .null, .null, .null, .null, .null, .null, .null, .null, .int 0, .int 0, .int 0, .int 0, .int 0, .int 0])) :: (q0, .inl (cI, 5, .inl (fun _ => (0 : Int32)))) :: R : va_W) := hD
  refine va_putF (D := (dC, dI)) (ci := 1) (v := .ref q0) (ty := .array .int) (C := RX0) (T := TX0) (N := 16) hx hb hts hwX0 tyX0 tyX0_ok nmX0 hown hK hP hD hS 0 rfl rfl 0 (by decide) hf_9 (fun _ h9 => h9) rfl hin rfl (by decide +kernel) rfl rfl (Nat.le_of_ble_eq_true rfl) dX0_init_8 (fun H locs hP hD hS => ?_)
  have hP : va_P (dC, dI) vwCl ((ob, .inr (1, [.ref q0, .null, .null, .null, .null, .null, .null, .null, .null, .null, .int 0, .int 0, .int 0, .int 0, .int 0, .int 0])) :: (q0, .inl (cI, 5, .inl (fun _ => (0 : Int32)))) :: R : va_W) H := hP
  have hD : va_D (aB base) ((ob, .inr (1, [.ref q0, .null, .null, .null, .null, .null, .null, .null, .null, .null, .int 0, .int 0, .int 0, .int 0, .int 0, .int 0])) :: (q0, .inl (cI, 5, .inl (fun _ => (0 : Int32)))) :: R : va_W) := hD
  refine lv_aload_n hx hb dX0_init_11 rfl (lv_at hl 0 rfl) ?_
  refine lv_iconst (v := 5) hx hb dX0_init_12 (by decide) ?_
  refine va_newa (atype := .int) (ty := .int) (N' := 5) (a0 := (5, .inl (fun _ => 0))) hx hb (hts (.arrayClass .int) (by decide +kernel)) rfl hK hP hD hS (fun z hz => Nat.le_trans hbs hz) (fun cA => by rw [vp_cell_i]; rfl) (by decide) (by decide) (by decide) (by show _ ≤ 10; omega) (by show _ ≤ 180; omega) dX0_init_13 (fun q1 cA H hK2 hP hD hS => ?_)
  have ec : cA = cI := Option.some.inj ((va_nm_int (hK2.2 1 _ rfl).2).symm.trans (va_nm_int (hK.2 0 _ rfl).2))
  rw [ec] at hP hD
  clear hK2 ec
  have hP := P_perm (perm_ins [(ob, .inr (1, [.ref q0, .null, .null, .null, .null, .null, .null, .null, .null, .null, .int 0, .int 0, .int 0, .int 0, .int 0, .int 0])), (q0, .inl (cI, 5, .inl (fun _ => (0 : Int32))))] R (q1, .inl (cI, 5, .inl (fun _ => (0 : Int32))))) hP
  have hD := D_perm (perm_ins [(ob, .inr (1, [.ref q0, .null, .null, .null, .null, .null, .null, .null, .null, .null, .int 0, .int 0, .int 0, .int 0, .int 0, .int 0])), (q0, .inl (cI, 5, .inl (fun _ => (0 : Int32))))] R (q1, .inl (cI, 5, .inl (fun _ => (0 : Int32))))) hD
  have hP : va_P (dC, dI) vwCl ((ob, .inr (1, [.ref q0, .null, .null, .null, .null, .null, .null, .null, .null, .null, .int 0, .int 0, .int 0, .int 0, .int 0, .int 0])) :: (q0, .inl (cI, 5, .inl (fun _ => (0 : Int32)))) :: (q1, .inl (cI, 5, .inl (fun _ => (0 : Int32)))) :: R : va_W) H := hP
  have hD : va_D (aB base) ((ob, .inr (1, [.ref q0, .null, .null, .null, .null, .null, .null, .null, .null, .null, .int 0, .int 0, .int 0, .int 0, .int 0, .int 0])) :: (q0, .inl (cI, 5, .inl (fun _ => (0 : Int32)))) :: (q1, .inl (cI, 5, .inl (fun _ => (0 : Int32)))) :: R : va_W) := hD
  refine va_putF (D := (dC, dI)) (ci := 1) (v := .ref q1) (ty := .array .int) (C := RX0) (T := TX0) (N := 16) hx hb hts hwX0 tyX0 tyX0_ok nmX0 hown hK hP hD hS 0 rfl rfl 1 (by decide) hf_15 (fun _ h9 => h9) rfl hin rfl (by decide +kernel) rfl rfl (Nat.le_of_ble_eq_true rfl) dX0_init_15 (fun H locs hP hD hS => ?_)
  have hP : va_P (dC, dI) vwCl ((ob, .inr (1, [.ref q0, .ref q1, .null, .null, .null, .null, .null, .null, .null, .null, .int 0, .int 0, .int 0, .int 0, .int 0, .int 0])) :: (q0, .inl (cI, 5, .inl (fun _ => (0 : Int32)))) :: (q1, .inl (cI, 5, .inl (fun _ => (0 : Int32)))) :: R : va_W) H := hP
  have hD : va_D (aB base) ((ob, .inr (1, [.ref q0, .ref q1, .null, .null, .null, .null, .null, .null, .null, .null, .int 0, .int 0, .int 0, .int 0, .int 0, .int 0])) :: (q0, .inl (cI, 5, .inl (fun _ => (0 : Int32)))) :: (q1, .inl (cI, 5, .inl (fun _ => (0 : Int32)))) :: R : va_W) := hD
  refine lv_aload_n hx hb dX0_init_18 rfl (lv_at hl 0 rfl) ?_
  refine lv_iconst (v := 5) hx hb dX0_init_19 (by decide) ?_
  refine va_newa (atype := .int) (ty := .int) (N' := 5) (a0 := (5, .inl (fun _ => 0))) hx hb (hts (.arrayClass .int) (by decide +kernel)) rfl hK hP hD hS (fun z hz => Nat.le_trans hbs hz) (fun cA => by rw [vp_cell_i]; rfl) (by decide) (by decide) (by decide) (by show _ ≤ 10; omega) (by show _ ≤ 180; omega) dX0_init_20 (fun q2 cA H hK2 hP hD hS => ?_)
  have ec : cA = cI := Option.some.inj ((va_nm_int (hK2.2 1 _ rfl).2).symm.trans (va_nm_int (hK.2 0 _ rfl).2))
  rw [ec] at hP hD
  clear hK2 ec
  have hP := P_perm (perm_ins [(ob, .inr (1, [.ref q0, .ref q1, .null, .null, .null, .null, .null, .null, .null, .null, .int 0, .int 0, .int 0, .int 0, .int 0, .int 0])), (q0, .inl (cI, 5, .inl (fun _ => (0 : Int32)))), (q1, .inl (cI, 5, .inl (fun _ => (0 : Int32))))] R (q2, .inl (cI, 5, .inl (fun _ => (0 : Int32))))) hP
  have hD := D_perm (perm_ins [(ob, .inr (1, [.ref q0, .ref q1, .null, .null, .null, .null, .null, .null, .null, .null, .int 0, .int 0, .int 0, .int 0, .int 0, .int 0])), (q0, .inl (cI, 5, .inl (fun _ => (0 : Int32)))), (q1, .inl (cI, 5, .inl (fun _ => (0 : Int32))))] R (q2, .inl (cI, 5, .inl (fun _ => (0 : Int32))))) hD
  have hP : va_P (dC, dI) vwCl ((ob, .inr (1, [.ref q0, .ref q1, .null, .null, .null, .null, .null, .null, .null, .null, .int 0, .int 0, .int 0, .int 0, .int 0, .int 0])) :: (q0, .inl (cI, 5, .inl (fun _ => (0 : Int32)))) :: (q1, .inl (cI, 5, .inl (fun _ => (0 : Int32)))) :: (q2, .inl (cI, 5, .inl (fun _ => (0 : Int32)))) :: R : va_W) H := hP
  have hD : va_D (aB base) ((ob, .inr (1, [.ref q0, .ref q1, .null, .null, .null, .null, .null, .null, .null, .null, .int 0, .int 0, .int 0, .int 0, .int 0, .int 0])) :: (q0, .inl (cI, 5, .inl (fun _ => (0 : Int32)))) :: (q1, .inl (cI, 5, .inl (fun _ => (0 : Int32)))) :: (q2, .inl (cI, 5, .inl (fun _ => (0 : Int32)))) :: R : va_W) := hD
  refine va_putF (D := (dC, dI)) (ci := 1) (v := .ref q2) (ty := .array .int) (C := RX0) (T := TX0) (N := 16) hx hb hts hwX0 tyX0 tyX0_ok nmX0 hown hK hP hD hS 0 rfl rfl 2 (by decide) hf_18 (fun _ h9 => h9) rfl hin rfl (by decide +kernel) rfl rfl (Nat.le_of_ble_eq_true rfl) dX0_init_22 (fun H locs hP hD hS => ?_)
  have hP : va_P (dC, dI) vwCl ((ob, .inr (1, [.ref q0, .ref q1, .ref q2, .null, .null, .null, .null, .null, .null, .null, .int 0, .int 0, .int 0, .int 0, .int 0, .int 0])) :: (q0, .inl (cI, 5, .inl (fun _ => (0 : Int32)))) :: (q1, .inl (cI, 5, .inl (fun _ => (0 : Int32)))) :: (q2, .inl (cI, 5, .inl (fun _ => (0 : Int32)))) :: R : va_W) H := hP
  have hD : va_D (aB base) ((ob, .inr (1, [.ref q0, .ref q1, .ref q2, .null, .null, .null, .null, .null, .null, .null, .int 0, .int 0, .int 0, .int 0, .int 0, .int 0])) :: (q0, .inl (cI, 5, .inl (fun _ => (0 : Int32)))) :: (q1, .inl (cI, 5, .inl (fun _ => (0 : Int32)))) :: (q2, .inl (cI, 5, .inl (fun _ => (0 : Int32)))) :: R : va_W) := hD
  refine lv_aload_n hx hb dX0_init_25 rfl (lv_at hl 0 rfl) ?_
  refine lv_iconst (v := 5) hx hb dX0_init_26 (by decide) ?_
  refine va_newa (atype := .int) (ty := .int) (N' := 5) (a0 := (5, .inl (fun _ => 0))) hx hb (hts (.arrayClass .int) (by decide +kernel)) rfl hK hP hD hS (fun z hz => Nat.le_trans hbs hz) (fun cA => by rw [vp_cell_i]; rfl) (by decide) (by decide) (by decide) (by show _ ≤ 10; omega) (by show _ ≤ 180; omega) dX0_init_27 (fun q3 cA H hK2 hP hD hS => ?_)
  have ec : cA = cI := Option.some.inj ((va_nm_int (hK2.2 1 _ rfl).2).symm.trans (va_nm_int (hK.2 0 _ rfl).2))
  rw [ec] at hP hD
  clear hK2 ec
  have hP := P_perm (perm_ins [(ob, .inr (1, [.ref q0, .ref q1, .ref q2, .null, .null, .null, .null, .null, .null, .null, .int 0, .int 0, .int 0, .int 0, .int 0, .int 0])), (q0, .inl (cI, 5, .inl (fun _ => (0 : Int32)))), (q1, .inl (cI, 5, .inl (fun _ => (0 : Int32)))), (q2, .inl (cI, 5, .inl (fun _ => (0 : Int32))))] R (q3, .inl (cI, 5, .inl (fun _ => (0 : Int32))))) hP
  have hD := D_perm (perm_ins [(ob, .inr (1, [.ref q0, .ref q1, .ref q2, .null, .null, .null, .null, .null, .null, .null, .int 0, .int 0, .int 0, .int 0, .int 0, .int 0])), (q0, .inl (cI, 5, .inl (fun _ => (0 : Int32)))), (q1, .inl (cI, 5, .inl (fun _ => (0 : Int32)))), (q2, .inl (cI, 5, .inl (fun _ => (0 : Int32))))] R (q3, .inl (cI, 5, .inl (fun _ => (0 : Int32))))) hD
  have hP : va_P (dC, dI) vwCl ((ob, .inr (1, [.ref q0, .ref q1, .ref q2, .null, .null, .null, .null, .null, .null, .null, .int 0, .int 0, .int 0, .int 0, .int 0, .int 0])) :: (q0, .inl (cI, 5, .inl (fun _ => (0 : Int32)))) :: (q1, .inl (cI, 5, .inl (fun _ => (0 : Int32)))) :: (q2, .inl (cI, 5, .inl (fun _ => (0 : Int32)))) :: (q3, .inl (cI, 5, .inl (fun _ => (0 : Int32)))) :: R : va_W) H := hP
  have hD : va_D (aB base) ((ob, .inr (1, [.ref q0, .ref q1, .ref q2, .null, .null, .null, .null, .null, .null, .null, .int 0, .int 0, .int 0, .int 0, .int 0, .int 0])) :: (q0, .inl (cI, 5, .inl (fun _ => (0 : Int32)))) :: (q1, .inl (cI, 5, .inl (fun _ => (0 : Int32)))) :: (q2, .inl (cI, 5, .inl (fun _ => (0 : Int32)))) :: (q3, .inl (cI, 5, .inl (fun _ => (0 : Int32)))) :: R : va_W) := hD
  refine va_putF (D := (dC, dI)) (ci := 1) (v := .ref q3) (ty := .array .int) (C := RX0) (T := TX0) (N := 16) hx hb hts hwX0 tyX0 tyX0_ok nmX0 hown hK hP hD hS 0 rfl rfl 3 (by decide) hf_21 (fun _ h9 => h9) rfl hin rfl (by decide +kernel) rfl rfl (Nat.le_of_ble_eq_true rfl) dX0_init_29 (fun H locs hP hD hS => ?_)
  have hP : va_P (dC, dI) vwCl ((ob, .inr (1, [.ref q0, .ref q1, .ref q2, .ref q3, .null, .null, .null, .null, .null, .null, .int 0, .int 0, .int 0, .int 0, .int 0, .int 0])) :: (q0, .inl (cI, 5, .inl (fun _ => (0 : Int32)))) :: (q1, .inl (cI, 5, .inl (fun _ => (0 : Int32)))) :: (q2, .inl (cI, 5, .inl (fun _ => (0 : Int32)))) :: (q3, .inl (cI, 5, .inl (fun _ => (0 : Int32)))) :: R : va_W) H := hP
  have hD : va_D (aB base) ((ob, .inr (1, [.ref q0, .ref q1, .ref q2, .ref q3, .null, .null, .null, .null, .null, .null, .int 0, .int 0, .int 0, .int 0, .int 0, .int 0])) :: (q0, .inl (cI, 5, .inl (fun _ => (0 : Int32)))) :: (q1, .inl (cI, 5, .inl (fun _ => (0 : Int32)))) :: (q2, .inl (cI, 5, .inl (fun _ => (0 : Int32)))) :: (q3, .inl (cI, 5, .inl (fun _ => (0 : Int32)))) :: R : va_W) := hD
  refine lv_aload_n hx hb dX0_init_32 rfl (lv_at hl 0 rfl) ?_
  refine lv_iconst (v := 5) hx hb dX0_init_33 (by decide) ?_
  refine va_newa (atype := .int) (ty := .int) (N' := 5) (a0 := (5, .inl (fun _ => 0))) hx hb (hts (.arrayClass .int) (by decide +kernel)) rfl hK hP hD hS (fun z hz => Nat.le_trans hbs hz) (fun cA => by rw [vp_cell_i]; rfl) (by decide) (by decide) (by decide) (by show _ ≤ 10; omega) (by show _ ≤ 180; omega) dX0_init_34 (fun q4 cA H hK2 hP hD hS => ?_)
  have ec : cA = cI := Option.some.inj ((va_nm_int (hK2.2 1 _ rfl).2).symm.trans (va_nm_int (hK.2 0 _ rfl).2))
  rw [ec] at hP hD
  clear hK2 ec
  have hP := P_perm (perm_ins [(ob, .inr (1, [.ref q0, .ref q1, .ref q2, .ref q3, .null, .null, .null, .null, .null, .null, .int 0, .int 0, .int 0, .int 0, .int 0, .int 0])), (q0, .inl (cI, 5, .inl (fun _ => (0 : Int32)))), (q1, .inl (cI, 5, .inl (fun _ => (0 : Int32)))), (q2, .inl (cI, 5, .inl (fun _ => (0 : Int32)))), (q3, .inl (cI, 5, .inl (fun _ => (0 : Int32))))] R (q4, .inl (cI, 5, .inl (fun _ => (0 : Int32))))) hP
  have hD := D_perm (perm_ins [(ob, .inr (1, [.ref q0, .ref q1, .ref q2, .ref q3, .null, .null, .null, .null, .null, .null, .int 0, .int 0, .int 0, .int 0, .int 0, .int 0])), (q0, .inl (cI, 5, .inl (fun _ => (0 : Int32)))), (q1, .inl (cI, 5, .inl (fun _ => (0 : Int32)))), (q2, .inl (cI, 5, .inl (fun _ => (0 : Int32)))), (q3, .inl (cI, 5, .inl (fun _ => (0 : Int32))))] R (q4, .inl (cI, 5, .inl (fun _ => (0 : Int32))))) hD
  have hP : va_P (dC, dI) vwCl ((ob, .inr (1, [.ref q0, .ref q1, .ref q2, .ref q3, .null, .null, .null, .null, .null, .null, .int 0, .int 0, .int 0, .int 0, .int 0, .int 0])) :: (q0, .inl (cI, 5, .inl (fun _ => (0 : Int32)))) :: (q1, .inl (cI, 5, .inl (fun _ => (0 : Int32)))) :: (q2, .inl (cI, 5, .inl (fun _ => (0 : Int32)))) :: (q3, .inl (cI, 5, .inl (fun _ => (0 : Int32)))) :: (q4, .inl (cI, 5, .inl (fun _ => (0 : Int32)))) :: R : va_W) H := hP
  have hD : va_D (aB base) ((ob, .inr (1, [.ref q0, .ref q1, .ref q2, .ref q3, .null, .null, .null, .null, .null, .null, .int 0, .int 0, .int 0, .int 0, .int 0, .int 0])) :: (q0, .inl (cI, 5, .inl (fun _ => (0 : Int32)))) :: (q1, .inl (cI, 5, .inl (fun _ => (0 : Int32)))) :: (q2, .inl (cI, 5, .inl (fun _ => (0 : Int32)))) :: (q3, .inl (cI, 5, .inl (fun _ => (0 : Int32)))) :: (q4, .inl (cI, 5, .inl (fun _ => (0 : Int32)))) :: R : va_W) := hD
  refine va_putF (D := (dC, dI)) (ci := 1) (v := .ref q4) (ty := .array .int) (C := RX0) (T := TX0) (N := 16) hx hb hts hwX0 tyX0 tyX0_ok nmX0 hown hK hP hD hS 0 rfl rfl 4 (by decide) hf_24 (fun _ h9 => h9) rfl hin rfl (by decide +kernel) rfl rfl (Nat.le_of_ble_eq_true rfl) dX0_init_36 (fun H locs hP hD hS => ?_)
  have hP : va_P (dC, dI) vwCl ((ob, .inr (1, [.ref q0, .ref q1, .ref q2, .ref q3, .ref q4, .null, .null, .null, .null, .null, .int 0, .int 0, .int 0, .int 0, .int 0, .int 0])) :: (q0, .inl (cI, 5, .inl (fun _ => (0 : Int32)))) :: (q1, .inl (cI, 5, .inl (fun _ => (0 : Int32)))) :: (q2, .inl (cI, 5, .inl (fun _ => (0 : Int32)))) :: (q3, .inl (cI, 5, .inl (fun _ => (0 : Int32)))) :: (q4, .inl (cI, 5, .inl (fun _ => (0 : Int32)))) :: R : va_W) H := hP
  have hD : va_D (aB base) ((ob, .inr (1, [.ref q0, .ref q1, .ref q2, .ref q3, .ref q4, .null, .null, .null, .null, .null, .int 0, .int 0, .int 0, .int 0, .int 0, .int 0])) :: (q0, .inl (cI, 5, .inl (fun _ => (0 : Int32)))) :: (q1, .inl (cI, 5, .inl (fun _ => (0 : Int32)))) :: (q2, .inl (cI, 5, .inl (fun _ => (0 : Int32)))) :: (q3, .inl (cI, 5, .inl (fun _ => (0 : Int32)))) :: (q4, .inl (cI, 5, .inl (fun _ => (0 : Int32)))) :: R : va_W) := hD
  refine lv_aload_n hx hb dX0_init_39 rfl (lv_at hl 0 rfl) ?_
  refine lv_iconst (v := 5) hx hb dX0_init_40 (by decide) ?_
  refine va_newa (atype := .int) (ty := .int) (N' := 5) (a0 := (5, .inl (fun _ => 0))) hx hb (hts (.arrayClass .int) (by decide +kernel)) rfl hK hP hD hS (fun z hz => Nat.le_trans hbs hz) (fun cA => by rw [vp_cell_i]; rfl) (by decide) (by decide) (by decide) (by show _ ≤ 10; omega) (by show _ ≤ 180; omega) dX0_init_41 (fun q5 cA H hK2 hP hD hS => ?_)
  have ec : cA = cI := Option.some.inj ((va_nm_int (hK2.2 1 _ rfl).2).symm.trans (va_nm_int (hK.2 0 _ rfl).2))
  rw [ec] at hP hD
  clear hK2 ec
  have hP := P_perm (perm_ins [(ob, .inr (1, [.ref q0, .ref q1, .ref q2, .ref q3, .ref q4, .null, .null, .null, .null, .null, .int 0, .int 0, .int 0, .int 0, .int 0, .int 0])), (q0, .inl (cI, 5, .inl (fun _ => (0 : Int32)))), (q1, .inl (cI, 5, .inl (fun _ => (0 : Int32)))), (q2, .inl (cI, 5, .inl (fun _ => (0 : Int32)))), (q3, .inl (cI, 5, .inl (fun _ => (0 : Int32)))), (q4, .inl (cI, 5, .inl (fun _ => (0 : Int32))))] R (q5, .inl (cI, 5, .inl (fun _ => (0 : Int32))))) hP
  have hD := D_perm (perm_ins [(ob, .inr (1, [.ref q0, .ref q1, .ref q2, .ref q3, .ref q4, .null, .null, .null, .null, .null, .int 0, .int 0, .int 0, .int 0, .int 0, .int 0])), (q0, .inl (cI, 5, .inl (fun _ => (0 : Int32)))), (q1, .inl (cI, 5, .inl (fun _ => (0 : Int32)))), (q2, .inl (cI, 5, .inl (fun _ => (0 : Int32)))), (q3, .inl (cI, 5, .inl (fun _ => (0 : Int32)))), (q4, .inl (cI, 5, .inl (fun _ => (0 : Int32))))] R (q5, .inl (cI, 5, .inl (fun _ => (0 : Int32))))) hD
  have hP : va_P (dC, dI) vwCl ((ob, .inr (1, [.ref q0, .ref q1, .ref q2, .ref q3, .ref q4, .null, .null, .null, .null, .null, .int 0, .int 0, .int 0, .int 0, .int 0, .int 0])) :: (q0, .inl (cI, 5, .inl (fun _ => (0 : Int32)))) :: (q1, .inl (cI, 5, .inl (fun _ => (0 : Int32)))) :: (q2, .inl (cI, 5, .inl (fun _ => (0 : Int32)))) :: (q3, .inl (cI, 5, .inl (fun _ => (0 : Int32)))) :: (q4, .inl (cI, 5, .inl (fun _ => (0 : Int32)))) :: (q5, .inl (cI, 5, .inl (fun _ => (0 : Int32)))) :: R : va_W) H := hP
  have hD : va_D (aB base) ((ob, .inr (1, [.ref q0, .ref q1, .ref q2, .ref q3, .ref q4, .null, .null, .null, .null, .null, .int 0, .int 0, .int 0, .int 0, .int 0, .int 0])) :: (q0, .inl (cI, 5, .inl (fun _ => (0 : Int32)))) :: (q1, .inl (cI, 5, .inl (fun _ => (0 : Int32)))) :: (q2, .inl (cI, 5, .inl (fun _ => (0 : Int32)))) :: (q3, .inl (cI, 5, .inl (fun _ => (0 : Int32)))) :: (q4, .inl (cI, 5, .inl (fun _ => (0 : Int32)))) :: (q5, .inl (cI, 5, .inl (fun _ => (0 : Int32)))) :: R : va_W) := hD
  refine va_putF (D := (dC, dI)) (ci := 1) (v := .ref q5) (ty := .array .int) (C := RX0) (T := TX0) (N := 16) hx hb hts hwX0 tyX0 tyX0_ok nmX0 hown hK hP hD hS 0 rfl rfl 5 (by decide) hf_27 (fun _ h9 => h9) rfl hin rfl (by decide +kernel) rfl rfl (Nat.le_of_ble_eq_true rfl) dX0_init_43 (fun H locs hP hD hS => ?_)
  have hP : va_P (dC, dI) vwCl ((ob, .inr (1, [.ref q0, .ref q1, .ref q2, .ref q3, .ref q4, .ref q5, .null, .null, .null, .null, .int 0, .int 0, .int 0, .int 0, .int 0, .int 0])) :: (q0, .inl (cI, 5, .inl (fun _ => (0 : Int32)))) :: (q1, .inl (cI, 5, .inl (fun _ => (0 : Int32)))) :: (q2, .inl (cI, 5, .inl (fun _ => (0 : Int32)))) :: (q3, .inl (cI, 5, .inl (fun _ => (0 : Int32)))) :: (q4, .inl (cI, 5, .inl (fun _ => (0 : Int32)))) :: (q5, .inl (cI, 5, .inl (fun _ => (0 : Int32)))) :: R : va_W) H := hP
  have hD : va_D (aB base) ((ob, .inr (1, [.ref q0, .ref q1, .ref q2, .ref q3, .ref q4, .ref q5, .null, .null, .null, .null, .int 0, .int 0, .int 0, .int 0, .int 0, .int 0])) :: (q0, .inl (cI, 5, .inl (fun _ => (0 : Int32)))) :: (q1, .inl (cI, 5, .inl (fun _ => (0 : Int32)))) :: (q2, .inl (cI, 5, .inl (fun _ => (0 : Int32)))) :: (q3, .inl (cI, 5, .inl (fun _ => (0 : Int32)))) :: (q4, .inl (cI, 5, .inl (fun _ => (0 : Int32)))) :: (q5, .inl (cI, 5, .inl (fun _ => (0 : Int32)))) :: R : va_W) := hD
  refine lv_aload_n hx hb dX0_init_46 rfl (lv_at hl 0 rfl) ?_
  refine lv_iconst (v := 5) hx hb dX0_init_47 (by decide) ?_
  refine va_newa (atype := .int) (ty := .int) (N' := 5) (a0 := (5, .inl (fun _ => 0))) hx hb (hts (.arrayClass .int) (by decide +kernel)) rfl hK hP hD hS (fun z hz => Nat.le_trans hbs hz) (fun cA => by rw [vp_cell_i]; rfl) (by decide) (by decide) (by decide) (by show _ ≤ 10; omega) (by show _ ≤ 180; omega) dX0_init_48 (fun q6 cA H hK2 hP hD hS => ?_)
  have ec : cA = cI := Option.some.inj ((va_nm_int (hK2.2 1 _ rfl).2).symm.trans (va_nm_int (hK.2 0 _ rfl).2))
  rw [ec] at hP hD
  clear hK2 ec
  have hP := P_perm (perm_ins [(ob, .inr (1, [.ref q0, .ref q1, .ref q2, .ref q3, .ref q4, .ref q5, .null, .null, .null, .null, .int 0, .int 0, .int 0, .int 0, .int 0, .int 0])), (q0, .inl (cI, 5, .inl (fun _ => (0 : Int32)))), (q1, .inl (cI, 5, .inl (fun _ => (0 : Int32)))), (q2, .inl (cI, 5, .inl (fun _ => (0 : Int32)))), (q3, .inl (cI, 5, .inl (fun _ => (0 : Int32)))), (q4, .inl (cI, 5, .inl (fun _ => (0 : Int32)))), (q5, .inl (cI, 5, .inl (fun _ => (0 : Int32))))] R (q6, .inl (cI, 5, .inl (fun _ => (0 : Int32))))) hP
  have hD := D_perm (perm_ins [(ob, .inr (1, [.ref q0, .ref q1, .ref q2, .ref q3, .ref q4, .ref q5, .null, .null, .null, .null, .int 0, .int 0, .int 0, .int 0, .int 0, .int 0])), (q0, .inl (cI, 5, .inl (fun _ => (0 : Int32)))), (q1, .inl (cI, 5, .inl (fun _ => (0 : Int32)))), (q2, .inl (cI, 5, .inl (fun _ => (0 : Int32)))), (q3, .inl (cI, 5, .inl (fun _ => (0 : Int32)))), (q4, .inl (cI, 5, .inl (fun _ => (0 : Int32)))), (q5, .inl (cI, 5, .inl (fun _ => (0 : Int32))))] R (q6, .inl (cI, 5, .inl (fun _ => (0 : Int32))))) hD
  have hP : va_P (dC, dI) vwCl ((ob, .inr (1, [.ref q0, .ref q1, .ref q2, .ref q3, .ref q4, .ref q5, .null, .null, .null, .null, .int 0, .int 0, .int 0, .int 0, .int 0, .int 0])) :: (q0, .inl (cI, 5, .inl (fun _ => (0 : Int32)))) :: (q1, .inl (cI, 5, .inl (fun _ => (0 : Int32)))) :: (q2, .inl (cI, 5, .inl (fun _ => (0 : Int32)))) :: (q3, .inl (cI, 5, .inl (fun _ => (0 : Int32)))) :: (q4, .inl (cI, 5, .inl (fun _ => (0 : Int32)))) :: (q5, .inl (cI, 5, .inl (fun _ => (0 : Int32)))) :: (q6, .inl (cI, 5, .inl (fun _ => (0 : Int32)))) :: R : va_W) H := hP
  have hD : va_D (aB base) ((ob, .inr (1, [.ref q0, .ref q1, .ref q2, .ref q3, .ref q4, .ref q5, .null, .null, .null, .null, .int 0, .int 0, .int 0, .int 0, .int 0, .int 0])) :: (q0, .inl (cI, 5, .inl (fun _ => (0 : Int32)))) :: (q1, .inl (cI, 5, .inl (fun _ => (0 : Int32)))) :: (q2, .inl (cI, 5, .inl (fun _ => (0 : Int32)))) :: (q3, .inl (cI, 5, .inl (fun _ => (0 : Int32)))) :: (q4, .inl (cI, 5, .inl (fun _ => (0 : Int32)))) :: (q5, .inl (cI, 5, .inl (fun _ => (0 : Int32)))) :: (q6, .inl (cI, 5, .inl (fun _ => (0 : Int32)))) :: R : va_W) := hD
  refine va_putF (D := (dC, dI)) (ci := 1) (v := .ref q6) (ty := .array .int) (C := RX0) (T := TX0) (N := 16) hx hb hts hwX0 tyX0 tyX0_ok nmX0 hown hK hP hD hS 0 rfl rfl 6 (by decide) hf_30 (fun _ h9 => h9) rfl hin rfl (by decide +kernel) rfl rfl (Nat.le_of_ble_eq_true rfl) dX0_init_50 (fun H locs hP hD hS => ?_)
  have hP : va_P (dC, dI) vwCl ((ob, .inr (1, [.ref q0, .ref q1, .ref q2, .ref q3, .ref q4, .ref q5, .ref q6, .null, .null, .null, .int 0, .int 0, .int 0, .int 0, .int 0, .int 0])) :: (q0, .inl (cI, 5, .inl (fun _ => (0 : Int32)))) :: (q1, .inl (cI, 5, .inl (fun _ => (0 : Int32)))) :: (q2, .inl (cI, 5, .inl (fun _ => (0 : Int32)))) :: (q3, .inl (cI, 5, .inl (fun _ => (0 : Int32)))) :: (q4, .inl (cI, 5, .inl (fun _ => (0 : Int32)))) :: (q5, .inl (cI, 5, .inl (fun _ => (0 : Int32)))) :: (q6, .inl (cI, 5, .inl (fun _ => (0 : Int32)))) :: R : va_W) H := hP
  have hD : va_D (aB base) ((ob, .inr (1, [.ref q0, .ref q1, .ref q2, .ref q3, .ref q4, .ref q5, .ref q6, .null, .null, .null, .int 0, .int 0, .int 0, .int 0, .int 0, .int 0])) :: (q0, .inl (cI, 5, .inl (fun _ => (0 : Int32)))) :: (q1, .inl (cI, 5, .inl (fun _ => (0 : Int32)))) :: (q2, .inl (cI, 5, .inl (fun _ => (0 : Int32)))) :: (q3, .inl (cI, 5, .inl (fun _ => (0 : Int32)))) :: (q4, .inl (cI, 5, .inl (fun _ => (0 : Int32)))) :: (q5, .inl (cI, 5, .inl (fun _ => (0 : Int32)))) :: (q6, .inl (cI, 5, .inl (fun _ => (0 : Int32)))) :: R : va_W) := hD
  refine lv_aload_n hx hb dX0_init_53 rfl (lv_at hl 0 rfl) ?_
  refine lv_bipush (v := 60) hx hb dX0_init_54 (by decide) ?_
  refine va_newa (atype := .int) (ty := .int) (N' := 60) (a0 := (60, .inl (fun _ => 0))) hx hb (hts (.arrayClass .int) (by decide +kernel)) rfl hK hP hD hS (fun z hz => Nat.le_trans hbs hz) (fun cA => by rw [vp_cell_i]; rfl) (by decide) (by decide) (by decide) (by show _ ≤ 10; omega) (by show _ ≤ 180; omega) dX0_init_56 (fun q7 cA H hK2 hP hD hS => ?_)
  have ec : cA = cI := Option.some.inj ((va_nm_int (hK2.2 1 _ rfl).2).symm.trans (va_nm_int (hK.2 0 _ rfl).2))
  rw [ec] at hP hD
  clear hK2 ec
  have hP := P_perm (perm_ins [(ob, .inr (1, [.ref q0, .ref q1, .ref q2, .ref q3, .ref q4, .ref q5, .ref q6, .null, .null, .null, .int 0, .int 0, .int 0, .int 0, .int 0, .int 0])), (q0, .inl (cI, 5, .inl (fun _ => (0 : Int32)))), (q1, .inl (cI, 5, .inl (fun _ => (0 : Int32)))), (q2, .inl (cI, 5, .inl (fun _ => (0 : Int32)))), (q3, .inl (cI, 5, .inl (fun _ => (0 : Int32)))), (q4, .inl (cI, 5, .inl (fun _ => (0 : Int32)))), (q5, .inl (cI, 5, .inl (fun _ => (0 : Int32)))), (q6, .inl (cI, 5, .inl (fun _ => (0 : Int32))))] R (q7, .inl (cI, 60, .inl (fun _ => (0 : Int32))))) hP
  have hD := D_perm (perm_ins [(ob, .inr (1, [.ref q0, .ref q1, .ref q2, .ref q3, .ref q4, .ref q5, .ref q6, .null, .null, .null, .int 0, .int 0, .int 0, .int 0, .int 0, .int 0])), (q0, .inl (cI, 5, .inl (fun _ => (0 : Int32)))), (q1, .inl (cI, 5, .inl (fun _ => (0 : Int32)))), (q2, .inl (cI, 5, .inl (fun _ => (0 : Int32)))), (q3, .inl (cI, 5, .inl (fun _ => (0 : Int32)))), (q4, .inl (cI, 5, .inl (fun _ => (0 : Int32)))), (q5, .inl (cI, 5, .inl (fun _ => (0 : Int32)))), (q6, .inl (cI, 5, .inl (fun _ => (0 : Int32))))] R (q7, .inl (cI, 60, .inl (fun _ => (0 : Int32))))) hD
  have hP : va_P (dC, dI) vwCl ((ob, .inr (1, [.ref q0, .ref q1, .ref q2, .ref q3, .ref q4, .ref q5, .ref q6, .null, .null, .null, .int 0, .int 0, .int 0, .int 0, .int 0, .int 0])) :: (q0, .inl (cI, 5, .inl (fun _ => (0 : Int32)))) :: (q1, .inl (cI, 5, .inl (fun _ => (0 : Int32)))) :: (q2, .inl (cI, 5, .inl (fun _ => (0 : Int32)))) :: (q3, .inl (cI, 5, .inl (fun _ => (0 : Int32)))) :: (q4, .inl (cI, 5, .inl (fun _ => (0 : Int32)))) :: (q5, .inl (cI, 5, .inl (fun _ => (0 : Int32)))) :: (q6, .inl (cI, 5, .inl (fun _ => (0 : Int32)))) :: (q7, .inl (cI, 60, .inl (fun _ => (0 : Int32)))) :: R : va_W) H := hP
  have hD : va_D (aB base) ((ob, .inr (1, [.ref q0, .ref q1, .ref q2, .ref q3, .ref q4, .ref q5, .ref q6, .null, .null, .null, .int 0, .int 0, .int 0, .int 0, .int 0, .int 0])) :: (q0, .inl (cI, 5, .inl (fun _ => (0 : Int32)))) :: (q1, .inl (cI, 5, .inl (fun _ => (0 : Int32)))) :: (q2, .inl (cI, 5, .inl (fun _ => (0 : Int32)))) :: (q3, .inl (cI, 5, .inl (fun _ => (0 : Int32)))) :: (q4, .inl (cI, 5, .inl (fun _ => (0 : Int32)))) :: (q5, .inl (cI, 5, .inl (fun _ => (0 : Int32)))) :: (q6, .inl (cI, 5, .inl (fun _ => (0 : Int32)))) :: (q7, .inl (cI, 60, .inl (fun _ => (0 : Int32)))) :: R : va_W) := hD
  refine va_putF (D := (dC, dI)) (ci := 1) (v := .ref q7) (ty := .array .int) (C := RX0) (T := TX0) (N := 16) hx hb hts hwX0 tyX0 tyX0_ok nmX0 hown hK hP hD hS 0 rfl rfl 7 (by decide) hf_33 (fun _ h9 => h9) rfl hin rfl (by decide +kernel) rfl rfl (Nat.le_of_ble_eq_true rfl) dX0_init_58 (fun H locs hP hD hS => ?_)
  have hP : va_P (dC, dI) vwCl ((ob, .inr (1, [.ref q0, .ref q1, .ref q2, .ref q3, .ref q4, .ref q5, .ref q6, .ref q7, .null, .null, .int 0, .int 0, .int 0, .int 0, .int 0, .int 0])) :: (q0, .inl (cI, 5, .inl (fun _ => (0 : Int32)))) :: (q1, .inl (cI, 5, .inl (fun _ => (0 : Int32)))) :: (q2, .inl (cI, 5, .inl (fun _ => (0 : Int32)))) :: (q3, .inl (cI, 5, .inl (fun _ => (0 : Int32)))) :: (q4, .inl (cI, 5, .inl (fun _ => (0 : Int32)))) :: (q5, .inl (cI, 5, .inl (fun _ => (0 : Int32)))) :: (q6, .inl (cI, 5, .inl (fun _ => (0 : Int32)))) :: (q7, .inl (cI, 60, .inl (fun _ => (0 : Int32)))) :: R : va_W) H := hP
  have hD : va_D (aB base) ((ob, .inr (1, [.ref q0, .ref q1, .ref q2, .ref q3, .ref q4, .ref q5, .ref q6, .ref q7, .null, .null, .int 0, .int 0, .int 0, .int 0, .int 0, .int 0])) :: (q0, .inl (cI, 5, .inl (fun _ => (0 : Int32)))) :: (q1, .inl (cI, 5, .inl (fun _ => (0 : Int32)))) :: (q2, .inl (cI, 5, .inl (fun _ => (0 : Int32)))) :: (q3, .inl (cI, 5, .inl (fun _ => (0 : Int32)))) :: (q4, .inl (cI, 5, .inl (fun _ => (0 : Int32)))) :: (q5, .inl (cI, 5, .inl (fun _ => (0 : Int32)))) :: (q6, .inl (cI, 5, .inl (fun _ => (0 : Int32)))) :: (q7, .inl (cI, 60, .inl (fun _ => (0 : Int32)))) :: R : va_W) := hD
  refine lv_aload_n hx hb dX0_init_61 rfl (lv_at hl 0 rfl) ?_
  refine lv_bipush (v := 60) hx hb dX0_init_62 (by decide) ?_
  refine va_newa (atype := .int) (ty := .int) (N' := 60) (a0 := (60, .inl (fun _ => 0))) hx hb (hts (.arrayClass .int) (by decide +kernel)) rfl hK hP hD hS (fun z hz => Nat.le_trans hbs hz) (fun cA => by rw [vp_cell_i]; rfl) (by decide) (by decide) (by decide) (by show _ ≤ 10; omega) (by show _ ≤ 180; omega) dX0_init_64 (fun q8 cA H hK2 hP hD hS => ?_)
  have ec : cA = cI := Option.some.inj ((va_nm_int (hK2.2 1 _ rfl).2).symm.trans (va_nm_int (hK.2 0 _ rfl).2))
  rw [ec] at hP hD
  clear hK2 ec
  have hP := P_perm (perm_ins [(ob, .inr (1, [.ref q0, .ref q1, .ref q2, .ref q3, .ref q4, .ref q5, .ref q6, .ref q7, .null, .null, .int 0, .int 0, .int 0, .int 0, .int 0, .int 0])), (q0, .inl (cI, 5, .inl (fun _ => (0 : Int32)))), (q1, .inl (cI, 5, .inl (fun _ => (0 : Int32)))), (q2, .inl (cI, 5, .inl (fun _ => (0 : Int32)))), (q3, .inl (cI, 5, .inl (fun _ => (0 : Int32)))), (q4, .inl (cI, 5, .inl (fun _ => (0 : Int32)))), (q5, .inl (cI, 5, .inl (fun _ => (0 : Int32)))), (q6, .inl (cI, 5, .inl (fun _ => (0 : Int32)))), (q7, .inl (cI, 60, .inl (fun _ => (0 : Int32))))] R (q8, .inl (cI, 60, .inl (fun _ => (0 : Int32))))) hP
  have hD := D_perm (perm_ins [(ob, .inr (1, [.ref q0, .ref q1, .ref q2, .ref q3, .ref q4, .ref q5, .ref q6, .ref q7, .null, .null, .int 0, .int 0, .int 0, .int 0, .int 0, .int 0])), (q0, .inl (cI, 5, .inl (fun _ => (0 : Int32)))), (q1, .inl (cI, 5, .inl (fun _ => (0 : Int32)))), (q2, .inl (cI, 5, .inl (fun _ => (0 : Int32)))), (q3, .inl (cI, 5, .inl (fun _ => (0 : Int32)))), (q4, .inl (cI, 5, .inl (fun _ => (0 : Int32)))), (q5, .inl (cI, 5, .inl (fun _ => (0 : Int32)))), (q6, .inl (cI, 5, .inl (fun _ => (0 : Int32)))), (q7, .inl (cI, 60, .inl (fun _ => (0 : Int32))))] R (q8, .inl (cI, 60, .inl (fun _ => (0 : Int32))))) hD
  have hP : va_P (dC, dI) vwCl ((ob, .inr (1, [.ref q0, .ref q1, .ref q2, .ref q3, .ref q4, .ref q5, .ref q6, .ref q7, .null, .null, .int 0, .int 0, .int 0, .int 0, .int 0, .int 0])) :: (q0, .inl (cI, 5, .inl (fun _ => (0 : Int32)))) :: (q1, .inl (cI, 5, .inl (fun _ => (0 : Int32)))) :: (q2, .inl (cI, 5, .inl (fun _ => (0 : Int32)))) :: (q3, .inl (cI, 5, .inl (fun _ => (0 : Int32)))) :: (q4, .inl (cI, 5, .inl (fun _ => (0 : Int32)))) :: (q5, .inl (cI, 5, .inl (fun _ => (0 : Int32)))) :: (q6, .inl (cI, 5, .inl (fun _ => (0 : Int32)))) :: (q7, .inl (cI, 60, .inl (fun _ => (0 : Int32)))) :: (q8, .inl (cI, 60, .inl (fun _ => (0 : Int32)))) :: R : va_W) H := hP
  have hD : va_D (aB base) ((ob, .inr (1, [.ref q0, .ref q1, .ref q2, .ref q3, .ref q4, .ref q5, .ref q6, .ref q7, .null, .null, .int 0, .int 0, .int 0, .int 0, .int 0, .int 0])) :: (q0, .inl (cI, 5, .inl (fun _ => (0 : Int32)))) :: (q1, .inl (cI, 5, .inl (fun _ => (0 : Int32)))) :: (q2, .inl (cI, 5, .inl (fun _ => (0 : Int32)))) :: (q3, .inl (cI, 5, .inl (fun _ => (0 : Int32)))) :: (q4, .inl (cI, 5, .inl (fun _ => (0 : Int32)))) :: (q5, .inl (cI, 5, .inl (fun _ => (0 : Int32)))) :: (q6, .inl (cI, 5, .inl (fun _ => (0 : Int32)))) :: (q7, .inl (cI, 60, .inl (fun _ => (0 : Int32)))) :: (q8, .inl (cI, 60, .inl (fun _ => (0 : Int32)))) :: R : va_W) := hD
  refine va_putF (D := (dC, dI)) (ci := 1) (v := .ref q8) (ty := .array .int) (C := RX0) (T := TX0) (N := 16) hx hb hts hwX0 tyX0 tyX0_ok nmX0 hown hK hP hD hS 0 rfl rfl 8 (by decide) hf_36 (fun _ h9 => h9) rfl hin rfl (by decide +kernel) rfl rfl (Nat.le_of_ble_eq_true rfl) dX0_init_66 (fun H locs hP hD hS => ?_)
  have hP : va_P (dC, dI) vwCl ((ob, .inr (1, [.ref q0, .ref q1, .ref q2, .ref q3, .ref q4, .ref q5, .ref q6, .ref q7, .ref q8, .null, .int 0, .int 0, .int 0, .int 0, .int 0, .int 0])) :: (q0, .inl (cI, 5, .inl (fun _ => (0 : Int32)))) :: (q1, .inl (cI, 5, .inl (fun _ => (0 : Int32)))) :: (q2, .inl (cI, 5, .inl (fun _ => (0 : Int32)))) :: (q3, .inl (cI, 5, .inl (fun _ => (0 : Int32)))) :: (q4, .inl (cI, 5, .inl (fun _ => (0 : Int32)))) :: (q5, .inl (cI, 5, .inl (fun _ => (0 : Int32)))) :: (q6, .inl (cI, 5, .inl (fun _ => (0 : Int32)))) :: (q7, .inl (cI, 60, .inl (fun _ => (0 : Int32)))) :: (q8, .inl (cI, 60, .inl (fun _ => (0 : Int32)))) :: R : va_W) H := hP
  have hD : va_D (aB base) ((ob, .inr (1, [.ref q0, .ref q1, .ref q2, .ref q3, .ref q4, .ref q5, .ref q6, .ref q7, .ref q8, .null, .int 0, .int 0, .int 0, .int 0, .int 0, .int 0])) :: (q0, .inl (cI, 5, .inl (fun _ => (0 : Int32)))) :: (q1, .inl (cI, 5, .inl (fun _ => (0 : Int32)))) :: (q2, .inl (cI, 5, .inl (fun _ => (0 : Int32)))) :: (q3, .inl (cI, 5, .inl (fun _ => (0 : Int32)))) :: (q4, .inl (cI, 5, .inl (fun _ => (0 : Int32)))) :: (q5, .inl (cI, 5, .inl (fun _ => (0 : Int32)))) :: (q6, .inl (cI, 5, .inl (fun _ => (0 : Int32)))) :: (q7, .inl (cI, 60, .inl (fun _ => (0 : Int32)))) :: (q8, .inl (cI, 60, .inl (fun _ => (0 : Int32)))) :: R : va_W) := hD
  refine lv_aload_n hx hb dX0_init_69 rfl (lv_at hl 0 rfl) ?_
  refine lv_bipush (v := 25) hx hb dX0_init_70 (by decide) ?_
  refine va_newa (atype := .int) (ty := .int) (N' := 25) (a0 := (25, .inl (fun _ => 0))) hx hb (hts (.arrayClass .int) (by decide +kernel)) rfl hK hP hD hS (fun z hz => Nat.le_trans hbs hz) (fun cA => by rw [vp_cell_i]; rfl) (by decide) (by decide) (by decide) (by show _ ≤ 10; omega) (by show _ ≤ 180; omega) dX0_init_72 (fun q9 cA H hK2 hP hD hS => ?_)
  have ec : cA = cI := Option.some.inj ((va_nm_int (hK2.2 1 _ rfl).2).symm.trans (va_nm_int (hK.2 0 _ rfl).2))
  rw [ec] at hP hD
  clear hK2 ec
  have hP := P_perm (perm_ins [(ob, .inr (1, [.ref q0, .ref q1, .ref q2, .ref q3, .ref q4, .ref q5, .ref q6, .ref q7, .ref q8, .null, .int 0, .int 0, .int 0, .int 0, .int 0, .int 0])), (q0, .inl (cI, 5, .inl (fun _ => (0 : Int32)))), (q1, .inl (cI, 5, .inl (fun _ => (0 : Int32)))), (q2, .inl (cI, 5, .inl (fun _ => (0 : Int32)))), (q3, .inl (cI, 5, .inl (fun _ => (0 : Int32)))), (q4, .inl (cI, 5, .inl (fun _ => (0 : Int32)))), (q5, .inl (cI, 5, .inl (fun _ => (0 : Int32)))), (q6, .inl (cI, 5, .inl (fun _ => (0 : Int32)))), (q7, .inl (cI, 60, .inl (fun _ => (0 : Int32)))), (q8, .inl (cI, 60, .inl (fun _ => (0 : Int32))))] R (q9, .inl (cI, 25, .inl (fun _ => (0 : Int32))))) hP
  have hD := D_perm (perm_ins [(ob, .inr (1, [.ref q0, .ref q1, .ref q2, .ref q3, .ref q4, .ref q5, .ref q6, .ref q7, .ref q8, .null, .int 0, .int 0, .int 0, .int 0, .int 0, .int 0])), (q0, .inl (cI, 5, .inl (fun _ => (0 : Int32)))), (q1, .inl (cI, 5, .inl (fun _ => (0 : Int32)))), (q2, .inl (cI, 5, .inl (fun _ => (0 : Int32)))), (q3, .inl (cI, 5, .inl (fun _ => (0 : Int32)))), (q4, .inl (cI, 5, .inl (fun _ => (0 : Int32)))), (q5, .inl (cI, 5, .inl (fun _ => (0 : Int32)))), (q6, .inl (cI, 5, .inl (fun _ => (0 : Int32)))), (q7, .inl (cI, 60, .inl (fun _ => (0 : Int32)))), (q8, .inl (cI, 60, .inl (fun _ => (0 : Int32))))] R (q9, .inl (cI, 25, .inl (fun _ => (0 : Int32))))) hD
  have hP : va_P (dC, dI) vwCl ((ob, .inr (1, [.ref q0, .ref q1, .ref q2, .ref q3, .ref q4, .ref q5, .ref q6, .ref q7, .ref q8, .null, .int 0, .int 0, .int 0, .int 0, .int 0, .int 0])) :: (q0, .inl (cI, 5, .inl (fun _ => (0 : Int32)))) :: (q1, .inl (cI, 5, .inl (fun _ => (0 : Int32)))) :: (q2, .inl (cI, 5, .inl (fun _ => (0 : Int32)))) :: (q3, .inl (cI, 5, .inl (fun _ => (0 : Int32)))) :: (q4, .inl (cI, 5, .inl (fun _ => (0 : Int32)))) :: (q5, .inl (cI, 5, .inl (fun _ => (0 : Int32)))) :: (q6, .inl (cI, 5, .inl (fun _ => (0 : Int32)))) :: (q7, .inl (cI, 60, .inl (fun _ => (0 : Int32)))) :: (q8, .inl (cI, 60, .inl (fun _ => (0 : Int32)))) :: (q9, .inl (cI, 25, .inl (fun _ => (0 : Int32)))) :: R : va_W) H := hP
  have hD : va_D (aB base) ((ob, .inr (1, [.ref q0, .ref q1, .ref q2, .ref q3, .ref q4, .ref q5, .ref q6, .ref q7, .ref q8, .null, .int 0, .int 0, .int 0, .int 0, .int 0, .int 0])) :: (q0, .inl (cI, 5, .inl (fun _ => (0 : Int32)))) :: (q1, .inl (cI, 5, .inl (fun _ => (0 : Int32)))) :: (q2, .inl (cI, 5, .inl (fun _ => (0 : Int32)))) :: (q3, .inl (cI, 5, .inl (fun _ => (0 : Int32)))) :: (q4, .inl (cI, 5, .inl (fun _ => (0 : Int32)))) :: (q5, .inl (cI, 5, .inl (fun _ => (0 : Int32)))) :: (q6, .inl (cI, 5, .inl (fun _ => (0 : Int32)))) :: (q7, .inl (cI, 60, .inl (fun _ => (0 : Int32)))) :: (q8, .inl (cI, 60, .inl (fun _ => (0 : Int32)))) :: (q9, .inl (cI, 25, .inl (fun _ => (0 : Int32)))) :: R : va_W) := hD
  refine va_putF (D := (dC, dI)) (ci := 1) (v := .ref q9) (ty := .array .int) (C := RX0) (T := TX0) (N := 16) hx hb hts hwX0 tyX0 tyX0_ok nmX0 hown hK hP hD hS 0 rfl rfl 9 (by decide) hf_39 (fun _ h9 => h9) rfl hin rfl (by decide +kernel) rfl rfl (Nat.le_of_ble_eq_true rfl) dX0_init_74 (fun H locs hP hD hS => ?_)
  have hP : va_P (dC, dI) vwCl ((ob, .inr (1, [.ref q0, .ref q1, .ref q2, .ref q3, .ref q4, .ref q5, .ref q6, .ref q7, .ref q8, .ref q9, .int 0, .int 0, .int 0, .int 0, .int 0, .int 0])) :: (q0, .inl (cI, 5, .inl (fun _ => (0 : Int32)))) :: (q1, .inl (cI, 5, .inl (fun _ => (0 : Int32)))) :: (q2, .inl (cI, 5, .inl (fun _ => (0 : Int32)))) :: (q3, .inl (cI, 5, .inl (fun _ => (0 : Int32)))) :: (q4, .inl (cI, 5, .inl (fun _ => (0 : Int32)))) :: (q5, .inl (cI, 5, .inl (fun _ => (0 : Int32)))) :: (q6, .inl (cI, 5, .inl (fun _ => (0 : Int32)))) :: (q7, .inl (cI, 60, .inl (fun _ => (0 : Int32)))) :: (q8, .inl (cI, 60, .inl (fun _ => (0 : Int32)))) :: (q9, .inl (cI, 25, .inl (fun _ => (0 : Int32)))) :: R : va_W) H := hP
  have hD : va_D (aB base) ((ob, .inr (1, [.ref q0, .ref q1, .ref q2, .ref q3, .ref q4, .ref q5, .ref q6, .ref q7, .ref q8, .ref q9, .int 0, .int 0, .int 0, .int 0, .int 0, .int 0])) :: (q0, .inl (cI, 5, .inl (fun _ => (0 : Int32)))) :: (q1, .inl (cI, 5, .inl (fun _ => (0 : Int32)))) :: (q2, .inl (cI, 5, .inl (fun _ => (0 : Int32)))) :: (q3, .inl (cI, 5, .inl (fun _ => (0 : Int32)))) :: (q4, .inl (cI, 5, .inl (fun _ => (0 : Int32)))) :: (q5, .inl (cI, 5, .inl (fun _ => (0 : Int32)))) :: (q6, .inl (cI, 5, .inl (fun _ => (0 : Int32)))) :: (q7, .inl (cI, 60, .inl (fun _ => (0 : Int32)))) :: (q8, .inl (cI, 60, .inl (fun _ => (0 : Int32)))) :: (q9, .inl (cI, 25, .inl (fun _ => (0 : Int32)))) :: R : va_W) := hD
  refine lv_aload_n hx hb dX0_init_77 rfl (lv_at hl 0 rfl) ?_
  refine lv_iconst (v := 0) hx hb dX0_init_78 (by decide) ?_
  refine va_put (D := (dC, dI)) (ci := 1) (v := .int 0) (ty := .int) (C := RX0) (T := TX0) (N := 16) hx hb hts hwX0 tyX0 tyX0_ok nmX0 hown hK hP hD hS 0 rfl rfl 10 (by decide) hf_42 (fun _ h9 => h9) rfl (by decide +kernel) rfl rfl (Nat.le_of_ble_eq_true rfl) dX0_init_79 (fun H locs hP hD hS => ?_)
  have hP : va_P (dC, dI) vwCl ((ob, .inr (1, [.ref q0, .ref q1, .ref q2, .ref q3, .ref q4, .ref q5, .ref q6, .ref q7, .ref q8, .ref q9, .int 0, .int 0, .int 0, .int 0, .int 0, .int 0])) :: (q0, .inl (cI, 5, .inl (fun _ => (0 : Int32)))) :: (q1, .inl (cI, 5, .inl (fun _ => (0 : Int32)))) :: (q2, .inl (cI, 5, .inl (fun _ => (0 : Int32)))) :: (q3, .inl (cI, 5, .inl (fun _ => (0 : Int32)))) :: (q4, .inl (cI, 5, .inl (fun _ => (0 : Int32)))) :: (q5, .inl (cI, 5, .inl (fun _ => (0 : Int32)))) :: (q6, .inl (cI, 5, .inl (fun _ => (0 : Int32)))) :: (q7, .inl (cI, 60, .inl (fun _ => (0 : Int32)))) :: (q8, .inl (cI, 60, .inl (fun _ => (0 : Int32)))) :: (q9, .inl (cI, 25, .inl (fun _ => (0 : Int32)))) :: R : va_W) H := hP
  have hD : va_D (aB base) ((ob, .inr (1, [.ref q0, .ref q1, .ref q2, .ref q3, .ref q4, .ref q5, .ref q6, .ref q7, .ref q8, .ref q9, .int 0, .int 0, .int 0, .int 0, .int 0, .int 0])) :: (q0, .inl (cI, 5, .inl (fun _ => (0 : Int32)))) :: (q1, .inl (cI, 5, .inl (fun _ => (0 : Int32)))) :: (q2, .inl (cI, 5, .inl (fun _ => (0 : Int32)))) :: (q3, .inl (cI, 5, .inl (fun _ => (0 : Int32)))) :: (q4, .inl (cI, 5, .inl (fun _ => (0 : Int32)))) :: (q5, .inl (cI, 5, .inl (fun _ => (0 : Int32)))) :: (q6, .inl (cI, 5, .inl (fun _ => (0 : Int32)))) :: (q7, .inl (cI, 60, .inl (fun _ => (0 : Int32)))) :: (q8, .inl (cI, 60, .inl (fun _ => (0 : Int32)))) :: (q9, .inl (cI, 25, .inl (fun _ => (0 : Int32)))) :: R : va_W) := hD
  refine lv_aload_n hx hb dX0_init_82 rfl (lv_at hl 0 rfl) ?_
  refine lv_iconst (v := 0) hx hb dX0_init_83 (by decide) ?_
  refine va_put (D := (dC, dI)) (ci := 1) (v := .int 0) (ty := .int) (C := RX0) (T := TX0) (N := 16) hx hb hts hwX0 tyX0 tyX0_ok nmX0 hown hK hP hD hS 0 rfl rfl 11 (by decide) hf_46 (fun _ h9 => h9) rfl (by decide +kernel) rfl rfl (Nat.le_of_ble_eq_true rfl) dX0_init_84 (fun H locs hP hD hS => ?_)
  have hP : va_P (dC, dI) vwCl ((ob, .inr (1, [.ref q0, .ref q1, .ref q2, .ref q3, .ref q4, .ref q5, .ref q6, .ref q7, .ref q8, .ref q9, .int 0, .int 0, .int 0, .int 0, .int 0, .int 0])) :: (q0, .inl (cI, 5, .inl (fun _ => (0 : Int32)))) :: (q1, .inl (cI, 5, .inl (fun _ => (0 : Int32)))) :: (q2, .inl (cI, 5, .inl (fun _ => (0 : Int32)))) :: (q3, .inl (cI, 5, .inl (fun _ => (0 : Int32)))) :: (q4, .inl (cI, 5, .inl (fun _ => (0 : Int32)))) :: (q5, .inl (cI, 5, .inl (fun _ => (0 : Int32)))) :: (q6, .inl (cI, 5, .inl (fun _ => (0 : Int32)))) :: (q7, .inl (cI, 60, .inl (fun _ => (0 : Int32)))) :: (q8, .inl (cI, 60, .inl (fun _ => (0 : Int32)))) :: (q9, .inl (cI, 25, .inl (fun _ => (0 : Int32)))) :: R : va_W) H := hP
  have hD : va_D (aB base) ((ob, .inr (1, [.ref q0, .ref q1, .ref q2, .ref q3, .ref q4, .ref q5, .ref q6, .ref q7, .ref q8, .ref q9, .int 0, .int 0, .int 0, .int 0, .int 0, .int 0])) :: (q0, .inl (cI, 5, .inl (fun _ => (0 : Int32)))) :: (q1, .inl (cI, 5, .inl (fun _ => (0 : Int32)))) :: (q2, .inl (cI, 5, .inl (fun _ => (0 : Int32)))) :: (q3, .inl (cI, 5, .inl (fun _ => (0 : Int32)))) :: (q4, .inl (cI, 5, .inl (fun _ => (0 : Int32)))) :: (q5, .inl (cI, 5, .inl (fun _ => (0 : Int32)))) :: (q6, .inl (cI, 5, .inl (fun _ => (0 : Int32)))) :: (q7, .inl (cI, 60, .inl (fun _ => (0 : Int32)))) :: (q8, .inl (cI, 60, .inl (fun _ => (0 : Int32)))) :: (q9, .inl (cI, 25, .inl (fun _ => (0 : Int32)))) :: R : va_W) := hD
  refine lv_aload_n hx hb dX0_init_87 rfl (lv_at hl 0 rfl) ?_
  refine lv_iconst (v := 0) hx hb dX0_init_88 (by decide) ?_
  refine va_put (D := (dC, dI)) (ci := 1) (v := .int 0) (ty := .int) (C := RX0) (T := TX0) (N := 16) hx hb hts hwX0 tyX0 tyX0_ok nmX0 hown hK hP hD hS 0 rfl rfl 12 (by decide) hf_49 (fun _ h9 => h9) rfl (by decide +kernel) rfl rfl (Nat.le_of_ble_eq_true rfl) dX0_init_89 (fun H locs hP hD hS => ?_)
  have hP : va_P (dC, dI) vwCl ((ob, .inr (1, [.ref q0, .ref q1, .ref q2, .ref q3, .ref q4, .ref q5, .ref q6, .ref q7, .ref q8, .ref q9, .int 0, .int 0, .int 0, .int 0, .int 0, .int 0])) :: (q0, .inl (cI, 5, .inl (fun _ => (0 : Int32)))) :: (q1, .inl (cI, 5, .inl (fun _ => (0 : Int32)))) :: (q2, .inl (cI, 5, .inl (fun _ => (0 : Int32)))) :: (q3, .inl (cI, 5, .inl (fun _ => (0 : Int32)))) :: (q4, .inl (cI, 5, .inl (fun _ => (0 : Int32)))) :: (q5, .inl (cI, 5, .inl (fun _ => (0 : Int32)))) :: (q6, .inl (cI, 5, .inl (fun _ => (0 : Int32)))) :: (q7, .inl (cI, 60, .inl (fun _ => (0 : Int32)))) :: (q8, .inl (cI, 60, .inl (fun _ => (0 : Int32)))) :: (q9, .inl (cI, 25, .inl (fun _ => (0 : Int32)))) :: R : va_W) H := hP
  have hD : va_D (aB base) ((ob, .inr (1, [.ref q0, .ref q1, .ref q2, .ref q3, .ref q4, .ref q5, .ref q6, .ref q7, .ref q8, .ref q9, .int 0, .int 0, .int 0, .int 0, .int 0, .int 0])) :: (q0, .inl (cI, 5, .inl (fun _ => (0 : Int32)))) :: (q1, .inl (cI, 5, .inl (fun _ => (0 : Int32)))) :: (q2, .inl (cI, 5, .inl (fun _ => (0 : Int32)))) :: (q3, .inl (cI, 5, .inl (fun _ => (0 : Int32)))) :: (q4, .inl (cI, 5, .inl (fun _ => (0 : Int32)))) :: (q5, .inl (cI, 5, .inl (fun _ => (0 : Int32)))) :: (q6, .inl (cI, 5, .inl (fun _ => (0 : Int32)))) :: (q7, .inl (cI, 60, .inl (fun _ => (0 : Int32)))) :: (q8, .inl (cI, 60, .inl (fun _ => (0 : Int32)))) :: (q9, .inl (cI, 25, .inl (fun _ => (0 : Int32)))) :: R : va_W) := hD
  refine lv_aload_n hx hb dX0_init_92 rfl (lv_at hl 0 rfl) ?_
  refine lv_iconst (v := 0) hx hb dX0_init_93 (by decide) ?_
  refine va_put (D := (dC, dI)) (ci := 1) (v := .int 0) (ty := .int) (C := RX0) (T := TX0) (N := 16) hx hb hts hwX0 tyX0 tyX0_ok nmX0 hown hK hP hD hS 0 rfl rfl 13 (by decide) hf_52 (fun _ h9 => h9) rfl (by decide +kernel) rfl rfl (Nat.le_of_ble_eq_true rfl) dX0_init_94 (fun H locs hP hD hS => ?_)
  have hP : va_P (dC, dI) vwCl ((ob, .inr (1, [.ref q0, .ref q1, .ref q2, .ref q3, .ref q4, .ref q5, .ref q6, .ref q7, .ref q8, .ref q9, .int 0, .int 0, .int 0, .int 0, .int 0, .int 0])) :: (q0, .inl (cI, 5, .inl (fun _ => (0 : Int32)))) :: (q1, .inl (cI, 5, .inl (fun _ => (0 : Int32)))) :: (q2, .inl (cI, 5, .inl (fun _ => (0 : Int32)))) :: (q3, .inl (cI, 5, .inl (fun _ => (0 : Int32)))) :: (q4, .inl (cI, 5, .inl (fun _ => (0 : Int32)))) :: (q5, .inl (cI, 5, .inl (fun _ => (0 : Int32)))) :: (q6, .inl (cI, 5, .inl (fun _ => (0 : Int32)))) :: (q7, .inl (cI, 60, .inl (fun _ => (0 : Int32)))) :: (q8, .inl (cI, 60, .inl (fun _ => (0 : Int32)))) :: (q9, .inl (cI, 25, .inl (fun _ => (0 : Int32)))) :: R : va_W) H := hP
  have hD : va_D (aB base) ((ob, .inr (1, [.ref q0, .ref q1, .ref q2, .ref q3, .ref q4, .ref q5, .ref q6, .ref q7, .ref q8, .ref q9, .int 0, .int 0, .int 0, .int 0, .int 0, .int 0])) :: (q0, .inl (cI, 5, .inl (fun _ => (0 : Int32)))) :: (q1, .inl (cI, 5, .inl (fun _ => (0 : Int32)))) :: (q2, .inl (cI, 5, .inl (fun _ => (0 : Int32)))) :: (q3, .inl (cI, 5, .inl (fun _ => (0 : Int32)))) :: (q4, .inl (cI, 5, .inl (fun _ => (0 : Int32)))) :: (q5, .inl (cI, 5, .inl (fun _ => (0 : Int32)))) :: (q6, .inl (cI, 5, .inl (fun _ => (0 : Int32)))) :: (q7, .inl (cI, 60, .inl (fun _ => (0 : Int32)))) :: (q8, .inl (cI, 60, .inl (fun _ => (0 : Int32)))) :: (q9, .inl (cI, 25, .inl (fun _ => (0 : Int32)))) :: R : va_W) := hD
  refine lv_aload_n hx hb dX0_init_97 rfl (lv_at hl 0 rfl) ?_
  refine lv_iconst (v := 0) hx hb dX0_init_98 (by decide) ?_
  refine va_put (D := (dC, dI)) (ci := 1) (v := .int 0) (ty := .int) (C := RX0) (T := TX0) (N := 16) hx hb hts hwX0 tyX0 tyX0_ok nmX0 hown hK hP hD hS 0 rfl rfl 14 (by decide) hf_55 (fun _ h9 => h9) rfl (by decide +kernel) rfl rfl (Nat.le_of_ble_eq_true rfl) dX0_init_99 (fun H locs hP hD hS => ?_)
  have hP : va_P (dC, dI) vwCl ((ob, .inr (1, [.ref q0, .ref q1, .ref q2, .ref q3, .ref q4, .ref q5, .ref q6, .ref q7, .ref q8, .ref q9, .int 0, .int 0, .int 0, .int 0, .int 0, .int 0])) :: (q0, .inl (cI, 5, .inl (fun _ => (0 : Int32)))) :: (q1, .inl (cI, 5, .inl (fun _ => (0 : Int32)))) :: (q2, .inl (cI, 5, .inl (fun _ => (0 : Int32)))) :: (q3, .inl (cI, 5, .inl (fun _ => (0 : Int32)))) :: (q4, .inl (cI, 5, .inl (fun _ => (0 : Int32)))) :: (q5, .inl (cI, 5, .inl (fun _ => (0 : Int32)))) :: (q6, .inl (cI, 5, .inl (fun _ => (0 : Int32)))) :: (q7, .inl (cI, 60, .inl (fun _ => (0 : Int32)))) :: (q8, .inl (cI, 60, .inl (fun _ => (0 : Int32)))) :: (q9, .inl (cI, 25, .inl (fun _ => (0 : Int32)))) :: R : va_W) H := hP
  have hD : va_D (aB base) ((ob, .inr (1, [.ref q0, .ref q1, .ref q2, .ref q3, .ref q4, .ref q5, .ref q6, .ref q7, .ref q8, .ref q9, .int 0, .int 0, .int 0, .int 0, .int 0, .int 0])) :: (q0, .inl (cI, 5, .inl (fun _ => (0 : Int32)))) :: (q1, .inl (cI, 5, .inl (fun _ => (0 : Int32)))) :: (q2, .inl (cI, 5, .inl (fun _ => (0 : Int32)))) :: (q3, .inl (cI, 5, .inl (fun _ => (0 : Int32)))) :: (q4, .inl (cI, 5, .inl (fun _ => (0 : Int32)))) :: (q5, .inl (cI, 5, .inl (fun _ => (0 : Int32)))) :: (q6, .inl (cI, 5, .inl (fun _ => (0 : Int32)))) :: (q7, .inl (cI, 60, .inl (fun _ => (0 : Int32)))) :: (q8, .inl (cI, 60, .inl (fun _ => (0 : Int32)))) :: (q9, .inl (cI, 25, .inl (fun _ => (0 : Int32)))) :: R : va_W) := hD
  refine lv_aload_n hx hb dX0_init_102 rfl (lv_at hl 0 rfl) ?_
  refine lv_iconst (v := 0) hx hb dX0_init_103 (by decide) ?_
  refine va_put (D := (dC, dI)) (ci := 1) (v := .int 0) (ty := .int) (C := RX0) (T := TX0) (N := 16) hx hb hts hwX0 tyX0 tyX0_ok nmX0 hown hK hP hD hS 0 rfl rfl 15 (by decide) hf_58 (fun _ h9 => h9) rfl (by decide +kernel) rfl rfl (Nat.le_of_ble_eq_true rfl) dX0_init_104 (fun H locs hP hD hS => ?_)
  have hP : va_P (dC, dI) vwCl ((ob, .inr (1, [.ref q0, .ref q1, .ref q2, .ref q3, .ref q4, .ref q5, .ref q6, .ref q7, .ref q8, .ref q9, .int 0, .int 0, .int 0, .int 0, .int 0, .int 0])) :: (q0, .inl (cI, 5, .inl (fun _ => (0 : Int32)))) :: (q1, .inl (cI, 5, .inl (fun _ => (0 : Int32)))) :: (q2, .inl (cI, 5, .inl (fun _ => (0 : Int32)))) :: (q3, .inl (cI, 5, .inl (fun _ => (0 : Int32)))) :: (q4, .inl (cI, 5, .inl (fun _ => (0 : Int32)))) :: (q5, .inl (cI, 5, .inl (fun _ => (0 : Int32)))) :: (q6, .inl (cI, 5, .inl (fun _ => (0 : Int32)))) :: (q7, .inl (cI, 60, .inl (fun _ => (0 : Int32)))) :: (q8, .inl (cI, 60, .inl (fun _ => (0 : Int32)))) :: (q9, .inl (cI, 25, .inl (fun _ => (0 : Int32)))) :: R : va_W) H := hP
  have hD : va_D (aB base) ((ob, .inr (1, [.ref q0, .ref q1, .ref q2, .ref q3, .ref q4, .ref q5, .ref q6, .ref q7, .ref q8, .ref q9, .int 0, .int 0, .int 0, .int 0, .int 0, .int 0])) :: (q0, .inl (cI, 5, .inl (fun _ => (0 : Int32)))) :: (q1, .inl (cI, 5, .inl (fun _ => (0 : Int32)))) :: (q2, .inl (cI, 5, .inl (fun _ => (0 : Int32)))) :: (q3, .inl (cI, 5, .inl (fun _ => (0 : Int32)))) :: (q4, .inl (cI, 5, .inl (fun _ => (0 : Int32)))) :: (q5, .inl (cI, 5, .inl (fun _ => (0 : Int32)))) :: (q6, .inl (cI, 5, .inl (fun _ => (0 : Int32)))) :: (q7, .inl (cI, 60, .inl (fun _ => (0 : Int32)))) :: (q8, .inl (cI, 60, .inl (fun _ => (0 : Int32)))) :: (q9, .inl (cI, 25, .inl (fun _ => (0 : Int32)))) :: R : va_W) := hD
  obtain ⟨q, eq⟩ : ∃ q : Nat → Nat, q = fun j => ([q0, q1, q2, q3, q4, q5, q6, q7, q8, q9] : List Nat).getD j 0 := ⟨_, rfl⟩
  obtain ⟨K0, eK0⟩ : ∃ z : KT, z = fun _ _ => 0 := ⟨_, rfl⟩
  have hP : va_P (dC, dI) vwCl (cvW cI ob q K0 ++ R) H := by rw [eq, eK0]; exact hP
  have hD : va_D (aB base) (cvW cI ob q K0 ++ R) := by rw [eq, eK0]; exact hD
  clear eq
  refine lv_iconst (v := 0) hx hb dX0_init_107 (by decide) ?_
  refine lv_istore_n (lv' := [(1, .int 0), (0, .ref ob)]) hx hb dX0_init_108 rfl hl (by decide) rfl (fun ls hl => ?_)
  refine lv_iload_n hx hb dX0_init_109 rfl (lv_at hl 0 rfl) ?_
  refine lv_iconst (v := 5) hx hb dX0_init_110 (by decide) ?_
  refine lv_icmp_ge (tgt := 168) hx hb dX0_init_111 (by decide) (fun c1 => absurd c1 (by decide)) (fun _ => ?_)
  refine lv_aload_n hx hb dX0_init_114 rfl (lv_at hl 1 rfl) ?_
  refine va_get (D := (dC, dI)) (ci := 1) (v := .ref (q 1)) (C := RX0) (T := TX0) (N := 16) hx hb hts hwX0 hown hK hP 0 rfl rfl 1 (by decide) hf_15 (fun _ h9 => h9) rfl dX0_init_115 ?_
  refine lv_iload_n hx hb dX0_init_118 rfl (lv_at hl 0 rfl) ?_
  refine lv_bipush (v := (-4)) hx hb dX0_init_119 (by decide) ?_
  refine va_iast hx hb hK hP hD hS 2 0 rfl rfl (show ¬ ((0 : Int32) < 0 ∨ 5 ≤ (0 : Int32).toNatClampNeg) by decide) dX0_init_121 (fun H locs hP hD hS => ?_)
  obtain ⟨K1, eK1⟩ : ∃ z, z = fset K0 1 0 (-4) := ⟨_, rfl⟩
  have hP : va_P (dC, dI) vwCl (cvW cI ob q K1 ++ R) H := by rw [eK1]; exact hP
  have hD : va_D (aB base) (cvW cI ob q K1 ++ R) := D_iff.mpr (by have h := D_iff.mp hD; exact h)
  refine lv_aload_n hx hb dX0_init_122 rfl (lv_at hl 1 rfl) ?_
  refine va_get (D := (dC, dI)) (ci := 1) (v := .ref (q 3)) (C := RX0) (T := TX0) (N := 16) hx hb hts hwX0 hown hK hP 0 rfl rfl 3 (by decide) hf_21 (fun _ h9 => h9) rfl dX0_init_123 ?_
  refine lv_iload_n hx hb dX0_init_126 rfl (lv_at hl 0 rfl) ?_
  refine lv_iconst (v := 1) hx hb dX0_init_127 (by decide) ?_
  refine va_iast hx hb hK hP hD hS 4 0 rfl rfl (show ¬ ((0 : Int32) < 0 ∨ 5 ≤ (0 : Int32).toNatClampNeg) by decide) dX0_init_128 (fun H locs hP hD hS => ?_)
  obtain ⟨K2, eK2⟩ : ∃ z, z = fset K1 3 0 (1) := ⟨_, rfl⟩
  have hP : va_P (dC, dI) vwCl (cvW cI ob q K2 ++ R) H := by rw [eK2]; exact hP
  have hD : va_D (aB base) (cvW cI ob q K2 ++ R) := D_iff.mpr (by have h := D_iff.mp hD; exact h)
  refine lv_iconst (v := 0) hx hb dX0_init_129 (by decide) ?_
  refine lv_istore_n (lv' := [(2, .int 0), (1, .int 0), (0, .ref ob)]) hx hb dX0_init_130 rfl hl (by decide) rfl (fun ls hl => ?_)
  refine lv_iload_n hx hb dX0_init_131 rfl (lv_at hl 0 rfl) ?_
  refine lv_iconst (v := 5) hx hb dX0_init_132 (by decide) ?_
  refine lv_icmp_ge (tgt := 162) hx hb dX0_init_133 (by decide) (fun c1 => absurd c1 (by decide)) (fun _ => ?_)
  refine lv_aload_n hx hb dX0_init_136 rfl (lv_at hl 2 rfl) ?_
  refine va_get (D := (dC, dI)) (ci := 1) (v := .ref (q 9)) (C := RX0) (T := TX0) (N := 16) hx hb hts hwX0 hown hK hP 0 rfl rfl 9 (by decide) hf_39 (fun _ h9 => h9) rfl dX0_init_137 ?_
  refine lv_iload_n hx hb dX0_init_140 rfl (lv_at hl 1 rfl) ?_
  refine lv_iconst (v := 5) hx hb dX0_init_141 (by decide) ?_
  refine lv_imul hx hb dX0_init_142 ?_
  refine lv_iload_n hx hb dX0_init_143 rfl (lv_at hl 0 rfl) ?_
  refine lv_iadd hx hb dX0_init_144 ?_
  rw [show (0 : Int32) * 5 + 0 = 0 by decide]
  refine lv_iload_n hx hb dX0_init_145 rfl (lv_at hl 1 rfl) ?_
  refine lv_iload_n hx hb dX0_init_146 rfl (lv_at hl 0 rfl) ?_
  refine lv_icmp_ne (tgt := 154) hx hb dX0_init_147 (by decide) (fun c1 => absurd rfl c1) (fun _ => ?_)
  refine lv_iconst (v := 0) hx hb dX0_init_150 (by decide) ?_
  refine lv_goto (tgt := 155) hx hb dX0_init_151 (by decide) ?_
  refine va_iast hx hb hK hP hD hS 10 0 rfl rfl (show ¬ ((0 : Int32) < 0 ∨ 25 ≤ (0 : Int32).toNatClampNeg) by decide) dX0_init_155 (fun H locs hP hD hS => ?_)
  obtain ⟨K3, eK3⟩ : ∃ z, z = fset K2 9 0 (0) := ⟨_, rfl⟩
  have hP : va_P (dC, dI) vwCl (cvW cI ob q K3 ++ R) H := by rw [eK3]; exact hP
  have hD : va_D (aB base) (cvW cI ob q K3 ++ R) := D_iff.mpr (by have h := D_iff.mp hD; exact h)
  refine lv_iinc (v := 1) (lv' := [(2, .int 1), (1, .int 0), (0, .ref ob)]) hx hb dX0_init_156 hl (k := 0) rfl rfl (by decide) rfl (fun ls hl => ?_)
  refine lv_goto (tgt := 131) hx hb dX0_init_159 (by decide) ?_
  refine lv_iload_n hx hb dX0_init_131 rfl (lv_at hl 0 rfl) ?_
  refine lv_iconst (v := 5) hx hb dX0_init_132 (by decide) ?_
  refine lv_icmp_ge (tgt := 162) hx hb dX0_init_133 (by decide) (fun c1 => absurd c1 (by decide)) (fun _ => ?_)
  refine lv_aload_n hx hb dX0_init_136 rfl (lv_at hl 2 rfl) ?_
  refine va_get (D := (dC, dI)) (ci := 1) (v := .ref (q 9)) (C := RX0) (T := TX0) (N := 16) hx hb hts hwX0 hown hK hP 0 rfl rfl 9 (by decide) hf_39 (fun _ h9 => h9) rfl dX0_init_137 ?_
  refine lv_iload_n hx hb dX0_init_140 rfl (lv_at hl 1 rfl) ?_
  refine lv_iconst (v := 5) hx hb dX0_init_141 (by decide) ?_
  refine lv_imul hx hb dX0_init_142 ?_
  refine lv_iload_n hx hb dX0_init_143 rfl (lv_at hl 0 rfl) ?_
  refine lv_iadd hx hb dX0_init_144 ?_
  rw [show (0 : Int32) * 5 + 1 = 1 by decide]
  refine lv_iload_n hx hb dX0_init_145 rfl (lv_at hl 1 rfl) ?_
  refine lv_iload_n hx hb dX0_init_146 rfl (lv_at hl 0 rfl) ?_
  refine lv_icmp_ne (tgt := 154) hx hb dX0_init_147 (by decide) (fun _ => ?_) (fun c1 => absurd c1 (by decide))
  refine lv_iconst (v := 1) hx hb dX0_init_154 (by decide) ?_
  refine va_iast hx hb hK hP hD hS 10 0 rfl rfl (show ¬ ((1 : Int32) < 0 ∨ 25 ≤ (1 : Int32).toNatClampNeg) by decide) dX0_init_155 (fun H locs hP hD hS => ?_)
  obtain ⟨K4, eK4⟩ : ∃ z, z = fset K3 9 1 (1) := ⟨_, rfl⟩
  have hP : va_P (dC, dI) vwCl (cvW cI ob q K4 ++ R) H := by rw [eK4]; exact hP
  have hD : va_D (aB base) (cvW cI ob q K4 ++ R) := D_iff.mpr (by have h := D_iff.mp hD; exact h)
  refine lv_iinc (v := 2) (lv' := [(2, .int 2), (1, .int 0), (0, .ref ob)]) hx hb dX0_init_156 hl (k := 0) rfl rfl (by decide) rfl (fun ls hl => ?_)
  refine lv_goto (tgt := 131) hx hb dX0_init_159 (by decide) ?_
  refine lv_iload_n hx hb dX0_init_131 rfl (lv_at hl 0 rfl) ?_
  refine lv_iconst (v := 5) hx hb dX0_init_132 (by decide) ?_
  refine lv_icmp_ge (tgt := 162) hx hb dX0_init_133 (by decide) (fun c1 => absurd c1 (by decide)) (fun _ => ?_)
  refine lv_aload_n hx hb dX0_init_136 rfl (lv_at hl 2 rfl) ?_
  refine va_get (D := (dC, dI)) (ci := 1) (v := .ref (q 9)) (C := RX0) (T := TX0) (N := 16) hx hb hts hwX0 hown hK hP 0 rfl rfl 9 (by decide) hf_39 (fun _ h9 => h9) rfl dX0_init_137 ?_
  refine lv_iload_n hx hb dX0_init_140 rfl (lv_at hl 1 rfl) ?_
  refine lv_iconst (v := 5) hx hb dX0_init_141 (by decide) ?_
  refine lv_imul hx hb dX0_init_142 ?_
  refine lv_iload_n hx hb dX0_init_143 rfl (lv_at hl 0 rfl) ?_
  refine lv_iadd hx hb dX0_init_144 ?_
  rw [show (0 : Int32) * 5 + 2 = 2 by decide]
  refine lv_iload_n hx hb dX0_init_145 rfl (lv_at hl 1 rfl) ?_
  refine lv_iload_n hx hb dX0_init_146 rfl (lv_at hl 0 rfl) ?_
  refine lv_icmp_ne (tgt := 154) hx hb dX0_init_147 (by decide) (fun _ => ?_) (fun c1 => absurd c1 (by decide))
  refine lv_iconst (v := 1) hx hb dX0_init_154 (by decide) ?_
  refine va_iast hx hb hK hP hD hS 10 0 rfl rfl (show ¬ ((2 : Int32) < 0 ∨ 25 ≤ (2 : Int32).toNatClampNeg) by decide) dX0_init_155 (fun H locs hP hD hS => ?_)
  obtain ⟨K5, eK5⟩ : ∃ z, z = fset K4 9 2 (1) := ⟨_, rfl⟩
  have hP : va_P (dC, dI) vwCl (cvW cI ob q K5 ++ R) H := by rw [eK5]; exact hP
  have hD : va_D (aB base) (cvW cI ob q K5 ++ R) := D_iff.mpr (by have h := D_iff.mp hD; exact h)
  refine lv_iinc (v := 3) (lv' := [(2, .int 3), (1, .int 0), (0, .ref ob)]) hx hb dX0_init_156 hl (k := 0) rfl rfl (by decide) rfl (fun ls hl => ?_)
  refine lv_goto (tgt := 131) hx hb dX0_init_159 (by decide) ?_
  refine lv_iload_n hx hb dX0_init_131 rfl (lv_at hl 0 rfl) ?_
  refine lv_iconst (v := 5) hx hb dX0_init_132 (by decide) ?_
  refine lv_icmp_ge (tgt := 162) hx hb dX0_init_133 (by decide) (fun c1 => absurd c1 (by decide)) (fun _ => ?_)
  refine lv_aload_n hx hb dX0_init_136 rfl (lv_at hl 2 rfl) ?_
  refine va_get (D := (dC, dI)) (ci := 1) (v := .ref (q 9)) (C := RX0) (T := TX0) (N := 16) hx hb hts hwX0 hown hK hP 0 rfl rfl 9 (by decide) hf_39 (fun _ h9 => h9) rfl dX0_init_137 ?_
  refine lv_iload_n hx hb dX0_init_140 rfl (lv_at hl 1 rfl) ?_
  refine lv_iconst (v := 5) hx hb dX0_init_141 (by decide) ?_
  refine lv_imul hx hb dX0_init_142 ?_
  refine lv_iload_n hx hb dX0_init_143 rfl (lv_at hl 0 rfl) ?_
  refine lv_iadd hx hb dX0_init_144 ?_
  rw [show (0 : Int32) * 5 + 3 = 3 by decide]
  refine lv_iload_n hx hb dX0_init_145 rfl (lv_at hl 1 rfl) ?_
  refine lv_iload_n hx hb dX0_init_146 rfl (lv_at hl 0 rfl) ?_
  refine lv_icmp_ne (tgt := 154) hx hb dX0_init_147 (by decide) (fun _ => ?_) (fun c1 => absurd c1 (by decide))
  refine lv_iconst (v := 1) hx hb dX0_init_154 (by decide) ?_
  refine va_iast hx hb hK hP hD hS 10 0 rfl rfl (show ¬ ((3 : Int32) < 0 ∨ 25 ≤ (3 : Int32).toNatClampNeg) by decide) dX0_init_155 (fun H locs hP hD hS => ?_)
  obtain ⟨K6, eK6⟩ : ∃ z, z = fset K5 9 3 (1) := ⟨_, rfl⟩
  have hP : va_P (dC, dI) vwCl (cvW cI ob q K6 ++ R) H := by rw [eK6]; exact hP
  have hD : va_D (aB base) (cvW cI ob q K6 ++ R) := D_iff.mpr (by have h := D_iff.mp hD; exact h)
  refine lv_iinc (v := 4) (lv' := [(2, .int 4), (1, .int 0), (0, .ref ob)]) hx hb dX0_init_156 hl (k := 0) rfl rfl (by decide) rfl (fun ls hl => ?_)
  refine lv_goto (tgt := 131) hx hb dX0_init_159 (by decide) ?_
  refine lv_iload_n hx hb dX0_init_131 rfl (lv_at hl 0 rfl) ?_
  refine lv_iconst (v := 5) hx hb dX0_init_132 (by decide) ?_
  refine lv_icmp_ge (tgt := 162) hx hb dX0_init_133 (by decide) (fun c1 => absurd c1 (by decide)) (fun _ => ?_)
  refine lv_aload_n hx hb dX0_init_136 rfl (lv_at hl 2 rfl) ?_
  refine va_get (D := (dC, dI)) (ci := 1) (v := .ref (q 9)) (C := RX0) (T := TX0) (N := 16) hx hb hts hwX0 hown hK hP 0 rfl rfl 9 (by decide) hf_39 (fun _ h9 => h9) rfl dX0_init_137 ?_
  refine lv_iload_n hx hb dX0_init_140 rfl (lv_at hl 1 rfl) ?_
  refine lv_iconst (v := 5) hx hb dX0_init_141 (by decide) ?_
  refine lv_imul hx hb dX0_init_142 ?_
  refine lv_iload_n hx hb dX0_init_143 rfl (lv_at hl 0 rfl) ?_
  refine lv_iadd hx hb dX0_init_144 ?_
  rw [show (0 : Int32) * 5 + 4 = 4 by decide]
  refine lv_iload_n hx hb dX0_init_145 rfl (lv_at hl 1 rfl) ?_
  refine lv_iload_n hx hb dX0_init_146 rfl (lv_at hl 0 rfl) ?_
  refine lv_icmp_ne (tgt := 154) hx hb dX0_init_147 (by decide) (fun _ => ?_) (fun c1 => absurd c1 (by decide))
  refine lv_iconst (v := 1) hx hb dX0_init_154 (by decide) ?_
  refine va_iast hx hb hK hP hD hS 10 0 rfl rfl (show ¬ ((4 : Int32) < 0 ∨ 25 ≤ (4 : Int32).toNatClampNeg) by decide) dX0_init_155 (fun H locs hP hD hS => ?_)
  obtain ⟨K7, eK7⟩ : ∃ z, z = fset K6 9 4 (1) := ⟨_, rfl⟩
  have hP : va_P (dC, dI) vwCl (cvW cI ob q K7 ++ R) H := by rw [eK7]; exact hP
  have hD : va_D (aB base) (cvW cI ob q K7 ++ R) := D_iff.mpr (by have h := D_iff.mp hD; exact h)
  refine lv_iinc (v := 5) (lv' := [(2, .int 5), (1, .int 0), (0, .ref ob)]) hx hb dX0_init_156 hl (k := 0) rfl rfl (by decide) rfl (fun ls hl => ?_)
  refine lv_goto (tgt := 131) hx hb dX0_init_159 (by decide) ?_
  refine lv_iload_n hx hb dX0_init_131 rfl (lv_at hl 0 rfl) ?_
  refine lv_iconst (v := 5) hx hb dX0_init_132 (by decide) ?_
  refine lv_icmp_ge (tgt := 162) hx hb dX0_init_133 (by decide) (fun _ => ?_) (fun c1 => absurd (show (5 : Int32) ≤ 5 by decide) c1)
  refine lv_iinc (v := 1) (lv' := [(1, .int 1), (2, .int 5), (0, .ref ob)]) hx hb dX0_init_162 hl (k := 1) rfl rfl (by decide) rfl (fun ls hl => ?_)
  refine lv_goto (tgt := 109) hx hb dX0_init_165 (by decide) ?_
  refine lv_iload_n hx hb dX0_init_109 rfl (lv_at hl 0 rfl) ?_
  refine lv_iconst (v := 5) hx hb dX0_init_110 (by decide) ?_
  refine lv_icmp_ge (tgt := 168) hx hb dX0_init_111 (by decide) (fun c1 => absurd c1 (by decide)) (fun _ => ?_)
  refine lv_aload_n hx hb dX0_init_114 rfl (lv_at hl 2 rfl) ?_
  refine va_get (D := (dC, dI)) (ci := 1) (v := .ref (q 1)) (C := RX0) (T := TX0) (N := 16) hx hb hts hwX0 hown hK hP 0 rfl rfl 1 (by decide) hf_15 (fun _ h9 => h9) rfl dX0_init_115 ?_
  refine lv_iload_n hx hb dX0_init_118 rfl (lv_at hl 0 rfl) ?_
  refine lv_bipush (v := (-4)) hx hb dX0_init_119 (by decide) ?_
  refine va_iast hx hb hK hP hD hS 2 0 rfl rfl (show ¬ ((1 : Int32) < 0 ∨ 5 ≤ (1 : Int32).toNatClampNeg) by decide) dX0_init_121 (fun H locs hP hD hS => ?_)
  obtain ⟨K8, eK8⟩ : ∃ z, z = fset K7 1 1 (-4) := ⟨_, rfl⟩
  have hP : va_P (dC, dI) vwCl (cvW cI ob q K8 ++ R) H := by rw [eK8]; exact hP
  have hD : va_D (aB base) (cvW cI ob q K8 ++ R) := D_iff.mpr (by have h := D_iff.mp hD; exact h)
  refine lv_aload_n hx hb dX0_init_122 rfl (lv_at hl 2 rfl) ?_
  refine va_get (D := (dC, dI)) (ci := 1) (v := .ref (q 3)) (C := RX0) (T := TX0) (N := 16) hx hb hts hwX0 hown hK hP 0 rfl rfl 3 (by decide) hf_21 (fun _ h9 => h9) rfl dX0_init_123 ?_
  refine lv_iload_n hx hb dX0_init_126 rfl (lv_at hl 0 rfl) ?_
  refine lv_iconst (v := 1) hx hb dX0_init_127 (by decide) ?_
  refine va_iast hx hb hK hP hD hS 4 0 rfl rfl (show ¬ ((1 : Int32) < 0 ∨ 5 ≤ (1 : Int32).toNatClampNeg) by decide) dX0_init_128 (fun H locs hP hD hS => ?_)
  obtain ⟨K9, eK9⟩ : ∃ z, z = fset K8 3 1 (1) := ⟨_, rfl⟩
  have hP : va_P (dC, dI) vwCl (cvW cI ob q K9 ++ R) H := by rw [eK9]; exact hP
  have hD : va_D (aB base) (cvW cI ob q K9 ++ R) := D_iff.mpr (by have h := D_iff.mp hD; exact h)
  refine lv_iconst (v := 0) hx hb dX0_init_129 (by decide) ?_
  refine lv_istore_n (lv' := [(2, .int 0), (1, .int 1), (0, .ref ob)]) hx hb dX0_init_130 rfl hl (by decide) rfl (fun ls hl => ?_)
  refine lv_iload_n hx hb dX0_init_131 rfl (lv_at hl 0 rfl) ?_
  refine lv_iconst (v := 5) hx hb dX0_init_132 (by decide) ?_
  refine lv_icmp_ge (tgt := 162) hx hb dX0_init_133 (by decide) (fun c1 => absurd c1 (by decide)) (fun _ => ?_)
  refine lv_aload_n hx hb dX0_init_136 rfl (lv_at hl 2 rfl) ?_
  refine va_get (D := (dC, dI)) (ci := 1) (v := .ref (q 9)) (C := RX0) (T := TX0) (N := 16) hx hb hts hwX0 hown hK hP 0 rfl rfl 9 (by decide) hf_39 (fun _ h9 => h9) rfl dX0_init_137 ?_
  refine lv_iload_n hx hb dX0_init_140 rfl (lv_at hl 1 rfl) ?_
  refine lv_iconst (v := 5) hx hb dX0_init_141 (by decide) ?_
  refine lv_imul hx hb dX0_init_142 ?_
  refine lv_iload_n hx hb dX0_init_143 rfl (lv_at hl 0 rfl) ?_
  refine lv_iadd hx hb dX0_init_144 ?_
  rw [show (1 : Int32) * 5 + 0 = 5 by decide]
  refine lv_iload_n hx hb dX0_init_145 rfl (lv_at hl 1 rfl) ?_
  refine lv_iload_n hx hb dX0_init_146 rfl (lv_at hl 0 rfl) ?_
  refine lv_icmp_ne (tgt := 154) hx hb dX0_init_147 (by decide) (fun _ => ?_) (fun c1 => absurd c1 (by decide))
  refine lv_iconst (v := 1) hx hb dX0_init_154 (by decide) ?_
  refine va_iast hx hb hK hP hD hS 10 0 rfl rfl (show ¬ ((5 : Int32) < 0 ∨ 25 ≤ (5 : Int32).toNatClampNeg) by decide) dX0_init_155 (fun H locs hP hD hS => ?_)
  obtain ⟨K10, eK10⟩ : ∃ z, z = fset K9 9 5 (1) := ⟨_, rfl⟩
  have hP : va_P (dC, dI) vwCl (cvW cI ob q K10 ++ R) H := by rw [eK10]; exact hP
  have hD : va_D (aB base) (cvW cI ob q K10 ++ R) := D_iff.mpr (by have h := D_iff.mp hD; exact h)
  refine lv_iinc (v := 1) (lv' := [(2, .int 1), (1, .int 1), (0, .ref ob)]) hx hb dX0_init_156 hl (k := 0) rfl rfl (by decide) rfl (fun ls hl => ?_)
  refine lv_goto (tgt := 131) hx hb dX0_init_159 (by decide) ?_
  refine lv_iload_n hx hb dX0_init_131 rfl (lv_at hl 0 rfl) ?_
  refine lv_iconst (v := 5) hx hb dX0_init_132 (by decide) ?_
  refine lv_icmp_ge (tgt := 162) hx hb dX0_init_133 (by decide) (fun c1 => absurd c1 (by decide)) (fun _ => ?_)
  refine lv_aload_n hx hb dX0_init_136 rfl (lv_at hl 2 rfl) ?_
  refine va_get (D := (dC, dI)) (ci := 1) (v := .ref (q 9)) (C := RX0) (T := TX0) (N := 16) hx hb hts hwX0 hown hK hP 0 rfl rfl 9 (by decide) hf_39 (fun _ h9 => h9) rfl dX0_init_137 ?_
  refine lv_iload_n hx hb dX0_init_140 rfl (lv_at hl 1 rfl) ?_
  refine lv_iconst (v := 5) hx hb dX0_init_141 (by decide) ?_
  refine lv_imul hx hb dX0_init_142 ?_
  refine lv_iload_n hx hb dX0_init_143 rfl (lv_at hl 0 rfl) ?_
  refine lv_iadd hx hb dX0_init_144 ?_
  rw [show (1 : Int32) * 5 + 1 = 6 by decide]
  refine lv_iload_n hx hb dX0_init_145 rfl (lv_at hl 1 rfl) ?_
  refine lv_iload_n hx hb dX0_init_146 rfl (lv_at hl 0 rfl) ?_
  refine lv_icmp_ne (tgt := 154) hx hb dX0_init_147 (by decide) (fun c1 => absurd rfl c1) (fun _ => ?_)
  refine lv_iconst (v := 0) hx hb dX0_init_150 (by decide) ?_
  refine lv_goto (tgt := 155) hx hb dX0_init_151 (by decide) ?_
  refine va_iast hx hb hK hP hD hS 10 0 rfl rfl (show ¬ ((6 : Int32) < 0 ∨ 25 ≤ (6 : Int32).toNatClampNeg) by decide) dX0_init_155 (fun H locs hP hD hS => ?_)
  obtain ⟨K11, eK11⟩ : ∃ z, z = fset K10 9 6 (0) := ⟨_, rfl⟩
  have hP : va_P (dC, dI) vwCl (cvW cI ob q K11 ++ R) H := by rw [eK11]; exact hP
  have hD : va_D (aB base) (cvW cI ob q K11 ++ R) := D_iff.mpr (by have h := D_iff.mp hD; exact h)
  refine lv_iinc (v := 2) (lv' := [(2, .int 2), (1, .int 1), (0, .ref ob)]) hx hb dX0_init_156 hl (k := 0) rfl rfl (by decide) rfl (fun ls hl => ?_)
  refine lv_goto (tgt := 131) hx hb dX0_init_159 (by decide) ?_
  refine lv_iload_n hx hb dX0_init_131 rfl (lv_at hl 0 rfl) ?_
  refine lv_iconst (v := 5) hx hb dX0_init_132 (by decide) ?_
  refine lv_icmp_ge (tgt := 162) hx hb dX0_init_133 (by decide) (fun c1 => absurd c1 (by decide)) (fun _ => ?_)
  refine lv_aload_n hx hb dX0_init_136 rfl (lv_at hl 2 rfl) ?_
  refine va_get (D := (dC, dI)) (ci := 1) (v := .ref (q 9)) (C := RX0) (T := TX0) (N := 16) hx hb hts hwX0 hown hK hP 0 rfl rfl 9 (by decide) hf_39 (fun _ h9 => h9) rfl dX0_init_137 ?_
  refine lv_iload_n hx hb dX0_init_140 rfl (lv_at hl 1 rfl) ?_
  refine lv_iconst (v := 5) hx hb dX0_init_141 (by decide) ?_
  refine lv_imul hx hb dX0_init_142 ?_
  refine lv_iload_n hx hb dX0_init_143 rfl (lv_at hl 0 rfl) ?_
  refine lv_iadd hx hb dX0_init_144 ?_
  rw [show (1 : Int32) * 5 + 2 = 7 by decide]
  refine lv_iload_n hx hb dX0_init_145 rfl (lv_at hl 1 rfl) ?_
  refine lv_iload_n hx hb dX0_init_146 rfl (lv_at hl 0 rfl) ?_
  refine lv_icmp_ne (tgt := 154) hx hb dX0_init_147 (by decide) (fun _ => ?_) (fun c1 => absurd c1 (by decide))
  refine lv_iconst (v := 1) hx hb dX0_init_154 (by decide) ?_
  refine va_iast hx hb hK hP hD hS 10 0 rfl rfl (show ¬ ((7 : Int32) < 0 ∨ 25 ≤ (7 : Int32).toNatClampNeg) by decide) dX0_init_155 (fun H locs hP hD hS => ?_)
  obtain ⟨K12, eK12⟩ : ∃ z, z = fset K11 9 7 (1) := ⟨_, rfl⟩
  have hP : va_P (dC, dI) vwCl (cvW cI ob q K12 ++ R) H := by rw [eK12]; exact hP
  have hD : va_D (aB base) (cvW cI ob q K12 ++ R) := D_iff.mpr (by have h := D_iff.mp hD; exact h)
  refine lv_iinc (v := 3) (lv' := [(2, .int 3), (1, .int 1), (0, .ref ob)]) hx hb dX0_init_156 hl (k := 0) rfl rfl (by decide) rfl (fun ls hl => ?_)
  refine lv_goto (tgt := 131) hx hb dX0_init_159 (by decide) ?_
  refine lv_iload_n hx hb dX0_init_131 rfl (lv_at hl 0 rfl) ?_
  refine lv_iconst (v := 5) hx hb dX0_init_132 (by decide) ?_
  refine lv_icmp_ge (tgt := 162) hx hb dX0_init_133 (by decide) (fun c1 => absurd c1 (by decide)) (fun _ => ?_)
  refine lv_aload_n hx hb dX0_init_136 rfl (lv_at hl 2 rfl) ?_
  refine va_get (D := (dC, dI)) (ci := 1) (v := .ref (q 9)) (C := RX0) (T := TX0) (N := 16) hx hb hts hwX0 hown hK hP 0 rfl rfl 9 (by decide) hf_39 (fun _ h9 => h9) rfl dX0_init_137 ?_
  refine lv_iload_n hx hb dX0_init_140 rfl (lv_at hl 1 rfl) ?_
  refine lv_iconst (v := 5) hx hb dX0_init_141 (by decide) ?_
  refine lv_imul hx hb dX0_init_142 ?_
  refine lv_iload_n hx hb dX0_init_143 rfl (lv_at hl 0 rfl) ?_
  refine lv_iadd hx hb dX0_init_144 ?_
  rw [show (1 : Int32) * 5 + 3 = 8 by decide]
  refine lv_iload_n hx hb dX0_init_145 rfl (lv_at hl 1 rfl) ?_
  refine lv_iload_n hx hb dX0_init_146 rfl (lv_at hl 0 rfl) ?_
  refine lv_icmp_ne (tgt := 154) hx hb dX0_init_147 (by decide) (fun _ => ?_) (fun c1 => absurd c1 (by decide))
  refine lv_iconst (v := 1) hx hb dX0_init_154 (by decide) ?_
  refine va_iast hx hb hK hP hD hS 10 0 rfl rfl (show ¬ ((8 : Int32) < 0 ∨ 25 ≤ (8 : Int32).toNatClampNeg) by decide) dX0_init_155 (fun H locs hP hD hS => ?_)
  obtain ⟨K13, eK13⟩ : ∃ z, z = fset K12 9 8 (1) := ⟨_, rfl⟩
  have hP : va_P (dC, dI) vwCl (cvW cI ob q K13 ++ R) H := by rw [eK13]; exact hP
  have hD : va_D (aB base) (cvW cI ob q K13 ++ R) := D_iff.mpr (by have h := D_iff.mp hD; exact h)
  refine lv_iinc (v := 4) (lv' := [(2, .int 4), (1, .int 1), (0, .ref ob)]) hx hb dX0_init_156 hl (k := 0) rfl rfl (by decide) rfl (fun ls hl => ?_)
  refine lv_goto (tgt := 131) hx hb dX0_init_159 (by decide) ?_
  refine lv_iload_n hx hb dX0_init_131 rfl (lv_at hl 0 rfl) ?_
  refine lv_iconst (v := 5) hx hb dX0_init_132 (by decide) ?_
  refine lv_icmp_ge (tgt := 162) hx hb dX0_init_133 (by decide) (fun c1 => absurd c1 (by decide)) (fun _ => ?_)
  refine lv_aload_n hx hb dX0_init_136 rfl (lv_at hl 2 rfl) ?_
  refine va_get (D := (dC, dI)) (ci := 1) (v := .ref (q 9)) (C := RX0) (T := TX0) (N := 16) hx hb hts hwX0 hown hK hP 0 rfl rfl 9 (by decide) hf_39 (fun _ h9 => h9) rfl dX0_init_137 ?_
  refine lv_iload_n hx hb dX0_init_140 rfl (lv_at hl 1 rfl) ?_
  refine lv_iconst (v := 5) hx hb dX0_init_141 (by decide) ?_
  refine lv_imul hx hb dX0_init_142 ?_
  refine lv_iload_n hx hb dX0_init_143 rfl (lv_at hl 0 rfl) ?_
  refine lv_iadd hx hb dX0_init_144 ?_
  rw [show (1 : Int32) * 5 + 4 = 9 by decide]
  refine lv_iload_n hx hb dX0_init_145 rfl (lv_at hl 1 rfl) ?_
  refine lv_iload_n hx hb dX0_init_146 rfl (lv_at hl 0 rfl) ?_
  refine lv_icmp_ne (tgt := 154) hx hb dX0_init_147 (by decide) (fun _ => ?_) (fun c1 => absurd c1 (by decide))
  refine lv_iconst (v := 1) hx hb dX0_init_154 (by decide) ?_
  refine va_iast hx hb hK hP hD hS 10 0 rfl rfl (show ¬ ((9 : Int32) < 0 ∨ 25 ≤ (9 : Int32).toNatClampNeg) by decide) dX0_init_155 (fun H locs hP hD hS => ?_)
  obtain ⟨K14, eK14⟩ : ∃ z, z = fset K13 9 9 (1) := ⟨_, rfl⟩
  have hP : va_P (dC, dI) vwCl (cvW cI ob q K14 ++ R) H := by rw [eK14]; exact hP
  have hD : va_D (aB base) (cvW cI ob q K14 ++ R) := D_iff.mpr (by have h := D_iff.mp hD; exact h)
  refine lv_iinc (v := 5) (lv' := [(2, .int 5), (1, .int 1), (0, .ref ob)]) hx hb dX0_init_156 hl (k := 0) rfl rfl (by decide) rfl (fun ls hl => ?_)
  refine lv_goto (tgt := 131) hx hb dX0_init_159 (by decide) ?_
  refine lv_iload_n hx hb dX0_init_131 rfl (lv_at hl 0 rfl) ?_
  refine lv_iconst (v := 5) hx hb dX0_init_132 (by decide) ?_
  refine lv_icmp_ge (tgt := 162) hx hb dX0_init_133 (by decide) (fun _ => ?_) (fun c1 => absurd (show (5 : Int32) ≤ 5 by decide) c1)
  refine lv_iinc (v := 2) (lv' := [(1, .int 2), (2, .int 5), (0, .ref ob)]) hx hb dX0_init_162 hl (k := 1) rfl rfl (by decide) rfl (fun ls hl => ?_)
  refine lv_goto (tgt := 109) hx hb dX0_init_165 (by decide) ?_
  refine lv_iload_n hx hb dX0_init_109 rfl (lv_at hl 0 rfl) ?_
  refine lv_iconst (v := 5) hx hb dX0_init_110 (by decide) ?_
  refine lv_icmp_ge (tgt := 168) hx hb dX0_init_111 (by decide) (fun c1 => absurd c1 (by decide)) (fun _ => ?_)
  refine lv_aload_n hx hb dX0_init_114 rfl (lv_at hl 2 rfl) ?_
  refine va_get (D := (dC, dI)) (ci := 1) (v := .ref (q 1)) (C := RX0) (T := TX0) (N := 16) hx hb hts hwX0 hown hK hP 0 rfl rfl 1 (by decide) hf_15 (fun _ h9 => h9) rfl dX0_init_115 ?_
  refine lv_iload_n hx hb dX0_init_118 rfl (lv_at hl 0 rfl) ?_
  refine lv_bipush (v := (-4)) hx hb dX0_init_119 (by decide) ?_
  refine va_iast hx hb hK hP hD hS 2 0 rfl rfl (show ¬ ((2 : Int32) < 0 ∨ 5 ≤ (2 : Int32).toNatClampNeg) by decide) dX0_init_121 (fun H locs hP hD hS => ?_)
  obtain ⟨K15, eK15⟩ : ∃ z, z = fset K14 1 2 (-4) := ⟨_, rfl⟩
  have hP : va_P (dC, dI) vwCl (cvW cI ob q K15 ++ R) H := by rw [eK15]; exact hP
  have hD : va_D (aB base) (cvW cI ob q K15 ++ R) := D_iff.mpr (by have h := D_iff.mp hD; exact h)
  refine lv_aload_n hx hb dX0_init_122 rfl (lv_at hl 2 rfl) ?_
  refine va_get (D := (dC, dI)) (ci := 1) (v := .ref (q 3)) (C := RX0) (T := TX0) (N := 16) hx hb hts hwX0 hown hK hP 0 rfl rfl 3 (by decide) hf_21 (fun _ h9 => h9) rfl dX0_init_123 ?_
  refine lv_iload_n hx hb dX0_init_126 rfl (lv_at hl 0 rfl) ?_
  refine lv_iconst (v := 1) hx hb dX0_init_127 (by decide) ?_
  refine va_iast hx hb hK hP hD hS 4 0 rfl rfl (show ¬ ((2 : Int32) < 0 ∨ 5 ≤ (2 : Int32).toNatClampNeg) by decide) dX0_init_128 (fun H locs hP hD hS => ?_)
  obtain ⟨K16, eK16⟩ : ∃ z, z = fset K15 3 2 (1) := ⟨_, rfl⟩
  have hP : va_P (dC, dI) vwCl (cvW cI ob q K16 ++ R) H := by rw [eK16]; exact hP
  have hD : va_D (aB base) (cvW cI ob q K16 ++ R) := D_iff.mpr (by have h := D_iff.mp hD; exact h)
  refine lv_iconst (v := 0) hx hb dX0_init_129 (by decide) ?_
  refine lv_istore_n (lv' := [(2, .int 0), (1, .int 2), (0, .ref ob)]) hx hb dX0_init_130 rfl hl (by decide) rfl (fun ls hl => ?_)
  refine lv_iload_n hx hb dX0_init_131 rfl (lv_at hl 0 rfl) ?_
  refine lv_iconst (v := 5) hx hb dX0_init_132 (by decide) ?_
  refine lv_icmp_ge (tgt := 162) hx hb dX0_init_133 (by decide) (fun c1 => absurd c1 (by decide)) (fun _ => ?_)
  refine lv_aload_n hx hb dX0_init_136 rfl (lv_at hl 2 rfl) ?_
  refine va_get (D := (dC, dI)) (ci := 1) (v := .ref (q 9)) (C := RX0) (T := TX0) (N := 16) hx hb hts hwX0 hown hK hP 0 rfl rfl 9 (by decide) hf_39 (fun _ h9 => h9) rfl dX0_init_137 ?_
  refine lv_iload_n hx hb dX0_init_140 rfl (lv_at hl 1 rfl) ?_
  refine lv_iconst (v := 5) hx hb dX0_init_141 (by decide) ?_
  refine lv_imul hx hb dX0_init_142 ?_
  refine lv_iload_n hx hb dX0_init_143 rfl (lv_at hl 0 rfl) ?_
  refine lv_iadd hx hb dX0_init_144 ?_
  rw [show (2 : Int32) * 5 + 0 = 10 by decide]
  refine lv_iload_n hx hb dX0_init_145 rfl (lv_at hl 1 rfl) ?_
  refine lv_iload_n hx hb dX0_init_146 rfl (lv_at hl 0 rfl) ?_
  refine lv_icmp_ne (tgt := 154) hx hb dX0_init_147 (by decide) (fun _ => ?_) (fun c1 => absurd c1 (by decide))
  refine lv_iconst (v := 1) hx hb dX0_init_154 (by decide) ?_
  refine va_iast hx hb hK hP hD hS 10 0 rfl rfl (show ¬ ((10 : Int32) < 0 ∨ 25 ≤ (10 : Int32).toNatClampNeg) by decide) dX0_init_155 (fun H locs hP hD hS => ?_)
  obtain ⟨K17, eK17⟩ : ∃ z, z = fset K16 9 10 (1) := ⟨_, rfl⟩
  have hP : va_P (dC, dI) vwCl (cvW cI ob q K17 ++ R) H := by rw [eK17]; exact hP
  have hD : va_D (aB base) (cvW cI ob q K17 ++ R) := D_iff.mpr (by have h := D_iff.mp hD; exact h)
  refine lv_iinc (v := 1) (lv' := [(2, .int 1), (1, .int 2), (0, .ref ob)]) hx hb dX0_init_156 hl (k := 0) rfl rfl (by decide) rfl (fun ls hl => ?_)
  refine lv_goto (tgt := 131) hx hb dX0_init_159 (by decide) ?_
  refine lv_iload_n hx hb dX0_init_131 rfl (lv_at hl 0 rfl) ?_
  refine lv_iconst (v := 5) hx hb dX0_init_132 (by decide) ?_
  refine lv_icmp_ge (tgt := 162) hx hb dX0_init_133 (by decide) (fun c1 => absurd c1 (by decide)) (fun _ => ?_)
  refine lv_aload_n hx hb dX0_init_136 rfl (lv_at hl 2 rfl) ?_
  refine va_get (D := (dC, dI)) (ci := 1) (v := .ref (q 9)) (C := RX0) (T := TX0) (N := 16) hx hb hts hwX0 hown hK hP 0 rfl rfl 9 (by decide) hf_39 (fun _ h9 => h9) rfl dX0_init_137 ?_
  refine lv_iload_n hx hb dX0_init_140 rfl (lv_at hl 1 rfl) ?_
  refine lv_iconst (v := 5) hx hb dX0_init_141 (by decide) ?_
  refine lv_imul hx hb dX0_init_142 ?_
  refine lv_iload_n hx hb dX0_init_143 rfl (lv_at hl 0 rfl) ?_
  refine lv_iadd hx hb dX0_init_144 ?_
  rw [show (2 : Int32) * 5 + 1 = 11 by decide]
  refine lv_iload_n hx hb dX0_init_145 rfl (lv_at hl 1 rfl) ?_
  refine lv_iload_n hx hb dX0_init_146 rfl (lv_at hl 0 rfl) ?_
  refine lv_icmp_ne (tgt := 154) hx hb dX0_init_147 (by decide) (fun _ => ?_) (fun c1 => absurd c1 (by decide))
  refine lv_iconst (v := 1) hx hb dX0_init_154 (by decide) ?_
  refine va_iast hx hb hK hP hD hS 10 0 rfl rfl (show ¬ ((11 : Int32) < 0 ∨ 25 ≤ (11 : Int32).toNatClampNeg) by decide) dX0_init_155 (fun H locs hP hD hS => ?_)
  obtain ⟨K18, eK18⟩ : ∃ z, z = fset K17 9 11 (1) := ⟨_, rfl⟩
  have hP : va_P (dC, dI) vwCl (cvW cI ob q K18 ++ R) H := by rw [eK18]; exact hP
  have hD : va_D (aB base) (cvW cI ob q K18 ++ R) := D_iff.mpr (by have h := D_iff.mp hD; exact h)
  refine lv_iinc (v := 2) (lv' := [(2, .int 2), (1, .int 2), (0, .ref ob)]) hx hb dX0_init_156 hl (k := 0) rfl rfl (by decide) rfl (fun ls hl => ?_)
  refine lv_goto (tgt := 131) hx hb dX0_init_159 (by decide) ?_
  refine lv_iload_n hx hb dX0_init_131 rfl (lv_at hl 0 rfl) ?_
  refine lv_iconst (v := 5) hx hb dX0_init_132 (by decide) ?_
  refine lv_icmp_ge (tgt := 162) hx hb dX0_init_133 (by decide) (fun c1 => absurd c1 (by decide)) (fun _ => ?_)
  refine lv_aload_n hx hb dX0_init_136 rfl (lv_at hl 2 rfl) ?_
  refine va_get (D := (dC, dI)) (ci := 1) (v := .ref (q 9)) (C := RX0) (T := TX0) (N := 16) hx hb hts hwX0 hown hK hP 0 rfl rfl 9 (by decide) hf_39 (fun _ h9 => h9) rfl dX0_init_137 ?_
  refine lv_iload_n hx hb dX0_init_140 rfl (lv_at hl 1 rfl) ?_
  refine lv_iconst (v := 5) hx hb dX0_init_141 (by decide) ?_
  refine lv_imul hx hb dX0_init_142 ?_
  refine lv_iload_n hx hb dX0_init_143 rfl (lv_at hl 0 rfl) ?_
  refine lv_iadd hx hb dX0_init_144 ?_
  rw [show (2 : Int32) * 5 + 2 = 12 by decide]
  refine lv_iload_n hx hb dX0_init_145 rfl (lv_at hl 1 rfl) ?_
  refine lv_iload_n hx hb dX0_init_146 rfl (lv_at hl 0 rfl) ?_
  refine lv_icmp_ne (tgt := 154) hx hb dX0_init_147 (by decide) (fun c1 => absurd rfl c1) (fun _ => ?_)
  refine lv_iconst (v := 0) hx hb dX0_init_150 (by decide) ?_
  refine lv_goto (tgt := 155) hx hb dX0_init_151 (by decide) ?_
  refine va_iast hx hb hK hP hD hS 10 0 rfl rfl (show ¬ ((12 : Int32) < 0 ∨ 25 ≤ (12 : Int32).toNatClampNeg) by decide) dX0_init_155 (fun H locs hP hD hS => ?_)
  obtain ⟨K19, eK19⟩ : ∃ z, z = fset K18 9 12 (0) := ⟨_, rfl⟩
  have hP : va_P (dC, dI) vwCl (cvW cI ob q K19 ++ R) H := by rw [eK19]; exact hP
  have hD : va_D (aB base) (cvW cI ob q K19 ++ R) := D_iff.mpr (by have h := D_iff.mp hD; exact h)
  refine lv_iinc (v := 3) (lv' := [(2, .int 3), (1, .int 2), (0, .ref ob)]) hx hb dX0_init_156 hl (k := 0) rfl rfl (by decide) rfl (fun ls hl => ?_)
  refine lv_goto (tgt := 131) hx hb dX0_init_159 (by decide) ?_
  refine lv_iload_n hx hb dX0_init_131 rfl (lv_at hl 0 rfl) ?_
  refine lv_iconst (v := 5) hx hb dX0_init_132 (by decide) ?_
  refine lv_icmp_ge (tgt := 162) hx hb dX0_init_133 (by decide) (fun c1 => absurd c1 (by decide)) (fun _ => ?_)
  refine lv_aload_n hx hb dX0_init_136 rfl (lv_at hl 2 rfl) ?_
  refine va_get (D := (dC, dI)) (ci := 1) (v := .ref (q 9)) (C := RX0) (T := TX0) (N := 16) hx hb hts hwX0 hown hK hP 0 rfl rfl 9 (by decide) hf_39 (fun _ h9 => h9) rfl dX0_init_137 ?_
  refine lv_iload_n hx hb dX0_init_140 rfl (lv_at hl 1 rfl) ?_
  refine lv_iconst (v := 5) hx hb dX0_init_141 (by decide) ?_
  refine lv_imul hx hb dX0_init_142 ?_
  refine lv_iload_n hx hb dX0_init_143 rfl (lv_at hl 0 rfl) ?_
  refine lv_iadd hx hb dX0_init_144 ?_
  rw [show (2 : Int32) * 5 + 3 = 13 by decide]
  refine lv_iload_n hx hb dX0_init_145 rfl (lv_at hl 1 rfl) ?_
  refine lv_iload_n hx hb dX0_init_146 rfl (lv_at hl 0 rfl) ?_
  refine lv_icmp_ne (tgt := 154) hx hb dX0_init_147 (by decide) (fun _ => ?_) (fun c1 => absurd c1 (by decide))
  refine lv_iconst (v := 1) hx hb dX0_init_154 (by decide) ?_
  refine va_iast hx hb hK hP hD hS 10 0 rfl rfl (show ¬ ((13 : Int32) < 0 ∨ 25 ≤ (13 : Int32).toNatClampNeg) by decide) dX0_init_155 (fun H locs hP hD hS => ?_)
  obtain ⟨K20, eK20⟩ : ∃ z, z = fset K19 9 13 (1) := ⟨_, rfl⟩
  have hP : va_P (dC, dI) vwCl (cvW cI ob q K20 ++ R) H := by rw [eK20]; exact hP
  have hD : va_D (aB base) (cvW cI ob q K20 ++ R) := D_iff.mpr (by have h := D_iff.mp hD; exact h)
  refine lv_iinc (v := 4) (lv' := [(2, .int 4), (1, .int 2), (0, .ref ob)]) hx hb dX0_init_156 hl (k := 0) rfl rfl (by decide) rfl (fun ls hl => ?_)
  refine lv_goto (tgt := 131) hx hb dX0_init_159 (by decide) ?_
  refine lv_iload_n hx hb dX0_init_131 rfl (lv_at hl 0 rfl) ?_
  refine lv_iconst (v := 5) hx hb dX0_init_132 (by decide) ?_
  refine lv_icmp_ge (tgt := 162) hx hb dX0_init_133 (by decide) (fun c1 => absurd c1 (by decide)) (fun _ => ?_)
  refine lv_aload_n hx hb dX0_init_136 rfl (lv_at hl 2 rfl) ?_
  refine va_get (D := (dC, dI)) (ci := 1) (v := .ref (q 9)) (C := RX0) (T := TX0) (N := 16) hx hb hts hwX0 hown hK hP 0 rfl rfl 9 (by decide) hf_39 (fun _ h9 => h9) rfl dX0_init_137 ?_
  refine lv_iload_n hx hb dX0_init_140 rfl (lv_at hl 1 rfl) ?_
  refine lv_iconst (v := 5) hx hb dX0_init_141 (by decide) ?_
  refine lv_imul hx hb dX0_init_142 ?_
  refine lv_iload_n hx hb dX0_init_143 rfl (lv_at hl 0 rfl) ?_
  refine lv_iadd hx hb dX0_init_144 ?_
  rw [show (2 : Int32) * 5 + 4 = 14 by decide]
  refine lv_iload_n hx hb dX0_init_145 rfl (lv_at hl 1 rfl) ?_
  refine lv_iload_n hx hb dX0_init_146 rfl (lv_at hl 0 rfl) ?_
  refine lv_icmp_ne (tgt := 154) hx hb dX0_init_147 (by decide) (fun _ => ?_) (fun c1 => absurd c1 (by decide))
  refine lv_iconst (v := 1) hx hb dX0_init_154 (by decide) ?_
  refine va_iast hx hb hK hP hD hS 10 0 rfl rfl (show ¬ ((14 : Int32) < 0 ∨ 25 ≤ (14 : Int32).toNatClampNeg) by decide) dX0_init_155 (fun H locs hP hD hS => ?_)
  obtain ⟨K21, eK21⟩ : ∃ z, z = fset K20 9 14 (1) := ⟨_, rfl⟩
  have hP : va_P (dC, dI) vwCl (cvW cI ob q K21 ++ R) H := by rw [eK21]; exact hP
  have hD : va_D (aB base) (cvW cI ob q K21 ++ R) := D_iff.mpr (by have h := D_iff.mp hD; exact h)
  refine lv_iinc (v := 5) (lv' := [(2, .int 5), (1, .int 2), (0, .ref ob)]) hx hb dX0_init_156 hl (k := 0) rfl rfl (by decide) rfl (fun ls hl => ?_)
  refine lv_goto (tgt := 131) hx hb dX0_init_159 (by decide) ?_
  refine lv_iload_n hx hb dX0_init_131 rfl (lv_at hl 0 rfl) ?_
  refine lv_iconst (v := 5) hx hb dX0_init_132 (by decide) ?_
  refine lv_icmp_ge (tgt := 162) hx hb dX0_init_133 (by decide) (fun _ => ?_) (fun c1 => absurd (show (5 : Int32) ≤ 5 by decide) c1)
  refine lv_iinc (v := 3) (lv' := [(1, .int 3), (2, .int 5), (0, .ref ob)]) hx hb dX0_init_162 hl (k := 1) rfl rfl (by decide) rfl (fun ls hl => ?_)
  refine lv_goto (tgt := 109) hx hb dX0_init_165 (by decide) ?_
  refine lv_iload_n hx hb dX0_init_109 rfl (lv_at hl 0 rfl) ?_
  refine lv_iconst (v := 5) hx hb dX0_init_110 (by decide) ?_
  refine lv_icmp_ge (tgt := 168) hx hb dX0_init_111 (by decide) (fun c1 => absurd c1 (by decide)) (fun _ => ?_)
  refine lv_aload_n hx hb dX0_init_114 rfl (lv_at hl 2 rfl) ?_
  refine va_get (D := (dC, dI)) (ci := 1) (v := .ref (q 1)) (C := RX0) (T := TX0) (N := 16) hx hb hts hwX0 hown hK hP 0 rfl rfl 1 (by decide) hf_15 (fun _ h9 => h9) rfl dX0_init_115 ?_
  refine lv_iload_n hx hb dX0_init_118 rfl (lv_at hl 0 rfl) ?_
  refine lv_bipush (v := (-4)) hx hb dX0_init_119 (by decide) ?_
  refine va_iast hx hb hK hP hD hS 2 0 rfl rfl (show ¬ ((3 : Int32) < 0 ∨ 5 ≤ (3 : Int32).toNatClampNeg) by decide) dX0_init_121 (fun H locs hP hD hS => ?_)
  obtain ⟨K22, eK22⟩ : ∃ z, z = fset K21 1 3 (-4) := ⟨_, rfl⟩
  have hP : va_P (dC, dI) vwCl (cvW cI ob q K22 ++ R) H := by rw [eK22]; exact hP
  have hD : va_D (aB base) (cvW cI ob q K22 ++ R) := D_iff.mpr (by have h := D_iff.mp hD; exact h)
  refine lv_aload_n hx hb dX0_init_122 rfl (lv_at hl 2 rfl) ?_
  refine va_get (D := (dC, dI)) (ci := 1) (v := .ref (q 3)) (C := RX0) (T := TX0) (N := 16) hx hb hts hwX0 hown hK hP 0 rfl rfl 3 (by decide) hf_21 (fun _ h9 => h9) rfl dX0_init_123 ?_
  refine lv_iload_n hx hb dX0_init_126 rfl (lv_at hl 0 rfl) ?_
  refine lv_iconst (v := 1) hx hb dX0_init_127 (by decide) ?_
  refine va_iast hx hb hK hP hD hS 4 0 rfl rfl (show ¬ ((3 : Int32) < 0 ∨ 5 ≤ (3 : Int32).toNatClampNeg) by decide) dX0_init_128 (fun H locs hP hD hS => ?_)
  obtain ⟨K23, eK23⟩ : ∃ z, z = fset K22 3 3 (1) := ⟨_, rfl⟩
  have hP : va_P (dC, dI) vwCl (cvW cI ob q K23 ++ R) H := by rw [eK23]; exact hP
  have hD : va_D (aB base) (cvW cI ob q K23 ++ R) := D_iff.mpr (by have h := D_iff.mp hD; exact h)
  refine lv_iconst (v := 0) hx hb dX0_init_129 (by decide) ?_
  refine lv_istore_n (lv' := [(2, .int 0), (1, .int 3), (0, .ref ob)]) hx hb dX0_init_130 rfl hl (by decide) rfl (fun ls hl => ?_)
  refine lv_iload_n hx hb dX0_init_131 rfl (lv_at hl 0 rfl) ?_
  refine lv_iconst (v := 5) hx hb dX0_init_132 (by decide) ?_
  refine lv_icmp_ge (tgt := 162) hx hb dX0_init_133 (by decide) (fun c1 => absurd c1 (by decide)) (fun _ => ?_)
  refine lv_aload_n hx hb dX0_init_136 rfl (lv_at hl 2 rfl) ?_
  refine va_get (D := (dC, dI)) (ci := 1) (v := .ref (q 9)) (C := RX0) (T := TX0) (N := 16) hx hb hts hwX0 hown hK hP 0 rfl rfl 9 (by decide) hf_39 (fun _ h9 => h9) rfl dX0_init_137 ?_
  refine lv_iload_n hx hb dX0_init_140 rfl (lv_at hl 1 rfl) ?_
  refine lv_iconst (v := 5) hx hb dX0_init_141 (by decide) ?_
  refine lv_imul hx hb dX0_init_142 ?_
  refine lv_iload_n hx hb dX0_init_143 rfl (lv_at hl 0 rfl) ?_
  refine lv_iadd hx hb dX0_init_144 ?_
  rw [show (3 : Int32) * 5 + 0 = 15 by decide]
  refine lv_iload_n hx hb dX0_init_145 rfl (lv_at hl 1 rfl) ?_
  refine lv_iload_n hx hb dX0_init_146 rfl (lv_at hl 0 rfl) ?_
  refine lv_icmp_ne (tgt := 154) hx hb dX0_init_147 (by decide) (fun _ => ?_) (fun c1 => absurd c1 (by decide))
  refine lv_iconst (v := 1) hx hb dX0_init_154 (by decide) ?_
  refine va_iast hx hb hK hP hD hS 10 0 rfl rfl (show ¬ ((15 : Int32) < 0 ∨ 25 ≤ (15 : Int32).toNatClampNeg) by decide) dX0_init_155 (fun H locs hP hD hS => ?_)
  obtain ⟨K24, eK24⟩ : ∃ z, z = fset K23 9 15 (1) := ⟨_, rfl⟩
  have hP : va_P (dC, dI) vwCl (cvW cI ob q K24 ++ R) H := by rw [eK24]; exact hP
  have hD : va_D (aB base) (cvW cI ob q K24 ++ R) := D_iff.mpr (by have h := D_iff.mp hD; exact h)
  refine lv_iinc (v := 1) (lv' := [(2, .int 1), (1, .int 3), (0, .ref ob)]) hx hb dX0_init_156 hl (k := 0) rfl rfl (by decide) rfl (fun ls hl => ?_)
  refine lv_goto (tgt := 131) hx hb dX0_init_159 (by decide) ?_
  refine lv_iload_n hx hb dX0_init_131 rfl (lv_at hl 0 rfl) ?_
  refine lv_iconst (v := 5) hx hb dX0_init_132 (by decide) ?_
  refine lv_icmp_ge (tgt := 162) hx hb dX0_init_133 (by decide) (fun c1 => absurd c1 (by decide)) (fun _ => ?_)
  refine lv_aload_n hx hb dX0_init_136 rfl (lv_at hl 2 rfl) ?_
  refine va_get (D := (dC, dI)) (ci := 1) (v := .ref (q 9)) (C := RX0) (T := TX0) (N := 16) hx hb hts hwX0 hown hK hP 0 rfl rfl 9 (by decide) hf_39 (fun _ h9 => h9) rfl dX0_init_137 ?_
  refine lv_iload_n hx hb dX0_init_140 rfl (lv_at hl 1 rfl) ?_
  refine lv_iconst (v := 5) hx hb dX0_init_141 (by decide) ?_
  refine lv_imul hx hb dX0_init_142 ?_
  refine lv_iload_n hx hb dX0_init_143 rfl (lv_at hl 0 rfl) ?_
  refine lv_iadd hx hb dX0_init_144 ?_
  rw [show (3 : Int32) * 5 + 1 = 16 by decide]
  refine lv_iload_n hx hb dX0_init_145 rfl (lv_at hl 1 rfl) ?_
  refine lv_iload_n hx hb dX0_init_146 rfl (lv_at hl 0 rfl) ?_
  refine lv_icmp_ne (tgt := 154) hx hb dX0_init_147 (by decide) (fun _ => ?_) (fun c1 => absurd c1 (by decide))
  refine lv_iconst (v := 1) hx hb dX0_init_154 (by decide) ?_
  refine va_iast hx hb hK hP hD hS 10 0 rfl rfl (show ¬ ((16 : Int32) < 0 ∨ 25 ≤ (16 : Int32).toNatClampNeg) by decide) dX0_init_155 (fun H locs hP hD hS => ?_)
  obtain ⟨K25, eK25⟩ : ∃ z, z = fset K24 9 16 (1) := ⟨_, rfl⟩
  have hP : va_P (dC, dI) vwCl (cvW cI ob q K25 ++ R) H := by rw [eK25]; exact hP
  have hD : va_D (aB base) (cvW cI ob q K25 ++ R) := D_iff.mpr (by have h := D_iff.mp hD; exact h)
  refine lv_iinc (v := 2) (lv' := [(2, .int 2), (1, .int 3), (0, .ref ob)]) hx hb dX0_init_156 hl (k := 0) rfl rfl (by decide) rfl (fun ls hl => ?_)
  refine lv_goto (tgt := 131) hx hb dX0_init_159 (by decide) ?_
  refine lv_iload_n hx hb dX0_init_131 rfl (lv_at hl 0 rfl) ?_
  refine lv_iconst (v := 5) hx hb dX0_init_132 (by decide) ?_
  refine lv_icmp_ge (tgt := 162) hx hb dX0_init_133 (by decide) (fun c1 => absurd c1 (by decide)) (fun _ => ?_)
  refine lv_aload_n hx hb dX0_init_136 rfl (lv_at hl 2 rfl) ?_
  refine va_get (D := (dC, dI)) (ci := 1) (v := .ref (q 9)) (C := RX0) (T := TX0) (N := 16) hx hb hts hwX0 hown hK hP 0 rfl rfl 9 (by decide) hf_39 (fun _ h9 => h9) rfl dX0_init_137 ?_
  refine lv_iload_n hx hb dX0_init_140 rfl (lv_at hl 1 rfl) ?_
  refine lv_iconst (v := 5) hx hb dX0_init_141 (by decide) ?_
  refine lv_imul hx hb dX0_init_142 ?_
  refine lv_iload_n hx hb dX0_init_143 rfl (lv_at hl 0 rfl) ?_
  refine lv_iadd hx hb dX0_init_144 ?_
  rw [show (3 : Int32) * 5 + 2 = 17 by decide]
  refine lv_iload_n hx hb dX0_init_145 rfl (lv_at hl 1 rfl) ?_
  refine lv_iload_n hx hb dX0_init_146 rfl (lv_at hl 0 rfl) ?_
  refine lv_icmp_ne (tgt := 154) hx hb dX0_init_147 (by decide) (fun _ => ?_) (fun c1 => absurd c1 (by decide))
  refine lv_iconst (v := 1) hx hb dX0_init_154 (by decide) ?_
  refine va_iast hx hb hK hP hD hS 10 0 rfl rfl (show ¬ ((17 : Int32) < 0 ∨ 25 ≤ (17 : Int32).toNatClampNeg) by decide) dX0_init_155 (fun H locs hP hD hS => ?_)
  obtain ⟨K26, eK26⟩ : ∃ z, z = fset K25 9 17 (1) := ⟨_, rfl⟩
  have hP : va_P (dC, dI) vwCl (cvW cI ob q K26 ++ R) H := by rw [eK26]; exact hP
  have hD : va_D (aB base) (cvW cI ob q K26 ++ R) := D_iff.mpr (by have h := D_iff.mp hD; exact h)
  refine lv_iinc (v := 3) (lv' := [(2, .int 3), (1, .int 3), (0, .ref ob)]) hx hb dX0_init_156 hl (k := 0) rfl rfl (by decide) rfl (fun ls hl => ?_)
  refine lv_goto (tgt := 131) hx hb dX0_init_159 (by decide) ?_
  refine lv_iload_n hx hb dX0_init_131 rfl (lv_at hl 0 rfl) ?_
  refine lv_iconst (v := 5) hx hb dX0_init_132 (by decide) ?_
  refine lv_icmp_ge (tgt := 162) hx hb dX0_init_133 (by decide) (fun c1 => absurd c1 (by decide)) (fun _ => ?_)
  refine lv_aload_n hx hb dX0_init_136 rfl (lv_at hl 2 rfl) ?_
  refine va_get (D := (dC, dI)) (ci := 1) (v := .ref (q 9)) (C := RX0) (T := TX0) (N := 16) hx hb hts hwX0 hown hK hP 0 rfl rfl 9 (by decide) hf_39 (fun _ h9 => h9) rfl dX0_init_137 ?_
  refine lv_iload_n hx hb dX0_init_140 rfl (lv_at hl 1 rfl) ?_
  refine lv_iconst (v := 5) hx hb dX0_init_141 (by decide) ?_
  refine lv_imul hx hb dX0_init_142 ?_
  refine lv_iload_n hx hb dX0_init_143 rfl (lv_at hl 0 rfl) ?_
  refine lv_iadd hx hb dX0_init_144 ?_
  rw [show (3 : Int32) * 5 + 3 = 18 by decide]
  refine lv_iload_n hx hb dX0_init_145 rfl (lv_at hl 1 rfl) ?_
  refine lv_iload_n hx hb dX0_init_146 rfl (lv_at hl 0 rfl) ?_
  refine lv_icmp_ne (tgt := 154) hx hb dX0_init_147 (by decide) (fun c1 => absurd rfl c1) (fun _ => ?_)
  refine lv_iconst (v := 0) hx hb dX0_init_150 (by decide) ?_
  refine lv_goto (tgt := 155) hx hb dX0_init_151 (by decide) ?_
  refine va_iast hx hb hK hP hD hS 10 0 rfl rfl (show ¬ ((18 : Int32) < 0 ∨ 25 ≤ (18 : Int32).toNatClampNeg) by decide) dX0_init_155 (fun H locs hP hD hS => ?_)
  obtain ⟨K27, eK27⟩ : ∃ z, z = fset K26 9 18 (0) := ⟨_, rfl⟩
  have hP : va_P (dC, dI) vwCl (cvW cI ob q K27 ++ R) H := by rw [eK27]; exact hP
  have hD : va_D (aB base) (cvW cI ob q K27 ++ R) := D_iff.mpr (by have h := D_iff.mp hD; exact h)
  refine lv_iinc (v := 4) (lv' := [(2, .int 4), (1, .int 3), (0, .ref ob)]) hx hb dX0_init_156 hl (k := 0) rfl rfl (by decide) rfl (fun ls hl => ?_)
  refine lv_goto (tgt := 131) hx hb dX0_init_159 (by decide) ?_
  refine lv_iload_n hx hb dX0_init_131 rfl (lv_at hl 0 rfl) ?_
  refine lv_iconst (v := 5) hx hb dX0_init_132 (by decide) ?_
  refine lv_icmp_ge (tgt := 162) hx hb dX0_init_133 (by decide) (fun c1 => absurd c1 (by decide)) (fun _ => ?_)
  refine lv_aload_n hx hb dX0_init_136 rfl (lv_at hl 2 rfl) ?_
  refine va_get (D := (dC, dI)) (ci := 1) (v := .ref (q 9)) (C := RX0) (T := TX0) (N := 16) hx hb hts hwX0 hown hK hP 0 rfl rfl 9 (by decide) hf_39 (fun _ h9 => h9) rfl dX0_init_137 ?_
  refine lv_iload_n hx hb dX0_init_140 rfl (lv_at hl 1 rfl) ?_
  refine lv_iconst (v := 5) hx hb dX0_init_141 (by decide) ?_
  refine lv_imul hx hb dX0_init_142 ?_
  refine lv_iload_n hx hb dX0_init_143 rfl (lv_at hl 0 rfl) ?_
  refine lv_iadd hx hb dX0_init_144 ?_
  rw [show (3 : Int32) * 5 + 4 = 19 by decide]
  refine lv_iload_n hx hb dX0_init_145 rfl (lv_at hl 1 rfl) ?_
  refine lv_iload_n hx hb dX0_init_146 rfl (lv_at hl 0 rfl) ?_
  refine lv_icmp_ne (tgt := 154) hx hb dX0_init_147 (by decide) (fun _ => ?_) (fun c1 => absurd c1 (by decide))
  refine lv_iconst (v := 1) hx hb dX0_init_154 (by decide) ?_
  refine va_iast hx hb hK hP hD hS 10 0 rfl rfl (show ¬ ((19 : Int32) < 0 ∨ 25 ≤ (19 : Int32).toNatClampNeg) by decide) dX0_init_155 (fun H locs hP hD hS => ?_)
  obtain ⟨K28, eK28⟩ : ∃ z, z = fset K27 9 19 (1) := ⟨_, rfl⟩
  have hP : va_P (dC, dI) vwCl (cvW cI ob q K28 ++ R) H := by rw [eK28]; exact hP
  have hD : va_D (aB base) (cvW cI ob q K28 ++ R) := D_iff.mpr (by have h := D_iff.mp hD; exact h)
  refine lv_iinc (v := 5) (lv' := [(2, .int 5), (1, .int 3), (0, .ref ob)]) hx hb dX0_init_156 hl (k := 0) rfl rfl (by decide) rfl (fun ls hl => ?_)
  refine lv_goto (tgt := 131) hx hb dX0_init_159 (by decide) ?_
  refine lv_iload_n hx hb dX0_init_131 rfl (lv_at hl 0 rfl) ?_
  refine lv_iconst (v := 5) hx hb dX0_init_132 (by decide) ?_
  refine lv_icmp_ge (tgt := 162) hx hb dX0_init_133 (by decide) (fun _ => ?_) (fun c1 => absurd (show (5 : Int32) ≤ 5 by decide) c1)
  refine lv_iinc (v := 4) (lv' := [(1, .int 4), (2, .int 5), (0, .ref ob)]) hx hb dX0_init_162 hl (k := 1) rfl rfl (by decide) rfl (fun ls hl => ?_)
  refine lv_goto (tgt := 109) hx hb dX0_init_165 (by decide) ?_
  refine lv_iload_n hx hb dX0_init_109 rfl (lv_at hl 0 rfl) ?_
  refine lv_iconst (v := 5) hx hb dX0_init_110 (by decide) ?_
  refine lv_icmp_ge (tgt := 168) hx hb dX0_init_111 (by decide) (fun c1 => absurd c1 (by decide)) (fun _ => ?_)
  refine lv_aload_n hx hb dX0_init_114 rfl (lv_at hl 2 rfl) ?_
  refine va_get (D := (dC, dI)) (ci := 1) (v := .ref (q 1)) (C := RX0) (T := TX0) (N := 16) hx hb hts hwX0 hown hK hP 0 rfl rfl 1 (by decide) hf_15 (fun _ h9 => h9) rfl dX0_init_115 ?_
  refine lv_iload_n hx hb dX0_init_118 rfl (lv_at hl 0 rfl) ?_
  refine lv_bipush (v := (-4)) hx hb dX0_init_119 (by decide) ?_
  refine va_iast hx hb hK hP hD hS 2 0 rfl rfl (show ¬ ((4 : Int32) < 0 ∨ 5 ≤ (4 : Int32).toNatClampNeg) by decide) dX0_init_121 (fun H locs hP hD hS => ?_)
  obtain ⟨K29, eK29⟩ : ∃ z, z = fset K28 1 4 (-4) := ⟨_, rfl⟩
  have hP : va_P (dC, dI) vwCl (cvW cI ob q K29 ++ R) H := by rw [eK29]; exact hP
  have hD : va_D (aB base) (cvW cI ob q K29 ++ R) := D_iff.mpr (by have h := D_iff.mp hD; exact h)
  refine lv_aload_n hx hb dX0_init_122 rfl (lv_at hl 2 rfl) ?_
  refine va_get (D := (dC, dI)) (ci := 1) (v := .ref (q 3)) (C := RX0) (T := TX0) (N := 16) hx hb hts hwX0 hown hK hP 0 rfl rfl 3 (by decide) hf_21 (fun _ h9 => h9) rfl dX0_init_123 ?_
  refine lv_iload_n hx hb dX0_init_126 rfl (lv_at hl 0 rfl) ?_
  refine lv_iconst (v := 1) hx hb dX0_init_127 (by decide) ?_
  refine va_iast hx hb hK hP hD hS 4 0 rfl rfl (show ¬ ((4 : Int32) < 0 ∨ 5 ≤ (4 : Int32).toNatClampNeg) by decide) dX0_init_128 (fun H locs hP hD hS => ?_)
  obtain ⟨K30, eK30⟩ : ∃ z, z = fset K29 3 4 (1) := ⟨_, rfl⟩
  have hP : va_P (dC, dI) vwCl (cvW cI ob q K30 ++ R) H := by rw [eK30]; exact hP
  have hD : va_D (aB base) (cvW cI ob q K30 ++ R) := D_iff.mpr (by have h := D_iff.mp hD; exact h)
  refine lv_iconst (v := 0) hx hb dX0_init_129 (by decide) ?_
  refine lv_istore_n (lv' := [(2, .int 0), (1, .int 4), (0, .ref ob)]) hx hb dX0_init_130 rfl hl (by decide) rfl (fun ls hl => ?_)
  refine lv_iload_n hx hb dX0_init_131 rfl (lv_at hl 0 rfl) ?_
  refine lv_iconst (v := 5) hx hb dX0_init_132 (by decide) ?_
  refine lv_icmp_ge (tgt := 162) hx hb dX0_init_133 (by decide) (fun c1 => absurd c1 (by decide)) (fun _ => ?_)
  refine lv_aload_n hx hb dX0_init_136 rfl (lv_at hl 2 rfl) ?_
  refine va_get (D := (dC, dI)) (ci := 1) (v := .ref (q 9)) (C := RX0) (T := TX0) (N := 16) hx hb hts hwX0 hown hK hP 0 rfl rfl 9 (by decide) hf_39 (fun _ h9 => h9) rfl dX0_init_137 ?_
  refine lv_iload_n hx hb dX0_init_140 rfl (lv_at hl 1 rfl) ?_
  refine lv_iconst (v := 5) hx hb dX0_init_141 (by decide) ?_
  refine lv_imul hx hb dX0_init_142 ?_
  refine lv_iload_n hx hb dX0_init_143 rfl (lv_at hl 0 rfl) ?_
  refine lv_iadd hx hb dX0_init_144 ?_
  rw [show (4 : Int32) * 5 + 0 = 20 by decide]
  refine lv_iload_n hx hb dX0_init_145 rfl (lv_at hl 1 rfl) ?_
  refine lv_iload_n hx hb dX0_init_146 rfl (lv_at hl 0 rfl) ?_
  refine lv_icmp_ne (tgt := 154) hx hb dX0_init_147 (by decide) (fun _ => ?_) (fun c1 => absurd c1 (by decide))
  refine lv_iconst (v := 1) hx hb dX0_init_154 (by decide) ?_
  refine va_iast hx hb hK hP hD hS 10 0 rfl rfl (show ¬ ((20 : Int32) < 0 ∨ 25 ≤ (20 : Int32).toNatClampNeg) by decide) dX0_init_155 (fun H locs hP hD hS => ?_)
  obtain ⟨K31, eK31⟩ : ∃ z, z = fset K30 9 20 (1) := ⟨_, rfl⟩
  have hP : va_P (dC, dI) vwCl (cvW cI ob q K31 ++ R) H := by rw [eK31]; exact hP
  have hD : va_D (aB base) (cvW cI ob q K31 ++ R) := D_iff.mpr (by have h := D_iff.mp hD; exact h)
  refine lv_iinc (v := 1) (lv' := [(2, .int 1), (1, .int 4), (0, .ref ob)]) hx hb dX0_init_156 hl (k := 0) rfl rfl (by decide) rfl (fun ls hl => ?_)
  refine lv_goto (tgt := 131) hx hb dX0_init_159 (by decide) ?_
  refine lv_iload_n hx hb dX0_init_131 rfl (lv_at hl 0 rfl) ?_
  refine lv_iconst (v := 5) hx hb dX0_init_132 (by decide) ?_
  refine lv_icmp_ge (tgt := 162) hx hb dX0_init_133 (by decide) (fun c1 => absurd c1 (by decide)) (fun _ => ?_)
  refine lv_aload_n hx hb dX0_init_136 rfl (lv_at hl 2 rfl) ?_
  refine va_get (D := (dC, dI)) (ci := 1) (v := .ref (q 9)) (C := RX0) (T := TX0) (N := 16) hx hb hts hwX0 hown hK hP 0 rfl rfl 9 (by decide) hf_39 (fun _ h9 => h9) rfl dX0_init_137 ?_
  refine lv_iload_n hx hb dX0_init_140 rfl (lv_at hl 1 rfl) ?_
  refine lv_iconst (v := 5) hx hb dX0_init_141 (by decide) ?_
  refine lv_imul hx hb dX0_init_142 ?_
  refine lv_iload_n hx hb dX0_init_143 rfl (lv_at hl 0 rfl) ?_
  refine lv_iadd hx hb dX0_init_144 ?_
  rw [show (4 : Int32) * 5 + 1 = 21 by decide]
  refine lv_iload_n hx hb dX0_init_145 rfl (lv_at hl 1 rfl) ?_
  refine lv_iload_n hx hb dX0_init_146 rfl (lv_at hl 0 rfl) ?_
  refine lv_icmp_ne (tgt := 154) hx hb dX0_init_147 (by decide) (fun _ => ?_) (fun c1 => absurd c1 (by decide))
  refine lv_iconst (v := 1) hx hb dX0_init_154 (by decide) ?_
  refine va_iast hx hb hK hP hD hS 10 0 rfl rfl (show ¬ ((21 : Int32) < 0 ∨ 25 ≤ (21 : Int32).toNatClampNeg) by decide) dX0_init_155 (fun H locs hP hD hS => ?_)
  obtain ⟨K32, eK32⟩ : ∃ z, z = fset K31 9 21 (1) := ⟨_, rfl⟩
  have hP : va_P (dC, dI) vwCl (cvW cI ob q K32 ++ R) H := by rw [eK32]; exact hP
  have hD : va_D (aB base) (cvW cI ob q K32 ++ R) := D_iff.mpr (by have h := D_iff.mp hD; exact h)
  refine lv_iinc (v := 2) (lv' := [(2, .int 2), (1, .int 4), (0, .ref ob)]) hx hb dX0_init_156 hl (k := 0) rfl rfl (by decide) rfl (fun ls hl => ?_)
  refine lv_goto (tgt := 131) hx hb dX0_init_159 (by decide) ?_
  refine lv_iload_n hx hb dX0_init_131 rfl (lv_at hl 0 rfl) ?_
  refine lv_iconst (v := 5) hx hb dX0_init_132 (by decide) ?_
  refine lv_icmp_ge (tgt := 162) hx hb dX0_init_133 (by decide) (fun c1 => absurd c1 (by decide)) (fun _ => ?_)
  refine lv_aload_n hx hb dX0_init_136 rfl (lv_at hl 2 rfl) ?_
  refine va_get (D := (dC, dI)) (ci := 1) (v := .ref (q 9)) (C := RX0) (T := TX0) (N := 16) hx hb hts hwX0 hown hK hP 0 rfl rfl 9 (by decide) hf_39 (fun _ h9 => h9) rfl dX0_init_137 ?_
  refine lv_iload_n hx hb dX0_init_140 rfl (lv_at hl 1 rfl) ?_
  refine lv_iconst (v := 5) hx hb dX0_init_141 (by decide) ?_
  refine lv_imul hx hb dX0_init_142 ?_
  refine lv_iload_n hx hb dX0_init_143 rfl (lv_at hl 0 rfl) ?_
  refine lv_iadd hx hb dX0_init_144 ?_
  rw [show (4 : Int32) * 5 + 2 = 22 by decide]
  refine lv_iload_n hx hb dX0_init_145 rfl (lv_at hl 1 rfl) ?_
  refine lv_iload_n hx hb dX0_init_146 rfl (lv_at hl 0 rfl) ?_
  refine lv_icmp_ne (tgt := 154) hx hb dX0_init_147 (by decide) (fun _ => ?_) (fun c1 => absurd c1 (by decide))
  refine lv_iconst (v := 1) hx hb dX0_init_154 (by decide) ?_
  refine va_iast hx hb hK hP hD hS 10 0 rfl rfl (show ¬ ((22 : Int32) < 0 ∨ 25 ≤ (22 : Int32).toNatClampNeg) by decide) dX0_init_155 (fun H locs hP hD hS => ?_)
  obtain ⟨K33, eK33⟩ : ∃ z, z = fset K32 9 22 (1) := ⟨_, rfl⟩
  have hP : va_P (dC, dI) vwCl (cvW cI ob q K33 ++ R) H := by rw [eK33]; exact hP
  have hD : va_D (aB base) (cvW cI ob q K33 ++ R) := D_iff.mpr (by have h := D_iff.mp hD; exact h)
  refine lv_iinc (v := 3) (lv' := [(2, .int 3), (1, .int 4), (0, .ref ob)]) hx hb dX0_init_156 hl (k := 0) rfl rfl (by decide) rfl (fun ls hl => ?_)
  refine lv_goto (tgt := 131) hx hb dX0_init_159 (by decide) ?_
  refine lv_iload_n hx hb dX0_init_131 rfl (lv_at hl 0 rfl) ?_
  refine lv_iconst (v := 5) hx hb dX0_init_132 (by decide) ?_
  refine lv_icmp_ge (tgt := 162) hx hb dX0_init_133 (by decide) (fun c1 => absurd c1 (by decide)) (fun _ => ?_)
  refine lv_aload_n hx hb dX0_init_136 rfl (lv_at hl 2 rfl) ?_
  refine va_get (D := (dC, dI)) (ci := 1) (v := .ref (q 9)) (C := RX0) (T := TX0) (N := 16) hx hb hts hwX0 hown hK hP 0 rfl rfl 9 (by decide) hf_39 (fun _ h9 => h9) rfl dX0_init_137 ?_
  refine lv_iload_n hx hb dX0_init_140 rfl (lv_at hl 1 rfl) ?_
  refine lv_iconst (v := 5) hx hb dX0_init_141 (by decide) ?_
  refine lv_imul hx hb dX0_init_142 ?_
  refine lv_iload_n hx hb dX0_init_143 rfl (lv_at hl 0 rfl) ?_
  refine lv_iadd hx hb dX0_init_144 ?_
  rw [show (4 : Int32) * 5 + 3 = 23 by decide]
  refine lv_iload_n hx hb dX0_init_145 rfl (lv_at hl 1 rfl) ?_
  refine lv_iload_n hx hb dX0_init_146 rfl (lv_at hl 0 rfl) ?_
  refine lv_icmp_ne (tgt := 154) hx hb dX0_init_147 (by decide) (fun _ => ?_) (fun c1 => absurd c1 (by decide))
  refine lv_iconst (v := 1) hx hb dX0_init_154 (by decide) ?_
  refine va_iast hx hb hK hP hD hS 10 0 rfl rfl (show ¬ ((23 : Int32) < 0 ∨ 25 ≤ (23 : Int32).toNatClampNeg) by decide) dX0_init_155 (fun H locs hP hD hS => ?_)
  obtain ⟨K34, eK34⟩ : ∃ z, z = fset K33 9 23 (1) := ⟨_, rfl⟩
  have hP : va_P (dC, dI) vwCl (cvW cI ob q K34 ++ R) H := by rw [eK34]; exact hP
  have hD : va_D (aB base) (cvW cI ob q K34 ++ R) := D_iff.mpr (by have h := D_iff.mp hD; exact h)
  refine lv_iinc (v := 4) (lv' := [(2, .int 4), (1, .int 4), (0, .ref ob)]) hx hb dX0_init_156 hl (k := 0) rfl rfl (by decide) rfl (fun ls hl => ?_)
  refine lv_goto (tgt := 131) hx hb dX0_init_159 (by decide) ?_
  refine lv_iload_n hx hb dX0_init_131 rfl (lv_at hl 0 rfl) ?_
  refine lv_iconst (v := 5) hx hb dX0_init_132 (by decide) ?_
  refine lv_icmp_ge (tgt := 162) hx hb dX0_init_133 (by decide) (fun c1 => absurd c1 (by decide)) (fun _ => ?_)
  refine lv_aload_n hx hb dX0_init_136 rfl (lv_at hl 2 rfl) ?_
  refine va_get (D := (dC, dI)) (ci := 1) (v := .ref (q 9)) (C := RX0) (T := TX0) (N := 16) hx hb hts hwX0 hown hK hP 0 rfl rfl 9 (by decide) hf_39 (fun _ h9 => h9) rfl dX0_init_137 ?_
  refine lv_iload_n hx hb dX0_init_140 rfl (lv_at hl 1 rfl) ?_
  refine lv_iconst (v := 5) hx hb dX0_init_141 (by decide) ?_
  refine lv_imul hx hb dX0_init_142 ?_
  refine lv_iload_n hx hb dX0_init_143 rfl (lv_at hl 0 rfl) ?_
  refine lv_iadd hx hb dX0_init_144 ?_
  rw [show (4 : Int32) * 5 + 4 = 24 by decide]
  refine lv_iload_n hx hb dX0_init_145 rfl (lv_at hl 1 rfl) ?_
  refine lv_iload_n hx hb dX0_init_146 rfl (lv_at hl 0 rfl) ?_
  refine lv_icmp_ne (tgt := 154) hx hb dX0_init_147 (by decide) (fun c1 => absurd rfl c1) (fun _ => ?_)
  refine lv_iconst (v := 0) hx hb dX0_init_150 (by decide) ?_
  refine lv_goto (tgt := 155) hx hb dX0_init_151 (by decide) ?_
  refine va_iast hx hb hK hP hD hS 10 0 rfl rfl (show ¬ ((24 : Int32) < 0 ∨ 25 ≤ (24 : Int32).toNatClampNeg) by decide) dX0_init_155 (fun H locs hP hD hS => ?_)
  obtain ⟨K35, eK35⟩ : ∃ z, z = fset K34 9 24 (0) := ⟨_, rfl⟩
  have hP : va_P (dC, dI) vwCl (cvW cI ob q K35 ++ R) H := by rw [eK35]; exact hP
  have hD : va_D (aB base) (cvW cI ob q K35 ++ R) := D_iff.mpr (by have h := D_iff.mp hD; exact h)
  refine lv_iinc (v := 5) (lv' := [(2, .int 5), (1, .int 4), (0, .ref ob)]) hx hb dX0_init_156 hl (k := 0) rfl rfl (by decide) rfl (fun ls hl => ?_)
  refine lv_goto (tgt := 131) hx hb dX0_init_159 (by decide) ?_
  refine lv_iload_n hx hb dX0_init_131 rfl (lv_at hl 0 rfl) ?_
  refine lv_iconst (v := 5) hx hb dX0_init_132 (by decide) ?_
  refine lv_icmp_ge (tgt := 162) hx hb dX0_init_133 (by decide) (fun _ => ?_) (fun c1 => absurd (show (5 : Int32) ≤ 5 by decide) c1)
  refine lv_iinc (v := 5) (lv' := [(1, .int 5), (2, .int 5), (0, .ref ob)]) hx hb dX0_init_162 hl (k := 1) rfl rfl (by decide) rfl (fun ls hl => ?_)
  refine lv_goto (tgt := 109) hx hb dX0_init_165 (by decide) ?_
  refine lv_iload_n hx hb dX0_init_109 rfl (lv_at hl 0 rfl) ?_
  refine lv_iconst (v := 5) hx hb dX0_init_110 (by decide) ?_
  refine lv_icmp_ge (tgt := 168) hx hb dX0_init_111 (by decide) (fun _ => ?_) (fun c1 => absurd (show (5 : Int32) ≤ 5 by decide) c1)
  have hco : ∀ j, j < 11 → ∀ i, i < cvLen j → K35 j i = pcK A0t j i := by
    subst eK35 eK34 eK33 eK32 eK31 eK30 eK29 eK28 eK27 eK26 eK25 eK24 eK23 eK22 eK21 eK20 eK19 eK18 eK17 eK16 eK15 eK14 eK13 eK12 eK11 eK10 eK9 eK8 eK7 eK6 eK5 eK4 eK3 eK2 eK1 eK0
    decide +kernel
  have hco2 : ∀ j i, i < cvLen j → K35 j i = pcK A0t j i := fun j i hi => by
    by_cases w : j < 11
    · exact hco j w i hi
    · have z : cvLen j = 0 := by
        unfold cvLen
        split <;> first | omega | exact if_neg (by omega)
      omega
  have hP2 := cvW_congr hco2 hP
  exact W_le (by omega) (by omega) (W.vret hx hb hr (fun t ht _ => retB rfl ⟨q, rfl⟩ hP2 (D_iff.mpr (by have h := D_iff.mp hD; exact h)) hS ht) hS.2.2 dX0_init_168)
def K3i : KT := fun f i => if f = 8 ∧ i = 8 then -4 else 0
