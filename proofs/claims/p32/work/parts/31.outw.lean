def mX2_save (N : Nat) (K : OT)  : Option (Int32 × OT) := inO (oset K 3 (K 0)) (fun O2 => inO (oset O2 12 (fset (O2 12) 0 0 1)) (fun O3 => some (O3 0 10 5, O3)))
def rmX2_save : Room := { frames := 2, cells := 0, slots := 0, locals := 81 }
set_option maxHeartbeats 4000000 in
set_option maxRecDepth 100000 in
theorem tX2_save {l : Launch} {dC : Nat → ClassId} {dI : Nat → Nat → Nat} {cI cB cP : ClassId} {ad : Nat → Nat → Nat} {Z : Nat → Nat} {base : Nat} {R : va_W} {N : Nat} {K : OT}  {rr : Int32} {KK : OT} (hf : mX2_save N K  = some (rr, KK)) (hCF : OF Z K) : Met l yX2_save wsX2_save rmX2_save (cBp (dC, dI) vwCl [(cI, .int), (cB, .byte), (cP, .object RX0)] base (outW cI cB cP ad Z K ++ R) [.ref (ad 0 0)]) (cBe (dC, dI) vwCl base (some (.int rr)) (fun ws => ∃ Z : Nat → Nat, ws = (outW cI cB cP ad Z KK ++ R) ∧ OF Z KK)) 0 0 (aB base) := by
  refine Met.ofW (cc := cX2_save) (maxL := 1) (ret := (some .int)) (by decide) rfl ?_
  intro p e s m args below meth c s₁ B hml hv
  obtain ⟨rfl, hP, hK, hD, hbs, hE⟩ := hv
  have hx := B.exec
  have hb := B.bytes
  have hr := B.returns
  have hts := atoms_spec (ws := wsX2_save) B.pre
  have hown : s.vm.findClass RX2 = some m.cls := findClass_of_methodNamed B.named
  have hlocks := B.notSynchronized
  have hf_10 := hts (.fieldLink RX2 10 "CaravanLogs" "now" "LCaravanLogs$Caravan;") (by decide +kernel)
  have hf_22 := hts (.fieldLink RX2 22 "CaravanLogs" "snapshot" "LCaravanLogs$Caravan;") (by decide +kernel)
  have hf_25 := hts (.fieldLink RX2 25 "CaravanLogs" "hasSnapshot" "Z") (by decide +kernel)
  have hf_233 := hts (.fieldLink RX2 233 "CaravanLogs$Caravan" "hours" "I") (by decide +kernel)
  have hwX0 : ∀ w ∈ u_ws RX0 TX0 16, w ∈ wsX2_save := by decide +kernel
  have hwX2 : ∀ w ∈ u_ws RX2 TX2 14, w ∈ wsX2_save := by decide +kernel
  have hKI : va_K (dC, dI) vwCl [(cI, .int)] s := K_tys (fun x hx => by simp only [List.mem_cons, List.not_mem_nil, or_false] at hx ⊢; simp [hx]) hK
  have hKB : va_K (dC, dI) vwCl [(cB, .byte)] s := K_tys (fun x hx => by simp only [List.mem_cons, List.not_mem_nil, or_false] at hx ⊢; simp [hx]) hK
  have hS : va_S (aB base) s.heap s.heap [] := va_S.rf
  have hl := lv_entry ([.ref (ad 0 0)]) (n := 1) (Nat.le_of_ble_eq_true rfl)
  rw [lg_entry_eq]
  generalize (lg_sl ([.ref (ad 0 0)]) ++ List.replicate (1 - (lg_sl ([.ref (ad 0 0)])).length) Slot.unset).toArray = ls at hl ⊢
  have hl : lv_has ls 1 [(0, .ref (ad 0 0))] := hl
  have h := hf
  unfold mX2_save at h
  refine lv_aload_n hx hb dX2_save_0 rfl (lv_at hl 0 rfl) ?_
  refine va_get (D := (dC, dI)) (ci := 3) (v := .ref (ad 4 0)) (C := RX2) (T := TX2) (N := 14) hx hb hts hwX2 hown hK hP 0 rfl rfl 3 (by decide) hf_22 (fun _ h9 => h9) rfl dX2_save_1 ?_
  refine lv_aload_n hx hb dX2_save_4 rfl (lv_at hl 0 rfl) ?_
  refine va_get (D := (dC, dI)) (ci := 3) (v := .ref (ad 1 0)) (C := RX2) (T := TX2) (N := 14) hx hb hts hwX2 hown hK hP 0 rfl rfl 0 (by decide) hf_10 (fun _ h9 => h9) rfl dX2_save_5 ?_
  obtain ⟨O2, eO2, h⟩ := inO_some h
  refine call_copy (rest := []) (j := 3) (i := 0) (Rr := R) (O := K) ⟨hx, hb, hml, hown, hts⟩ (by decide) (by decide) (by decide) (tX0_copyFrom (l := l) (dC := dC) (dI := dI) (cI := cI) (ob := ad (1 + 3) 0) (ob2 := ad (1 + 0) 0) (q := fun f => ad (1 + 3) (1 + f)) (q2 := fun f => ad (1 + 0) (1 + f)) (K := K 3) (J := K 0)) (cwV 1 hts gX2_save_X0_copyFrom rfl rfl rfl (by decide +kernel) ⟨Nat.le_of_ble_eq_true rfl, Nat.le_of_ble_eq_true rfl⟩) hKI hP hD hS rfl hl.1 rfl (Nat.le_of_ble_eq_true rfl) dX2_save_8 ⟨Nat.zero_le _, Nat.zero_le _⟩ (fun H locs hP hD hS => ?_)
  have hP : va_P (dC, dI) vwCl (outW cI cB cP ad Z O2 ++ R) H := by rw [eO2]; exact hP
  have hD : va_D (aB base) (outW cI cB cP ad Z O2 ++ R) := by rw [eO2]; exact hD
  have hCF : OF Z O2 := by rw [eO2]; exact OF_set hCF (by decide)
  refine lv_aload_n hx hb dX2_save_11 rfl (lv_at hl 0 rfl) ?_
  refine lv_iconst (v := 1) hx hb dX2_save_12 (by decide) ?_
  obtain ⟨O3, eO3, h⟩ := inO_some h
  refine va_put (D := (dC, dI)) (ci := 3) (v := .int 1) (ty := .boolean) (C := RX2) (T := TX2) (N := 14) hx hb hts hwX2 tyX2 tyX2_ok nmX2 hown hK hP hD hS 0 rfl rfl 4 (by decide) hf_25 (fun _ h9 => h9) rfl (by decide +kernel) rfl rfl (Nat.le_of_ble_eq_true rfl) dX2_save_13 (fun H locs hP hD hS => ?_)
  have hP : va_P (dC, dI) vwCl (outW cI cB cP ad Z O3 ++ R) H := by rw [eO3, out_scal]; exact hP
  have hD : va_D (aB base) (outW cI cB cP ad Z O3 ++ R) := by rw [eO3, out_scal]; exact hD
  have hCF : OF Z O3 := by rw [eO3]; exact OF_set hCF (by decide)
  refine lv_aload_n hx hb dX2_save_16 rfl (lv_at hl 0 rfl) ?_
  refine va_get (D := (dC, dI)) (ci := 3) (v := .ref (ad 1 0)) (C := RX2) (T := TX2) (N := 14) hx hb hts hwX2 hown hK hP 0 rfl rfl 0 (by decide) hf_10 (fun _ h9 => h9) rfl dX2_save_17 ?_
  refine va_get (D := (dC, dI)) (ci := 1) (v := .int (O3 0 10 5)) (C := RX0) (T := TX0) (N := 16) hx hb hts hwX0 hown hK hP 7 rfl rfl 15 (by decide) hf_233 (fun _ h9 => h9) rfl dX2_save_20 ?_
  exact (W.iret hx hb hr (fun t ht _ => retO h hCF hP hD hS ht) hS.2.2 dX2_save_23)
def mX2_restore (N : Nat) (K : OT)  : Option (Int32 × OT) := (if (K 12 0 0) = 0 then some ((-4), K) else inO (oset K 0 (K 3)) (fun O3 => inO (oset O3 12 (fset (O3 12) 0 2 0)) (fun O4 => some (O4 0 10 5, O4))))
def rmX2_restore : Room := { frames := 2, cells := 0, slots := 0, locals := 81 }
set_option maxHeartbeats 4000000 in
set_option maxRecDepth 100000 in
theorem tX2_restore {l : Launch} {dC : Nat → ClassId} {dI : Nat → Nat → Nat} {cI cB cP : ClassId} {ad : Nat → Nat → Nat} {Z : Nat → Nat} {base : Nat} {R : va_W} {N : Nat} {K : OT}  {rr : Int32} {KK : OT} (hf : mX2_restore N K  = some (rr, KK)) (hCF : OF Z K) : Met l yX2_restore wsX2_restore rmX2_restore (cBp (dC, dI) vwCl [(cI, .int), (cB, .byte), (cP, .object RX0)] base (outW cI cB cP ad Z K ++ R) [.ref (ad 0 0)]) (cBe (dC, dI) vwCl base (some (.int rr)) (fun ws => ∃ Z : Nat → Nat, ws = (outW cI cB cP ad Z KK ++ R) ∧ OF Z KK)) 0 0 (aB base) := by
  refine Met.ofW (cc := cX2_restore) (maxL := 1) (ret := (some .int)) (by decide) rfl ?_
  intro p e s m args below meth c s₁ B hml hv
  obtain ⟨rfl, hP, hK, hD, hbs, hE⟩ := hv
  have hx := B.exec
  have hb := B.bytes
  have hr := B.returns
  have hts := atoms_spec (ws := wsX2_restore) B.pre
  have hown : s.vm.findClass RX2 = some m.cls := findClass_of_methodNamed B.named
  have hlocks := B.notSynchronized
  have hf_10 := hts (.fieldLink RX2 10 "CaravanLogs" "now" "LCaravanLogs$Caravan;") (by decide +kernel)
  have hf_22 := hts (.fieldLink RX2 22 "CaravanLogs" "snapshot" "LCaravanLogs$Caravan;") (by decide +kernel)
  have hf_25 := hts (.fieldLink RX2 25 "CaravanLogs" "hasSnapshot" "Z") (by decide +kernel)
  have hf_37 := hts (.fieldLink RX2 37 "CaravanLogs" "undoable" "I") (by decide +kernel)
  have hf_233 := hts (.fieldLink RX2 233 "CaravanLogs$Caravan" "hours" "I") (by decide +kernel)
  have hwX0 : ∀ w ∈ u_ws RX0 TX0 16, w ∈ wsX2_restore := by decide +kernel
  have hwX2 : ∀ w ∈ u_ws RX2 TX2 14, w ∈ wsX2_restore := by decide +kernel
  have hKI : va_K (dC, dI) vwCl [(cI, .int)] s := K_tys (fun x hx => by simp only [List.mem_cons, List.not_mem_nil, or_false] at hx ⊢; simp [hx]) hK
  have hKB : va_K (dC, dI) vwCl [(cB, .byte)] s := K_tys (fun x hx => by simp only [List.mem_cons, List.not_mem_nil, or_false] at hx ⊢; simp [hx]) hK
  have hS : va_S (aB base) s.heap s.heap [] := va_S.rf
  have hl := lv_entry ([.ref (ad 0 0)]) (n := 1) (Nat.le_of_ble_eq_true rfl)
  rw [lg_entry_eq]
  generalize (lg_sl ([.ref (ad 0 0)]) ++ List.replicate (1 - (lg_sl ([.ref (ad 0 0)])).length) Slot.unset).toArray = ls at hl ⊢
  have hl : lv_has ls 1 [(0, .ref (ad 0 0))] := hl
  have h := hf
  unfold mX2_restore at h
  refine lv_aload_n hx hb dX2_restore_0 rfl (lv_at hl 0 rfl) ?_
  refine va_get (D := (dC, dI)) (ci := 3) (v := .int (K 12 0 0)) (C := RX2) (T := TX2) (N := 14) hx hb hts hwX2 hown hK hP 0 rfl rfl 4 (by decide) hf_25 (fun _ h9 => h9) rfl dX2_restore_1 ?_
  refine lv_if_ne (tgt := 10) hx hb dX2_restore_4 (by decide) (fun c1 => ?_) (fun c1 => ?_)
  · replace h := if_n c1 h
    refine lv_aload_n hx hb dX2_restore_10 rfl (lv_at hl 0 rfl) ?_
    refine va_get (D := (dC, dI)) (ci := 3) (v := .ref (ad 1 0)) (C := RX2) (T := TX2) (N := 14) hx hb hts hwX2 hown hK hP 0 rfl rfl 0 (by decide) hf_10 (fun _ h9 => h9) rfl dX2_restore_11 ?_
    refine lv_aload_n hx hb dX2_restore_14 rfl (lv_at hl 0 rfl) ?_
    refine va_get (D := (dC, dI)) (ci := 3) (v := .ref (ad 4 0)) (C := RX2) (T := TX2) (N := 14) hx hb hts hwX2 hown hK hP 0 rfl rfl 3 (by decide) hf_22 (fun _ h9 => h9) rfl dX2_restore_15 ?_
    obtain ⟨O3, eO3, h⟩ := inO_some h
    refine call_copy (rest := []) (j := 0) (i := 3) (Rr := R) (O := K) ⟨hx, hb, hml, hown, hts⟩ (by decide) (by decide) (by decide) (tX0_copyFrom (l := l) (dC := dC) (dI := dI) (cI := cI) (ob := ad (1 + 0) 0) (ob2 := ad (1 + 3) 0) (q := fun f => ad (1 + 0) (1 + f)) (q2 := fun f => ad (1 + 3) (1 + f)) (K := K 0) (J := K 3)) (cwV 1 hts gX2_restore_X0_copyFrom rfl rfl rfl (by decide +kernel) ⟨Nat.le_of_ble_eq_true rfl, Nat.le_of_ble_eq_true rfl⟩) hKI hP hD hS rfl hl.1 rfl (Nat.le_of_ble_eq_true rfl) dX2_restore_18 ⟨Nat.zero_le _, Nat.zero_le _⟩ (fun H locs hP hD hS => ?_)
    have hP : va_P (dC, dI) vwCl (outW cI cB cP ad Z O3 ++ R) H := by rw [eO3]; exact hP
    have hD : va_D (aB base) (outW cI cB cP ad Z O3 ++ R) := by rw [eO3]; exact hD
    have hCF : OF Z O3 := by rw [eO3]; exact OF_set hCF (by decide)
    refine lv_aload_n hx hb dX2_restore_21 rfl (lv_at hl 0 rfl) ?_
    refine lv_iconst (v := 0) hx hb dX2_restore_22 (by decide) ?_
    obtain ⟨O4, eO4, h⟩ := inO_some h
    refine va_put (D := (dC, dI)) (ci := 3) (v := .int 0) (ty := .int) (C := RX2) (T := TX2) (N := 14) hx hb hts hwX2 tyX2 tyX2_ok nmX2 hown hK hP hD hS 0 rfl rfl 7 (by decide) hf_37 (fun _ h9 => h9) rfl (by decide +kernel) rfl rfl (Nat.le_of_ble_eq_true rfl) dX2_restore_23 (fun H locs hP hD hS => ?_)
    have hP : va_P (dC, dI) vwCl (outW cI cB cP ad Z O4 ++ R) H := by rw [eO4, out_scal]; exact hP
    have hD : va_D (aB base) (outW cI cB cP ad Z O4 ++ R) := by rw [eO4, out_scal]; exact hD
    have hCF : OF Z O4 := by rw [eO4]; exact OF_set hCF (by decide)
    refine lv_aload_n hx hb dX2_restore_26 rfl (lv_at hl 0 rfl) ?_
    refine va_get (D := (dC, dI)) (ci := 3) (v := .ref (ad 1 0)) (C := RX2) (T := TX2) (N := 14) hx hb hts hwX2 hown hK hP 0 rfl rfl 0 (by decide) hf_10 (fun _ h9 => h9) rfl dX2_restore_27 ?_
    refine va_get (D := (dC, dI)) (ci := 1) (v := .int (O4 0 10 5)) (C := RX0) (T := TX0) (N := 16) hx hb hts hwX0 hown hK hP 7 rfl rfl 15 (by decide) hf_233 (fun _ h9 => h9) rfl dX2_restore_30 ?_
    exact (W.iret hx hb hr (fun t ht _ => retO h hCF hP hD hS ht) hS.2.2 dX2_restore_33)
  · replace h := if_p c1 h
    refine lv_bipush (v := (-4)) hx hb dX2_restore_7 (by decide) ?_
    exact (W.iret hx hb hr (fun t ht _ => retO h hCF hP hD hS ht) hS.2.2 dX2_restore_9)
