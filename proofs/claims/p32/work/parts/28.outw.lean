def mX2_refuse (N : Nat) (K : OT) (p0 : Int32) (p1 : Int32) : Option (Int32 × OT) := inO (oset K 12 (fset (K 12) 0 4 p0)) (fun O1 => inO (oset O1 12 (fset (O1 12) 0 5 p1)) (fun O2 => inO (oset O2 12 (fset (O2 12) 0 6 (O2 12 0 3))) (fun O3 => some ((-3), O3))))
def rmX2_refuse : Room := { frames := 1, cells := 0, slots := 0, locals := 40 }
set_option maxHeartbeats 4000000 in
set_option maxRecDepth 100000 in
theorem tX2_refuse {l : Launch} {dC : Nat → ClassId} {dI : Nat → Nat → Nat} {cI cB cP : ClassId} {ad : Nat → Nat → Nat} {Z : Nat → Nat} {base : Nat} {R : va_W} {N : Nat} {K : OT} {p0 : Int32} {p1 : Int32} {rr : Int32} {KK : OT} (hf : mX2_refuse N K p0 p1 = some (rr, KK)) (hCF : OF Z K) : Met l yX2_refuse wsX2_refuse rmX2_refuse (cBp (dC, dI) vwCl [(cI, .int), (cB, .byte), (cP, .object RX0)] base (outW cI cB cP ad Z K ++ R) [.ref (ad 0 0), .int p0, .int p1]) (cBe (dC, dI) vwCl base (some (.int rr)) (fun ws => ∃ Z : Nat → Nat, ws = (outW cI cB cP ad Z KK ++ R) ∧ OF Z KK)) 0 0 (aB base) := by
  refine Met.ofW (cc := cX2_refuse) (maxL := 3) (ret := (some .int)) (by decide) rfl ?_
  intro p e s m args below meth c s₁ B hml hv
  obtain ⟨rfl, hP, hK, hD, hbs, hE⟩ := hv
  have hx := B.exec
  have hb := B.bytes
  have hr := B.returns
  have hts := atoms_spec (ws := wsX2_refuse) B.pre
  have hown : s.vm.findClass RX2 = some m.cls := findClass_of_methodNamed B.named
  have hlocks := B.notSynchronized
  have hf_54 := hts (.fieldLink RX2 54 "CaravanLogs" "command" "I") (by decide +kernel)
  have hf_57 := hts (.fieldLink RX2 57 "CaravanLogs" "refusedReason" "I") (by decide +kernel)
  have hf_60 := hts (.fieldLink RX2 60 "CaravanLogs" "refusedDetail" "I") (by decide +kernel)
  have hf_63 := hts (.fieldLink RX2 63 "CaravanLogs" "refusedCommand" "I") (by decide +kernel)
  have hwX2 : ∀ w ∈ u_ws RX2 TX2 14, w ∈ wsX2_refuse := by decide +kernel
  have hKI : va_K (dC, dI) vwCl [(cI, .int)] s := K_tys (fun x hx => by simp only [List.mem_cons, List.not_mem_nil, or_false] at hx ⊢; simp [hx]) hK
  have hKB : va_K (dC, dI) vwCl [(cB, .byte)] s := K_tys (fun x hx => by simp only [List.mem_cons, List.not_mem_nil, or_false] at hx ⊢; simp [hx]) hK
  have hS : va_S (aB base) s.heap s.heap [] := va_S.rf
  have hl := lv_entry ([.ref (ad 0 0), .int p0, .int p1]) (n := 3) (Nat.le_of_ble_eq_true rfl)
  rw [lg_entry_eq]
  generalize (lg_sl ([.ref (ad 0 0), .int p0, .int p1]) ++ List.replicate (3 - (lg_sl ([.ref (ad 0 0), .int p0, .int p1])).length) Slot.unset).toArray = ls at hl ⊢
  have hl : lv_has ls 3 [(0, .ref (ad 0 0)), (1, .int p0), (2, .int p1)] := hl
  have h := hf
  unfold mX2_refuse at h
  refine lv_aload_n hx hb dX2_refuse_0 rfl (lv_at hl 0 rfl) ?_
  refine lv_iload_n hx hb dX2_refuse_1 rfl (lv_at hl 1 rfl) ?_
  obtain ⟨O1, eO1, h⟩ := inO_some h
  refine va_put (D := (dC, dI)) (ci := 3) (v := .int p0) (ty := .int) (C := RX2) (T := TX2) (N := 14) hx hb hts hwX2 tyX2 tyX2_ok nmX2 hown hK hP hD hS 0 rfl rfl 11 (by decide) hf_57 (fun _ h9 => h9) rfl (by decide +kernel) rfl rfl (Nat.le_of_ble_eq_true rfl) dX2_refuse_2 (fun H locs hP hD hS => ?_)
  have hP : va_P (dC, dI) vwCl (outW cI cB cP ad Z O1 ++ R) H := by rw [eO1, out_scal]; exact hP
  have hD : va_D (aB base) (outW cI cB cP ad Z O1 ++ R) := by rw [eO1, out_scal]; exact hD
  have hCF : OF Z O1 := by rw [eO1]; exact OF_set hCF (by decide)
  refine lv_aload_n hx hb dX2_refuse_5 rfl (lv_at hl 0 rfl) ?_
  refine lv_iload_n hx hb dX2_refuse_6 rfl (lv_at hl 2 rfl) ?_
  obtain ⟨O2, eO2, h⟩ := inO_some h
  refine va_put (D := (dC, dI)) (ci := 3) (v := .int p1) (ty := .int) (C := RX2) (T := TX2) (N := 14) hx hb hts hwX2 tyX2 tyX2_ok nmX2 hown hK hP hD hS 0 rfl rfl 12 (by decide) hf_60 (fun _ h9 => h9) rfl (by decide +kernel) rfl rfl (Nat.le_of_ble_eq_true rfl) dX2_refuse_7 (fun H locs hP hD hS => ?_)
  have hP : va_P (dC, dI) vwCl (outW cI cB cP ad Z O2 ++ R) H := by rw [eO2, out_scal]; exact hP
  have hD : va_D (aB base) (outW cI cB cP ad Z O2 ++ R) := by rw [eO2, out_scal]; exact hD
  have hCF : OF Z O2 := by rw [eO2]; exact OF_set hCF (by decide)
  refine lv_aload_n hx hb dX2_refuse_10 rfl (lv_at hl 0 rfl) ?_
  refine lv_aload_n hx hb dX2_refuse_11 rfl (lv_at hl 0 rfl) ?_
  refine va_get (D := (dC, dI)) (ci := 3) (v := .int (O2 12 0 3)) (C := RX2) (T := TX2) (N := 14) hx hb hts hwX2 hown hK hP 0 rfl rfl 10 (by decide) hf_54 (fun _ h9 => h9) rfl dX2_refuse_12 ?_
  obtain ⟨O3, eO3, h⟩ := inO_some h
  refine va_put (D := (dC, dI)) (ci := 3) (v := .int (O2 12 0 3)) (ty := .int) (C := RX2) (T := TX2) (N := 14) hx hb hts hwX2 tyX2 tyX2_ok nmX2 hown hK hP hD hS 0 rfl rfl 13 (by decide) hf_63 (fun _ h9 => h9) rfl (by decide +kernel) rfl rfl (Nat.le_of_ble_eq_true rfl) dX2_refuse_15 (fun H locs hP hD hS => ?_)
  have hP : va_P (dC, dI) vwCl (outW cI cB cP ad Z O3 ++ R) H := by rw [eO3, out_scal]; exact hP
  have hD : va_D (aB base) (outW cI cB cP ad Z O3 ++ R) := by rw [eO3, out_scal]; exact hD
  have hCF : OF Z O3 := by rw [eO3]; exact OF_set hCF (by decide)
  refine lv_bipush (v := (-3)) hx hb dX2_refuse_18 (by decide) ?_
  exact (W.iret hx hb hr (fun t ht _ => retO h hCF hP hD hS ht) hS.2.2 dX2_refuse_20)
def mX2_bringDusk (N : Nat) (K : OT) (p0 : Int32) : Option (Int32 × OT) := bdP (mX2_isNoCamp N p0) (fun v1 => (if v1 = 0 then rdA (K 0 3) 5 p0 (fun v3 => (if v3 = 0 then bdO (mX2_refuse N K 1 p0) (fun v16 O17 => some (v16, O17)) else rdA (K 0 2) 5 p0 (fun v6 => (if v6 = 1 then rdA (K 0 0) 5 p0 (fun v12 => bdO (mX2_refuse N K 2 v12) (fun v14 O15 => some (v14, O15))) else bdE (mX0_askForVotes N (K 0) p0) (fun v9 K10 => inO (oset K 0 K10) (fun O11 => some (v9, O11))))))) else some ((-1), K)))
def rmX2_bringDusk : Room := { frames := 4, cells := 0, slots := 0, locals := 108 }
set_option maxHeartbeats 4000000 in
set_option maxRecDepth 100000 in
theorem tX2_bringDusk {l : Launch} {dC : Nat → ClassId} {dI : Nat → Nat → Nat} {cI cB cP : ClassId} {ad : Nat → Nat → Nat} {Z : Nat → Nat} {base : Nat} {R : va_W} {N : Nat} {K : OT} {p0 : Int32} {rr : Int32} {KK : OT} (hf : mX2_bringDusk N K p0 = some (rr, KK)) (hCF : OF Z K) : Met l yX2_bringDusk wsX2_bringDusk rmX2_bringDusk (cBp (dC, dI) vwCl [(cI, .int), (cB, .byte), (cP, .object RX0)] base (outW cI cB cP ad Z K ++ R) [.ref (ad 0 0), .int p0]) (cBe (dC, dI) vwCl base (some (.int rr)) (fun ws => ∃ Z : Nat → Nat, ws = (outW cI cB cP ad Z KK ++ R) ∧ OF Z KK)) 0 0 (aB base) := by
  refine Met.ofW (cc := cX2_bringDusk) (maxL := 2) (ret := (some .int)) (by decide) rfl ?_
  intro p e s m args below meth c s₁ B hml hv
  obtain ⟨rfl, hP, hK, hD, hbs, hE⟩ := hv
  have hx := B.exec
  have hb := B.bytes
  have hr := B.returns
  have hts := atoms_spec (ws := wsX2_bringDusk) B.pre
  have hown : s.vm.findClass RX2 = some m.cls := findClass_of_methodNamed B.named
  have hlocks := B.notSynchronized
  have hf_10 := hts (.fieldLink RX2 10 "CaravanLogs" "now" "LCaravanLogs$Caravan;") (by decide +kernel)
  have hf_98 := hts (.fieldLink RX2 98 "CaravanLogs$Caravan" "term" "[I") (by decide +kernel)
  have hf_105 := hts (.fieldLink RX2 105 "CaravanLogs$Caravan" "isCaptain" "[I") (by decide +kernel)
  have hf_108 := hts (.fieldLink RX2 108 "CaravanLogs$Caravan" "isAwake" "[I") (by decide +kernel)
  have hwX0 : ∀ w ∈ u_ws RX0 TX0 16, w ∈ wsX2_bringDusk := by decide +kernel
  have hwX2 : ∀ w ∈ u_ws RX2 TX2 14, w ∈ wsX2_bringDusk := by decide +kernel
  have hKI : va_K (dC, dI) vwCl [(cI, .int)] s := K_tys (fun x hx => by simp only [List.mem_cons, List.not_mem_nil, or_false] at hx ⊢; simp [hx]) hK
  have hKB : va_K (dC, dI) vwCl [(cB, .byte)] s := K_tys (fun x hx => by simp only [List.mem_cons, List.not_mem_nil, or_false] at hx ⊢; simp [hx]) hK
  have hS : va_S (aB base) s.heap s.heap [] := va_S.rf
  have hl := lv_entry ([.ref (ad 0 0), .int p0]) (n := 2) (Nat.le_of_ble_eq_true rfl)
  rw [lg_entry_eq]
  generalize (lg_sl ([.ref (ad 0 0), .int p0]) ++ List.replicate (2 - (lg_sl ([.ref (ad 0 0), .int p0])).length) Slot.unset).toArray = ls at hl ⊢
  have hl : lv_has ls 2 [(0, .ref (ad 0 0)), (1, .int p0)] := hl
  have h := hf
  unfold mX2_bringDusk at h
  refine lv_iload_n hx hb dX2_bringDusk_0 rfl (lv_at hl 1 rfl) ?_
  obtain ⟨v1, hv1, h⟩ := bdP_some h
  refine call_SP (As := [.int p0]) (rest := []) ⟨hx, hb, hml, hown, hts⟩ (tX2_isNoCamp (l := l) hv1) (va_cwS 1 hts gX2_bringDusk_X2_isNoCamp rfl rfl rfl (by decide +kernel) ⟨Nat.le_of_ble_eq_true rfl, Nat.le_of_ble_eq_true rfl⟩) (by rfl) hl.1 rfl (Nat.le_of_ble_eq_true rfl) dX2_bringDusk_1 ⟨Nat.zero_le _, Nat.zero_le _⟩ ?_
  refine lv_if_eq (tgt := 9) hx hb dX2_bringDusk_4 (by decide) (fun c2 => ?_) (fun c2 => ?_)
  · replace h := if_p c2 h
    refine lv_aload_n hx hb dX2_bringDusk_9 rfl (lv_at hl 0 rfl) ?_
    refine va_get (D := (dC, dI)) (ci := 3) (v := .ref (ad 1 0)) (C := RX2) (T := TX2) (N := 14) hx hb hts hwX2 hown hK hP 0 rfl rfl 0 (by decide) hf_10 (fun _ h9 => h9) rfl dX2_bringDusk_10 ?_
    refine va_get (D := (dC, dI)) (ci := 1) (v := .ref (ad 1 4)) (C := RX0) (T := TX0) (N := 16) hx hb hts hwX0 hown hK hP 7 rfl rfl 3 (by decide) hf_108 (fun _ h9 => h9) rfl dX2_bringDusk_13 ?_
    refine lv_iload_n hx hb dX2_bringDusk_16 rfl (lv_at hl 1 rfl) ?_
    obtain ⟨hi4, v3, ev3, h⟩ := rdA_some h
    refine k_iald hx hb hK hP 11 0 rfl rfl hi4 ev3 dX2_bringDusk_17 ?_
    refine lv_if_ne (tgt := 28) hx hb dX2_bringDusk_18 (by decide) (fun c5 => ?_) (fun c5 => ?_)
    · replace h := if_n c5 h
      refine lv_aload_n hx hb dX2_bringDusk_28 rfl (lv_at hl 0 rfl) ?_
      refine va_get (D := (dC, dI)) (ci := 3) (v := .ref (ad 1 0)) (C := RX2) (T := TX2) (N := 14) hx hb hts hwX2 hown hK hP 0 rfl rfl 0 (by decide) hf_10 (fun _ h9 => h9) rfl dX2_bringDusk_29 ?_
      refine va_get (D := (dC, dI)) (ci := 1) (v := .ref (ad 1 3)) (C := RX0) (T := TX0) (N := 16) hx hb hts hwX0 hown hK hP 7 rfl rfl 2 (by decide) hf_105 (fun _ h9 => h9) rfl dX2_bringDusk_32 ?_
      refine lv_iload_n hx hb dX2_bringDusk_35 rfl (lv_at hl 1 rfl) ?_
      obtain ⟨hi7, v6, ev6, h⟩ := rdA_some h
      refine k_iald hx hb hK hP 10 0 rfl rfl hi7 ev6 dX2_bringDusk_36 ?_
      refine lv_iconst (v := 1) hx hb dX2_bringDusk_37 (by decide) ?_
      refine lv_icmp_ne (tgt := 56) hx hb dX2_bringDusk_38 (by decide) (fun c8 => ?_) (fun c8 => ?_)
      · replace h := if_n c8 h
        refine lv_aload_n hx hb dX2_bringDusk_56 rfl (lv_at hl 0 rfl) ?_
        refine va_get (D := (dC, dI)) (ci := 3) (v := .ref (ad 1 0)) (C := RX2) (T := TX2) (N := 14) hx hb hts hwX2 hown hK hP 0 rfl rfl 0 (by decide) hf_10 (fun _ h9 => h9) rfl dX2_bringDusk_57 ?_
        refine lv_iload_n hx hb dX2_bringDusk_60 rfl (lv_at hl 1 rfl) ?_
        obtain ⟨v9, K10, hv9, h⟩ := bdE_some h
        obtain ⟨O11, eO11, h⟩ := inO_some h
        obtain ⟨o1, o2, o3⟩ := o_in 0 (by decide) hP hD
        refine call_VE (As := [.int p0]) (rest := []) ⟨hx, hb, hml, hown, hts⟩ (tX0_askForVotes (l := l) (dC := dC) (dI := dI) (cI := cI) (ob := ad (1 + 0) 0) (q := fun f => ad (1 + 0) (1 + f)) hv9) (cwV 1 hts gX2_bringDusk_X0_askForVotes rfl rfl rfl (by decide +kernel) ⟨Nat.le_of_ble_eq_true rfl, Nat.le_of_ble_eq_true rfl⟩) hKI o1 o2 hS o3 0 rfl rfl (by rfl) hl.1 rfl (Nat.le_of_ble_eq_true rfl) dX2_bringDusk_61 ⟨Nat.zero_le _, Nat.zero_le _⟩ (fun H locs hP9 hD9 hk9 hS => ?_)
        have hP8 := o_back 0 (by decide) hP hD hP9 hk9.2
        have hP := hP8.1
        have hD := hP8.2
        have hP : va_P (dC, dI) vwCl (outW cI cB cP ad Z O11 ++ R) H := by rw [eO11]; exact hP
        have hD : va_D (aB base) (outW cI cB cP ad Z O11 ++ R) := by rw [eO11]; exact hD
        have hCF : OF Z O11 := by rw [eO11]; exact OF_set hCF (by decide)
        exact (W.iret hx hb hr (fun t ht _ => retO h hCF hP hD hS ht) hS.2.2 dX2_bringDusk_64)
      · replace h := if_p c8 h
        refine lv_aload_n hx hb dX2_bringDusk_41 rfl (lv_at hl 0 rfl) ?_
        refine lv_iconst (v := 2) hx hb dX2_bringDusk_42 (by decide) ?_
        refine lv_aload_n hx hb dX2_bringDusk_43 rfl (lv_at hl 0 rfl) ?_
        refine va_get (D := (dC, dI)) (ci := 3) (v := .ref (ad 1 0)) (C := RX2) (T := TX2) (N := 14) hx hb hts hwX2 hown hK hP 0 rfl rfl 0 (by decide) hf_10 (fun _ h9 => h9) rfl dX2_bringDusk_44 ?_
        refine va_get (D := (dC, dI)) (ci := 1) (v := .ref (ad 1 1)) (C := RX0) (T := TX0) (N := 16) hx hb hts hwX0 hown hK hP 7 rfl rfl 0 (by decide) hf_98 (fun _ h9 => h9) rfl dX2_bringDusk_47 ?_
        refine lv_iload_n hx hb dX2_bringDusk_50 rfl (lv_at hl 1 rfl) ?_
        obtain ⟨hi13, v12, ev12, h⟩ := rdA_some h
        refine k_iald hx hb hK hP 8 0 rfl rfl hi13 ev12 dX2_bringDusk_51 ?_
        obtain ⟨v14, O15, hv14, h⟩ := bdO_some h
        refine call_BVE (As := [.int 2, .int v12]) (rest := []) ⟨hx, hb, hml, hown, hts⟩ (tX2_refuse (l := l) (dC := dC) (dI := dI) (cI := cI) (cB := cB) (cP := cP) (ad := ad) (base := base) (R := R) hv14 hCF) (cwV 2 hts gX2_bringDusk_X2_refuse rfl rfl rfl (by decide +kernel) ⟨Nat.le_of_ble_eq_true rfl, Nat.le_of_ble_eq_true rfl⟩) hK hP hD hS (Nat.le_trans hbs hS.1) (fun U hU hW => Env_step rfl rfl hE hS hU hW) 0 rfl rfl (by rfl) hl.1 rfl (Nat.le_of_ble_eq_true rfl) dX2_bringDusk_52 ⟨Nat.zero_le _, Nat.zero_le _⟩ (fun H locs ws9 hW9 hP hD _ hS => ?_)
        obtain ⟨Z, rfl, hCF⟩ := hW9
        exact (W.iret hx hb hr (fun t ht _ => retO h hCF hP hD hS ht) hS.2.2 dX2_bringDusk_55)
    · replace h := if_p c5 h
      refine lv_aload_n hx hb dX2_bringDusk_21 rfl (lv_at hl 0 rfl) ?_
      refine lv_iconst (v := 1) hx hb dX2_bringDusk_22 (by decide) ?_
      refine lv_iload_n hx hb dX2_bringDusk_23 rfl (lv_at hl 1 rfl) ?_
      obtain ⟨v16, O17, hv16, h⟩ := bdO_some h
      refine call_BVE (As := [.int 1, .int p0]) (rest := []) ⟨hx, hb, hml, hown, hts⟩ (tX2_refuse (l := l) (dC := dC) (dI := dI) (cI := cI) (cB := cB) (cP := cP) (ad := ad) (base := base) (R := R) hv16 hCF) (cwV 2 hts gX2_bringDusk_X2_refuse rfl rfl rfl (by decide +kernel) ⟨Nat.le_of_ble_eq_true rfl, Nat.le_of_ble_eq_true rfl⟩) hK hP hD hS (Nat.le_trans hbs hS.1) (fun U hU hW => Env_step rfl rfl hE hS hU hW) 0 rfl rfl (by rfl) hl.1 rfl (Nat.le_of_ble_eq_true rfl) dX2_bringDusk_24 ⟨Nat.zero_le _, Nat.zero_le _⟩ (fun H locs ws9 hW9 hP hD _ hS => ?_)
      obtain ⟨Z, rfl, hCF⟩ := hW9
      exact (W.iret hx hb hr (fun t ht _ => retO h hCF hP hD hS ht) hS.2.2 dX2_bringDusk_27)
  · replace h := if_n c2 h
    refine lv_iconst (v := (-1)) hx hb dX2_bringDusk_7 (by decide) ?_
    exact (W.iret hx hb hr (fun t ht _ => retO h hCF hP hD hS ht) hS.2.2 dX2_bringDusk_8)
def fX2_finishChange_41 (N : Nat)  (K : OT) (x1 : Int32) : Option (Int32 × OT) := inO (oset K 12 (fset (K 12) 0 2 ((if 8 < ((K 12 0 2) + 1) then 8 else ((K 12 0 2) + 1))))) (fun O1 => some (x1, O1))
def mX2_finishChange (N : Nat) (K : OT) (p0 : Int32) : Option (Int32 × OT) := (if 0 ≤ p0 then inO (oset K 12 (fset (K 12) 0 1 (((K 12 0 1) + 1) - ((K 12 0 1) + 1) / 8 * 8))) (fun O3 => rdP (O3 12 0 1) (fun n4 => inO (oset O3 (4 + n4) (O3 1)) (fun O6 => fX2_finishChange_41 N  O6 p0))) else some (p0, K))
def rmX2_finishChange : Room := { frames := 2, cells := 0, slots := 0, locals := 81 }
set_option maxHeartbeats 4000000 in
set_option maxRecDepth 100000 in
theorem tX2_finishChange {l : Launch} {dC : Nat → ClassId} {dI : Nat → Nat → Nat} {cI cB cP : ClassId} {ad : Nat → Nat → Nat} {Z : Nat → Nat} {base : Nat} {R : va_W} {N : Nat} {K : OT} {p0 : Int32} {rr : Int32} {KK : OT} (hf : mX2_finishChange N K p0 = some (rr, KK)) (hCF : OF Z K) : Met l yX2_finishChange wsX2_finishChange rmX2_finishChange (cBp (dC, dI) vwCl [(cI, .int), (cB, .byte), (cP, .object RX0)] base (outW cI cB cP ad Z K ++ R) [.ref (ad 0 0), .int p0]) (cBe (dC, dI) vwCl base (some (.int rr)) (fun ws => ∃ Z : Nat → Nat, ws = (outW cI cB cP ad Z KK ++ R) ∧ OF Z KK)) 0 0 (aB base) := by
  refine Met.ofW (cc := cX2_finishChange) (maxL := 3) (ret := (some .int)) (by decide) rfl ?_
  intro p e s m args below meth c s₁ B hml hv
  obtain ⟨rfl, hP, hK, hD, hbs, hE⟩ := hv
  have hx := B.exec
  have hb := B.bytes
  have hr := B.returns
  have hts := atoms_spec (ws := wsX2_finishChange) B.pre
  have hown : s.vm.findClass RX2 = some m.cls := findClass_of_methodNamed B.named
  have hlocks := B.notSynchronized
  have hf_16 := hts (.fieldLink RX2 16 "CaravanLogs" "before" "LCaravanLogs$Caravan;") (by decide +kernel)
  have hf_29 := hts (.fieldLink RX2 29 "CaravanLogs" "past" "[LCaravanLogs$Caravan;") (by decide +kernel)
  have hf_33 := hts (.fieldLink RX2 33 "CaravanLogs" "latest" "I") (by decide +kernel)
  have hf_37 := hts (.fieldLink RX2 37 "CaravanLogs" "undoable" "I") (by decide +kernel)
  have hwX2 : ∀ w ∈ u_ws RX2 TX2 14, w ∈ wsX2_finishChange := by decide +kernel
  have hKI : va_K (dC, dI) vwCl [(cI, .int)] s := K_tys (fun x hx => by simp only [List.mem_cons, List.not_mem_nil, or_false] at hx ⊢; simp [hx]) hK
  have hKB : va_K (dC, dI) vwCl [(cB, .byte)] s := K_tys (fun x hx => by simp only [List.mem_cons, List.not_mem_nil, or_false] at hx ⊢; simp [hx]) hK
  have t_41 : ∀ {K : OT} {x1 : Int32} {H : Heap} {locs : List Loc} {Z : Nat → Nat} {ls : Array Slot} (h : fX2_finishChange_41 N  K x1 = some (rr, KK)) (hl : lv_has ls 3 [(0, .ref (ad 0 0)), (1, .int x1)]) (hP : va_P (dC, dI) vwCl (outW cI cB cP ad Z K ++ R) H) (hD : va_D (aB base) (outW cI cB cP ad Z K ++ R)) (hS : va_S (aB base) s.heap H locs) (hCF : OF Z K), W p l e (headSpec wsX2_finishChange rmX2_finishChange).room s m ([.ref (ad 0 0), .int p0] : List Value).toArray below meth c H locs 0 0 (MQ below (cBe (dC, dI) vwCl base (some (.int rr)) (fun ws => ∃ Z : Nat → Nat, ws = (outW cI cB cP ad Z KK ++ R) ∧ OF Z KK)) ([.ref (ad 0 0), .int p0] : List Value).toArray s 0 0 (aB base)) (F0 m 41 ls []) := by
    intro  K x1 H locs Z ls h hl hP hD hS hCF
    unfold fX2_finishChange_41 at h
    refine lv_aload_n hx hb dX2_finishChange_41 rfl (lv_at hl 0 rfl) ?_
    refine lv_aload_n hx hb dX2_finishChange_42 rfl (lv_at hl 0 rfl) ?_
    refine va_get (D := (dC, dI)) (ci := 3) (v := .int (K 12 0 2)) (C := RX2) (T := TX2) (N := 14) hx hb hts hwX2 hown hK hP 0 rfl rfl 7 (by decide) hf_37 (fun _ h9 => h9) rfl dX2_finishChange_43 ?_
    refine lv_iconst (v := 1) hx hb dX2_finishChange_46 (by decide) ?_
    refine lv_iadd hx hb dX2_finishChange_47 ?_
    refine lv_bipush (v := 8) hx hb dX2_finishChange_48 (by decide) ?_
    refine va_mmin hx hb (hml.trans hl.1.symm) hown (hts (.methodLink RX2 270 Lib.Math.min.name) (by decide +kernel)) (hts (.static Lib.Math.min.name) (by decide +kernel)) (hts (.initialized "java/lang/Math") (by decide +kernel)) (hts (.code Lib.Math.min.name Lib.Math.min.code 2 (some .int)) (by decide +kernel)) (Nat.le_of_ble_eq_true rfl) (Nat.le_of_ble_eq_true rfl) (Nat.zero_le _) (Nat.zero_le _) dX2_finishChange_50 ?_
    obtain ⟨O1, eO1, h⟩ := inO_some h
    refine va_put (D := (dC, dI)) (ci := 3) (v := .int ((if 8 < ((K 12 0 2) + 1) then 8 else ((K 12 0 2) + 1)))) (ty := .int) (C := RX2) (T := TX2) (N := 14) hx hb hts hwX2 tyX2 tyX2_ok nmX2 hown hK hP hD hS 0 rfl rfl 7 (by decide) hf_37 (fun _ h9 => h9) rfl (by decide +kernel) rfl rfl (Nat.le_of_ble_eq_true rfl) dX2_finishChange_53 (fun H locs hP hD hS => ?_)
    have hP : va_P (dC, dI) vwCl (outW cI cB cP ad Z O1 ++ R) H := by rw [eO1, out_scal]; exact hP
    have hD : va_D (aB base) (outW cI cB cP ad Z O1 ++ R) := by rw [eO1, out_scal]; exact hD
    have hCF : OF Z O1 := by rw [eO1]; exact OF_set hCF (by decide)
    refine lv_iload_n hx hb dX2_finishChange_56 rfl (lv_at hl 1 rfl) ?_
    exact (W.iret hx hb hr (fun t ht _ => retO h hCF hP hD hS ht) hS.2.2 dX2_finishChange_57)
  have hS : va_S (aB base) s.heap s.heap [] := va_S.rf
  have hl := lv_entry ([.ref (ad 0 0), .int p0]) (n := 3) (Nat.le_of_ble_eq_true rfl)
  rw [lg_entry_eq]
  generalize (lg_sl ([.ref (ad 0 0), .int p0]) ++ List.replicate (3 - (lg_sl ([.ref (ad 0 0), .int p0])).length) Slot.unset).toArray = ls at hl ⊢
  have hl : lv_has ls 3 [(0, .ref (ad 0 0)), (1, .int p0)] := hl
  have h := hf
  unfold mX2_finishChange at h
  refine lv_iload_n hx hb dX2_finishChange_0 rfl (lv_at hl 1 rfl) ?_
  refine lv_if_ge (tgt := 6) hx hb dX2_finishChange_1 (by decide) (fun c2 => ?_) (fun c2 => ?_)
  · replace h := if_p c2 h
    refine lv_aload_n hx hb dX2_finishChange_6 rfl (lv_at hl 0 rfl) ?_
    refine lv_aload_n hx hb dX2_finishChange_7 rfl (lv_at hl 0 rfl) ?_
    refine va_get (D := (dC, dI)) (ci := 3) (v := .int (K 12 0 1)) (C := RX2) (T := TX2) (N := 14) hx hb hts hwX2 hown hK hP 0 rfl rfl 6 (by decide) hf_33 (fun _ h9 => h9) rfl dX2_finishChange_8 ?_
    refine lv_iconst (v := 1) hx hb dX2_finishChange_11 (by decide) ?_
    refine lv_iadd hx hb dX2_finishChange_12 ?_
    refine lv_bipush (v := 8) hx hb dX2_finishChange_13 (by decide) ?_
    refine lv_irem hx hb dX2_finishChange_15 (by decide) ?_
    obtain ⟨O3, eO3, h⟩ := inO_some h
    refine va_put (D := (dC, dI)) (ci := 3) (v := .int (((K 12 0 1) + 1) - ((K 12 0 1) + 1) / 8 * 8)) (ty := .int) (C := RX2) (T := TX2) (N := 14) hx hb hts hwX2 tyX2 tyX2_ok nmX2 hown hK hP hD hS 0 rfl rfl 6 (by decide) hf_33 (fun _ h9 => h9) rfl (by decide +kernel) rfl rfl (Nat.le_of_ble_eq_true rfl) dX2_finishChange_16 (fun H locs hP hD hS => ?_)
    have hP : va_P (dC, dI) vwCl (outW cI cB cP ad Z O3 ++ R) H := by rw [eO3, out_scal]; exact hP
    have hD : va_D (aB base) (outW cI cB cP ad Z O3 ++ R) := by rw [eO3, out_scal]; exact hD
    have hCF : OF Z O3 := by rw [eO3]; exact OF_set hCF (by decide)
    refine lv_aload_n hx hb dX2_finishChange_19 rfl (lv_at hl 0 rfl) ?_
    refine va_get (D := (dC, dI)) (ci := 3) (v := .ref (ad 0 1)) (C := RX2) (T := TX2) (N := 14) hx hb hts hwX2 hown hK hP 0 rfl rfl 5 (by decide) hf_29 (fun _ h9 => h9) rfl dX2_finishChange_20 ?_
    refine lv_aload_n hx hb dX2_finishChange_23 rfl (lv_at hl 0 rfl) ?_
    refine va_get (D := (dC, dI)) (ci := 3) (v := .int (O3 12 0 1)) (C := RX2) (T := TX2) (N := 14) hx hb hts hwX2 hown hK hP 0 rfl rfl 6 (by decide) hf_33 (fun _ h9 => h9) rfl dX2_finishChange_24 ?_
    obtain ⟨n4, en4, ln4, in4, h⟩ := rdP_some h
    refine k_past hx hb hK hP 2 rfl en4 in4 dX2_finishChange_27 ?_
    refine lv_astore_n (lv' := [(2, .ref (ad (1 + (4 + n4)) 0)), (0, .ref (ad 0 0)), (1, .int p0)]) hx hb dX2_finishChange_28 rfl hl (by decide) rfl (fun ls hl => ?_)
    refine lv_aload_n hx hb dX2_finishChange_29 rfl (lv_at hl 0 rfl) ?_
    refine lv_ifnull hx hb dX2_finishChange_30 ?_
    refine lv_aload_n hx hb dX2_finishChange_33 rfl (lv_at hl 0 rfl) ?_
    refine lv_aload_n hx hb dX2_finishChange_34 rfl (lv_at hl 1 rfl) ?_
    refine va_get (D := (dC, dI)) (ci := 3) (v := .ref (ad 2 0)) (C := RX2) (T := TX2) (N := 14) hx hb hts hwX2 hown hK hP 0 rfl rfl 1 (by decide) hf_16 (fun _ h9 => h9) rfl dX2_finishChange_35 ?_
    obtain ⟨O6, eO6, h⟩ := inO_some h
    refine call_copy (rest := []) (j := (4 + n4)) (i := 1) (Rr := R) (O := O3) ⟨hx, hb, hml, hown, hts⟩ (by have := ln4; omega) (by decide) (by omega) (tX0_copyFrom (l := l) (dC := dC) (dI := dI) (cI := cI) (ob := ad (1 + (4 + n4)) 0) (ob2 := ad (1 + 1) 0) (q := fun f => ad (1 + (4 + n4)) (1 + f)) (q2 := fun f => ad (1 + 1) (1 + f)) (K := O3 (4 + n4)) (J := O3 1)) (cwV 1 hts gX2_finishChange_X0_copyFrom rfl rfl rfl (by decide +kernel) ⟨Nat.le_of_ble_eq_true rfl, Nat.le_of_ble_eq_true rfl⟩) hKI hP hD hS rfl hl.1 rfl (Nat.le_of_ble_eq_true rfl) dX2_finishChange_38 ⟨Nat.zero_le _, Nat.zero_le _⟩ (fun H locs hP hD hS => ?_)
    have hP : va_P (dC, dI) vwCl (outW cI cB cP ad Z O6 ++ R) H := by rw [eO6]; exact hP
    have hD : va_D (aB base) (outW cI cB cP ad Z O6 ++ R) := by rw [eO6]; exact hD
    have hCF : OF Z O6 := by rw [eO6]; exact OF_set hCF (by omega)
    exact t_41  h (lv_sub hl [1, 2] rfl) hP hD hS hCF
  · replace h := if_n c2 h
    refine lv_iload_n hx hb dX2_finishChange_4 rfl (lv_at hl 1 rfl) ?_
    exact (W.iret hx hb hr (fun t ht _ => retO h hCF hP hD hS ht) hS.2.2 dX2_finishChange_5)
def mX2_dusk (N : Nat) (K : OT) (p0 : Int32) : Option (Int32 × OT) := inO (oset K 1 (K 0)) (fun O2 => bdO (mX2_bringDusk N O2 p0) (fun v3 O4 => bdO (mX2_finishChange N O4 v3) (fun v5 O6 => some (v5, O6))))
def rmX2_dusk : Room := { frames := 5, cells := 0, slots := 0, locals := 129 }
set_option maxHeartbeats 4000000 in
set_option maxRecDepth 100000 in
theorem tX2_dusk {l : Launch} {dC : Nat → ClassId} {dI : Nat → Nat → Nat} {cI cB cP : ClassId} {ad : Nat → Nat → Nat} {Z : Nat → Nat} {base : Nat} {R : va_W} {N : Nat} {K : OT} {p0 : Int32} {rr : Int32} {KK : OT} (hf : mX2_dusk N K p0 = some (rr, KK)) (hCF : OF Z K) : Met l yX2_dusk wsX2_dusk rmX2_dusk (cBp (dC, dI) vwCl [(cI, .int), (cB, .byte), (cP, .object RX0)] base (outW cI cB cP ad Z K ++ R) [.ref (ad 0 0), .int p0]) (cBe (dC, dI) vwCl base (some (.int rr)) (fun ws => ∃ Z : Nat → Nat, ws = (outW cI cB cP ad Z KK ++ R) ∧ OF Z KK)) 0 0 (aB base) := by
  refine Met.ofW (cc := cX2_dusk) (maxL := 2) (ret := (some .int)) (by decide) rfl ?_
  intro p e s m args below meth c s₁ B hml hv
  obtain ⟨rfl, hP, hK, hD, hbs, hE⟩ := hv
  have hx := B.exec
  have hb := B.bytes
  have hr := B.returns
  have hts := atoms_spec (ws := wsX2_dusk) B.pre
  have hown : s.vm.findClass RX2 = some m.cls := findClass_of_methodNamed B.named
  have hlocks := B.notSynchronized
  have hf_10 := hts (.fieldLink RX2 10 "CaravanLogs" "now" "LCaravanLogs$Caravan;") (by decide +kernel)
  have hf_16 := hts (.fieldLink RX2 16 "CaravanLogs" "before" "LCaravanLogs$Caravan;") (by decide +kernel)
  have hwX2 : ∀ w ∈ u_ws RX2 TX2 14, w ∈ wsX2_dusk := by decide +kernel
  have hKI : va_K (dC, dI) vwCl [(cI, .int)] s := K_tys (fun x hx => by simp only [List.mem_cons, List.not_mem_nil, or_false] at hx ⊢; simp [hx]) hK
  have hKB : va_K (dC, dI) vwCl [(cB, .byte)] s := K_tys (fun x hx => by simp only [List.mem_cons, List.not_mem_nil, or_false] at hx ⊢; simp [hx]) hK
  have hS : va_S (aB base) s.heap s.heap [] := va_S.rf
  have hl := lv_entry ([.ref (ad 0 0), .int p0]) (n := 2) (Nat.le_of_ble_eq_true rfl)
  rw [lg_entry_eq]
  generalize (lg_sl ([.ref (ad 0 0), .int p0]) ++ List.replicate (2 - (lg_sl ([.ref (ad 0 0), .int p0])).length) Slot.unset).toArray = ls at hl ⊢
  have hl : lv_has ls 2 [(0, .ref (ad 0 0)), (1, .int p0)] := hl
  have h := hf
  unfold mX2_dusk at h
  refine lv_aload_n hx hb dX2_dusk_0 rfl (lv_at hl 0 rfl) ?_
  refine va_get (D := (dC, dI)) (ci := 3) (v := .ref (ad 2 0)) (C := RX2) (T := TX2) (N := 14) hx hb hts hwX2 hown hK hP 0 rfl rfl 1 (by decide) hf_16 (fun _ h9 => h9) rfl dX2_dusk_1 ?_
  refine lv_aload_n hx hb dX2_dusk_4 rfl (lv_at hl 0 rfl) ?_
  refine va_get (D := (dC, dI)) (ci := 3) (v := .ref (ad 1 0)) (C := RX2) (T := TX2) (N := 14) hx hb hts hwX2 hown hK hP 0 rfl rfl 0 (by decide) hf_10 (fun _ h9 => h9) rfl dX2_dusk_5 ?_
  obtain ⟨O2, eO2, h⟩ := inO_some h
  refine call_copy (rest := []) (j := 1) (i := 0) (Rr := R) (O := K) ⟨hx, hb, hml, hown, hts⟩ (by decide) (by decide) (by decide) (tX0_copyFrom (l := l) (dC := dC) (dI := dI) (cI := cI) (ob := ad (1 + 1) 0) (ob2 := ad (1 + 0) 0) (q := fun f => ad (1 + 1) (1 + f)) (q2 := fun f => ad (1 + 0) (1 + f)) (K := K 1) (J := K 0)) (cwV 1 hts gX2_dusk_X0_copyFrom rfl rfl rfl (by decide +kernel) ⟨Nat.le_of_ble_eq_true rfl, Nat.le_of_ble_eq_true rfl⟩) hKI hP hD hS rfl hl.1 rfl (Nat.le_of_ble_eq_true rfl) dX2_dusk_8 ⟨Nat.zero_le _, Nat.zero_le _⟩ (fun H locs hP hD hS => ?_)
  have hP : va_P (dC, dI) vwCl (outW cI cB cP ad Z O2 ++ R) H := by rw [eO2]; exact hP
  have hD : va_D (aB base) (outW cI cB cP ad Z O2 ++ R) := by rw [eO2]; exact hD
  have hCF : OF Z O2 := by rw [eO2]; exact OF_set hCF (by decide)
  refine lv_aload_n hx hb dX2_dusk_11 rfl (lv_at hl 0 rfl) ?_
  refine lv_aload_n hx hb dX2_dusk_12 rfl (lv_at hl 0 rfl) ?_
  refine lv_iload_n hx hb dX2_dusk_13 rfl (lv_at hl 1 rfl) ?_
  obtain ⟨v3, O4, hv3, h⟩ := bdO_some h
  refine call_BVE (As := [.int p0]) (rest := [.ref (ad 0 0)]) ⟨hx, hb, hml, hown, hts⟩ (tX2_bringDusk (l := l) (dC := dC) (dI := dI) (cI := cI) (cB := cB) (cP := cP) (ad := ad) (base := base) (R := R) hv3 hCF) (cwV 1 hts gX2_dusk_X2_bringDusk rfl rfl rfl (by decide +kernel) ⟨Nat.le_of_ble_eq_true rfl, Nat.le_of_ble_eq_true rfl⟩) hK hP hD hS (Nat.le_trans hbs hS.1) (fun U hU hW => Env_step rfl rfl hE hS hU hW) 0 rfl rfl (by rfl) hl.1 rfl (Nat.le_of_ble_eq_true rfl) dX2_dusk_14 ⟨Nat.zero_le _, Nat.zero_le _⟩ (fun H locs ws9 hW9 hP hD _ hS => ?_)
  obtain ⟨Z, rfl, hCF⟩ := hW9
  obtain ⟨v5, O6, hv5, h⟩ := bdO_some h
  refine call_BVE (As := [.int v3]) (rest := []) ⟨hx, hb, hml, hown, hts⟩ (tX2_finishChange (l := l) (dC := dC) (dI := dI) (cI := cI) (cB := cB) (cP := cP) (ad := ad) (base := base) (R := R) hv5 hCF) (cwV 1 hts gX2_dusk_X2_finishChange rfl rfl rfl (by decide +kernel) ⟨Nat.le_of_ble_eq_true rfl, Nat.le_of_ble_eq_true rfl⟩) hK hP hD hS (Nat.le_trans hbs hS.1) (fun U hU hW => Env_step rfl rfl hE hS hU hW) 0 rfl rfl (by rfl) hl.1 rfl (Nat.le_of_ble_eq_true rfl) dX2_dusk_17 ⟨Nat.zero_le _, Nat.zero_le _⟩ (fun H locs ws9 hW9 hP hD _ hS => ?_)
  obtain ⟨Z, rfl, hCF⟩ := hW9
  exact (W.iret hx hb hr (fun t ht _ => retO h hCF hP hD hS ht) hS.2.2 dX2_dusk_20)
def fX2_writePage_14 (N : Nat)  (K : OT)  : Option (Int32 × OT) := some ((-1), K)
def mX2_writePage (N : Nat) (K : OT) (p0 : Int32) (p1 : Int32) : Option (Int32 × OT) := bdP (mX2_isNoCamp N p0) (fun v1 => (if v1 = 0 then bdP (mX2_isNoLetter N p1) (fun v3 => (if v3 = 0 then rdA (K 0 3) 5 p0 (fun v5 => (if v5 = 0 then bdO (mX2_refuse N K 1 p0) (fun v23 O24 => some (v23, O24)) else rdA (K 0 2) 5 p0 (fun v8 => (if v8 = 0 then rdA (K 0 0) 5 p0 (fun v19 => bdO (mX2_refuse N K 2 v19) (fun v21 O22 => some (v21, O22))) else rdA (K 0 5) 5 p0 (fun v11 => (if v11 < 12 then bdE (mX0_addPage N (K 0) p0 p1) (fun v14 K15 => inO (oset K 0 K15) (fun O16 => some (v14, O16))) else bdO (mX2_refuse N K 3 12) (fun v17 O18 => some (v17, O18)))))))) else fX2_writePage_14 N  K )) else fX2_writePage_14 N  K ))
def rmX2_writePage : Room := { frames := 2, cells := 0, slots := 0, locals := 63 }
set_option maxHeartbeats 4000000 in
set_option maxRecDepth 100000 in
theorem tX2_writePage {l : Launch} {dC : Nat → ClassId} {dI : Nat → Nat → Nat} {cI cB cP : ClassId} {ad : Nat → Nat → Nat} {Z : Nat → Nat} {base : Nat} {R : va_W} {N : Nat} {K : OT} {p0 : Int32} {p1 : Int32} {rr : Int32} {KK : OT} (hf : mX2_writePage N K p0 p1 = some (rr, KK)) (hCF : OF Z K) : Met l yX2_writePage wsX2_writePage rmX2_writePage (cBp (dC, dI) vwCl [(cI, .int), (cB, .byte), (cP, .object RX0)] base (outW cI cB cP ad Z K ++ R) [.ref (ad 0 0), .int p0, .int p1]) (cBe (dC, dI) vwCl base (some (.int rr)) (fun ws => ∃ Z : Nat → Nat, ws = (outW cI cB cP ad Z KK ++ R) ∧ OF Z KK)) 0 0 (aB base) := by
  refine Met.ofW (cc := cX2_writePage) (maxL := 3) (ret := (some .int)) (by decide) rfl ?_
  intro p e s m args below meth c s₁ B hml hv
  obtain ⟨rfl, hP, hK, hD, hbs, hE⟩ := hv
  have hx := B.exec
  have hb := B.bytes
  have hr := B.returns
  have hts := atoms_spec (ws := wsX2_writePage) B.pre
  have hown : s.vm.findClass RX2 = some m.cls := findClass_of_methodNamed B.named
  have hlocks := B.notSynchronized
  have hf_10 := hts (.fieldLink RX2 10 "CaravanLogs" "now" "LCaravanLogs$Caravan;") (by decide +kernel)
  have hf_98 := hts (.fieldLink RX2 98 "CaravanLogs$Caravan" "term" "[I") (by decide +kernel)
  have hf_105 := hts (.fieldLink RX2 105 "CaravanLogs$Caravan" "isCaptain" "[I") (by decide +kernel)
  have hf_108 := hts (.fieldLink RX2 108 "CaravanLogs$Caravan" "isAwake" "[I") (by decide +kernel)
  have hf_111 := hts (.fieldLink RX2 111 "CaravanLogs$Caravan" "pages" "[I") (by decide +kernel)
  have hwX0 : ∀ w ∈ u_ws RX0 TX0 16, w ∈ wsX2_writePage := by decide +kernel
  have hwX2 : ∀ w ∈ u_ws RX2 TX2 14, w ∈ wsX2_writePage := by decide +kernel
  have hKI : va_K (dC, dI) vwCl [(cI, .int)] s := K_tys (fun x hx => by simp only [List.mem_cons, List.not_mem_nil, or_false] at hx ⊢; simp [hx]) hK
  have hKB : va_K (dC, dI) vwCl [(cB, .byte)] s := K_tys (fun x hx => by simp only [List.mem_cons, List.not_mem_nil, or_false] at hx ⊢; simp [hx]) hK
  have t_14 : ∀ {K : OT}  {H : Heap} {locs : List Loc} {Z : Nat → Nat} {ls : Array Slot} (h : fX2_writePage_14 N  K  = some (rr, KK)) (hl : lv_has ls 3 []) (hP : va_P (dC, dI) vwCl (outW cI cB cP ad Z K ++ R) H) (hD : va_D (aB base) (outW cI cB cP ad Z K ++ R)) (hS : va_S (aB base) s.heap H locs) (hCF : OF Z K), W p l e (headSpec wsX2_writePage rmX2_writePage).room s m ([.ref (ad 0 0), .int p0, .int p1] : List Value).toArray below meth c H locs 0 0 (MQ below (cBe (dC, dI) vwCl base (some (.int rr)) (fun ws => ∃ Z : Nat → Nat, ws = (outW cI cB cP ad Z KK ++ R) ∧ OF Z KK)) ([.ref (ad 0 0), .int p0, .int p1] : List Value).toArray s 0 0 (aB base)) (F0 m 14 ls []) := by
    intro  K H locs Z ls h hl hP hD hS hCF
    unfold fX2_writePage_14 at h
    refine lv_iconst (v := (-1)) hx hb dX2_writePage_14 (by decide) ?_
    exact (W.iret hx hb hr (fun t ht _ => retO h hCF hP hD hS ht) hS.2.2 dX2_writePage_15)
  have hS : va_S (aB base) s.heap s.heap [] := va_S.rf
  have hl := lv_entry ([.ref (ad 0 0), .int p0, .int p1]) (n := 3) (Nat.le_of_ble_eq_true rfl)
  rw [lg_entry_eq]
  generalize (lg_sl ([.ref (ad 0 0), .int p0, .int p1]) ++ List.replicate (3 - (lg_sl ([.ref (ad 0 0), .int p0, .int p1])).length) Slot.unset).toArray = ls at hl ⊢
  have hl : lv_has ls 3 [(0, .ref (ad 0 0)), (1, .int p0), (2, .int p1)] := hl
  have h := hf
  unfold mX2_writePage at h
  refine lv_iload_n hx hb dX2_writePage_0 rfl (lv_at hl 1 rfl) ?_
  obtain ⟨v1, hv1, h⟩ := bdP_some h
  refine call_SP (As := [.int p0]) (rest := []) ⟨hx, hb, hml, hown, hts⟩ (tX2_isNoCamp (l := l) hv1) (va_cwS 1 hts gX2_writePage_X2_isNoCamp rfl rfl rfl (by decide +kernel) ⟨Nat.le_of_ble_eq_true rfl, Nat.le_of_ble_eq_true rfl⟩) (by rfl) hl.1 rfl (Nat.le_of_ble_eq_true rfl) dX2_writePage_1 ⟨Nat.zero_le _, Nat.zero_le _⟩ ?_
  refine lv_if_ne (tgt := 14) hx hb dX2_writePage_4 (by decide) (fun c2 => ?_) (fun c2 => ?_)
  · replace h := if_n c2 h
    exact t_14  h (lv_sub hl [] rfl) hP hD hS hCF
  · replace h := if_p c2 h
    refine lv_iload_n hx hb dX2_writePage_7 rfl (lv_at hl 2 rfl) ?_
    obtain ⟨v3, hv3, h⟩ := bdP_some h
    refine call_SP (As := [.int p1]) (rest := []) ⟨hx, hb, hml, hown, hts⟩ (tX2_isNoLetter (l := l) hv3) (va_cwS 1 hts gX2_writePage_X2_isNoLetter rfl rfl rfl (by decide +kernel) ⟨Nat.le_of_ble_eq_true rfl, Nat.le_of_ble_eq_true rfl⟩) (by rfl) hl.1 rfl (Nat.le_of_ble_eq_true rfl) dX2_writePage_8 ⟨Nat.zero_le _, Nat.zero_le _⟩ ?_
    refine lv_if_eq (tgt := 16) hx hb dX2_writePage_11 (by decide) (fun c4 => ?_) (fun c4 => ?_)
    · replace h := if_p c4 h
      refine lv_aload_n hx hb dX2_writePage_16 rfl (lv_at hl 0 rfl) ?_
      refine va_get (D := (dC, dI)) (ci := 3) (v := .ref (ad 1 0)) (C := RX2) (T := TX2) (N := 14) hx hb hts hwX2 hown hK hP 0 rfl rfl 0 (by decide) hf_10 (fun _ h9 => h9) rfl dX2_writePage_17 ?_
      refine va_get (D := (dC, dI)) (ci := 1) (v := .ref (ad 1 4)) (C := RX0) (T := TX0) (N := 16) hx hb hts hwX0 hown hK hP 7 rfl rfl 3 (by decide) hf_108 (fun _ h9 => h9) rfl dX2_writePage_20 ?_
      refine lv_iload_n hx hb dX2_writePage_23 rfl (lv_at hl 1 rfl) ?_
      obtain ⟨hi6, v5, ev5, h⟩ := rdA_some h
      refine k_iald hx hb hK hP 11 0 rfl rfl hi6 ev5 dX2_writePage_24 ?_
      refine lv_if_ne (tgt := 35) hx hb dX2_writePage_25 (by decide) (fun c7 => ?_) (fun c7 => ?_)
      · replace h := if_n c7 h
        refine lv_aload_n hx hb dX2_writePage_35 rfl (lv_at hl 0 rfl) ?_
        refine va_get (D := (dC, dI)) (ci := 3) (v := .ref (ad 1 0)) (C := RX2) (T := TX2) (N := 14) hx hb hts hwX2 hown hK hP 0 rfl rfl 0 (by decide) hf_10 (fun _ h9 => h9) rfl dX2_writePage_36 ?_
        refine va_get (D := (dC, dI)) (ci := 1) (v := .ref (ad 1 3)) (C := RX0) (T := TX0) (N := 16) hx hb hts hwX0 hown hK hP 7 rfl rfl 2 (by decide) hf_105 (fun _ h9 => h9) rfl dX2_writePage_39 ?_
        refine lv_iload_n hx hb dX2_writePage_42 rfl (lv_at hl 1 rfl) ?_
        obtain ⟨hi9, v8, ev8, h⟩ := rdA_some h
        refine k_iald hx hb hK hP 10 0 rfl rfl hi9 ev8 dX2_writePage_43 ?_
        refine lv_if_ne (tgt := 62) hx hb dX2_writePage_44 (by decide) (fun c10 => ?_) (fun c10 => ?_)
        · replace h := if_n c10 h
          refine lv_aload_n hx hb dX2_writePage_62 rfl (lv_at hl 0 rfl) ?_
          refine va_get (D := (dC, dI)) (ci := 3) (v := .ref (ad 1 0)) (C := RX2) (T := TX2) (N := 14) hx hb hts hwX2 hown hK hP 0 rfl rfl 0 (by decide) hf_10 (fun _ h9 => h9) rfl dX2_writePage_63 ?_
          refine va_get (D := (dC, dI)) (ci := 1) (v := .ref (ad 1 6)) (C := RX0) (T := TX0) (N := 16) hx hb hts hwX0 hown hK hP 7 rfl rfl 5 (by decide) hf_111 (fun _ h9 => h9) rfl dX2_writePage_66 ?_
          refine lv_iload_n hx hb dX2_writePage_69 rfl (lv_at hl 1 rfl) ?_
          obtain ⟨hi12, v11, ev11, h⟩ := rdA_some h
          refine k_iald hx hb hK hP 13 0 rfl rfl hi12 ev11 dX2_writePage_70 ?_
          refine lv_bipush (v := 12) hx hb dX2_writePage_71 (by decide) ?_
          refine lv_icmp_lt (tgt := 84) hx hb dX2_writePage_73 (by decide) (fun c13 => ?_) (fun c13 => ?_)
          · replace h := if_p c13 h
            refine lv_aload_n hx hb dX2_writePage_84 rfl (lv_at hl 0 rfl) ?_
            refine va_get (D := (dC, dI)) (ci := 3) (v := .ref (ad 1 0)) (C := RX2) (T := TX2) (N := 14) hx hb hts hwX2 hown hK hP 0 rfl rfl 0 (by decide) hf_10 (fun _ h9 => h9) rfl dX2_writePage_85 ?_
            refine lv_iload_n hx hb dX2_writePage_88 rfl (lv_at hl 1 rfl) ?_
            refine lv_iload_n hx hb dX2_writePage_89 rfl (lv_at hl 2 rfl) ?_
            obtain ⟨v14, K15, hv14, h⟩ := bdE_some h
            obtain ⟨O16, eO16, h⟩ := inO_some h
            obtain ⟨o1, o2, o3⟩ := o_in 0 (by decide) hP hD
            refine call_VE (As := [.int p0, .int p1]) (rest := []) ⟨hx, hb, hml, hown, hts⟩ (tX0_addPage (l := l) (dC := dC) (dI := dI) (cI := cI) (ob := ad (1 + 0) 0) (q := fun f => ad (1 + 0) (1 + f)) hv14) (cwV 2 hts gX2_writePage_X0_addPage rfl rfl rfl (by decide +kernel) ⟨Nat.le_of_ble_eq_true rfl, Nat.le_of_ble_eq_true rfl⟩) hKI o1 o2 hS o3 0 rfl rfl (by rfl) hl.1 rfl (Nat.le_of_ble_eq_true rfl) dX2_writePage_90 ⟨Nat.zero_le _, Nat.zero_le _⟩ (fun H locs hP9 hD9 hk9 hS => ?_)
            have hP8 := o_back 0 (by decide) hP hD hP9 hk9.2
            have hP := hP8.1
            have hD := hP8.2
            have hP : va_P (dC, dI) vwCl (outW cI cB cP ad Z O16 ++ R) H := by rw [eO16]; exact hP
            have hD : va_D (aB base) (outW cI cB cP ad Z O16 ++ R) := by rw [eO16]; exact hD
            have hCF : OF Z O16 := by rw [eO16]; exact OF_set hCF (by decide)
            exact (W.iret hx hb hr (fun t ht _ => retO h hCF hP hD hS ht) hS.2.2 dX2_writePage_93)
          · replace h := if_n c13 h
            refine lv_aload_n hx hb dX2_writePage_76 rfl (lv_at hl 0 rfl) ?_
            refine lv_iconst (v := 3) hx hb dX2_writePage_77 (by decide) ?_
            refine lv_bipush (v := 12) hx hb dX2_writePage_78 (by decide) ?_
            obtain ⟨v17, O18, hv17, h⟩ := bdO_some h
            refine call_BVE (As := [.int 3, .int 12]) (rest := []) ⟨hx, hb, hml, hown, hts⟩ (tX2_refuse (l := l) (dC := dC) (dI := dI) (cI := cI) (cB := cB) (cP := cP) (ad := ad) (base := base) (R := R) hv17 hCF) (cwV 2 hts gX2_writePage_X2_refuse rfl rfl rfl (by decide +kernel) ⟨Nat.le_of_ble_eq_true rfl, Nat.le_of_ble_eq_true rfl⟩) hK hP hD hS (Nat.le_trans hbs hS.1) (fun U hU hW => Env_step rfl rfl hE hS hU hW) 0 rfl rfl (by rfl) hl.1 rfl (Nat.le_of_ble_eq_true rfl) dX2_writePage_80 ⟨Nat.zero_le _, Nat.zero_le _⟩ (fun H locs ws9 hW9 hP hD _ hS => ?_)
            obtain ⟨Z, rfl, hCF⟩ := hW9
            exact (W.iret hx hb hr (fun t ht _ => retO h hCF hP hD hS ht) hS.2.2 dX2_writePage_83)
        · replace h := if_p c10 h
          refine lv_aload_n hx hb dX2_writePage_47 rfl (lv_at hl 0 rfl) ?_
          refine lv_iconst (v := 2) hx hb dX2_writePage_48 (by decide) ?_
          refine lv_aload_n hx hb dX2_writePage_49 rfl (lv_at hl 0 rfl) ?_
          refine va_get (D := (dC, dI)) (ci := 3) (v := .ref (ad 1 0)) (C := RX2) (T := TX2) (N := 14) hx hb hts hwX2 hown hK hP 0 rfl rfl 0 (by decide) hf_10 (fun _ h9 => h9) rfl dX2_writePage_50 ?_
          refine va_get (D := (dC, dI)) (ci := 1) (v := .ref (ad 1 1)) (C := RX0) (T := TX0) (N := 16) hx hb hts hwX0 hown hK hP 7 rfl rfl 0 (by decide) hf_98 (fun _ h9 => h9) rfl dX2_writePage_53 ?_
          refine lv_iload_n hx hb dX2_writePage_56 rfl (lv_at hl 1 rfl) ?_
          obtain ⟨hi20, v19, ev19, h⟩ := rdA_some h
          refine k_iald hx hb hK hP 8 0 rfl rfl hi20 ev19 dX2_writePage_57 ?_
          obtain ⟨v21, O22, hv21, h⟩ := bdO_some h
          refine call_BVE (As := [.int 2, .int v19]) (rest := []) ⟨hx, hb, hml, hown, hts⟩ (tX2_refuse (l := l) (dC := dC) (dI := dI) (cI := cI) (cB := cB) (cP := cP) (ad := ad) (base := base) (R := R) hv21 hCF) (cwV 2 hts gX2_writePage_X2_refuse rfl rfl rfl (by decide +kernel) ⟨Nat.le_of_ble_eq_true rfl, Nat.le_of_ble_eq_true rfl⟩) hK hP hD hS (Nat.le_trans hbs hS.1) (fun U hU hW => Env_step rfl rfl hE hS hU hW) 0 rfl rfl (by rfl) hl.1 rfl (Nat.le_of_ble_eq_true rfl) dX2_writePage_58 ⟨Nat.zero_le _, Nat.zero_le _⟩ (fun H locs ws9 hW9 hP hD _ hS => ?_)
          obtain ⟨Z, rfl, hCF⟩ := hW9
          exact (W.iret hx hb hr (fun t ht _ => retO h hCF hP hD hS ht) hS.2.2 dX2_writePage_61)
      · replace h := if_p c7 h
        refine lv_aload_n hx hb dX2_writePage_28 rfl (lv_at hl 0 rfl) ?_
        refine lv_iconst (v := 1) hx hb dX2_writePage_29 (by decide) ?_
        refine lv_iload_n hx hb dX2_writePage_30 rfl (lv_at hl 1 rfl) ?_
        obtain ⟨v23, O24, hv23, h⟩ := bdO_some h
        refine call_BVE (As := [.int 1, .int p0]) (rest := []) ⟨hx, hb, hml, hown, hts⟩ (tX2_refuse (l := l) (dC := dC) (dI := dI) (cI := cI) (cB := cB) (cP := cP) (ad := ad) (base := base) (R := R) hv23 hCF) (cwV 2 hts gX2_writePage_X2_refuse rfl rfl rfl (by decide +kernel) ⟨Nat.le_of_ble_eq_true rfl, Nat.le_of_ble_eq_true rfl⟩) hK hP hD hS (Nat.le_trans hbs hS.1) (fun U hU hW => Env_step rfl rfl hE hS hU hW) 0 rfl rfl (by rfl) hl.1 rfl (Nat.le_of_ble_eq_true rfl) dX2_writePage_31 ⟨Nat.zero_le _, Nat.zero_le _⟩ (fun H locs ws9 hW9 hP hD _ hS => ?_)
        obtain ⟨Z, rfl, hCF⟩ := hW9
        exact (W.iret hx hb hr (fun t ht _ => retO h hCF hP hD hS ht) hS.2.2 dX2_writePage_34)
    · replace h := if_n c4 h
      exact t_14  h (lv_sub hl [] rfl) hP hD hS hCF
def mX2_write (N : Nat) (K : OT) (p0 : Int32) (p1 : Int32) : Option (Int32 × OT) := inO (oset K 1 (K 0)) (fun O2 => bdO (mX2_writePage N O2 p0 p1) (fun v3 O4 => bdO (mX2_finishChange N O4 v3) (fun v5 O6 => some (v5, O6))))
def rmX2_write : Room := { frames := 3, cells := 0, slots := 0, locals := 103 }
set_option maxHeartbeats 4000000 in
set_option maxRecDepth 100000 in
theorem tX2_write {l : Launch} {dC : Nat → ClassId} {dI : Nat → Nat → Nat} {cI cB cP : ClassId} {ad : Nat → Nat → Nat} {Z : Nat → Nat} {base : Nat} {R : va_W} {N : Nat} {K : OT} {p0 : Int32} {p1 : Int32} {rr : Int32} {KK : OT} (hf : mX2_write N K p0 p1 = some (rr, KK)) (hCF : OF Z K) : Met l yX2_write wsX2_write rmX2_write (cBp (dC, dI) vwCl [(cI, .int), (cB, .byte), (cP, .object RX0)] base (outW cI cB cP ad Z K ++ R) [.ref (ad 0 0), .int p0, .int p1]) (cBe (dC, dI) vwCl base (some (.int rr)) (fun ws => ∃ Z : Nat → Nat, ws = (outW cI cB cP ad Z KK ++ R) ∧ OF Z KK)) 0 0 (aB base) := by
  refine Met.ofW (cc := cX2_write) (maxL := 3) (ret := (some .int)) (by decide) rfl ?_
  intro p e s m args below meth c s₁ B hml hv
  obtain ⟨rfl, hP, hK, hD, hbs, hE⟩ := hv
  have hx := B.exec
  have hb := B.bytes
  have hr := B.returns
  have hts := atoms_spec (ws := wsX2_write) B.pre
  have hown : s.vm.findClass RX2 = some m.cls := findClass_of_methodNamed B.named
  have hlocks := B.notSynchronized
  have hf_10 := hts (.fieldLink RX2 10 "CaravanLogs" "now" "LCaravanLogs$Caravan;") (by decide +kernel)
  have hf_16 := hts (.fieldLink RX2 16 "CaravanLogs" "before" "LCaravanLogs$Caravan;") (by decide +kernel)
  have hwX2 : ∀ w ∈ u_ws RX2 TX2 14, w ∈ wsX2_write := by decide +kernel
  have hKI : va_K (dC, dI) vwCl [(cI, .int)] s := K_tys (fun x hx => by simp only [List.mem_cons, List.not_mem_nil, or_false] at hx ⊢; simp [hx]) hK
  have hKB : va_K (dC, dI) vwCl [(cB, .byte)] s := K_tys (fun x hx => by simp only [List.mem_cons, List.not_mem_nil, or_false] at hx ⊢; simp [hx]) hK
  have hS : va_S (aB base) s.heap s.heap [] := va_S.rf
  have hl := lv_entry ([.ref (ad 0 0), .int p0, .int p1]) (n := 3) (Nat.le_of_ble_eq_true rfl)
  rw [lg_entry_eq]
  generalize (lg_sl ([.ref (ad 0 0), .int p0, .int p1]) ++ List.replicate (3 - (lg_sl ([.ref (ad 0 0), .int p0, .int p1])).length) Slot.unset).toArray = ls at hl ⊢
  have hl : lv_has ls 3 [(0, .ref (ad 0 0)), (1, .int p0), (2, .int p1)] := hl
  have h := hf
  unfold mX2_write at h
  refine lv_aload_n hx hb dX2_write_0 rfl (lv_at hl 0 rfl) ?_
  refine va_get (D := (dC, dI)) (ci := 3) (v := .ref (ad 2 0)) (C := RX2) (T := TX2) (N := 14) hx hb hts hwX2 hown hK hP 0 rfl rfl 1 (by decide) hf_16 (fun _ h9 => h9) rfl dX2_write_1 ?_
  refine lv_aload_n hx hb dX2_write_4 rfl (lv_at hl 0 rfl) ?_
  refine va_get (D := (dC, dI)) (ci := 3) (v := .ref (ad 1 0)) (C := RX2) (T := TX2) (N := 14) hx hb hts hwX2 hown hK hP 0 rfl rfl 0 (by decide) hf_10 (fun _ h9 => h9) rfl dX2_write_5 ?_
  obtain ⟨O2, eO2, h⟩ := inO_some h
  refine call_copy (rest := []) (j := 1) (i := 0) (Rr := R) (O := K) ⟨hx, hb, hml, hown, hts⟩ (by decide) (by decide) (by decide) (tX0_copyFrom (l := l) (dC := dC) (dI := dI) (cI := cI) (ob := ad (1 + 1) 0) (ob2 := ad (1 + 0) 0) (q := fun f => ad (1 + 1) (1 + f)) (q2 := fun f => ad (1 + 0) (1 + f)) (K := K 1) (J := K 0)) (cwV 1 hts gX2_write_X0_copyFrom rfl rfl rfl (by decide +kernel) ⟨Nat.le_of_ble_eq_true rfl, Nat.le_of_ble_eq_true rfl⟩) hKI hP hD hS rfl hl.1 rfl (Nat.le_of_ble_eq_true rfl) dX2_write_8 ⟨Nat.zero_le _, Nat.zero_le _⟩ (fun H locs hP hD hS => ?_)
  have hP : va_P (dC, dI) vwCl (outW cI cB cP ad Z O2 ++ R) H := by rw [eO2]; exact hP
  have hD : va_D (aB base) (outW cI cB cP ad Z O2 ++ R) := by rw [eO2]; exact hD
  have hCF : OF Z O2 := by rw [eO2]; exact OF_set hCF (by decide)
  refine lv_aload_n hx hb dX2_write_11 rfl (lv_at hl 0 rfl) ?_
  refine lv_aload_n hx hb dX2_write_12 rfl (lv_at hl 0 rfl) ?_
  refine lv_iload_n hx hb dX2_write_13 rfl (lv_at hl 1 rfl) ?_
  refine lv_iload_n hx hb dX2_write_14 rfl (lv_at hl 2 rfl) ?_
  obtain ⟨v3, O4, hv3, h⟩ := bdO_some h
  refine call_BVE (As := [.int p0, .int p1]) (rest := [.ref (ad 0 0)]) ⟨hx, hb, hml, hown, hts⟩ (tX2_writePage (l := l) (dC := dC) (dI := dI) (cI := cI) (cB := cB) (cP := cP) (ad := ad) (base := base) (R := R) hv3 hCF) (cwV 2 hts gX2_write_X2_writePage rfl rfl rfl (by decide +kernel) ⟨Nat.le_of_ble_eq_true rfl, Nat.le_of_ble_eq_true rfl⟩) hK hP hD hS (Nat.le_trans hbs hS.1) (fun U hU hW => Env_step rfl rfl hE hS hU hW) 0 rfl rfl (by rfl) hl.1 rfl (Nat.le_of_ble_eq_true rfl) dX2_write_15 ⟨Nat.zero_le _, Nat.zero_le _⟩ (fun H locs ws9 hW9 hP hD _ hS => ?_)
  obtain ⟨Z, rfl, hCF⟩ := hW9
  obtain ⟨v5, O6, hv5, h⟩ := bdO_some h
  refine call_BVE (As := [.int v3]) (rest := []) ⟨hx, hb, hml, hown, hts⟩ (tX2_finishChange (l := l) (dC := dC) (dI := dI) (cI := cI) (cB := cB) (cP := cP) (ad := ad) (base := base) (R := R) hv5 hCF) (cwV 1 hts gX2_write_X2_finishChange rfl rfl rfl (by decide +kernel) ⟨Nat.le_of_ble_eq_true rfl, Nat.le_of_ble_eq_true rfl⟩) hK hP hD hS (Nat.le_trans hbs hS.1) (fun U hU hW => Env_step rfl rfl hE hS hU hW) 0 rfl rfl (by rfl) hl.1 rfl (Nat.le_of_ble_eq_true rfl) dX2_write_18 ⟨Nat.zero_le _, Nat.zero_le _⟩ (fun H locs ws9 hW9 hP hD _ hS => ?_)
  obtain ⟨Z, rfl, hCF⟩ := hW9
  exact (W.iret hx hb hr (fun t ht _ => retO h hCF hP hD hS ht) hS.2.2 dX2_write_21)
def mX2_sendCaptain (N : Nat) (K : OT) (p0 : Int32) : Option (Int32 × OT) := bdP (mX2_isNoCamp N p0) (fun v1 => (if v1 = 0 then rdA (K 0 3) 5 p0 (fun v3 => (if v3 = 0 then bdO (mX2_refuse N K 1 p0) (fun v18 O19 => some (v18, O19)) else rdA (K 0 2) 5 p0 (fun v6 => (if v6 = 0 then rdA (K 0 0) 5 p0 (fun v14 => bdO (mX2_refuse N K 2 v14) (fun v16 O17 => some (v16, O17))) else bdE (mX0_goRound N (K 0) p0) (fun v9 K10 => inO (oset K 0 K10) (fun O11 => rdA (O11 0 6) 5 p0 (fun v12 => some (v12, O11)))))))) else some ((-1), K)))
def rmX2_sendCaptain : Room := { frames := 4, cells := 0, slots := 0, locals := 113 }
set_option maxHeartbeats 4000000 in
set_option maxRecDepth 100000 in
theorem tX2_sendCaptain {l : Launch} {dC : Nat → ClassId} {dI : Nat → Nat → Nat} {cI cB cP : ClassId} {ad : Nat → Nat → Nat} {Z : Nat → Nat} {base : Nat} {R : va_W} {N : Nat} {K : OT} {p0 : Int32} {rr : Int32} {KK : OT} (hf : mX2_sendCaptain N K p0 = some (rr, KK)) (hCF : OF Z K) : Met l yX2_sendCaptain wsX2_sendCaptain rmX2_sendCaptain (cBp (dC, dI) vwCl [(cI, .int), (cB, .byte), (cP, .object RX0)] base (outW cI cB cP ad Z K ++ R) [.ref (ad 0 0), .int p0]) (cBe (dC, dI) vwCl base (some (.int rr)) (fun ws => ∃ Z : Nat → Nat, ws = (outW cI cB cP ad Z KK ++ R) ∧ OF Z KK)) 0 0 (aB base) := by
  refine Met.ofW (cc := cX2_sendCaptain) (maxL := 2) (ret := (some .int)) (by decide) rfl ?_
  intro p e s m args below meth c s₁ B hml hv
  obtain ⟨rfl, hP, hK, hD, hbs, hE⟩ := hv
  have hx := B.exec
  have hb := B.bytes
  have hr := B.returns
  have hts := atoms_spec (ws := wsX2_sendCaptain) B.pre
  have hown : s.vm.findClass RX2 = some m.cls := findClass_of_methodNamed B.named
  have hlocks := B.notSynchronized
  have hf_10 := hts (.fieldLink RX2 10 "CaravanLogs" "now" "LCaravanLogs$Caravan;") (by decide +kernel)
  have hf_98 := hts (.fieldLink RX2 98 "CaravanLogs$Caravan" "term" "[I") (by decide +kernel)
  have hf_105 := hts (.fieldLink RX2 105 "CaravanLogs$Caravan" "isCaptain" "[I") (by decide +kernel)
  have hf_108 := hts (.fieldLink RX2 108 "CaravanLogs$Caravan" "isAwake" "[I") (by decide +kernel)
  have hf_114 := hts (.fieldLink RX2 114 "CaravanLogs$Caravan" "settled" "[I") (by decide +kernel)
  have hwX0 : ∀ w ∈ u_ws RX0 TX0 16, w ∈ wsX2_sendCaptain := by decide +kernel
  have hwX2 : ∀ w ∈ u_ws RX2 TX2 14, w ∈ wsX2_sendCaptain := by decide +kernel
  have hKI : va_K (dC, dI) vwCl [(cI, .int)] s := K_tys (fun x hx => by simp only [List.mem_cons, List.not_mem_nil, or_false] at hx ⊢; simp [hx]) hK
  have hKB : va_K (dC, dI) vwCl [(cB, .byte)] s := K_tys (fun x hx => by simp only [List.mem_cons, List.not_mem_nil, or_false] at hx ⊢; simp [hx]) hK
  have hS : va_S (aB base) s.heap s.heap [] := va_S.rf
  have hl := lv_entry ([.ref (ad 0 0), .int p0]) (n := 2) (Nat.le_of_ble_eq_true rfl)
  rw [lg_entry_eq]
  generalize (lg_sl ([.ref (ad 0 0), .int p0]) ++ List.replicate (2 - (lg_sl ([.ref (ad 0 0), .int p0])).length) Slot.unset).toArray = ls at hl ⊢
  have hl : lv_has ls 2 [(0, .ref (ad 0 0)), (1, .int p0)] := hl
  have h := hf
  unfold mX2_sendCaptain at h
  refine lv_iload_n hx hb dX2_sendCaptain_0 rfl (lv_at hl 1 rfl) ?_
  obtain ⟨v1, hv1, h⟩ := bdP_some h
  refine call_SP (As := [.int p0]) (rest := []) ⟨hx, hb, hml, hown, hts⟩ (tX2_isNoCamp (l := l) hv1) (va_cwS 1 hts gX2_sendCaptain_X2_isNoCamp rfl rfl rfl (by decide +kernel) ⟨Nat.le_of_ble_eq_true rfl, Nat.le_of_ble_eq_true rfl⟩) (by rfl) hl.1 rfl (Nat.le_of_ble_eq_true rfl) dX2_sendCaptain_1 ⟨Nat.zero_le _, Nat.zero_le _⟩ ?_
  refine lv_if_eq (tgt := 9) hx hb dX2_sendCaptain_4 (by decide) (fun c2 => ?_) (fun c2 => ?_)
  · replace h := if_p c2 h
    refine lv_aload_n hx hb dX2_sendCaptain_9 rfl (lv_at hl 0 rfl) ?_
    refine va_get (D := (dC, dI)) (ci := 3) (v := .ref (ad 1 0)) (C := RX2) (T := TX2) (N := 14) hx hb hts hwX2 hown hK hP 0 rfl rfl 0 (by decide) hf_10 (fun _ h9 => h9) rfl dX2_sendCaptain_10 ?_
    refine va_get (D := (dC, dI)) (ci := 1) (v := .ref (ad 1 4)) (C := RX0) (T := TX0) (N := 16) hx hb hts hwX0 hown hK hP 7 rfl rfl 3 (by decide) hf_108 (fun _ h9 => h9) rfl dX2_sendCaptain_13 ?_
    refine lv_iload_n hx hb dX2_sendCaptain_16 rfl (lv_at hl 1 rfl) ?_
    obtain ⟨hi4, v3, ev3, h⟩ := rdA_some h
    refine k_iald hx hb hK hP 11 0 rfl rfl hi4 ev3 dX2_sendCaptain_17 ?_
    refine lv_if_ne (tgt := 28) hx hb dX2_sendCaptain_18 (by decide) (fun c5 => ?_) (fun c5 => ?_)
    · replace h := if_n c5 h
      refine lv_aload_n hx hb dX2_sendCaptain_28 rfl (lv_at hl 0 rfl) ?_
      refine va_get (D := (dC, dI)) (ci := 3) (v := .ref (ad 1 0)) (C := RX2) (T := TX2) (N := 14) hx hb hts hwX2 hown hK hP 0 rfl rfl 0 (by decide) hf_10 (fun _ h9 => h9) rfl dX2_sendCaptain_29 ?_
      refine va_get (D := (dC, dI)) (ci := 1) (v := .ref (ad 1 3)) (C := RX0) (T := TX0) (N := 16) hx hb hts hwX0 hown hK hP 7 rfl rfl 2 (by decide) hf_105 (fun _ h9 => h9) rfl dX2_sendCaptain_32 ?_
      refine lv_iload_n hx hb dX2_sendCaptain_35 rfl (lv_at hl 1 rfl) ?_
      obtain ⟨hi7, v6, ev6, h⟩ := rdA_some h
      refine k_iald hx hb hK hP 10 0 rfl rfl hi7 ev6 dX2_sendCaptain_36 ?_
      refine lv_if_ne (tgt := 55) hx hb dX2_sendCaptain_37 (by decide) (fun c8 => ?_) (fun c8 => ?_)
      · replace h := if_n c8 h
        refine lv_aload_n hx hb dX2_sendCaptain_55 rfl (lv_at hl 0 rfl) ?_
        refine va_get (D := (dC, dI)) (ci := 3) (v := .ref (ad 1 0)) (C := RX2) (T := TX2) (N := 14) hx hb hts hwX2 hown hK hP 0 rfl rfl 0 (by decide) hf_10 (fun _ h9 => h9) rfl dX2_sendCaptain_56 ?_
        refine lv_iload_n hx hb dX2_sendCaptain_59 rfl (lv_at hl 1 rfl) ?_
        obtain ⟨v9, K10, hv9, h⟩ := bdE_some h
        obtain ⟨O11, eO11, h⟩ := inO_some h
        obtain ⟨o1, o2, o3⟩ := o_in 0 (by decide) hP hD
        refine call_VEv (As := [.int p0]) (rest := []) ⟨hx, hb, hml, hown, hts⟩ (tX0_goRound (l := l) (dC := dC) (dI := dI) (cI := cI) (ob := ad (1 + 0) 0) (q := fun f => ad (1 + 0) (1 + f)) hv9) (cwV 1 hts gX2_sendCaptain_X0_goRound rfl rfl rfl (by decide +kernel) ⟨Nat.le_of_ble_eq_true rfl, Nat.le_of_ble_eq_true rfl⟩) hKI o1 o2 hS o3 0 rfl rfl (by rfl) hl.1 rfl (Nat.le_of_ble_eq_true rfl) dX2_sendCaptain_60 ⟨Nat.zero_le _, Nat.zero_le _⟩ (fun H locs hP9 hD9 hk9 hS => ?_)
        have hP8 := o_back 0 (by decide) hP hD hP9 hk9.2
        have hP := hP8.1
        have hD := hP8.2
        have hP : va_P (dC, dI) vwCl (outW cI cB cP ad Z O11 ++ R) H := by rw [eO11]; exact hP
        have hD : va_D (aB base) (outW cI cB cP ad Z O11 ++ R) := by rw [eO11]; exact hD
        have hCF : OF Z O11 := by rw [eO11]; exact OF_set hCF (by decide)
        refine lv_aload_n hx hb dX2_sendCaptain_63 rfl (lv_at hl 0 rfl) ?_
        refine va_get (D := (dC, dI)) (ci := 3) (v := .ref (ad 1 0)) (C := RX2) (T := TX2) (N := 14) hx hb hts hwX2 hown hK hP 0 rfl rfl 0 (by decide) hf_10 (fun _ h9 => h9) rfl dX2_sendCaptain_64 ?_
        refine va_get (D := (dC, dI)) (ci := 1) (v := .ref (ad 1 7)) (C := RX0) (T := TX0) (N := 16) hx hb hts hwX0 hown hK hP 7 rfl rfl 6 (by decide) hf_114 (fun _ h9 => h9) rfl dX2_sendCaptain_67 ?_
        refine lv_iload_n hx hb dX2_sendCaptain_70 rfl (lv_at hl 1 rfl) ?_
        obtain ⟨hi13, v12, ev12, h⟩ := rdA_some h
        refine k_iald hx hb hK hP 14 0 rfl rfl hi13 ev12 dX2_sendCaptain_71 ?_
        exact (W.iret hx hb hr (fun t ht _ => retO h hCF hP hD hS ht) hS.2.2 dX2_sendCaptain_72)
      · replace h := if_p c8 h
        refine lv_aload_n hx hb dX2_sendCaptain_40 rfl (lv_at hl 0 rfl) ?_
        refine lv_iconst (v := 2) hx hb dX2_sendCaptain_41 (by decide) ?_
        refine lv_aload_n hx hb dX2_sendCaptain_42 rfl (lv_at hl 0 rfl) ?_
        refine va_get (D := (dC, dI)) (ci := 3) (v := .ref (ad 1 0)) (C := RX2) (T := TX2) (N := 14) hx hb hts hwX2 hown hK hP 0 rfl rfl 0 (by decide) hf_10 (fun _ h9 => h9) rfl dX2_sendCaptain_43 ?_
        refine va_get (D := (dC, dI)) (ci := 1) (v := .ref (ad 1 1)) (C := RX0) (T := TX0) (N := 16) hx hb hts hwX0 hown hK hP 7 rfl rfl 0 (by decide) hf_98 (fun _ h9 => h9) rfl dX2_sendCaptain_46 ?_
        refine lv_iload_n hx hb dX2_sendCaptain_49 rfl (lv_at hl 1 rfl) ?_
        obtain ⟨hi15, v14, ev14, h⟩ := rdA_some h
        refine k_iald hx hb hK hP 8 0 rfl rfl hi15 ev14 dX2_sendCaptain_50 ?_
        obtain ⟨v16, O17, hv16, h⟩ := bdO_some h
        refine call_BVE (As := [.int 2, .int v14]) (rest := []) ⟨hx, hb, hml, hown, hts⟩ (tX2_refuse (l := l) (dC := dC) (dI := dI) (cI := cI) (cB := cB) (cP := cP) (ad := ad) (base := base) (R := R) hv16 hCF) (cwV 2 hts gX2_sendCaptain_X2_refuse rfl rfl rfl (by decide +kernel) ⟨Nat.le_of_ble_eq_true rfl, Nat.le_of_ble_eq_true rfl⟩) hK hP hD hS (Nat.le_trans hbs hS.1) (fun U hU hW => Env_step rfl rfl hE hS hU hW) 0 rfl rfl (by rfl) hl.1 rfl (Nat.le_of_ble_eq_true rfl) dX2_sendCaptain_51 ⟨Nat.zero_le _, Nat.zero_le _⟩ (fun H locs ws9 hW9 hP hD _ hS => ?_)
        obtain ⟨Z, rfl, hCF⟩ := hW9
        exact (W.iret hx hb hr (fun t ht _ => retO h hCF hP hD hS ht) hS.2.2 dX2_sendCaptain_54)
    · replace h := if_p c5 h
      refine lv_aload_n hx hb dX2_sendCaptain_21 rfl (lv_at hl 0 rfl) ?_
      refine lv_iconst (v := 1) hx hb dX2_sendCaptain_22 (by decide) ?_
      refine lv_iload_n hx hb dX2_sendCaptain_23 rfl (lv_at hl 1 rfl) ?_
      obtain ⟨v18, O19, hv18, h⟩ := bdO_some h
      refine call_BVE (As := [.int 1, .int p0]) (rest := []) ⟨hx, hb, hml, hown, hts⟩ (tX2_refuse (l := l) (dC := dC) (dI := dI) (cI := cI) (cB := cB) (cP := cP) (ad := ad) (base := base) (R := R) hv18 hCF) (cwV 2 hts gX2_sendCaptain_X2_refuse rfl rfl rfl (by decide +kernel) ⟨Nat.le_of_ble_eq_true rfl, Nat.le_of_ble_eq_true rfl⟩) hK hP hD hS (Nat.le_trans hbs hS.1) (fun U hU hW => Env_step rfl rfl hE hS hU hW) 0 rfl rfl (by rfl) hl.1 rfl (Nat.le_of_ble_eq_true rfl) dX2_sendCaptain_24 ⟨Nat.zero_le _, Nat.zero_le _⟩ (fun H locs ws9 hW9 hP hD _ hS => ?_)
      obtain ⟨Z, rfl, hCF⟩ := hW9
      exact (W.iret hx hb hr (fun t ht _ => retO h hCF hP hD hS ht) hS.2.2 dX2_sendCaptain_27)
  · replace h := if_n c2 h
    refine lv_iconst (v := (-1)) hx hb dX2_sendCaptain_7 (by decide) ?_
    exact (W.iret hx hb hr (fun t ht _ => retO h hCF hP hD hS ht) hS.2.2 dX2_sendCaptain_8)
def mX2_march (N : Nat) (K : OT) (p0 : Int32) : Option (Int32 × OT) := inO (oset K 1 (K 0)) (fun O2 => bdO (mX2_sendCaptain N O2 p0) (fun v3 O4 => bdO (mX2_finishChange N O4 v3) (fun v5 O6 => some (v5, O6))))
def rmX2_march : Room := { frames := 5, cells := 0, slots := 0, locals := 134 }
set_option maxHeartbeats 4000000 in
set_option maxRecDepth 100000 in
theorem tX2_march {l : Launch} {dC : Nat → ClassId} {dI : Nat → Nat → Nat} {cI cB cP : ClassId} {ad : Nat → Nat → Nat} {Z : Nat → Nat} {base : Nat} {R : va_W} {N : Nat} {K : OT} {p0 : Int32} {rr : Int32} {KK : OT} (hf : mX2_march N K p0 = some (rr, KK)) (hCF : OF Z K) : Met l yX2_march wsX2_march rmX2_march (cBp (dC, dI) vwCl [(cI, .int), (cB, .byte), (cP, .object RX0)] base (outW cI cB cP ad Z K ++ R) [.ref (ad 0 0), .int p0]) (cBe (dC, dI) vwCl base (some (.int rr)) (fun ws => ∃ Z : Nat → Nat, ws = (outW cI cB cP ad Z KK ++ R) ∧ OF Z KK)) 0 0 (aB base) := by
  refine Met.ofW (cc := cX2_march) (maxL := 2) (ret := (some .int)) (by decide) rfl ?_
  intro p e s m args below meth c s₁ B hml hv
  obtain ⟨rfl, hP, hK, hD, hbs, hE⟩ := hv
  have hx := B.exec
  have hb := B.bytes
  have hr := B.returns
  have hts := atoms_spec (ws := wsX2_march) B.pre
  have hown : s.vm.findClass RX2 = some m.cls := findClass_of_methodNamed B.named
  have hlocks := B.notSynchronized
  have hf_10 := hts (.fieldLink RX2 10 "CaravanLogs" "now" "LCaravanLogs$Caravan;") (by decide +kernel)
  have hf_16 := hts (.fieldLink RX2 16 "CaravanLogs" "before" "LCaravanLogs$Caravan;") (by decide +kernel)
  have hwX2 : ∀ w ∈ u_ws RX2 TX2 14, w ∈ wsX2_march := by decide +kernel
  have hKI : va_K (dC, dI) vwCl [(cI, .int)] s := K_tys (fun x hx => by simp only [List.mem_cons, List.not_mem_nil, or_false] at hx ⊢; simp [hx]) hK
  have hKB : va_K (dC, dI) vwCl [(cB, .byte)] s := K_tys (fun x hx => by simp only [List.mem_cons, List.not_mem_nil, or_false] at hx ⊢; simp [hx]) hK
  have hS : va_S (aB base) s.heap s.heap [] := va_S.rf
  have hl := lv_entry ([.ref (ad 0 0), .int p0]) (n := 2) (Nat.le_of_ble_eq_true rfl)
  rw [lg_entry_eq]
  generalize (lg_sl ([.ref (ad 0 0), .int p0]) ++ List.replicate (2 - (lg_sl ([.ref (ad 0 0), .int p0])).length) Slot.unset).toArray = ls at hl ⊢
  have hl : lv_has ls 2 [(0, .ref (ad 0 0)), (1, .int p0)] := hl
  have h := hf
  unfold mX2_march at h
  refine lv_aload_n hx hb dX2_march_0 rfl (lv_at hl 0 rfl) ?_
  refine va_get (D := (dC, dI)) (ci := 3) (v := .ref (ad 2 0)) (C := RX2) (T := TX2) (N := 14) hx hb hts hwX2 hown hK hP 0 rfl rfl 1 (by decide) hf_16 (fun _ h9 => h9) rfl dX2_march_1 ?_
  refine lv_aload_n hx hb dX2_march_4 rfl (lv_at hl 0 rfl) ?_
  refine va_get (D := (dC, dI)) (ci := 3) (v := .ref (ad 1 0)) (C := RX2) (T := TX2) (N := 14) hx hb hts hwX2 hown hK hP 0 rfl rfl 0 (by decide) hf_10 (fun _ h9 => h9) rfl dX2_march_5 ?_
  obtain ⟨O2, eO2, h⟩ := inO_some h
  refine call_copy (rest := []) (j := 1) (i := 0) (Rr := R) (O := K) ⟨hx, hb, hml, hown, hts⟩ (by decide) (by decide) (by decide) (tX0_copyFrom (l := l) (dC := dC) (dI := dI) (cI := cI) (ob := ad (1 + 1) 0) (ob2 := ad (1 + 0) 0) (q := fun f => ad (1 + 1) (1 + f)) (q2 := fun f => ad (1 + 0) (1 + f)) (K := K 1) (J := K 0)) (cwV 1 hts gX2_march_X0_copyFrom rfl rfl rfl (by decide +kernel) ⟨Nat.le_of_ble_eq_true rfl, Nat.le_of_ble_eq_true rfl⟩) hKI hP hD hS rfl hl.1 rfl (Nat.le_of_ble_eq_true rfl) dX2_march_8 ⟨Nat.zero_le _, Nat.zero_le _⟩ (fun H locs hP hD hS => ?_)
  have hP : va_P (dC, dI) vwCl (outW cI cB cP ad Z O2 ++ R) H := by rw [eO2]; exact hP
  have hD : va_D (aB base) (outW cI cB cP ad Z O2 ++ R) := by rw [eO2]; exact hD
  have hCF : OF Z O2 := by rw [eO2]; exact OF_set hCF (by decide)
  refine lv_aload_n hx hb dX2_march_11 rfl (lv_at hl 0 rfl) ?_
  refine lv_aload_n hx hb dX2_march_12 rfl (lv_at hl 0 rfl) ?_
  refine lv_iload_n hx hb dX2_march_13 rfl (lv_at hl 1 rfl) ?_
  obtain ⟨v3, O4, hv3, h⟩ := bdO_some h
  refine call_BVE (As := [.int p0]) (rest := [.ref (ad 0 0)]) ⟨hx, hb, hml, hown, hts⟩ (tX2_sendCaptain (l := l) (dC := dC) (dI := dI) (cI := cI) (cB := cB) (cP := cP) (ad := ad) (base := base) (R := R) hv3 hCF) (cwV 1 hts gX2_march_X2_sendCaptain rfl rfl rfl (by decide +kernel) ⟨Nat.le_of_ble_eq_true rfl, Nat.le_of_ble_eq_true rfl⟩) hK hP hD hS (Nat.le_trans hbs hS.1) (fun U hU hW => Env_step rfl rfl hE hS hU hW) 0 rfl rfl (by rfl) hl.1 rfl (Nat.le_of_ble_eq_true rfl) dX2_march_14 ⟨Nat.zero_le _, Nat.zero_le _⟩ (fun H locs ws9 hW9 hP hD _ hS => ?_)
  obtain ⟨Z, rfl, hCF⟩ := hW9
  obtain ⟨v5, O6, hv5, h⟩ := bdO_some h
  refine call_BVE (As := [.int v3]) (rest := []) ⟨hx, hb, hml, hown, hts⟩ (tX2_finishChange (l := l) (dC := dC) (dI := dI) (cI := cI) (cB := cB) (cP := cP) (ad := ad) (base := base) (R := R) hv5 hCF) (cwV 1 hts gX2_march_X2_finishChange rfl rfl rfl (by decide +kernel) ⟨Nat.le_of_ble_eq_true rfl, Nat.le_of_ble_eq_true rfl⟩) hK hP hD hS (Nat.le_trans hbs hS.1) (fun U hU hW => Env_step rfl rfl hE hS hU hW) 0 rfl rfl (by rfl) hl.1 rfl (Nat.le_of_ble_eq_true rfl) dX2_march_17 ⟨Nat.zero_le _, Nat.zero_le _⟩ (fun H locs ws9 hW9 hP hD _ hS => ?_)
  obtain ⟨Z, rfl, hCF⟩ := hW9
  exact (W.iret hx hb hr (fun t ht _ => retO h hCF hP hD hS ht) hS.2.2 dX2_march_20)
def fX2_turnRoad_14 (N : Nat)  (K : OT)  : Option (Int32 × OT) := some ((-1), K)
def mX2_turnRoad (N : Nat) (K : OT) (p0 : Int32) (p1 : Int32) (p2 : Int32) : Option (Int32 × OT) := bdP (mX2_isNoCamp N p0) (fun v1 => (if v1 = 0 then bdP (mX2_isNoCamp N p1) (fun v3 => (if v3 = 0 then bdP (mX2_isNoSwitch N p2) (fun v5 => (if v5 = 0 then (if p0 = p1 then bdO (mX2_refuse N K 4 p0) (fun v20 O21 => some (v20, O21)) else rdA (K 0 9) 25 ((p0 * 5) + p1) (fun v8 => (if v8 = p2 then bdO (mX2_refuse N K 5 p2) (fun v18 O19 => some (v18, O19)) else wrA (K 0) 9 25 ((p0 * 5) + p1) p2 (fun K11 => inO (oset K 0 K11) (fun O12 => wrA (O12 0) 9 25 ((p1 * 5) + p0) p2 (fun K14 => inO (oset O12 0 K14) (fun O15 => bdP (mX0_openRoads N (O15 0) ) (fun v17 => some (v17, O15))))))))) else some ((-2), K))) else fX2_turnRoad_14 N  K )) else fX2_turnRoad_14 N  K ))
def rmX2_turnRoad : Room := { frames := 3, cells := 0, slots := 0, locals := 85 }
set_option maxHeartbeats 4000000 in
set_option maxRecDepth 100000 in
theorem tX2_turnRoad {l : Launch} {dC : Nat → ClassId} {dI : Nat → Nat → Nat} {cI cB cP : ClassId} {ad : Nat → Nat → Nat} {Z : Nat → Nat} {base : Nat} {R : va_W} {N : Nat} {K : OT} {p0 : Int32} {p1 : Int32} {p2 : Int32} {rr : Int32} {KK : OT} (hf : mX2_turnRoad N K p0 p1 p2 = some (rr, KK)) (hCF : OF Z K) : Met l yX2_turnRoad wsX2_turnRoad rmX2_turnRoad (cBp (dC, dI) vwCl [(cI, .int), (cB, .byte), (cP, .object RX0)] base (outW cI cB cP ad Z K ++ R) [.ref (ad 0 0), .int p0, .int p1, .int p2]) (cBe (dC, dI) vwCl base (some (.int rr)) (fun ws => ∃ Z : Nat → Nat, ws = (outW cI cB cP ad Z KK ++ R) ∧ OF Z KK)) 0 0 (aB base) := by
  refine Met.ofW (cc := cX2_turnRoad) (maxL := 4) (ret := (some .int)) (by decide) rfl ?_
  intro p e s m args below meth c s₁ B hml hv
  obtain ⟨rfl, hP, hK, hD, hbs, hE⟩ := hv
  have hx := B.exec
  have hb := B.bytes
  have hr := B.returns
  have hts := atoms_spec (ws := wsX2_turnRoad) B.pre
  have hown : s.vm.findClass RX2 = some m.cls := findClass_of_methodNamed B.named
  have hlocks := B.notSynchronized
  have hf_10 := hts (.fieldLink RX2 10 "CaravanLogs" "now" "LCaravanLogs$Caravan;") (by decide +kernel)
  have hf_255 := hts (.fieldLink RX2 255 "CaravanLogs$Caravan" "isOpen" "[I") (by decide +kernel)
  have hwX0 : ∀ w ∈ u_ws RX0 TX0 16, w ∈ wsX2_turnRoad := by decide +kernel
  have hwX2 : ∀ w ∈ u_ws RX2 TX2 14, w ∈ wsX2_turnRoad := by decide +kernel
  have hKI : va_K (dC, dI) vwCl [(cI, .int)] s := K_tys (fun x hx => by simp only [List.mem_cons, List.not_mem_nil, or_false] at hx ⊢; simp [hx]) hK
  have hKB : va_K (dC, dI) vwCl [(cB, .byte)] s := K_tys (fun x hx => by simp only [List.mem_cons, List.not_mem_nil, or_false] at hx ⊢; simp [hx]) hK
  have t_14 : ∀ {K : OT}  {H : Heap} {locs : List Loc} {Z : Nat → Nat} {ls : Array Slot} (h : fX2_turnRoad_14 N  K  = some (rr, KK)) (hl : lv_has ls 4 []) (hP : va_P (dC, dI) vwCl (outW cI cB cP ad Z K ++ R) H) (hD : va_D (aB base) (outW cI cB cP ad Z K ++ R)) (hS : va_S (aB base) s.heap H locs) (hCF : OF Z K), W p l e (headSpec wsX2_turnRoad rmX2_turnRoad).room s m ([.ref (ad 0 0), .int p0, .int p1, .int p2] : List Value).toArray below meth c H locs 0 0 (MQ below (cBe (dC, dI) vwCl base (some (.int rr)) (fun ws => ∃ Z : Nat → Nat, ws = (outW cI cB cP ad Z KK ++ R) ∧ OF Z KK)) ([.ref (ad 0 0), .int p0, .int p1, .int p2] : List Value).toArray s 0 0 (aB base)) (F0 m 14 ls []) := by
    intro  K H locs Z ls h hl hP hD hS hCF
    unfold fX2_turnRoad_14 at h
    refine lv_iconst (v := (-1)) hx hb dX2_turnRoad_14 (by decide) ?_
    exact (W.iret hx hb hr (fun t ht _ => retO h hCF hP hD hS ht) hS.2.2 dX2_turnRoad_15)
  have hS : va_S (aB base) s.heap s.heap [] := va_S.rf
  have hl := lv_entry ([.ref (ad 0 0), .int p0, .int p1, .int p2]) (n := 4) (Nat.le_of_ble_eq_true rfl)
  rw [lg_entry_eq]
  generalize (lg_sl ([.ref (ad 0 0), .int p0, .int p1, .int p2]) ++ List.replicate (4 - (lg_sl ([.ref (ad 0 0), .int p0, .int p1, .int p2])).length) Slot.unset).toArray = ls at hl ⊢
  have hl : lv_has ls 4 [(0, .ref (ad 0 0)), (1, .int p0), (2, .int p1), (3, .int p2)] := hl
  have h := hf
  unfold mX2_turnRoad at h
  refine lv_iload_n hx hb dX2_turnRoad_0 rfl (lv_at hl 1 rfl) ?_
  obtain ⟨v1, hv1, h⟩ := bdP_some h
  refine call_SP (As := [.int p0]) (rest := []) ⟨hx, hb, hml, hown, hts⟩ (tX2_isNoCamp (l := l) hv1) (va_cwS 1 hts gX2_turnRoad_X2_isNoCamp rfl rfl rfl (by decide +kernel) ⟨Nat.le_of_ble_eq_true rfl, Nat.le_of_ble_eq_true rfl⟩) (by rfl) hl.1 rfl (Nat.le_of_ble_eq_true rfl) dX2_turnRoad_1 ⟨Nat.zero_le _, Nat.zero_le _⟩ ?_
  refine lv_if_ne (tgt := 14) hx hb dX2_turnRoad_4 (by decide) (fun c2 => ?_) (fun c2 => ?_)
  · replace h := if_n c2 h
    exact t_14  h (lv_sub hl [] rfl) hP hD hS hCF
  · replace h := if_p c2 h
    refine lv_iload_n hx hb dX2_turnRoad_7 rfl (lv_at hl 2 rfl) ?_
    obtain ⟨v3, hv3, h⟩ := bdP_some h
    refine call_SP (As := [.int p1]) (rest := []) ⟨hx, hb, hml, hown, hts⟩ (tX2_isNoCamp (l := l) hv3) (va_cwS 1 hts gX2_turnRoad_X2_isNoCamp rfl rfl rfl (by decide +kernel) ⟨Nat.le_of_ble_eq_true rfl, Nat.le_of_ble_eq_true rfl⟩) (by rfl) hl.1 rfl (Nat.le_of_ble_eq_true rfl) dX2_turnRoad_8 ⟨Nat.zero_le _, Nat.zero_le _⟩ ?_
    refine lv_if_eq (tgt := 16) hx hb dX2_turnRoad_11 (by decide) (fun c4 => ?_) (fun c4 => ?_)
    · replace h := if_p c4 h
      refine lv_iload_n hx hb dX2_turnRoad_16 rfl (lv_at hl 3 rfl) ?_
      obtain ⟨v5, hv5, h⟩ := bdP_some h
      refine call_SP (As := [.int p2]) (rest := []) ⟨hx, hb, hml, hown, hts⟩ (tX2_isNoSwitch (l := l) hv5) (va_cwS 1 hts gX2_turnRoad_X2_isNoSwitch rfl rfl rfl (by decide +kernel) ⟨Nat.le_of_ble_eq_true rfl, Nat.le_of_ble_eq_true rfl⟩) (by rfl) hl.1 rfl (Nat.le_of_ble_eq_true rfl) dX2_turnRoad_17 ⟨Nat.zero_le _, Nat.zero_le _⟩ ?_
      refine lv_if_eq (tgt := 26) hx hb dX2_turnRoad_20 (by decide) (fun c6 => ?_) (fun c6 => ?_)
      · replace h := if_p c6 h
        refine lv_iload_n hx hb dX2_turnRoad_26 rfl (lv_at hl 1 rfl) ?_
        refine lv_iload_n hx hb dX2_turnRoad_27 rfl (lv_at hl 2 rfl) ?_
        refine lv_icmp_ne (tgt := 38) hx hb dX2_turnRoad_28 (by decide) (fun c7 => ?_) (fun c7 => ?_)
        · replace h := if_n c7 h
          refine lv_aload_n hx hb dX2_turnRoad_38 rfl (lv_at hl 0 rfl) ?_
          refine va_get (D := (dC, dI)) (ci := 3) (v := .ref (ad 1 0)) (C := RX2) (T := TX2) (N := 14) hx hb hts hwX2 hown hK hP 0 rfl rfl 0 (by decide) hf_10 (fun _ h9 => h9) rfl dX2_turnRoad_39 ?_
          refine va_get (D := (dC, dI)) (ci := 1) (v := .ref (ad 1 10)) (C := RX0) (T := TX0) (N := 16) hx hb hts hwX0 hown hK hP 7 rfl rfl 9 (by decide) hf_255 (fun _ h9 => h9) rfl dX2_turnRoad_42 ?_
          refine lv_iload_n hx hb dX2_turnRoad_45 rfl (lv_at hl 1 rfl) ?_
          refine lv_iconst (v := 5) hx hb dX2_turnRoad_46 (by decide) ?_
          refine lv_imul hx hb dX2_turnRoad_47 ?_
          refine lv_iload_n hx hb dX2_turnRoad_48 rfl (lv_at hl 2 rfl) ?_
          refine lv_iadd hx hb dX2_turnRoad_49 ?_
          obtain ⟨hi9, v8, ev8, h⟩ := rdA_some h
          refine k_iald hx hb hK hP 17 0 rfl rfl hi9 ev8 dX2_turnRoad_50 ?_
          refine lv_iload_n hx hb dX2_turnRoad_51 rfl (lv_at hl 3 rfl) ?_
          refine lv_icmp_ne (tgt := 62) hx hb dX2_turnRoad_52 (by decide) (fun c10 => ?_) (fun c10 => ?_)
          · replace h := if_n c10 h
            refine lv_aload_n hx hb dX2_turnRoad_62 rfl (lv_at hl 0 rfl) ?_
            refine va_get (D := (dC, dI)) (ci := 3) (v := .ref (ad 1 0)) (C := RX2) (T := TX2) (N := 14) hx hb hts hwX2 hown hK hP 0 rfl rfl 0 (by decide) hf_10 (fun _ h9 => h9) rfl dX2_turnRoad_63 ?_
            refine va_get (D := (dC, dI)) (ci := 1) (v := .ref (ad 1 10)) (C := RX0) (T := TX0) (N := 16) hx hb hts hwX0 hown hK hP 7 rfl rfl 9 (by decide) hf_255 (fun _ h9 => h9) rfl dX2_turnRoad_66 ?_
            refine lv_iload_n hx hb dX2_turnRoad_69 rfl (lv_at hl 1 rfl) ?_
            refine lv_iconst (v := 5) hx hb dX2_turnRoad_70 (by decide) ?_
            refine lv_imul hx hb dX2_turnRoad_71 ?_
            refine lv_iload_n hx hb dX2_turnRoad_72 rfl (lv_at hl 2 rfl) ?_
            refine lv_iadd hx hb dX2_turnRoad_73 ?_
            refine lv_iload_n hx hb dX2_turnRoad_74 rfl (lv_at hl 3 rfl) ?_
            obtain ⟨hi13, K11, eK11, h⟩ := wrA_some h
            obtain ⟨O12, eO12, h⟩ := inO_some h
            refine va_iast hx hb hK hP hD hS 17 0 rfl rfl hi13 dX2_turnRoad_75 (fun H locs hP hD hS => ?_)
            have hP : va_P (dC, dI) vwCl (outW cI cB cP ad Z O12 ++ R) H := by rw [eO12, out_now, eK11]; exact hP
            have hD : va_D (aB base) (outW cI cB cP ad Z O12 ++ R) := by rw [eO12, out_now, eK11]; exact hD
            have hCF : OF Z O12 := by rw [eO12]; exact OF_set hCF (by decide)
            refine lv_aload_n hx hb dX2_turnRoad_76 rfl (lv_at hl 0 rfl) ?_
            refine va_get (D := (dC, dI)) (ci := 3) (v := .ref (ad 1 0)) (C := RX2) (T := TX2) (N := 14) hx hb hts hwX2 hown hK hP 0 rfl rfl 0 (by decide) hf_10 (fun _ h9 => h9) rfl dX2_turnRoad_77 ?_
            refine va_get (D := (dC, dI)) (ci := 1) (v := .ref (ad 1 10)) (C := RX0) (T := TX0) (N := 16) hx hb hts hwX0 hown hK hP 7 rfl rfl 9 (by decide) hf_255 (fun _ h9 => h9) rfl dX2_turnRoad_80 ?_
            refine lv_iload_n hx hb dX2_turnRoad_83 rfl (lv_at hl 2 rfl) ?_
            refine lv_iconst (v := 5) hx hb dX2_turnRoad_84 (by decide) ?_
            refine lv_imul hx hb dX2_turnRoad_85 ?_
            refine lv_iload_n hx hb dX2_turnRoad_86 rfl (lv_at hl 1 rfl) ?_
            refine lv_iadd hx hb dX2_turnRoad_87 ?_
            refine lv_iload_n hx hb dX2_turnRoad_88 rfl (lv_at hl 3 rfl) ?_
            obtain ⟨hi16, K14, eK14, h⟩ := wrA_some h
            obtain ⟨O15, eO15, h⟩ := inO_some h
            refine va_iast hx hb hK hP hD hS 17 0 rfl rfl hi16 dX2_turnRoad_89 (fun H locs hP hD hS => ?_)
            have hP : va_P (dC, dI) vwCl (outW cI cB cP ad Z O15 ++ R) H := by rw [eO15, out_now, eK14]; exact hP
            have hD : va_D (aB base) (outW cI cB cP ad Z O15 ++ R) := by rw [eO15, out_now, eK14]; exact hD
            have hCF : OF Z O15 := by rw [eO15]; exact OF_set hCF (by decide)
            refine lv_aload_n hx hb dX2_turnRoad_90 rfl (lv_at hl 0 rfl) ?_
            refine va_get (D := (dC, dI)) (ci := 3) (v := .ref (ad 1 0)) (C := RX2) (T := TX2) (N := 14) hx hb hts hwX2 hown hK hP 0 rfl rfl 0 (by decide) hf_10 (fun _ h9 => h9) rfl dX2_turnRoad_91 ?_
            obtain ⟨v17, hv17, h⟩ := bdP_some h
            refine call_VPn (As := []) (rest := []) ⟨hx, hb, hml, hown, hts⟩ (tX0_openRoads (l := l) (dC := dC) (dI := dI) (cI := cI) (ob := ad (1 + 0) 0) (q := fun f => ad (1 + 0) (1 + f)) hv17) (cwV 0 hts gX2_turnRoad_X0_openRoads rfl rfl rfl (by decide +kernel) ⟨Nat.le_of_ble_eq_true rfl, Nat.le_of_ble_eq_true rfl⟩) hKI (o_inP 0 (by decide) hP) (fun U hU hW => (Env_step rfl rfl hE hS hU hW).2.2.2.2.1) 0 rfl rfl (by rfl) hl.1 rfl (Nat.le_of_ble_eq_true rfl) dX2_turnRoad_94 ⟨Nat.zero_le _, Nat.zero_le _⟩ ?_
            exact (W.iret hx hb hr (fun t ht _ => retO h hCF hP hD hS ht) hS.2.2 dX2_turnRoad_97)
          · replace h := if_p c10 h
            refine lv_aload_n hx hb dX2_turnRoad_55 rfl (lv_at hl 0 rfl) ?_
            refine lv_iconst (v := 5) hx hb dX2_turnRoad_56 (by decide) ?_
            refine lv_iload_n hx hb dX2_turnRoad_57 rfl (lv_at hl 3 rfl) ?_
            obtain ⟨v18, O19, hv18, h⟩ := bdO_some h
            refine call_BVE (As := [.int 5, .int p2]) (rest := []) ⟨hx, hb, hml, hown, hts⟩ (tX2_refuse (l := l) (dC := dC) (dI := dI) (cI := cI) (cB := cB) (cP := cP) (ad := ad) (base := base) (R := R) hv18 hCF) (cwV 2 hts gX2_turnRoad_X2_refuse rfl rfl rfl (by decide +kernel) ⟨Nat.le_of_ble_eq_true rfl, Nat.le_of_ble_eq_true rfl⟩) hK hP hD hS (Nat.le_trans hbs hS.1) (fun U hU hW => Env_step rfl rfl hE hS hU hW) 0 rfl rfl (by rfl) hl.1 rfl (Nat.le_of_ble_eq_true rfl) dX2_turnRoad_58 ⟨Nat.zero_le _, Nat.zero_le _⟩ (fun H locs ws9 hW9 hP hD _ hS => ?_)
            obtain ⟨Z, rfl, hCF⟩ := hW9
            exact (W.iret hx hb hr (fun t ht _ => retO h hCF hP hD hS ht) hS.2.2 dX2_turnRoad_61)
        · replace h := if_p c7 h
          refine lv_aload_n hx hb dX2_turnRoad_31 rfl (lv_at hl 0 rfl) ?_
          refine lv_iconst (v := 4) hx hb dX2_turnRoad_32 (by decide) ?_
          refine lv_iload_n hx hb dX2_turnRoad_33 rfl (lv_at hl 1 rfl) ?_
          obtain ⟨v20, O21, hv20, h⟩ := bdO_some h
          refine call_BVE (As := [.int 4, .int p0]) (rest := []) ⟨hx, hb, hml, hown, hts⟩ (tX2_refuse (l := l) (dC := dC) (dI := dI) (cI := cI) (cB := cB) (cP := cP) (ad := ad) (base := base) (R := R) hv20 hCF) (cwV 2 hts gX2_turnRoad_X2_refuse rfl rfl rfl (by decide +kernel) ⟨Nat.le_of_ble_eq_true rfl, Nat.le_of_ble_eq_true rfl⟩) hK hP hD hS (Nat.le_trans hbs hS.1) (fun U hU hW => Env_step rfl rfl hE hS hU hW) 0 rfl rfl (by rfl) hl.1 rfl (Nat.le_of_ble_eq_true rfl) dX2_turnRoad_34 ⟨Nat.zero_le _, Nat.zero_le _⟩ (fun H locs ws9 hW9 hP hD _ hS => ?_)
          obtain ⟨Z, rfl, hCF⟩ := hW9
          exact (W.iret hx hb hr (fun t ht _ => retO h hCF hP hD hS ht) hS.2.2 dX2_turnRoad_37)
      · replace h := if_n c6 h
        refine lv_bipush (v := (-2)) hx hb dX2_turnRoad_23 (by decide) ?_
        exact (W.iret hx hb hr (fun t ht _ => retO h hCF hP hD hS ht) hS.2.2 dX2_turnRoad_25)
    · replace h := if_n c4 h
      exact t_14  h (lv_sub hl [] rfl) hP hD hS hCF
def mX2_road (N : Nat) (K : OT) (p0 : Int32) (p1 : Int32) (p2 : Int32) : Option (Int32 × OT) := inO (oset K 1 (K 0)) (fun O2 => bdO (mX2_turnRoad N O2 p0 p1 p2) (fun v3 O4 => bdO (mX2_finishChange N O4 v3) (fun v5 O6 => some (v5, O6))))
def rmX2_road : Room := { frames := 4, cells := 0, slots := 0, locals := 108 }
set_option maxHeartbeats 4000000 in
set_option maxRecDepth 100000 in
theorem tX2_road {l : Launch} {dC : Nat → ClassId} {dI : Nat → Nat → Nat} {cI cB cP : ClassId} {ad : Nat → Nat → Nat} {Z : Nat → Nat} {base : Nat} {R : va_W} {N : Nat} {K : OT} {p0 : Int32} {p1 : Int32} {p2 : Int32} {rr : Int32} {KK : OT} (hf : mX2_road N K p0 p1 p2 = some (rr, KK)) (hCF : OF Z K) : Met l yX2_road wsX2_road rmX2_road (cBp (dC, dI) vwCl [(cI, .int), (cB, .byte), (cP, .object RX0)] base (outW cI cB cP ad Z K ++ R) [.ref (ad 0 0), .int p0, .int p1, .int p2]) (cBe (dC, dI) vwCl base (some (.int rr)) (fun ws => ∃ Z : Nat → Nat, ws = (outW cI cB cP ad Z KK ++ R) ∧ OF Z KK)) 0 0 (aB base) := by
  refine Met.ofW (cc := cX2_road) (maxL := 4) (ret := (some .int)) (by decide) rfl ?_
  intro p e s m args below meth c s₁ B hml hv
  obtain ⟨rfl, hP, hK, hD, hbs, hE⟩ := hv
  have hx := B.exec
  have hb := B.bytes
  have hr := B.returns
  have hts := atoms_spec (ws := wsX2_road) B.pre
  have hown : s.vm.findClass RX2 = some m.cls := findClass_of_methodNamed B.named
  have hlocks := B.notSynchronized
  have hf_10 := hts (.fieldLink RX2 10 "CaravanLogs" "now" "LCaravanLogs$Caravan;") (by decide +kernel)
  have hf_16 := hts (.fieldLink RX2 16 "CaravanLogs" "before" "LCaravanLogs$Caravan;") (by decide +kernel)
  have hwX2 : ∀ w ∈ u_ws RX2 TX2 14, w ∈ wsX2_road := by decide +kernel
  have hKI : va_K (dC, dI) vwCl [(cI, .int)] s := K_tys (fun x hx => by simp only [List.mem_cons, List.not_mem_nil, or_false] at hx ⊢; simp [hx]) hK
  have hKB : va_K (dC, dI) vwCl [(cB, .byte)] s := K_tys (fun x hx => by simp only [List.mem_cons, List.not_mem_nil, or_false] at hx ⊢; simp [hx]) hK
  have hS : va_S (aB base) s.heap s.heap [] := va_S.rf
  have hl := lv_entry ([.ref (ad 0 0), .int p0, .int p1, .int p2]) (n := 4) (Nat.le_of_ble_eq_true rfl)
  rw [lg_entry_eq]
  generalize (lg_sl ([.ref (ad 0 0), .int p0, .int p1, .int p2]) ++ List.replicate (4 - (lg_sl ([.ref (ad 0 0), .int p0, .int p1, .int p2])).length) Slot.unset).toArray = ls at hl ⊢
  have hl : lv_has ls 4 [(0, .ref (ad 0 0)), (1, .int p0), (2, .int p1), (3, .int p2)] := hl
  have h := hf
  unfold mX2_road at h
  refine lv_aload_n hx hb dX2_road_0 rfl (lv_at hl 0 rfl) ?_
  refine va_get (D := (dC, dI)) (ci := 3) (v := .ref (ad 2 0)) (C := RX2) (T := TX2) (N := 14) hx hb hts hwX2 hown hK hP 0 rfl rfl 1 (by decide) hf_16 (fun _ h9 => h9) rfl dX2_road_1 ?_
  refine lv_aload_n hx hb dX2_road_4 rfl (lv_at hl 0 rfl) ?_
  refine va_get (D := (dC, dI)) (ci := 3) (v := .ref (ad 1 0)) (C := RX2) (T := TX2) (N := 14) hx hb hts hwX2 hown hK hP 0 rfl rfl 0 (by decide) hf_10 (fun _ h9 => h9) rfl dX2_road_5 ?_
  obtain ⟨O2, eO2, h⟩ := inO_some h
  refine call_copy (rest := []) (j := 1) (i := 0) (Rr := R) (O := K) ⟨hx, hb, hml, hown, hts⟩ (by decide) (by decide) (by decide) (tX0_copyFrom (l := l) (dC := dC) (dI := dI) (cI := cI) (ob := ad (1 + 1) 0) (ob2 := ad (1 + 0) 0) (q := fun f => ad (1 + 1) (1 + f)) (q2 := fun f => ad (1 + 0) (1 + f)) (K := K 1) (J := K 0)) (cwV 1 hts gX2_road_X0_copyFrom rfl rfl rfl (by decide +kernel) ⟨Nat.le_of_ble_eq_true rfl, Nat.le_of_ble_eq_true rfl⟩) hKI hP hD hS rfl hl.1 rfl (Nat.le_of_ble_eq_true rfl) dX2_road_8 ⟨Nat.zero_le _, Nat.zero_le _⟩ (fun H locs hP hD hS => ?_)
  have hP : va_P (dC, dI) vwCl (outW cI cB cP ad Z O2 ++ R) H := by rw [eO2]; exact hP
  have hD : va_D (aB base) (outW cI cB cP ad Z O2 ++ R) := by rw [eO2]; exact hD
  have hCF : OF Z O2 := by rw [eO2]; exact OF_set hCF (by decide)
  refine lv_aload_n hx hb dX2_road_11 rfl (lv_at hl 0 rfl) ?_
  refine lv_aload_n hx hb dX2_road_12 rfl (lv_at hl 0 rfl) ?_
  refine lv_iload_n hx hb dX2_road_13 rfl (lv_at hl 1 rfl) ?_
  refine lv_iload_n hx hb dX2_road_14 rfl (lv_at hl 2 rfl) ?_
  refine lv_iload_n hx hb dX2_road_15 rfl (lv_at hl 3 rfl) ?_
  obtain ⟨v3, O4, hv3, h⟩ := bdO_some h
  refine call_BVE (As := [.int p0, .int p1, .int p2]) (rest := [.ref (ad 0 0)]) ⟨hx, hb, hml, hown, hts⟩ (tX2_turnRoad (l := l) (dC := dC) (dI := dI) (cI := cI) (cB := cB) (cP := cP) (ad := ad) (base := base) (R := R) hv3 hCF) (cwV 3 hts gX2_road_X2_turnRoad rfl rfl rfl (by decide +kernel) ⟨Nat.le_of_ble_eq_true rfl, Nat.le_of_ble_eq_true rfl⟩) hK hP hD hS (Nat.le_trans hbs hS.1) (fun U hU hW => Env_step rfl rfl hE hS hU hW) 0 rfl rfl (by rfl) hl.1 rfl (Nat.le_of_ble_eq_true rfl) dX2_road_16 ⟨Nat.zero_le _, Nat.zero_le _⟩ (fun H locs ws9 hW9 hP hD _ hS => ?_)
  obtain ⟨Z, rfl, hCF⟩ := hW9
  obtain ⟨v5, O6, hv5, h⟩ := bdO_some h
  refine call_BVE (As := [.int v3]) (rest := []) ⟨hx, hb, hml, hown, hts⟩ (tX2_finishChange (l := l) (dC := dC) (dI := dI) (cI := cI) (cB := cB) (cP := cP) (ad := ad) (base := base) (R := R) hv5 hCF) (cwV 1 hts gX2_road_X2_finishChange rfl rfl rfl (by decide +kernel) ⟨Nat.le_of_ble_eq_true rfl, Nat.le_of_ble_eq_true rfl⟩) hK hP hD hS (Nat.le_trans hbs hS.1) (fun U hU hW => Env_step rfl rfl hE hS hU hW) 0 rfl rfl (by rfl) hl.1 rfl (Nat.le_of_ble_eq_true rfl) dX2_road_19 ⟨Nat.zero_le _, Nat.zero_le _⟩ (fun H locs ws9 hW9 hP hD _ hS => ?_)
  obtain ⟨Z, rfl, hCF⟩ := hW9
  exact (W.iret hx hb hr (fun t ht _ => retO h hCF hP hD hS ht) hS.2.2 dX2_road_22)
