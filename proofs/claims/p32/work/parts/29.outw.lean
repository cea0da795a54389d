def mX2_turnCamp (N : Nat) (K : OT) (p0 : Int32) (p1 : Int32) : Option (Int32 × OT) := bdP (mX2_isNoCamp N p0) (fun v1 => (if v1 = 0 then bdP (mX2_isNoSwitch N p1) (fun v3 => (if v3 = 0 then rdA (K 0 3) 5 p0 (fun v5 => (if v5 = p1 then bdO (mX2_refuse N K 5 p1) (fun v18 O19 => some (v18, O19)) else wrA (K 0) 3 5 p0 p1 (fun K8 => inO (oset K 0 K8) (fun O9 => wrA (O9 0) 2 5 p0 0 (fun K11 => inO (oset O9 0 K11) (fun O12 => wrA (O12 0) 4 5 p0 0 (fun K14 => inO (oset O12 0 K14) (fun O15 => bdP (mX2_sumOf N 5 (O15 0 3)) (fun v17 => some (v17, O15)))))))))) else some ((-2), K))) else some ((-1), K)))
def rmX2_turnCamp : Room := { frames := 2, cells := 0, slots := 0, locals := 65 }
set_option maxHeartbeats 4000000 in
set_option maxRecDepth 100000 in
theorem tX2_turnCamp {l : Launch} {dC : Nat → ClassId} {dI : Nat → Nat → Nat} {cI cB cP : ClassId} {ad : Nat → Nat → Nat} {Z : Nat → Nat} {base : Nat} {R : va_W} {N : Nat} {K : OT} {p0 : Int32} {p1 : Int32} {rr : Int32} {KK : OT} (hf : mX2_turnCamp N K p0 p1 = some (rr, KK)) (hCF : OF Z K) : Met l yX2_turnCamp wsX2_turnCamp rmX2_turnCamp (cBp (dC, dI) vwCl [(cI, .int), (cB, .byte), (cP, .object RX0)] base (outW cI cB cP ad Z K ++ R) [.ref (ad 0 0), .int p0, .int p1]) (cBe (dC, dI) vwCl base (some (.int rr)) (fun ws => ∃ Z : Nat → Nat, ws = (outW cI cB cP ad Z KK ++ R) ∧ OF Z KK)) 0 0 (aB base) := by
  refine Met.ofW (cc := cX2_turnCamp) (maxL := 3) (ret := (some .int)) (by decide) rfl ?_
  intro p e s m args below meth c s₁ B hml hv
  obtain ⟨rfl, hP, hK, hD, hbs, hE⟩ := hv
  have hx := B.exec
  have hb := B.bytes
  have hr := B.returns
  have hts := atoms_spec (ws := wsX2_turnCamp) B.pre
  have hown : s.vm.findClass RX2 = some m.cls := findClass_of_methodNamed B.named
  have hlocks := B.notSynchronized
  have hf_10 := hts (.fieldLink RX2 10 "CaravanLogs" "now" "LCaravanLogs$Caravan;") (by decide +kernel)
  have hf_105 := hts (.fieldLink RX2 105 "CaravanLogs$Caravan" "isCaptain" "[I") (by decide +kernel)
  have hf_108 := hts (.fieldLink RX2 108 "CaravanLogs$Caravan" "isAwake" "[I") (by decide +kernel)
  have hf_117 := hts (.fieldLink RX2 117 "CaravanLogs$Caravan" "silence" "[I") (by decide +kernel)
  have hwX0 : ∀ w ∈ u_ws RX0 TX0 16, w ∈ wsX2_turnCamp := by decide +kernel
  have hwX2 : ∀ w ∈ u_ws RX2 TX2 14, w ∈ wsX2_turnCamp := by decide +kernel
  have hKI : va_K (dC, dI) vwCl [(cI, .int)] s := K_tys (fun x hx => by simp only [List.mem_cons, List.not_mem_nil, or_false] at hx ⊢; simp [hx]) hK
  have hKB : va_K (dC, dI) vwCl [(cB, .byte)] s := K_tys (fun x hx => by simp only [List.mem_cons, List.not_mem_nil, or_false] at hx ⊢; simp [hx]) hK
  have hS : va_S (aB base) s.heap s.heap [] := va_S.rf
  have hl := lv_entry ([.ref (ad 0 0), .int p0, .int p1]) (n := 3) (Nat.le_of_ble_eq_true rfl)
  rw [lg_entry_eq]
  generalize (lg_sl ([.ref (ad 0 0), .int p0, .int p1]) ++ List.replicate (3 - (lg_sl ([.ref (ad 0 0), .int p0, .int p1])).length) Slot.unset).toArray = ls at hl ⊢
  have hl : lv_has ls 3 [(0, .ref (ad 0 0)), (1, .int p0), (2, .int p1)] := hl
  have h := hf
  unfold mX2_turnCamp at h
  refine lv_iload_n hx hb dX2_turnCamp_0 rfl (lv_at hl 1 rfl) ?_
  obtain ⟨v1, hv1, h⟩ := bdP_some h
  refine call_SP (As := [.int p0]) (rest := []) ⟨hx, hb, hml, hown, hts⟩ (tX2_isNoCamp (l := l) hv1) (va_cwS 1 hts gX2_turnCamp_X2_isNoCamp rfl rfl rfl (by decide +kernel) ⟨Nat.le_of_ble_eq_true rfl, Nat.le_of_ble_eq_true rfl⟩) (by rfl) hl.1 rfl (Nat.le_of_ble_eq_true rfl) dX2_turnCamp_1 ⟨Nat.zero_le _, Nat.zero_le _⟩ ?_
  refine lv_if_eq (tgt := 9) hx hb dX2_turnCamp_4 (by decide) (fun c2 => ?_) (fun c2 => ?_)
  · replace h := if_p c2 h
    refine lv_iload_n hx hb dX2_turnCamp_9 rfl (lv_at hl 2 rfl) ?_
    obtain ⟨v3, hv3, h⟩ := bdP_some h
    refine call_SP (As := [.int p1]) (rest := []) ⟨hx, hb, hml, hown, hts⟩ (tX2_isNoSwitch (l := l) hv3) (va_cwS 1 hts gX2_turnCamp_X2_isNoSwitch rfl rfl rfl (by decide +kernel) ⟨Nat.le_of_ble_eq_true rfl, Nat.le_of_ble_eq_true rfl⟩) (by rfl) hl.1 rfl (Nat.le_of_ble_eq_true rfl) dX2_turnCamp_10 ⟨Nat.zero_le _, Nat.zero_le _⟩ ?_
    refine lv_if_eq (tgt := 19) hx hb dX2_turnCamp_13 (by decide) (fun c4 => ?_) (fun c4 => ?_)
    · replace h := if_p c4 h
      refine lv_aload_n hx hb dX2_turnCamp_19 rfl (lv_at hl 0 rfl) ?_
      refine va_get (D := (dC, dI)) (ci := 3) (v := .ref (ad 1 0)) (C := RX2) (T := TX2) (N := 14) hx hb hts hwX2 hown hK hP 0 rfl rfl 0 (by decide) hf_10 (fun _ h9 => h9) rfl dX2_turnCamp_20 ?_
      refine va_get (D := (dC, dI)) (ci := 1) (v := .ref (ad 1 4)) (C := RX0) (T := TX0) (N := 16) hx hb hts hwX0 hown hK hP 7 rfl rfl 3 (by decide) hf_108 (fun _ h9 => h9) rfl dX2_turnCamp_23 ?_
      refine lv_iload_n hx hb dX2_turnCamp_26 rfl (lv_at hl 1 rfl) ?_
      obtain ⟨hi6, v5, ev5, h⟩ := rdA_some h
      refine k_iald hx hb hK hP 11 0 rfl rfl hi6 ev5 dX2_turnCamp_27 ?_
      refine lv_iload_n hx hb dX2_turnCamp_28 rfl (lv_at hl 2 rfl) ?_
      refine lv_icmp_ne (tgt := 39) hx hb dX2_turnCamp_29 (by decide) (fun c7 => ?_) (fun c7 => ?_)
      · replace h := if_n c7 h
        refine lv_aload_n hx hb dX2_turnCamp_39 rfl (lv_at hl 0 rfl) ?_
        refine va_get (D := (dC, dI)) (ci := 3) (v := .ref (ad 1 0)) (C := RX2) (T := TX2) (N := 14) hx hb hts hwX2 hown hK hP 0 rfl rfl 0 (by decide) hf_10 (fun _ h9 => h9) rfl dX2_turnCamp_40 ?_
        refine va_get (D := (dC, dI)) (ci := 1) (v := .ref (ad 1 4)) (C := RX0) (T := TX0) (N := 16) hx hb hts hwX0 hown hK hP 7 rfl rfl 3 (by decide) hf_108 (fun _ h9 => h9) rfl dX2_turnCamp_43 ?_
        refine lv_iload_n hx hb dX2_turnCamp_46 rfl (lv_at hl 1 rfl) ?_
        refine lv_iload_n hx hb dX2_turnCamp_47 rfl (lv_at hl 2 rfl) ?_
        obtain ⟨hi10, K8, eK8, h⟩ := wrA_some h
        obtain ⟨O9, eO9, h⟩ := inO_some h
        refine va_iast hx hb hK hP hD hS 11 0 rfl rfl hi10 dX2_turnCamp_48 (fun H locs hP hD hS => ?_)
        have hP : va_P (dC, dI) vwCl (outW cI cB cP ad Z O9 ++ R) H := by rw [eO9, out_now, eK8]; exact hP
        have hD : va_D (aB base) (outW cI cB cP ad Z O9 ++ R) := by rw [eO9, out_now, eK8]; exact hD
        have hCF : OF Z O9 := by rw [eO9]; exact OF_set hCF (by decide)
        refine lv_aload_n hx hb dX2_turnCamp_49 rfl (lv_at hl 0 rfl) ?_
        refine va_get (D := (dC, dI)) (ci := 3) (v := .ref (ad 1 0)) (C := RX2) (T := TX2) (N := 14) hx hb hts hwX2 hown hK hP 0 rfl rfl 0 (by decide) hf_10 (fun _ h9 => h9) rfl dX2_turnCamp_50 ?_
        refine va_get (D := (dC, dI)) (ci := 1) (v := .ref (ad 1 3)) (C := RX0) (T := TX0) (N := 16) hx hb hts hwX0 hown hK hP 7 rfl rfl 2 (by decide) hf_105 (fun _ h9 => h9) rfl dX2_turnCamp_53 ?_
        refine lv_iload_n hx hb dX2_turnCamp_56 rfl (lv_at hl 1 rfl) ?_
        refine lv_iconst (v := 0) hx hb dX2_turnCamp_57 (by decide) ?_
        obtain ⟨hi13, K11, eK11, h⟩ := wrA_some h
        obtain ⟨O12, eO12, h⟩ := inO_some h
        refine va_iast hx hb hK hP hD hS 10 0 rfl rfl hi13 dX2_turnCamp_58 (fun H locs hP hD hS => ?_)
        have hP : va_P (dC, dI) vwCl (outW cI cB cP ad Z O12 ++ R) H := by rw [eO12, out_now, eK11]; exact hP
        have hD : va_D (aB base) (outW cI cB cP ad Z O12 ++ R) := by rw [eO12, out_now, eK11]; exact hD
        have hCF : OF Z O12 := by rw [eO12]; exact OF_set hCF (by decide)
        refine lv_aload_n hx hb dX2_turnCamp_59 rfl (lv_at hl 0 rfl) ?_
        refine va_get (D := (dC, dI)) (ci := 3) (v := .ref (ad 1 0)) (C := RX2) (T := TX2) (N := 14) hx hb hts hwX2 hown hK hP 0 rfl rfl 0 (by decide) hf_10 (fun _ h9 => h9) rfl dX2_turnCamp_60 ?_
        refine va_get (D := (dC, dI)) (ci := 1) (v := .ref (ad 1 5)) (C := RX0) (T := TX0) (N := 16) hx hb hts hwX0 hown hK hP 7 rfl rfl 4 (by decide) hf_117 (fun _ h9 => h9) rfl dX2_turnCamp_63 ?_
        refine lv_iload_n hx hb dX2_turnCamp_66 rfl (lv_at hl 1 rfl) ?_
        refine lv_iconst (v := 0) hx hb dX2_turnCamp_67 (by decide) ?_
        obtain ⟨hi16, K14, eK14, h⟩ := wrA_some h
        obtain ⟨O15, eO15, h⟩ := inO_some h
        refine va_iast hx hb hK hP hD hS 12 0 rfl rfl hi16 dX2_turnCamp_68 (fun H locs hP hD hS => ?_)
        have hP : va_P (dC, dI) vwCl (outW cI cB cP ad Z O15 ++ R) H := by rw [eO15, out_now, eK14]; exact hP
        have hD : va_D (aB base) (outW cI cB cP ad Z O15 ++ R) := by rw [eO15, out_now, eK14]; exact hD
        have hCF : OF Z O15 := by rw [eO15]; exact OF_set hCF (by decide)
        refine lv_aload_n hx hb dX2_turnCamp_69 rfl (lv_at hl 0 rfl) ?_
        refine va_get (D := (dC, dI)) (ci := 3) (v := .ref (ad 1 0)) (C := RX2) (T := TX2) (N := 14) hx hb hts hwX2 hown hK hP 0 rfl rfl 0 (by decide) hf_10 (fun _ h9 => h9) rfl dX2_turnCamp_70 ?_
        refine va_get (D := (dC, dI)) (ci := 1) (v := .ref (ad 1 4)) (C := RX0) (T := TX0) (N := 16) hx hb hts hwX0 hown hK hP 7 rfl rfl 3 (by decide) hf_108 (fun _ h9 => h9) rfl dX2_turnCamp_73 ?_
        obtain ⟨v17, hv17, h⟩ := bdP_some h
        refine call_SPa (As := [.ref (ad 1 4)]) (rest := []) ⟨hx, hb, hml, hown, hts⟩ (tX2_sumOf (l := l) (dC := dC) (dI := dI) (cI := cI) (ap0 := ad 1 4) hv17) (va_cwS 1 hts gX2_turnCamp_X2_sumOf rfl rfl rfl (by decide +kernel) ⟨Nat.le_of_ble_eq_true rfl, Nat.le_of_ble_eq_true rfl⟩) hKI (hP.sub (ws' := [(ad 1 4, .inl (cI, 5, .inl (O15 0 3)))]) [11] rfl) (by rfl) hl.1 rfl (Nat.le_of_ble_eq_true rfl) dX2_turnCamp_76 ⟨Nat.zero_le _, Nat.zero_le _⟩ ?_
        exact (W.iret hx hb hr (fun t ht _ => retO h hCF hP hD hS ht) hS.2.2 dX2_turnCamp_79)
      · replace h := if_p c7 h
        refine lv_aload_n hx hb dX2_turnCamp_32 rfl (lv_at hl 0 rfl) ?_
        refine lv_iconst (v := 5) hx hb dX2_turnCamp_33 (by decide) ?_
        refine lv_iload_n hx hb dX2_turnCamp_34 rfl (lv_at hl 2 rfl) ?_
        obtain ⟨v18, O19, hv18, h⟩ := bdO_some h
        refine call_BVE (As := [.int 5, .int p1]) (rest := []) ⟨hx, hb, hml, hown, hts⟩ (tX2_refuse (l := l) (dC := dC) (dI := dI) (cI := cI) (cB := cB) (cP := cP) (ad := ad) (base := base) (R := R) hv18 hCF) (cwV 2 hts gX2_turnCamp_X2_refuse rfl rfl rfl (by decide +kernel) ⟨Nat.le_of_ble_eq_true rfl, Nat.le_of_ble_eq_true rfl⟩) hK hP hD hS (Nat.le_trans hbs hS.1) (fun U hU hW => Env_step rfl rfl hE hS hU hW) 0 rfl rfl (by rfl) hl.1 rfl (Nat.le_of_ble_eq_true rfl) dX2_turnCamp_35 ⟨Nat.zero_le _, Nat.zero_le _⟩ (fun H locs ws9 hW9 hP hD _ hS => ?_)
        obtain ⟨Z, rfl, hCF⟩ := hW9
        exact (W.iret hx hb hr (fun t ht _ => retO h hCF hP hD hS ht) hS.2.2 dX2_turnCamp_38)
    · replace h := if_n c4 h
      refine lv_bipush (v := (-2)) hx hb dX2_turnCamp_16 (by decide) ?_
      exact (W.iret hx hb hr (fun t ht _ => retO h hCF hP hD hS ht) hS.2.2 dX2_turnCamp_18)
  · replace h := if_n c2 h
    refine lv_iconst (v := (-1)) hx hb dX2_turnCamp_7 (by decide) ?_
    exact (W.iret hx hb hr (fun t ht _ => retO h hCF hP hD hS ht) hS.2.2 dX2_turnCamp_8)
def mX2_sleep (N : Nat) (K : OT) (p0 : Int32) (p1 : Int32) : Option (Int32 × OT) := inO (oset K 1 (K 0)) (fun O2 => bdO (mX2_turnCamp N O2 p0 p1) (fun v3 O4 => bdO (mX2_finishChange N O4 v3) (fun v5 O6 => some (v5, O6))))
def rmX2_sleep : Room := { frames := 3, cells := 0, slots := 0, locals := 103 }
set_option maxHeartbeats 4000000 in
set_option maxRecDepth 100000 in
theorem tX2_sleep {l : Launch} {dC : Nat → ClassId} {dI : Nat → Nat → Nat} {cI cB cP : ClassId} {ad : Nat → Nat → Nat} {Z : Nat → Nat} {base : Nat} {R : va_W} {N : Nat} {K : OT} {p0 : Int32} {p1 : Int32} {rr : Int32} {KK : OT} (hf : mX2_sleep N K p0 p1 = some (rr, KK)) (hCF : OF Z K) : Met l yX2_sleep wsX2_sleep rmX2_sleep (cBp (dC, dI) vwCl [(cI, .int), (cB, .byte), (cP, .object RX0)] base (outW cI cB cP ad Z K ++ R) [.ref (ad 0 0), .int p0, .int p1]) (cBe (dC, dI) vwCl base (some (.int rr)) (fun ws => ∃ Z : Nat → Nat, ws = (outW cI cB cP ad Z KK ++ R) ∧ OF Z KK)) 0 0 (aB base) := by
  refine Met.ofW (cc := cX2_sleep) (maxL := 3) (ret := (some .int)) (by decide) rfl ?_
  intro p e s m args below meth c s₁ B hml hv
  obtain ⟨rfl, hP, hK, hD, hbs, hE⟩ := hv
  have hx := B.exec
  have hb := B.bytes
  have hr := B.returns
  have hts := atoms_spec (ws := wsX2_sleep) B.pre
  have hown : s.vm.findClass RX2 = some m.cls := findClass_of_methodNamed B.named
  have hlocks := B.notSynchronized
  have hf_10 := hts (.fieldLink RX2 10 "CaravanLogs" "now" "LCaravanLogs$Caravan;") (by decide +kernel)
  have hf_16 := hts (.fieldLink RX2 16 "CaravanLogs" "before" "LCaravanLogs$Caravan;") (by decide +kernel)
  have hwX2 : ∀ w ∈ u_ws RX2 TX2 14, w ∈ wsX2_sleep := by decide +kernel
  have hKI : va_K (dC, dI) vwCl [(cI, .int)] s := K_tys (fun x hx => by simp only [List.mem_cons, List.not_mem_nil, or_false] at hx ⊢; simp [hx]) hK
  have hKB : va_K (dC, dI) vwCl [(cB, .byte)] s := K_tys (fun x hx => by simp only [List.mem_cons, List.not_mem_nil, or_false] at hx ⊢; simp [hx]) hK
  have hS : va_S (aB base) s.heap s.heap [] := va_S.rf
  have hl := lv_entry ([.ref (ad 0 0), .int p0, .int p1]) (n := 3) (Nat.le_of_ble_eq_true rfl)
  rw [lg_entry_eq]
  generalize (lg_sl ([.ref (ad 0 0), .int p0, .int p1]) ++ List.replicate (3 - (lg_sl ([.ref (ad 0 0), .int p0, .int p1])).length) Slot.unset).toArray = ls at hl ⊢
  have hl : lv_has ls 3 [(0, .ref (ad 0 0)), (1, .int p0), (2, .int p1)] := hl
  have h := hf
  unfold mX2_sleep at h
  refine lv_aload_n hx hb dX2_sleep_0 rfl (lv_at hl 0 rfl) ?_
  refine va_get (D := (dC, dI)) (ci := 3) (v := .ref (ad 2 0)) (C := RX2) (T := TX2) (N := 14) hx hb hts hwX2 hown hK hP 0 rfl rfl 1 (by decide) hf_16 (fun _ h9 => h9) rfl dX2_sleep_1 ?_
  refine lv_aload_n hx hb dX2_sleep_4 rfl (lv_at hl 0 rfl) ?_
  refine va_get (D := (dC, dI)) (ci := 3) (v := .ref (ad 1 0)) (C := RX2) (T := TX2) (N := 14) hx hb hts hwX2 hown hK hP 0 rfl rfl 0 (by decide) hf_10 (fun _ h9 => h9) rfl dX2_sleep_5 ?_
  obtain ⟨O2, eO2, h⟩ := inO_some h
  refine call_copy (rest := []) (j := 1) (i := 0) (Rr := R) (O := K) ⟨hx, hb, hml, hown, hts⟩ (by decide) (by decide) (by decide) (tX0_copyFrom (l := l) (dC := dC) (dI := dI) (cI := cI) (ob := ad (1 + 1) 0) (ob2 := ad (1 + 0) 0) (q := fun f => ad (1 + 1) (1 + f)) (q2 := fun f => ad (1 + 0) (1 + f)) (K := K 1) (J := K 0)) (cwV 1 hts gX2_sleep_X0_copyFrom rfl rfl rfl (by decide +kernel) ⟨Nat.le_of_ble_eq_true rfl, Nat.le_of_ble_eq_true rfl⟩) hKI hP hD hS rfl hl.1 rfl (Nat.le_of_ble_eq_true rfl) dX2_sleep_8 ⟨Nat.zero_le _, Nat.zero_le _⟩ (fun H locs hP hD hS => ?_)
  have hP : va_P (dC, dI) vwCl (outW cI cB cP ad Z O2 ++ R) H := by rw [eO2]; exact hP
  have hD : va_D (aB base) (outW cI cB cP ad Z O2 ++ R) := by rw [eO2]; exact hD
  have hCF : OF Z O2 := by rw [eO2]; exact OF_set hCF (by decide)
  refine lv_aload_n hx hb dX2_sleep_11 rfl (lv_at hl 0 rfl) ?_
  refine lv_aload_n hx hb dX2_sleep_12 rfl (lv_at hl 0 rfl) ?_
  refine lv_iload_n hx hb dX2_sleep_13 rfl (lv_at hl 1 rfl) ?_
  refine lv_iload_n hx hb dX2_sleep_14 rfl (lv_at hl 2 rfl) ?_
  obtain ⟨v3, O4, hv3, h⟩ := bdO_some h
  refine call_BVE (As := [.int p0, .int p1]) (rest := [.ref (ad 0 0)]) ⟨hx, hb, hml, hown, hts⟩ (tX2_turnCamp (l := l) (dC := dC) (dI := dI) (cI := cI) (cB := cB) (cP := cP) (ad := ad) (base := base) (R := R) hv3 hCF) (cwV 2 hts gX2_sleep_X2_turnCamp rfl rfl rfl (by decide +kernel) ⟨Nat.le_of_ble_eq_true rfl, Nat.le_of_ble_eq_true rfl⟩) hK hP hD hS (Nat.le_trans hbs hS.1) (fun U hU hW => Env_step rfl rfl hE hS hU hW) 0 rfl rfl (by rfl) hl.1 rfl (Nat.le_of_ble_eq_true rfl) dX2_sleep_15 ⟨Nat.zero_le _, Nat.zero_le _⟩ (fun H locs ws9 hW9 hP hD _ hS => ?_)
  obtain ⟨Z, rfl, hCF⟩ := hW9
  obtain ⟨v5, O6, hv5, h⟩ := bdO_some h
  refine call_BVE (As := [.int v3]) (rest := []) ⟨hx, hb, hml, hown, hts⟩ (tX2_finishChange (l := l) (dC := dC) (dI := dI) (cI := cI) (cB := cB) (cP := cP) (ad := ad) (base := base) (R := R) hv5 hCF) (cwV 1 hts gX2_sleep_X2_finishChange rfl rfl rfl (by decide +kernel) ⟨Nat.le_of_ble_eq_true rfl, Nat.le_of_ble_eq_true rfl⟩) hK hP hD hS (Nat.le_trans hbs hS.1) (fun U hU hW => Env_step rfl rfl hE hS hU hW) 0 rfl rfl (by rfl) hl.1 rfl (Nat.le_of_ble_eq_true rfl) dX2_sleep_18 ⟨Nat.zero_le _, Nat.zero_le _⟩ (fun H locs ws9 hW9 hP hD _ hS => ?_)
  obtain ⟨Z, rfl, hCF⟩ := hW9
  exact (W.iret hx hb hr (fun t ht _ => retO h hCF hP hD hS ht) hS.2.2 dX2_sleep_21)
def fX2_passHours_11 (N : Nat)  (K : OT)  : Option (Int32 × OT) := some ((-2), K)
def fX2_passHours_42 (N : Nat)  (K : OT) (x2 : Int32) : Option (Int32 × OT) := some ((K 0 10 1) - x2, K)
def fX2_passHours_24 (N : Nat)  : Nat → OT → Int32 → Int32 → Int32 → Option (Int32 × OT)
  | 0, _, _, _, _ => none
  | n + 1, K, x1, x2, x3 => (if x1 ≤ x3 then fX2_passHours_42 N  K x2 else bdE (mX0_letHourGoBy N (K 0) ) (fun v2 K3 => inO (oset K 0 K3) (fun O4 => (fX2_passHours_24 N  n) O4 x1 x2 (x3 + 1))))
def mX2_passHours (N : Nat) (K : OT) (p0 : Int32) : Option (Int32 × OT) := (if p0 < 1 then fX2_passHours_11 N  K  else (if p0 ≤ 30 then fX2_passHours_24 N  N K p0 (K 0 10 1) 0 else fX2_passHours_11 N  K ))
def rmX2_passHours : Room := { frames := 5, cells := 0, slots := 0, locals := 134 }
set_option maxHeartbeats 4000000 in
set_option maxRecDepth 100000 in
theorem tX2_passHours {l : Launch} {dC : Nat → ClassId} {dI : Nat → Nat → Nat} {cI cB cP : ClassId} {ad : Nat → Nat → Nat} {Z : Nat → Nat} {base : Nat} {R : va_W} {N : Nat} {K : OT} {p0 : Int32} {rr : Int32} {KK : OT} (hf : mX2_passHours N K p0 = some (rr, KK)) (hCF : OF Z K) : Met l yX2_passHours wsX2_passHours rmX2_passHours (cBp (dC, dI) vwCl [(cI, .int), (cB, .byte), (cP, .object RX0)] base (outW cI cB cP ad Z K ++ R) [.ref (ad 0 0), .int p0]) (cBe (dC, dI) vwCl base (some (.int rr)) (fun ws => ∃ Z : Nat → Nat, ws = (outW cI cB cP ad Z KK ++ R) ∧ OF Z KK)) 0 0 (aB base) := by
  refine Met.ofW (cc := cX2_passHours) (maxL := 4) (ret := (some .int)) (by decide) rfl ?_
  intro p e s m args below meth c s₁ B hml hv
  obtain ⟨rfl, hP, hK, hD, hbs, hE⟩ := hv
  have hx := B.exec
  have hb := B.bytes
  have hr := B.returns
  have hts := atoms_spec (ws := wsX2_passHours) B.pre
  have hown : s.vm.findClass RX2 = some m.cls := findClass_of_methodNamed B.named
  have hlocks := B.notSynchronized
  have hf_10 := hts (.fieldLink RX2 10 "CaravanLogs" "now" "LCaravanLogs$Caravan;") (by decide +kernel)
  have hf_221 := hts (.fieldLink RX2 221 "CaravanLogs$Caravan" "captainsMade" "I") (by decide +kernel)
  have hwX0 : ∀ w ∈ u_ws RX0 TX0 16, w ∈ wsX2_passHours := by decide +kernel
  have hwX2 : ∀ w ∈ u_ws RX2 TX2 14, w ∈ wsX2_passHours := by decide +kernel
  have hKI : va_K (dC, dI) vwCl [(cI, .int)] s := K_tys (fun x hx => by simp only [List.mem_cons, List.not_mem_nil, or_false] at hx ⊢; simp [hx]) hK
  have hKB : va_K (dC, dI) vwCl [(cB, .byte)] s := K_tys (fun x hx => by simp only [List.mem_cons, List.not_mem_nil, or_false] at hx ⊢; simp [hx]) hK
  have t_11 : ∀ {K : OT}  {H : Heap} {locs : List Loc} {Z : Nat → Nat} {ls : Array Slot} (h : fX2_passHours_11 N  K  = some (rr, KK)) (hl : lv_has ls 4 []) (hP : va_P (dC, dI) vwCl (outW cI cB cP ad Z K ++ R) H) (hD : va_D (aB base) (outW cI cB cP ad Z K ++ R)) (hS : va_S (aB base) s.heap H locs) (hCF : OF Z K), W p l e (headSpec wsX2_passHours rmX2_passHours).room s m ([.ref (ad 0 0), .int p0] : List Value).toArray below meth c H locs 0 0 (MQ below (cBe (dC, dI) vwCl base (some (.int rr)) (fun ws => ∃ Z : Nat → Nat, ws = (outW cI cB cP ad Z KK ++ R) ∧ OF Z KK)) ([.ref (ad 0 0), .int p0] : List Value).toArray s 0 0 (aB base)) (F0 m 11 ls []) := by
    intro  K H locs Z ls h hl hP hD hS hCF
    unfold fX2_passHours_11 at h
    refine lv_bipush (v := (-2)) hx hb dX2_passHours_11 (by decide) ?_
    exact (W.iret hx hb hr (fun t ht _ => retO h hCF hP hD hS ht) hS.2.2 dX2_passHours_13)
  have t_42 : ∀ {K : OT} {x2 : Int32} {H : Heap} {locs : List Loc} {Z : Nat → Nat} {ls : Array Slot} (h : fX2_passHours_42 N  K x2 = some (rr, KK)) (hl : lv_has ls 4 [(0, .ref (ad 0 0)), (2, .int x2)]) (hP : va_P (dC, dI) vwCl (outW cI cB cP ad Z K ++ R) H) (hD : va_D (aB base) (outW cI cB cP ad Z K ++ R)) (hS : va_S (aB base) s.heap H locs) (hCF : OF Z K), W p l e (headSpec wsX2_passHours rmX2_passHours).room s m ([.ref (ad 0 0), .int p0] : List Value).toArray below meth c H locs 0 0 (MQ below (cBe (dC, dI) vwCl base (some (.int rr)) (fun ws => ∃ Z : Nat → Nat, ws = (outW cI cB cP ad Z KK ++ R) ∧ OF Z KK)) ([.ref (ad 0 0), .int p0] : List Value).toArray s 0 0 (aB base)) (F0 m 42 ls []) := by
    intro  K x2 H locs Z ls h hl hP hD hS hCF
    unfold fX2_passHours_42 at h
    refine lv_aload_n hx hb dX2_passHours_42 rfl (lv_at hl 0 rfl) ?_
    refine va_get (D := (dC, dI)) (ci := 3) (v := .ref (ad 1 0)) (C := RX2) (T := TX2) (N := 14) hx hb hts hwX2 hown hK hP 0 rfl rfl 0 (by decide) hf_10 (fun _ h9 => h9) rfl dX2_passHours_43 ?_
    refine va_get (D := (dC, dI)) (ci := 1) (v := .int (K 0 10 1)) (C := RX0) (T := TX0) (N := 16) hx hb hts hwX0 hown hK hP 7 rfl rfl 11 (by decide) hf_221 (fun _ h9 => h9) rfl dX2_passHours_46 ?_
    refine lv_iload_n hx hb dX2_passHours_49 rfl (lv_at hl 1 rfl) ?_
    refine lv_isub hx hb dX2_passHours_50 ?_
    exact (W.iret hx hb hr (fun t ht _ => retO h hCF hP hD hS ht) hS.2.2 dX2_passHours_51)
  have t_24 : ∀ {n : Nat}, ∀ {K : OT} {x1 : Int32} {x2 : Int32} {x3 : Int32} {H : Heap} {locs : List Loc} {Z : Nat → Nat} {ls : Array Slot} (h : fX2_passHours_24 N  n K x1 x2 x3 = some (rr, KK)) (hl : lv_has ls 4 [(0, .ref (ad 0 0)), (1, .int x1), (2, .int x2), (3, .int x3)]) (hP : va_P (dC, dI) vwCl (outW cI cB cP ad Z K ++ R) H) (hD : va_D (aB base) (outW cI cB cP ad Z K ++ R)) (hS : va_S (aB base) s.heap H locs) (hCF : OF Z K), W p l e (headSpec wsX2_passHours rmX2_passHours).room s m ([.ref (ad 0 0), .int p0] : List Value).toArray below meth c H locs 0 0 (MQ below (cBe (dC, dI) vwCl base (some (.int rr)) (fun ws => ∃ Z : Nat → Nat, ws = (outW cI cB cP ad Z KK ++ R) ∧ OF Z KK)) ([.ref (ad 0 0), .int p0] : List Value).toArray s 0 0 (aB base)) (F0 m 24 ls []) := by
    intro  n
    induction n with
    | zero =>
      intro K x1 x2 x3 H locs Z ls h hl hP hD hS hCF
      unfold fX2_passHours_24 at h
      cases h
    | succ n ih =>
      intro K x1 x2 x3 H locs Z ls h hl hP hD hS hCF
      unfold fX2_passHours_24 at h
      refine lv_iload_n hx hb dX2_passHours_24 rfl (lv_at hl 3 rfl) ?_
      refine lv_iload_n hx hb dX2_passHours_25 rfl (lv_at hl 1 rfl) ?_
      refine lv_icmp_ge (tgt := 42) hx hb dX2_passHours_26 (by decide) (fun c1 => ?_) (fun c1 => ?_)
      · replace h := if_p c1 h
        exact t_42  h (lv_sub hl [0, 2] rfl) hP hD hS hCF
      · replace h := if_n c1 h
        refine lv_aload_n hx hb dX2_passHours_29 rfl (lv_at hl 0 rfl) ?_
        refine va_get (D := (dC, dI)) (ci := 3) (v := .ref (ad 1 0)) (C := RX2) (T := TX2) (N := 14) hx hb hts hwX2 hown hK hP 0 rfl rfl 0 (by decide) hf_10 (fun _ h9 => h9) rfl dX2_passHours_30 ?_
        obtain ⟨v2, K3, hv2, h⟩ := bdE_some h
        obtain ⟨O4, eO4, h⟩ := inO_some h
        obtain ⟨o1, o2, o3⟩ := o_in 0 (by decide) hP hD
        refine call_VEv (As := []) (rest := []) ⟨hx, hb, hml, hown, hts⟩ (tX0_letHourGoBy (l := l) (dC := dC) (dI := dI) (cI := cI) (ob := ad (1 + 0) 0) (q := fun f => ad (1 + 0) (1 + f)) hv2) (cwV 0 hts gX2_passHours_X0_letHourGoBy rfl rfl rfl (by decide +kernel) ⟨Nat.le_of_ble_eq_true rfl, Nat.le_of_ble_eq_true rfl⟩) hKI o1 o2 hS o3 0 rfl rfl (by rfl) hl.1 rfl (Nat.le_of_ble_eq_true rfl) dX2_passHours_33 ⟨Nat.zero_le _, Nat.zero_le _⟩ (fun H locs hP9 hD9 hk9 hS => ?_)
        have hP8 := o_back 0 (by decide) hP hD hP9 hk9.2
        have hP := hP8.1
        have hD := hP8.2
        have hP : va_P (dC, dI) vwCl (outW cI cB cP ad Z O4 ++ R) H := by rw [eO4]; exact hP
        have hD : va_D (aB base) (outW cI cB cP ad Z O4 ++ R) := by rw [eO4]; exact hD
        have hCF : OF Z O4 := by rw [eO4]; exact OF_set hCF (by decide)
        refine lv_iinc (v := x3 + 1) (lv' := [(3, .int (x3 + 1)), (0, .ref (ad 0 0)), (1, .int x1), (2, .int x2)]) hx hb dX2_passHours_36 hl (k := 3) rfl rfl (by decide) rfl (fun ls hl => ?_)
        refine lv_goto (tgt := 24) hx hb dX2_passHours_39 (by decide) ?_
        exact ih h (lv_sub hl [1, 2, 3, 0] rfl) hP hD hS hCF
  have hS : va_S (aB base) s.heap s.heap [] := va_S.rf
  have hl := lv_entry ([.ref (ad 0 0), .int p0]) (n := 4) (Nat.le_of_ble_eq_true rfl)
  rw [lg_entry_eq]
  generalize (lg_sl ([.ref (ad 0 0), .int p0]) ++ List.replicate (4 - (lg_sl ([.ref (ad 0 0), .int p0])).length) Slot.unset).toArray = ls at hl ⊢
  have hl : lv_has ls 4 [(0, .ref (ad 0 0)), (1, .int p0)] := hl
  have h := hf
  unfold mX2_passHours at h
  refine lv_iload_n hx hb dX2_passHours_0 rfl (lv_at hl 1 rfl) ?_
  refine lv_iconst (v := 1) hx hb dX2_passHours_1 (by decide) ?_
  refine lv_icmp_lt (tgt := 11) hx hb dX2_passHours_2 (by decide) (fun c5 => ?_) (fun c5 => ?_)
  · replace h := if_p c5 h
    exact t_11  h (lv_sub hl [] rfl) hP hD hS hCF
  · replace h := if_n c5 h
    refine lv_iload_n hx hb dX2_passHours_5 rfl (lv_at hl 1 rfl) ?_
    refine lv_bipush (v := 30) hx hb dX2_passHours_6 (by decide) ?_
    refine lv_icmp_le (tgt := 14) hx hb dX2_passHours_8 (by decide) (fun c6 => ?_) (fun c6 => ?_)
    · replace h := if_p c6 h
      refine lv_aload_n hx hb dX2_passHours_14 rfl (lv_at hl 0 rfl) ?_
      refine va_get (D := (dC, dI)) (ci := 3) (v := .ref (ad 1 0)) (C := RX2) (T := TX2) (N := 14) hx hb hts hwX2 hown hK hP 0 rfl rfl 0 (by decide) hf_10 (fun _ h9 => h9) rfl dX2_passHours_15 ?_
      refine va_get (D := (dC, dI)) (ci := 1) (v := .int (K 0 10 1)) (C := RX0) (T := TX0) (N := 16) hx hb hts hwX0 hown hK hP 7 rfl rfl 11 (by decide) hf_221 (fun _ h9 => h9) rfl dX2_passHours_18 ?_
      refine lv_istore_n (lv' := [(2, .int (K 0 10 1)), (0, .ref (ad 0 0)), (1, .int p0)]) hx hb dX2_passHours_21 rfl hl (by decide) rfl (fun ls hl => ?_)
      refine lv_iconst (v := 0) hx hb dX2_passHours_22 (by decide) ?_
      refine lv_istore_n (lv' := [(3, .int 0), (2, .int (K 0 10 1)), (0, .ref (ad 0 0)), (1, .int p0)]) hx hb dX2_passHours_23 rfl hl (by decide) rfl (fun ls hl => ?_)
      exact t_24  h (lv_sub hl [2, 3, 1, 0] rfl) hP hD hS hCF
    · replace h := if_n c6 h
      exact t_11  h (lv_sub hl [] rfl) hP hD hS hCF
def mX2_pass (N : Nat) (K : OT) (p0 : Int32) : Option (Int32 × OT) := inO (oset K 1 (K 0)) (fun O2 => bdO (mX2_passHours N O2 p0) (fun v3 O4 => bdO (mX2_finishChange N O4 v3) (fun v5 O6 => some (v5, O6))))
def rmX2_pass : Room := { frames := 6, cells := 0, slots := 0, locals := 157 }
set_option maxHeartbeats 4000000 in
set_option maxRecDepth 100000 in
theorem tX2_pass {l : Launch} {dC : Nat → ClassId} {dI : Nat → Nat → Nat} {cI cB cP : ClassId} {ad : Nat → Nat → Nat} {Z : Nat → Nat} {base : Nat} {R : va_W} {N : Nat} {K : OT} {p0 : Int32} {rr : Int32} {KK : OT} (hf : mX2_pass N K p0 = some (rr, KK)) (hCF : OF Z K) : Met l yX2_pass wsX2_pass rmX2_pass (cBp (dC, dI) vwCl [(cI, .int), (cB, .byte), (cP, .object RX0)] base (outW cI cB cP ad Z K ++ R) [.ref (ad 0 0), .int p0]) (cBe (dC, dI) vwCl base (some (.int rr)) (fun ws => ∃ Z : Nat → Nat, ws = (outW cI cB cP ad Z KK ++ R) ∧ OF Z KK)) 0 0 (aB base) := by
  refine Met.ofW (cc := cX2_pass) (maxL := 2) (ret := (some .int)) (by decide) rfl ?_
  intro p e s m args below meth c s₁ B hml hv
  obtain ⟨rfl, hP, hK, hD, hbs, hE⟩ := hv
  have hx := B.exec
  have hb := B.bytes
  have hr := B.returns
  have hts := atoms_spec (ws := wsX2_pass) B.pre
  have hown : s.vm.findClass RX2 = some m.cls := findClass_of_methodNamed B.named
  have hlocks := B.notSynchronized
  have hf_10 := hts (.fieldLink RX2 10 "CaravanLogs" "now" "LCaravanLogs$Caravan;") (by decide +kernel)
  have hf_16 := hts (.fieldLink RX2 16 "CaravanLogs" "before" "LCaravanLogs$Caravan;") (by decide +kernel)
  have hwX2 : ∀ w ∈ u_ws RX2 TX2 14, w ∈ wsX2_pass := by decide +kernel
  have hKI : va_K (dC, dI) vwCl [(cI, .int)] s := K_tys (fun x hx => by simp only [List.mem_cons, List.not_mem_nil, or_false] at hx ⊢; simp [hx]) hK
  have hKB : va_K (dC, dI) vwCl [(cB, .byte)] s := K_tys (fun x hx => by simp only [List.mem_cons, List.not_mem_nil, or_false] at hx ⊢; simp [hx]) hK
  have hS : va_S (aB base) s.heap s.heap [] := va_S.rf
  have hl := lv_entry ([.ref (ad 0 0), .int p0]) (n := 2) (Nat.le_of_ble_eq_true rfl)
  rw [lg_entry_eq]
  generalize (lg_sl ([.ref (ad 0 0), .int p0]) ++ List.replicate (2 - (lg_sl ([.ref (ad 0 0), .int p0])).length) Slot.unset).toArray = ls at hl ⊢
  have hl : lv_has ls 2 [(0, .ref (ad 0 0)), (1, .int p0)] := hl
  have h := hf
  unfold mX2_pass at h
  refine lv_aload_n hx hb dX2_pass_0 rfl (lv_at hl 0 rfl) ?_
  refine va_get (D := (dC, dI)) (ci := 3) (v := .ref (ad 2 0)) (C := RX2) (T := TX2) (N := 14) hx hb hts hwX2 hown hK hP 0 rfl rfl 1 (by decide) hf_16 (fun _ h9 => h9) rfl dX2_pass_1 ?_
  refine lv_aload_n hx hb dX2_pass_4 rfl (lv_at hl 0 rfl) ?_
  refine va_get (D := (dC, dI)) (ci := 3) (v := .ref (ad 1 0)) (C := RX2) (T := TX2) (N := 14) hx hb hts hwX2 hown hK hP 0 rfl rfl 0 (by decide) hf_10 (fun _ h9 => h9) rfl dX2_pass_5 ?_
  obtain ⟨O2, eO2, h⟩ := inO_some h
  refine call_copy (rest := []) (j := 1) (i := 0) (Rr := R) (O := K) ⟨hx, hb, hml, hown, hts⟩ (by decide) (by decide) (by decide) (tX0_copyFrom (l := l) (dC := dC) (dI := dI) (cI := cI) (ob := ad (1 + 1) 0) (ob2 := ad (1 + 0) 0) (q := fun f => ad (1 + 1) (1 + f)) (q2 := fun f => ad (1 + 0) (1 + f)) (K := K 1) (J := K 0)) (cwV 1 hts gX2_pass_X0_copyFrom rfl rfl rfl (by decide +kernel) ⟨Nat.le_of_ble_eq_true rfl, Nat.le_of_ble_eq_true rfl⟩) hKI hP hD hS rfl hl.1 rfl (Nat.le_of_ble_eq_true rfl) dX2_pass_8 ⟨Nat.zero_le _, Nat.zero_le _⟩ (fun H locs hP hD hS => ?_)
  have hP : va_P (dC, dI) vwCl (outW cI cB cP ad Z O2 ++ R) H := by rw [eO2]; exact hP
  have hD : va_D (aB base) (outW cI cB cP ad Z O2 ++ R) := by rw [eO2]; exact hD
  have hCF : OF Z O2 := by rw [eO2]; exact OF_set hCF (by decide)
  refine lv_aload_n hx hb dX2_pass_11 rfl (lv_at hl 0 rfl) ?_
  refine lv_aload_n hx hb dX2_pass_12 rfl (lv_at hl 0 rfl) ?_
  refine lv_iload_n hx hb dX2_pass_13 rfl (lv_at hl 1 rfl) ?_
  obtain ⟨v3, O4, hv3, h⟩ := bdO_some h
  refine call_BVE (As := [.int p0]) (rest := [.ref (ad 0 0)]) ⟨hx, hb, hml, hown, hts⟩ (tX2_passHours (l := l) (dC := dC) (dI := dI) (cI := cI) (cB := cB) (cP := cP) (ad := ad) (base := base) (R := R) hv3 hCF) (cwV 1 hts gX2_pass_X2_passHours rfl rfl rfl (by decide +kernel) ⟨Nat.le_of_ble_eq_true rfl, Nat.le_of_ble_eq_true rfl⟩) hK hP hD hS (Nat.le_trans hbs hS.1) (fun U hU hW => Env_step rfl rfl hE hS hU hW) 0 rfl rfl (by rfl) hl.1 rfl (Nat.le_of_ble_eq_true rfl) dX2_pass_14 ⟨Nat.zero_le _, Nat.zero_le _⟩ (fun H locs ws9 hW9 hP hD _ hS => ?_)
  obtain ⟨Z, rfl, hCF⟩ := hW9
  obtain ⟨v5, O6, hv5, h⟩ := bdO_some h
  refine call_BVE (As := [.int v3]) (rest := []) ⟨hx, hb, hml, hown, hts⟩ (tX2_finishChange (l := l) (dC := dC) (dI := dI) (cI := cI) (cB := cB) (cP := cP) (ad := ad) (base := base) (R := R) hv5 hCF) (cwV 1 hts gX2_pass_X2_finishChange rfl rfl rfl (by decide +kernel) ⟨Nat.le_of_ble_eq_true rfl, Nat.le_of_ble_eq_true rfl⟩) hK hP hD hS (Nat.le_trans hbs hS.1) (fun U hU hW => Env_step rfl rfl hE hS hU hW) 0 rfl rfl (by rfl) hl.1 rfl (Nat.le_of_ble_eq_true rfl) dX2_pass_17 ⟨Nat.zero_le _, Nat.zero_le _⟩ (fun H locs ws9 hW9 hP hD _ hS => ?_)
  obtain ⟨Z, rfl, hCF⟩ := hW9
  exact (W.iret hx hb hr (fun t ht _ => retO h hCF hP hD hS ht) hS.2.2 dX2_pass_20)
def mX2_campOf (N : Nat) (K : OT) (p0 : Int32) (p1 : Int32) : Option Int32 := bdP (mX2_isNoCamp N p0) (fun v1 => (if v1 = 0 then (if p1 = 0 then rdA (K 0 0) 5 p0 (fun v4 => some v4) else (if p1 = 1 then rdA (K 0 1) 5 p0 (fun v7 => some v7) else (if p1 = 2 then rdA (K 0 2) 5 p0 (fun v10 => some v10) else (if p1 = 3 then rdA (K 0 3) 5 p0 (fun v13 => some v13) else (if p1 = 4 then rdA (K 0 5) 5 p0 (fun v16 => some v16) else (if p1 = 5 then rdA (K 0 6) 5 p0 (fun v19 => some v19) else (if p1 = 6 then rdA (K 0 4) 5 p0 (fun v22 => some v22) else (if p1 = 7 then some (3 + p0) else (if p1 = 8 then bdP (mX0_lastTerm N (K 0) p0) (fun v26 => some v26) else some ((-2))))))))))) else some ((-1))))
def rmX2_campOf : Room := { frames := 2, cells := 0, slots := 0, locals := 61 }
set_option maxHeartbeats 4000000 in
set_option maxRecDepth 100000 in
theorem tX2_campOf {l : Launch} {dC : Nat → ClassId} {dI : Nat → Nat → Nat} {cI cB cP : ClassId} {ad : Nat → Nat → Nat} {Z : Nat → Nat} {base : Nat} {R : va_W} {N : Nat} {K : OT} {p0 : Int32} {p1 : Int32} {rr : Int32} (hf : mX2_campOf N K p0 p1 = some rr) (hCF : OF Z K) : Met l yX2_campOf wsX2_campOf rmX2_campOf (cBp (dC, dI) vwCl [(cI, .int), (cB, .byte), (cP, .object RX0)] base (outW cI cB cP ad Z K ++ R) [.ref (ad 0 0), .int p0, .int p1]) (cQp rr) 0 0 (fun _ => False) := by
  refine Met.ofW (cc := cX2_campOf) (maxL := 3) (ret := (some .int)) (by decide) rfl ?_
  intro p e s m args below meth c s₁ B hml hv
  obtain ⟨rfl, hP, hK, hD, hbs, hE⟩ := hv
  have hx := B.exec
  have hb := B.bytes
  have hr := B.returns
  have hts := atoms_spec (ws := wsX2_campOf) B.pre
  have hown : s.vm.findClass RX2 = some m.cls := findClass_of_methodNamed B.named
  have hlocks := B.notSynchronized
  have hf_10 := hts (.fieldLink RX2 10 "CaravanLogs" "now" "LCaravanLogs$Caravan;") (by decide +kernel)
  have hf_98 := hts (.fieldLink RX2 98 "CaravanLogs$Caravan" "term" "[I") (by decide +kernel)
  have hf_102 := hts (.fieldLink RX2 102 "CaravanLogs$Caravan" "vote" "[I") (by decide +kernel)
  have hf_105 := hts (.fieldLink RX2 105 "CaravanLogs$Caravan" "isCaptain" "[I") (by decide +kernel)
  have hf_108 := hts (.fieldLink RX2 108 "CaravanLogs$Caravan" "isAwake" "[I") (by decide +kernel)
  have hf_111 := hts (.fieldLink RX2 111 "CaravanLogs$Caravan" "pages" "[I") (by decide +kernel)
  have hf_114 := hts (.fieldLink RX2 114 "CaravanLogs$Caravan" "settled" "[I") (by decide +kernel)
  have hf_117 := hts (.fieldLink RX2 117 "CaravanLogs$Caravan" "silence" "[I") (by decide +kernel)
  have hEU : ∀ U : State, U.heap = s.heap → s.WarmedH U.vm → EnvB base U := fun U hU hW => Env_step rfl rfl hE va_S.rf hU hW
  have hwX0 : ∀ w ∈ u_ws RX0 TX0 16, w ∈ wsX2_campOf := by decide +kernel
  have hwX2 : ∀ w ∈ u_ws RX2 TX2 14, w ∈ wsX2_campOf := by decide +kernel
  have hKI : va_K (dC, dI) vwCl [(cI, .int)] s := K_tys (fun x hx => by simp only [List.mem_cons, List.not_mem_nil, or_false] at hx ⊢; simp [hx]) hK
  have hKB : va_K (dC, dI) vwCl [(cB, .byte)] s := K_tys (fun x hx => by simp only [List.mem_cons, List.not_mem_nil, or_false] at hx ⊢; simp [hx]) hK
  have hl := lv_entry ([.ref (ad 0 0), .int p0, .int p1]) (n := 3) (Nat.le_of_ble_eq_true rfl)
  rw [lg_entry_eq]
  generalize (lg_sl ([.ref (ad 0 0), .int p0, .int p1]) ++ List.replicate (3 - (lg_sl ([.ref (ad 0 0), .int p0, .int p1])).length) Slot.unset).toArray = ls at hl ⊢
  have hl : lv_has ls 3 [(0, .ref (ad 0 0)), (1, .int p0), (2, .int p1)] := hl
  have h := hf
  unfold mX2_campOf at h
  refine lv_iload_n hx hb dX2_campOf_0 rfl (lv_at hl 1 rfl) ?_
  obtain ⟨v1, hv1, h⟩ := bdP_some h
  refine call_SP (As := [.int p0]) (rest := []) ⟨hx, hb, hml, hown, hts⟩ (tX2_isNoCamp (l := l) hv1) (va_cwS 1 hts gX2_campOf_X2_isNoCamp rfl rfl rfl (by decide +kernel) ⟨Nat.le_of_ble_eq_true rfl, Nat.le_of_ble_eq_true rfl⟩) (by rfl) hl.1 rfl (Nat.le_of_ble_eq_true rfl) dX2_campOf_1 ⟨Nat.zero_le _, Nat.zero_le _⟩ ?_
  refine lv_if_eq (tgt := 9) hx hb dX2_campOf_4 (by decide) (fun c2 => ?_) (fun c2 => ?_)
  · replace h := if_p c2 h
    refine lv_iload_n hx hb dX2_campOf_9 rfl (lv_at hl 2 rfl) ?_
    by_cases c3 : p1 = 0
    · replace h := if_p c3 h
      refine lv_tableIn (tgt := 60) hx hb dX2_campOf_10 (by rw [c3]; decide) (by rw [c3]; decide) (by rw [c3]; rfl) (by decide) ?_
      refine lv_aload_n hx hb dX2_campOf_60 rfl (lv_at hl 0 rfl) ?_
      refine va_get (D := (dC, dI)) (ci := 3) (v := .ref (ad 1 0)) (C := RX2) (T := TX2) (N := 14) hx hb hts hwX2 hown hK hP 0 rfl rfl 0 (by decide) hf_10 (fun _ h9 => h9) rfl dX2_campOf_61 ?_
      refine va_get (D := (dC, dI)) (ci := 1) (v := .ref (ad 1 1)) (C := RX0) (T := TX0) (N := 16) hx hb hts hwX0 hown hK hP 7 rfl rfl 0 (by decide) hf_98 (fun _ h9 => h9) rfl dX2_campOf_64 ?_
      refine lv_iload_n hx hb dX2_campOf_67 rfl (lv_at hl 1 rfl) ?_
      obtain ⟨hi5, v4, ev4, h⟩ := rdA_some h
      refine k_iald hx hb hK hP 8 0 rfl rfl hi5 ev4 dX2_campOf_68 ?_
      exact W.iret hx hb hr (fun t ht _ => retP h ht) (fun _ h9 => absurd h9 List.not_mem_nil) dX2_campOf_69
    · replace h := if_n c3 h
      by_cases c6 : p1 = 1
      · replace h := if_p c6 h
        refine lv_tableIn (tgt := 70) hx hb dX2_campOf_10 (by rw [c6]; decide) (by rw [c6]; decide) (by rw [c6]; rfl) (by decide) ?_
        refine lv_aload_n hx hb dX2_campOf_70 rfl (lv_at hl 0 rfl) ?_
        refine va_get (D := (dC, dI)) (ci := 3) (v := .ref (ad 1 0)) (C := RX2) (T := TX2) (N := 14) hx hb hts hwX2 hown hK hP 0 rfl rfl 0 (by decide) hf_10 (fun _ h9 => h9) rfl dX2_campOf_71 ?_
        refine va_get (D := (dC, dI)) (ci := 1) (v := .ref (ad 1 2)) (C := RX0) (T := TX0) (N := 16) hx hb hts hwX0 hown hK hP 7 rfl rfl 1 (by decide) hf_102 (fun _ h9 => h9) rfl dX2_campOf_74 ?_
        refine lv_iload_n hx hb dX2_campOf_77 rfl (lv_at hl 1 rfl) ?_
        obtain ⟨hi8, v7, ev7, h⟩ := rdA_some h
        refine k_iald hx hb hK hP 9 0 rfl rfl hi8 ev7 dX2_campOf_78 ?_
        exact W.iret hx hb hr (fun t ht _ => retP h ht) (fun _ h9 => absurd h9 List.not_mem_nil) dX2_campOf_79
      · replace h := if_n c6 h
        by_cases c9 : p1 = 2
        · replace h := if_p c9 h
          refine lv_tableIn (tgt := 80) hx hb dX2_campOf_10 (by rw [c9]; decide) (by rw [c9]; decide) (by rw [c9]; rfl) (by decide) ?_
          refine lv_aload_n hx hb dX2_campOf_80 rfl (lv_at hl 0 rfl) ?_
          refine va_get (D := (dC, dI)) (ci := 3) (v := .ref (ad 1 0)) (C := RX2) (T := TX2) (N := 14) hx hb hts hwX2 hown hK hP 0 rfl rfl 0 (by decide) hf_10 (fun _ h9 => h9) rfl dX2_campOf_81 ?_
          refine va_get (D := (dC, dI)) (ci := 1) (v := .ref (ad 1 3)) (C := RX0) (T := TX0) (N := 16) hx hb hts hwX0 hown hK hP 7 rfl rfl 2 (by decide) hf_105 (fun _ h9 => h9) rfl dX2_campOf_84 ?_
          refine lv_iload_n hx hb dX2_campOf_87 rfl (lv_at hl 1 rfl) ?_
          obtain ⟨hi11, v10, ev10, h⟩ := rdA_some h
          refine k_iald hx hb hK hP 10 0 rfl rfl hi11 ev10 dX2_campOf_88 ?_
          exact W.iret hx hb hr (fun t ht _ => retP h ht) (fun _ h9 => absurd h9 List.not_mem_nil) dX2_campOf_89
        · replace h := if_n c9 h
          by_cases c12 : p1 = 3
          · replace h := if_p c12 h
            refine lv_tableIn (tgt := 90) hx hb dX2_campOf_10 (by rw [c12]; decide) (by rw [c12]; decide) (by rw [c12]; rfl) (by decide) ?_
            refine lv_aload_n hx hb dX2_campOf_90 rfl (lv_at hl 0 rfl) ?_
            refine va_get (D := (dC, dI)) (ci := 3) (v := .ref (ad 1 0)) (C := RX2) (T := TX2) (N := 14) hx hb hts hwX2 hown hK hP 0 rfl rfl 0 (by decide) hf_10 (fun _ h9 => h9) rfl dX2_campOf_91 ?_
            refine va_get (D := (dC, dI)) (ci := 1) (v := .ref (ad 1 4)) (C := RX0) (T := TX0) (N := 16) hx hb hts hwX0 hown hK hP 7 rfl rfl 3 (by decide) hf_108 (fun _ h9 => h9) rfl dX2_campOf_94 ?_
            refine lv_iload_n hx hb dX2_campOf_97 rfl (lv_at hl 1 rfl) ?_
            obtain ⟨hi14, v13, ev13, h⟩ := rdA_some h
            refine k_iald hx hb hK hP 11 0 rfl rfl hi14 ev13 dX2_campOf_98 ?_
            exact W.iret hx hb hr (fun t ht _ => retP h ht) (fun _ h9 => absurd h9 List.not_mem_nil) dX2_campOf_99
          · replace h := if_n c12 h
            by_cases c15 : p1 = 4
            · replace h := if_p c15 h
              refine lv_tableIn (tgt := 100) hx hb dX2_campOf_10 (by rw [c15]; decide) (by rw [c15]; decide) (by rw [c15]; rfl) (by decide) ?_
              refine lv_aload_n hx hb dX2_campOf_100 rfl (lv_at hl 0 rfl) ?_
              refine va_get (D := (dC, dI)) (ci := 3) (v := .ref (ad 1 0)) (C := RX2) (T := TX2) (N := 14) hx hb hts hwX2 hown hK hP 0 rfl rfl 0 (by decide) hf_10 (fun _ h9 => h9) rfl dX2_campOf_101 ?_
              refine va_get (D := (dC, dI)) (ci := 1) (v := .ref (ad 1 6)) (C := RX0) (T := TX0) (N := 16) hx hb hts hwX0 hown hK hP 7 rfl rfl 5 (by decide) hf_111 (fun _ h9 => h9) rfl dX2_campOf_104 ?_
              refine lv_iload_n hx hb dX2_campOf_107 rfl (lv_at hl 1 rfl) ?_
              obtain ⟨hi17, v16, ev16, h⟩ := rdA_some h
              refine k_iald hx hb hK hP 13 0 rfl rfl hi17 ev16 dX2_campOf_108 ?_
              exact W.iret hx hb hr (fun t ht _ => retP h ht) (fun _ h9 => absurd h9 List.not_mem_nil) dX2_campOf_109
            · replace h := if_n c15 h
              by_cases c18 : p1 = 5
              · replace h := if_p c18 h
                refine lv_tableIn (tgt := 110) hx hb dX2_campOf_10 (by rw [c18]; decide) (by rw [c18]; decide) (by rw [c18]; rfl) (by decide) ?_
                refine lv_aload_n hx hb dX2_campOf_110 rfl (lv_at hl 0 rfl) ?_
                refine va_get (D := (dC, dI)) (ci := 3) (v := .ref (ad 1 0)) (C := RX2) (T := TX2) (N := 14) hx hb hts hwX2 hown hK hP 0 rfl rfl 0 (by decide) hf_10 (fun _ h9 => h9) rfl dX2_campOf_111 ?_
                refine va_get (D := (dC, dI)) (ci := 1) (v := .ref (ad 1 7)) (C := RX0) (T := TX0) (N := 16) hx hb hts hwX0 hown hK hP 7 rfl rfl 6 (by decide) hf_114 (fun _ h9 => h9) rfl dX2_campOf_114 ?_
                refine lv_iload_n hx hb dX2_campOf_117 rfl (lv_at hl 1 rfl) ?_
                obtain ⟨hi20, v19, ev19, h⟩ := rdA_some h
                refine k_iald hx hb hK hP 14 0 rfl rfl hi20 ev19 dX2_campOf_118 ?_
                exact W.iret hx hb hr (fun t ht _ => retP h ht) (fun _ h9 => absurd h9 List.not_mem_nil) dX2_campOf_119
              · replace h := if_n c18 h
                by_cases c21 : p1 = 6
                · replace h := if_p c21 h
                  refine lv_tableIn (tgt := 120) hx hb dX2_campOf_10 (by rw [c21]; decide) (by rw [c21]; decide) (by rw [c21]; rfl) (by decide) ?_
                  refine lv_aload_n hx hb dX2_campOf_120 rfl (lv_at hl 0 rfl) ?_
                  refine va_get (D := (dC, dI)) (ci := 3) (v := .ref (ad 1 0)) (C := RX2) (T := TX2) (N := 14) hx hb hts hwX2 hown hK hP 0 rfl rfl 0 (by decide) hf_10 (fun _ h9 => h9) rfl dX2_campOf_121 ?_
                  refine va_get (D := (dC, dI)) (ci := 1) (v := .ref (ad 1 5)) (C := RX0) (T := TX0) (N := 16) hx hb hts hwX0 hown hK hP 7 rfl rfl 4 (by decide) hf_117 (fun _ h9 => h9) rfl dX2_campOf_124 ?_
                  refine lv_iload_n hx hb dX2_campOf_127 rfl (lv_at hl 1 rfl) ?_
                  obtain ⟨hi23, v22, ev22, h⟩ := rdA_some h
                  refine k_iald hx hb hK hP 12 0 rfl rfl hi23 ev22 dX2_campOf_128 ?_
                  exact W.iret hx hb hr (fun t ht _ => retP h ht) (fun _ h9 => absurd h9 List.not_mem_nil) dX2_campOf_129
                · replace h := if_n c21 h
                  by_cases c24 : p1 = 7
                  · replace h := if_p c24 h
                    refine lv_tableIn (tgt := 130) hx hb dX2_campOf_10 (by rw [c24]; decide) (by rw [c24]; decide) (by rw [c24]; rfl) (by decide) ?_
                    refine lv_iconst (v := 3) hx hb dX2_campOf_130 (by decide) ?_
                    refine lv_iload_n hx hb dX2_campOf_131 rfl (lv_at hl 1 rfl) ?_
                    refine lv_iadd hx hb dX2_campOf_132 ?_
                    exact W.iret hx hb hr (fun t ht _ => retP h ht) (fun _ h9 => absurd h9 List.not_mem_nil) dX2_campOf_133
                  · replace h := if_n c24 h
                    by_cases c25 : p1 = 8
                    · replace h := if_p c25 h
                      refine lv_tableIn (tgt := 134) hx hb dX2_campOf_10 (by rw [c25]; decide) (by rw [c25]; decide) (by rw [c25]; rfl) (by decide) ?_
                      refine lv_aload_n hx hb dX2_campOf_134 rfl (lv_at hl 0 rfl) ?_
                      refine va_get (D := (dC, dI)) (ci := 3) (v := .ref (ad 1 0)) (C := RX2) (T := TX2) (N := 14) hx hb hts hwX2 hown hK hP 0 rfl rfl 0 (by decide) hf_10 (fun _ h9 => h9) rfl dX2_campOf_135 ?_
                      refine lv_iload_n hx hb dX2_campOf_138 rfl (lv_at hl 1 rfl) ?_
                      obtain ⟨v26, hv26, h⟩ := bdP_some h
                      refine call_VP (As := [.int p0]) (rest := []) ⟨hx, hb, hml, hown, hts⟩ (tX0_lastTerm (l := l) (dC := dC) (dI := dI) (cI := cI) (ob := ad (1 + 0) 0) (q := fun f => ad (1 + 0) (1 + f)) hv26) (cwV 1 hts gX2_campOf_X0_lastTerm rfl rfl rfl (by decide +kernel) ⟨Nat.le_of_ble_eq_true rfl, Nat.le_of_ble_eq_true rfl⟩) hKI (o_inP 0 (by decide) hP) 0 rfl rfl (by rfl) hl.1 rfl (Nat.le_of_ble_eq_true rfl) dX2_campOf_139 ⟨Nat.zero_le _, Nat.zero_le _⟩ ?_
                      exact W.iret hx hb hr (fun t ht _ => retP h ht) (fun _ h9 => absurd h9 List.not_mem_nil) dX2_campOf_142
                    · replace h := if_n c25 h
                      -- default
                      have qc3 := i32_ne c3; rw [show (0 : Int32).toInt = 0 from by decide] at qc3
                      have qc6 := i32_ne c6; rw [show (1 : Int32).toInt = 1 from by decide] at qc6
                      have qc9 := i32_ne c9; rw [show (2 : Int32).toInt = 2 from by decide] at qc9
                      have qc12 := i32_ne c12; rw [show (3 : Int32).toInt = 3 from by decide] at qc12
                      have qc15 := i32_ne c15; rw [show (4 : Int32).toInt = 4 from by decide] at qc15
                      have qc18 := i32_ne c18; rw [show (5 : Int32).toInt = 5 from by decide] at qc18
                      have qc21 := i32_ne c21; rw [show (6 : Int32).toInt = 6 from by decide] at qc21
                      have qc24 := i32_ne c24; rw [show (7 : Int32).toInt = 7 from by decide] at qc24
                      have qc25 := i32_ne c25; rw [show (8 : Int32).toInt = 8 from by decide] at qc25
                      refine lv_tableOut (tgt := 143) hx hb dX2_campOf_10 (by omega) (by decide) ?_
                      refine lv_bipush (v := (-2)) hx hb dX2_campOf_143 (by decide) ?_
                      exact W.iret hx hb hr (fun t ht _ => retP h ht) (fun _ h9 => absurd h9 List.not_mem_nil) dX2_campOf_145
  · replace h := if_n c2 h
    refine lv_iconst (v := (-1)) hx hb dX2_campOf_7 (by decide) ?_
    exact W.iret hx hb hr (fun t ht _ => retP h ht) (fun _ h9 => absurd h9 List.not_mem_nil) dX2_campOf_8
def fX2_isNoPage_29 (N : Nat) (K : OT)  (y0 : Int32) : Option Int32 := gd (y0 = 0 ∨ y0 = 1) (some y0)
def fX2_isNoPage_24 (N : Nat) (K : OT)   : Option Int32 := fX2_isNoPage_29 N K  1
def mX2_isNoPage (N : Nat) (K : OT) (p0 : Int32) (p1 : Int32) : Option Int32 := bdP (mX2_isNoCamp N p0) (fun v1 => (if v1 = 0 then (if p1 < 0 then fX2_isNoPage_24 N K   else rdA (K 0 5) 5 p0 (fun v4 => (if p1 < v4 then fX2_isNoPage_29 N K  0 else fX2_isNoPage_24 N K  ))) else fX2_isNoPage_24 N K  ))
def rmX2_isNoPage : Room := { frames := 2, cells := 0, slots := 0, locals := 60 }
set_option maxHeartbeats 4000000 in
set_option maxRecDepth 100000 in
theorem tX2_isNoPage {l : Launch} {dC : Nat → ClassId} {dI : Nat → Nat → Nat} {cI cB cP : ClassId} {ad : Nat → Nat → Nat} {Z : Nat → Nat} {base : Nat} {R : va_W} {N : Nat} {K : OT} {p0 : Int32} {p1 : Int32} {rr : Int32} (hf : mX2_isNoPage N K p0 p1 = some rr) (hCF : OF Z K) : Met l yX2_isNoPage wsX2_isNoPage rmX2_isNoPage (cBp (dC, dI) vwCl [(cI, .int), (cB, .byte), (cP, .object RX0)] base (outW cI cB cP ad Z K ++ R) [.ref (ad 0 0), .int p0, .int p1]) (cQp rr) 0 0 (fun _ => False) := by
  refine Met.ofW (cc := cX2_isNoPage) (maxL := 3) (ret := (some .boolean)) (by decide) rfl ?_
  intro p e s m args below meth c s₁ B hml hv
  obtain ⟨rfl, hP, hK, hD, hbs, hE⟩ := hv
  have hx := B.exec
  have hb := B.bytes
  have hr := B.returns
  have hts := atoms_spec (ws := wsX2_isNoPage) B.pre
  have hown : s.vm.findClass RX2 = some m.cls := findClass_of_methodNamed B.named
  have hlocks := B.notSynchronized
  have hf_10 := hts (.fieldLink RX2 10 "CaravanLogs" "now" "LCaravanLogs$Caravan;") (by decide +kernel)
  have hf_111 := hts (.fieldLink RX2 111 "CaravanLogs$Caravan" "pages" "[I") (by decide +kernel)
  have hEU : ∀ U : State, U.heap = s.heap → s.WarmedH U.vm → EnvB base U := fun U hU hW => Env_step rfl rfl hE va_S.rf hU hW
  have hwX0 : ∀ w ∈ u_ws RX0 TX0 16, w ∈ wsX2_isNoPage := by decide +kernel
  have hwX2 : ∀ w ∈ u_ws RX2 TX2 14, w ∈ wsX2_isNoPage := by decide +kernel
  have hKI : va_K (dC, dI) vwCl [(cI, .int)] s := K_tys (fun x hx => by simp only [List.mem_cons, List.not_mem_nil, or_false] at hx ⊢; simp [hx]) hK
  have hKB : va_K (dC, dI) vwCl [(cB, .byte)] s := K_tys (fun x hx => by simp only [List.mem_cons, List.not_mem_nil, or_false] at hx ⊢; simp [hx]) hK
  have t_29 : ∀ {y0 : Int32} {ls : Array Slot} (h : fX2_isNoPage_29 N K  y0 = some rr) (hl : lv_has ls 3 []), W p l e (headSpec wsX2_isNoPage rmX2_isNoPage).room s m ([.ref (ad 0 0), .int p0, .int p1] : List Value).toArray below meth c s.heap [] 0 0 (MQ below (cQp rr) ([.ref (ad 0 0), .int p0, .int p1] : List Value).toArray s 0 0 (fun _ => False)) (F0 m 29 ls [.int y0]) := by
    intro  y0 ls h hl
    unfold fX2_isNoPage_29 at h
    obtain ⟨hz, h⟩ := gd_some h
    exact W.zret hx hb hr (zb_ok hz) (fun t ht _ => retP h ht) (fun _ h9 => absurd h9 List.not_mem_nil) dX2_isNoPage_29
  have t_24 : ∀  {ls : Array Slot} (h : fX2_isNoPage_24 N K   = some rr) (hl : lv_has ls 3 []), W p l e (headSpec wsX2_isNoPage rmX2_isNoPage).room s m ([.ref (ad 0 0), .int p0, .int p1] : List Value).toArray below meth c s.heap [] 0 0 (MQ below (cQp rr) ([.ref (ad 0 0), .int p0, .int p1] : List Value).toArray s 0 0 (fun _ => False)) (F0 m 24 ls []) := by
    intro   ls h hl
    unfold fX2_isNoPage_24 at h
    refine lv_iconst (v := 1) hx hb dX2_isNoPage_24 (by decide) ?_
    refine lv_goto (tgt := 29) hx hb dX2_isNoPage_25 (by decide) ?_
    exact t_29  h (lv_sub hl [] rfl)
  have hl := lv_entry ([.ref (ad 0 0), .int p0, .int p1]) (n := 3) (Nat.le_of_ble_eq_true rfl)
  rw [lg_entry_eq]
  generalize (lg_sl ([.ref (ad 0 0), .int p0, .int p1]) ++ List.replicate (3 - (lg_sl ([.ref (ad 0 0), .int p0, .int p1])).length) Slot.unset).toArray = ls at hl ⊢
  have hl : lv_has ls 3 [(0, .ref (ad 0 0)), (1, .int p0), (2, .int p1)] := hl
  have h := hf
  unfold mX2_isNoPage at h
  refine lv_iload_n hx hb dX2_isNoPage_0 rfl (lv_at hl 1 rfl) ?_
  obtain ⟨v1, hv1, h⟩ := bdP_some h
  refine call_SP (As := [.int p0]) (rest := []) ⟨hx, hb, hml, hown, hts⟩ (tX2_isNoCamp (l := l) hv1) (va_cwS 1 hts gX2_isNoPage_X2_isNoCamp rfl rfl rfl (by decide +kernel) ⟨Nat.le_of_ble_eq_true rfl, Nat.le_of_ble_eq_true rfl⟩) (by rfl) hl.1 rfl (Nat.le_of_ble_eq_true rfl) dX2_isNoPage_1 ⟨Nat.zero_le _, Nat.zero_le _⟩ ?_
  refine lv_if_ne (tgt := 24) hx hb dX2_isNoPage_4 (by decide) (fun c2 => ?_) (fun c2 => ?_)
  · replace h := if_n c2 h
    exact t_24  h (lv_sub hl [] rfl)
  · replace h := if_p c2 h
    refine lv_iload_n hx hb dX2_isNoPage_7 rfl (lv_at hl 2 rfl) ?_
    refine lv_if_lt (tgt := 24) hx hb dX2_isNoPage_8 (by decide) (fun c3 => ?_) (fun c3 => ?_)
    · replace h := if_p c3 h
      exact t_24  h (lv_sub hl [] rfl)
    · replace h := if_n c3 h
      refine lv_iload_n hx hb dX2_isNoPage_11 rfl (lv_at hl 2 rfl) ?_
      refine lv_aload_n hx hb dX2_isNoPage_12 rfl (lv_at hl 0 rfl) ?_
      refine va_get (D := (dC, dI)) (ci := 3) (v := .ref (ad 1 0)) (C := RX2) (T := TX2) (N := 14) hx hb hts hwX2 hown hK hP 0 rfl rfl 0 (by decide) hf_10 (fun _ h9 => h9) rfl dX2_isNoPage_13 ?_
      refine va_get (D := (dC, dI)) (ci := 1) (v := .ref (ad 1 6)) (C := RX0) (T := TX0) (N := 16) hx hb hts hwX0 hown hK hP 7 rfl rfl 5 (by decide) hf_111 (fun _ h9 => h9) rfl dX2_isNoPage_16 ?_
      refine lv_iload_n hx hb dX2_isNoPage_19 rfl (lv_at hl 1 rfl) ?_
      obtain ⟨hi5, v4, ev4, h⟩ := rdA_some h
      refine k_iald hx hb hK hP 13 0 rfl rfl hi5 ev4 dX2_isNoPage_20 ?_
      refine lv_icmp_lt (tgt := 28) hx hb dX2_isNoPage_21 (by decide) (fun c6 => ?_) (fun c6 => ?_)
      · replace h := if_p c6 h
        refine lv_iconst (v := 0) hx hb dX2_isNoPage_28 (by decide) ?_
        exact t_29  h (lv_sub hl [] rfl)
      · replace h := if_n c6 h
        exact t_24  h (lv_sub hl [] rfl)
def mX2_pageOf (N : Nat) (K : OT) (p0 : Int32) (p1 : Int32) (p2 : Int32) : Option Int32 := bdP (mX2_isNoPage N K p0 p1) (fun v1 => (if v1 = 0 then (if p2 = 0 then rdA (K 0 7) 60 ((p0 * 12) + p1) (fun v4 => some v4) else (if p2 = 1 then rdA (K 0 8) 60 ((p0 * 12) + p1) (fun v7 => some v7) else some ((-2)))) else some ((-1))))
def rmX2_pageOf : Room := { frames := 3, cells := 0, slots := 0, locals := 82 }
set_option maxHeartbeats 4000000 in
set_option maxRecDepth 100000 in
theorem tX2_pageOf {l : Launch} {dC : Nat → ClassId} {dI : Nat → Nat → Nat} {cI cB cP : ClassId} {ad : Nat → Nat → Nat} {Z : Nat → Nat} {base : Nat} {R : va_W} {N : Nat} {K : OT} {p0 : Int32} {p1 : Int32} {p2 : Int32} {rr : Int32} (hf : mX2_pageOf N K p0 p1 p2 = some rr) (hCF : OF Z K) : Met l yX2_pageOf wsX2_pageOf rmX2_pageOf (cBp (dC, dI) vwCl [(cI, .int), (cB, .byte), (cP, .object RX0)] base (outW cI cB cP ad Z K ++ R) [.ref (ad 0 0), .int p0, .int p1, .int p2]) (cQp rr) 0 0 (fun _ => False) := by
  refine Met.ofW (cc := cX2_pageOf) (maxL := 4) (ret := (some .int)) (by decide) rfl ?_
  intro p e s m args below meth c s₁ B hml hv
  obtain ⟨rfl, hP, hK, hD, hbs, hE⟩ := hv
  have hx := B.exec
  have hb := B.bytes
  have hr := B.returns
  have hts := atoms_spec (ws := wsX2_pageOf) B.pre
  have hown : s.vm.findClass RX2 = some m.cls := findClass_of_methodNamed B.named
  have hlocks := B.notSynchronized
  have hf_10 := hts (.fieldLink RX2 10 "CaravanLogs" "now" "LCaravanLogs$Caravan;") (by decide +kernel)
  have hf_127 := hts (.fieldLink RX2 127 "CaravanLogs$Caravan" "pageTerm" "[I") (by decide +kernel)
  have hf_130 := hts (.fieldLink RX2 130 "CaravanLogs$Caravan" "pageLetter" "[I") (by decide +kernel)
  have hEU : ∀ U : State, U.heap = s.heap → s.WarmedH U.vm → EnvB base U := fun U hU hW => Env_step rfl rfl hE va_S.rf hU hW
  have hwX0 : ∀ w ∈ u_ws RX0 TX0 16, w ∈ wsX2_pageOf := by decide +kernel
  have hwX2 : ∀ w ∈ u_ws RX2 TX2 14, w ∈ wsX2_pageOf := by decide +kernel
  have hKI : va_K (dC, dI) vwCl [(cI, .int)] s := K_tys (fun x hx => by simp only [List.mem_cons, List.not_mem_nil, or_false] at hx ⊢; simp [hx]) hK
  have hKB : va_K (dC, dI) vwCl [(cB, .byte)] s := K_tys (fun x hx => by simp only [List.mem_cons, List.not_mem_nil, or_false] at hx ⊢; simp [hx]) hK
  have hl := lv_entry ([.ref (ad 0 0), .int p0, .int p1, .int p2]) (n := 4) (Nat.le_of_ble_eq_true rfl)
  rw [lg_entry_eq]
  generalize (lg_sl ([.ref (ad 0 0), .int p0, .int p1, .int p2]) ++ List.replicate (4 - (lg_sl ([.ref (ad 0 0), .int p0, .int p1, .int p2])).length) Slot.unset).toArray = ls at hl ⊢
  have hl : lv_has ls 4 [(0, .ref (ad 0 0)), (1, .int p0), (2, .int p1), (3, .int p2)] := hl
  have h := hf
  unfold mX2_pageOf at h
  refine lv_aload_n hx hb dX2_pageOf_0 rfl (lv_at hl 0 rfl) ?_
  refine lv_iload_n hx hb dX2_pageOf_1 rfl (lv_at hl 1 rfl) ?_
  refine lv_iload_n hx hb dX2_pageOf_2 rfl (lv_at hl 2 rfl) ?_
  obtain ⟨v1, hv1, h⟩ := bdP_some h
  refine call_BVP (As := [.int p0, .int p1]) (rest := []) ⟨hx, hb, hml, hown, hts⟩ (tX2_isNoPage (l := l) (dC := dC) (dI := dI) (cI := cI) (cB := cB) (cP := cP) (ad := ad) (base := base) (R := R) hv1 hCF) (cwV 2 hts gX2_pageOf_X2_isNoPage rfl rfl rfl (by decide +kernel) ⟨Nat.le_of_ble_eq_true rfl, Nat.le_of_ble_eq_true rfl⟩) hK hP hD hbs hEU 0 rfl rfl (by rfl) hl.1 rfl (Nat.le_of_ble_eq_true rfl) dX2_pageOf_3 ⟨Nat.zero_le _, Nat.zero_le _⟩ ?_
  refine lv_if_eq (tgt := 11) hx hb dX2_pageOf_6 (by decide) (fun c2 => ?_) (fun c2 => ?_)
  · replace h := if_p c2 h
    refine lv_iload_n hx hb dX2_pageOf_11 rfl (lv_at hl 3 rfl) ?_
    by_cases c3 : p2 = 0
    · replace h := if_p c3 h
      refine lv_lookup (tgt := 40) hx hb dX2_pageOf_12 (by decide) (by rw [c3] <;> rfl) (by decide) ?_
      refine lv_aload_n hx hb dX2_pageOf_40 rfl (lv_at hl 0 rfl) ?_
      refine va_get (D := (dC, dI)) (ci := 3) (v := .ref (ad 1 0)) (C := RX2) (T := TX2) (N := 14) hx hb hts hwX2 hown hK hP 0 rfl rfl 0 (by decide) hf_10 (fun _ h9 => h9) rfl dX2_pageOf_41 ?_
      refine va_get (D := (dC, dI)) (ci := 1) (v := .ref (ad 1 8)) (C := RX0) (T := TX0) (N := 16) hx hb hts hwX0 hown hK hP 7 rfl rfl 7 (by decide) hf_127 (fun _ h9 => h9) rfl dX2_pageOf_44 ?_
      refine lv_iload_n hx hb dX2_pageOf_47 rfl (lv_at hl 1 rfl) ?_
      refine lv_bipush (v := 12) hx hb dX2_pageOf_48 (by decide) ?_
      refine lv_imul hx hb dX2_pageOf_50 ?_
      refine lv_iload_n hx hb dX2_pageOf_51 rfl (lv_at hl 2 rfl) ?_
      refine lv_iadd hx hb dX2_pageOf_52 ?_
      obtain ⟨hi5, v4, ev4, h⟩ := rdA_some h
      refine k_iald hx hb hK hP 15 0 rfl rfl hi5 ev4 dX2_pageOf_53 ?_
      exact W.iret hx hb hr (fun t ht _ => retP h ht) (fun _ h9 => absurd h9 List.not_mem_nil) dX2_pageOf_54
    · replace h := if_n c3 h
      by_cases c6 : p2 = 1
      · replace h := if_p c6 h
        refine lv_lookup (tgt := 55) hx hb dX2_pageOf_12 (by decide) (by rw [c6] <;> rfl) (by decide) ?_
        refine lv_aload_n hx hb dX2_pageOf_55 rfl (lv_at hl 0 rfl) ?_
        refine va_get (D := (dC, dI)) (ci := 3) (v := .ref (ad 1 0)) (C := RX2) (T := TX2) (N := 14) hx hb hts hwX2 hown hK hP 0 rfl rfl 0 (by decide) hf_10 (fun _ h9 => h9) rfl dX2_pageOf_56 ?_
        refine va_get (D := (dC, dI)) (ci := 1) (v := .ref (ad 1 9)) (C := RX0) (T := TX0) (N := 16) hx hb hts hwX0 hown hK hP 7 rfl rfl 8 (by decide) hf_130 (fun _ h9 => h9) rfl dX2_pageOf_59 ?_
        refine lv_iload_n hx hb dX2_pageOf_62 rfl (lv_at hl 1 rfl) ?_
        refine lv_bipush (v := 12) hx hb dX2_pageOf_63 (by decide) ?_
        refine lv_imul hx hb dX2_pageOf_65 ?_
        refine lv_iload_n hx hb dX2_pageOf_66 rfl (lv_at hl 2 rfl) ?_
        refine lv_iadd hx hb dX2_pageOf_67 ?_
        obtain ⟨hi8, v7, ev7, h⟩ := rdA_some h
        refine k_iald hx hb hK hP 16 0 rfl rfl hi8 ev7 dX2_pageOf_68 ?_
        exact W.iret hx hb hr (fun t ht _ => retP h ht) (fun _ h9 => absurd h9 List.not_mem_nil) dX2_pageOf_69
      · replace h := if_n c6 h
        have qc3 := i32_ne c3; rw [show (0 : Int32).toInt = 0 from by decide] at qc3
        have qc6 := i32_ne c6; rw [show (1 : Int32).toInt = 1 from by decide] at qc6
        refine lv_lookup (off := 58) (tgt := 70) hx hb dX2_pageOf_12 (by decide) (by simp [Op.lookupswitch.offset, Ne.symm qc3, Ne.symm qc6]) (by decide) ?_
        refine lv_bipush (v := (-2)) hx hb dX2_pageOf_70 (by decide) ?_
        exact W.iret hx hb hr (fun t ht _ => retP h ht) (fun _ h9 => absurd h9 List.not_mem_nil) dX2_pageOf_72
  · replace h := if_n c2 h
    refine lv_iconst (v := (-1)) hx hb dX2_pageOf_9 (by decide) ?_
    exact W.iret hx hb hr (fun t ht _ => retP h ht) (fun _ h9 => absurd h9 List.not_mem_nil) dX2_pageOf_10
def fX2_reaches_14 (N : Nat) (K : OT)   : Option Int32 := some ((-1))
def fX2_reaches_33 (N : Nat) (K : OT)  (y0 : Int32) : Option Int32 := some y0
def mX2_reaches (N : Nat) (K : OT) (p0 : Int32) (p1 : Int32) : Option Int32 := bdP (mX2_isNoCamp N p0) (fun v1 => (if v1 = 0 then bdP (mX2_isNoCamp N p1) (fun v3 => (if v3 = 0 then bdP (mX0_isReached N (K 0) p0 p1) (fun v5 => (if v5 = 0 then fX2_reaches_33 N K  0 else fX2_reaches_33 N K  1)) else fX2_reaches_14 N K  )) else fX2_reaches_14 N K  ))
def rmX2_reaches : Room := { frames := 2, cells := 0, slots := 0, locals := 62 }
set_option maxHeartbeats 4000000 in
set_option maxRecDepth 100000 in
theorem tX2_reaches {l : Launch} {dC : Nat → ClassId} {dI : Nat → Nat → Nat} {cI cB cP : ClassId} {ad : Nat → Nat → Nat} {Z : Nat → Nat} {base : Nat} {R : va_W} {N : Nat} {K : OT} {p0 : Int32} {p1 : Int32} {rr : Int32} (hf : mX2_reaches N K p0 p1 = some rr) (hCF : OF Z K) : Met l yX2_reaches wsX2_reaches rmX2_reaches (cBp (dC, dI) vwCl [(cI, .int), (cB, .byte), (cP, .object RX0)] base (outW cI cB cP ad Z K ++ R) [.ref (ad 0 0), .int p0, .int p1]) (cQp rr) 0 0 (fun _ => False) := by
  refine Met.ofW (cc := cX2_reaches) (maxL := 3) (ret := (some .int)) (by decide) rfl ?_
  intro p e s m args below meth c s₁ B hml hv
  obtain ⟨rfl, hP, hK, hD, hbs, hE⟩ := hv
  have hx := B.exec
  have hb := B.bytes
  have hr := B.returns
  have hts := atoms_spec (ws := wsX2_reaches) B.pre
  have hown : s.vm.findClass RX2 = some m.cls := findClass_of_methodNamed B.named
  have hlocks := B.notSynchronized
  have hf_10 := hts (.fieldLink RX2 10 "CaravanLogs" "now" "LCaravanLogs$Caravan;") (by decide +kernel)
  have hEU : ∀ U : State, U.heap = s.heap → s.WarmedH U.vm → EnvB base U := fun U hU hW => Env_step rfl rfl hE va_S.rf hU hW
  have hwX2 : ∀ w ∈ u_ws RX2 TX2 14, w ∈ wsX2_reaches := by decide +kernel
  have hKI : va_K (dC, dI) vwCl [(cI, .int)] s := K_tys (fun x hx => by simp only [List.mem_cons, List.not_mem_nil, or_false] at hx ⊢; simp [hx]) hK
  have hKB : va_K (dC, dI) vwCl [(cB, .byte)] s := K_tys (fun x hx => by simp only [List.mem_cons, List.not_mem_nil, or_false] at hx ⊢; simp [hx]) hK
  have t_14 : ∀  {ls : Array Slot} (h : fX2_reaches_14 N K   = some rr) (hl : lv_has ls 3 []), W p l e (headSpec wsX2_reaches rmX2_reaches).room s m ([.ref (ad 0 0), .int p0, .int p1] : List Value).toArray below meth c s.heap [] 0 0 (MQ below (cQp rr) ([.ref (ad 0 0), .int p0, .int p1] : List Value).toArray s 0 0 (fun _ => False)) (F0 m 14 ls []) := by
    intro   ls h hl
    unfold fX2_reaches_14 at h
    refine lv_iconst (v := (-1)) hx hb dX2_reaches_14 (by decide) ?_
    exact W.iret hx hb hr (fun t ht _ => retP h ht) (fun _ h9 => absurd h9 List.not_mem_nil) dX2_reaches_15
  have t_33 : ∀ {y0 : Int32} {ls : Array Slot} (h : fX2_reaches_33 N K  y0 = some rr) (hl : lv_has ls 3 []), W p l e (headSpec wsX2_reaches rmX2_reaches).room s m ([.ref (ad 0 0), .int p0, .int p1] : List Value).toArray below meth c s.heap [] 0 0 (MQ below (cQp rr) ([.ref (ad 0 0), .int p0, .int p1] : List Value).toArray s 0 0 (fun _ => False)) (F0 m 33 ls [.int y0]) := by
    intro  y0 ls h hl
    unfold fX2_reaches_33 at h
    exact W.iret hx hb hr (fun t ht _ => retP h ht) (fun _ h9 => absurd h9 List.not_mem_nil) dX2_reaches_33
  have hl := lv_entry ([.ref (ad 0 0), .int p0, .int p1]) (n := 3) (Nat.le_of_ble_eq_true rfl)
  rw [lg_entry_eq]
  generalize (lg_sl ([.ref (ad 0 0), .int p0, .int p1]) ++ List.replicate (3 - (lg_sl ([.ref (ad 0 0), .int p0, .int p1])).length) Slot.unset).toArray = ls at hl ⊢
  have hl : lv_has ls 3 [(0, .ref (ad 0 0)), (1, .int p0), (2, .int p1)] := hl
  have h := hf
  unfold mX2_reaches at h
  refine lv_iload_n hx hb dX2_reaches_0 rfl (lv_at hl 1 rfl) ?_
  obtain ⟨v1, hv1, h⟩ := bdP_some h
  refine call_SP (As := [.int p0]) (rest := []) ⟨hx, hb, hml, hown, hts⟩ (tX2_isNoCamp (l := l) hv1) (va_cwS 1 hts gX2_reaches_X2_isNoCamp rfl rfl rfl (by decide +kernel) ⟨Nat.le_of_ble_eq_true rfl, Nat.le_of_ble_eq_true rfl⟩) (by rfl) hl.1 rfl (Nat.le_of_ble_eq_true rfl) dX2_reaches_1 ⟨Nat.zero_le _, Nat.zero_le _⟩ ?_
  refine lv_if_ne (tgt := 14) hx hb dX2_reaches_4 (by decide) (fun c2 => ?_) (fun c2 => ?_)
  · replace h := if_n c2 h
    exact t_14  h (lv_sub hl [] rfl)
  · replace h := if_p c2 h
    refine lv_iload_n hx hb dX2_reaches_7 rfl (lv_at hl 2 rfl) ?_
    obtain ⟨v3, hv3, h⟩ := bdP_some h
    refine call_SP (As := [.int p1]) (rest := []) ⟨hx, hb, hml, hown, hts⟩ (tX2_isNoCamp (l := l) hv3) (va_cwS 1 hts gX2_reaches_X2_isNoCamp rfl rfl rfl (by decide +kernel) ⟨Nat.le_of_ble_eq_true rfl, Nat.le_of_ble_eq_true rfl⟩) (by rfl) hl.1 rfl (Nat.le_of_ble_eq_true rfl) dX2_reaches_8 ⟨Nat.zero_le _, Nat.zero_le _⟩ ?_
    refine lv_if_eq (tgt := 16) hx hb dX2_reaches_11 (by decide) (fun c4 => ?_) (fun c4 => ?_)
    · replace h := if_p c4 h
      refine lv_aload_n hx hb dX2_reaches_16 rfl (lv_at hl 0 rfl) ?_
      refine va_get (D := (dC, dI)) (ci := 3) (v := .ref (ad 1 0)) (C := RX2) (T := TX2) (N := 14) hx hb hts hwX2 hown hK hP 0 rfl rfl 0 (by decide) hf_10 (fun _ h9 => h9) rfl dX2_reaches_17 ?_
      refine lv_iload_n hx hb dX2_reaches_20 rfl (lv_at hl 1 rfl) ?_
      refine lv_iload_n hx hb dX2_reaches_21 rfl (lv_at hl 2 rfl) ?_
      obtain ⟨v5, hv5, h⟩ := bdP_some h
      refine call_VP (As := [.int p0, .int p1]) (rest := []) ⟨hx, hb, hml, hown, hts⟩ (tX0_isReached (l := l) (dC := dC) (dI := dI) (cI := cI) (ob := ad (1 + 0) 0) (q := fun f => ad (1 + 0) (1 + f)) hv5) (cwV 2 hts gX2_reaches_X0_isReached rfl rfl rfl (by decide +kernel) ⟨Nat.le_of_ble_eq_true rfl, Nat.le_of_ble_eq_true rfl⟩) hKI (o_inP 0 (by decide) hP) 0 rfl rfl (by rfl) hl.1 rfl (Nat.le_of_ble_eq_true rfl) dX2_reaches_22 ⟨Nat.zero_le _, Nat.zero_le _⟩ ?_
      refine lv_if_eq (tgt := 32) hx hb dX2_reaches_25 (by decide) (fun c6 => ?_) (fun c6 => ?_)
      · replace h := if_p c6 h
        refine lv_iconst (v := 0) hx hb dX2_reaches_32 (by decide) ?_
        exact t_33  h (lv_sub hl [] rfl)
      · replace h := if_n c6 h
        refine lv_iconst (v := 1) hx hb dX2_reaches_28 (by decide) ?_
        refine lv_goto (tgt := 33) hx hb dX2_reaches_29 (by decide) ?_
        exact t_33  h (lv_sub hl [] rfl)
    · replace h := if_n c4 h
      exact t_14  h (lv_sub hl [] rfl)
def fX2_matches_14 (N : Nat) (K : OT)   : Option Int32 := some ((-1))
def mX2_matches (N : Nat) (K : OT) (p0 : Int32) (p1 : Int32) : Option Int32 := bdP (mX2_isNoCamp N p0) (fun v1 => (if v1 = 0 then bdP (mX2_isNoCamp N p1) (fun v3 => (if v3 = 0 then bdP (mX0_pagesAlike N (K 0) p0 p1) (fun v5 => some v5) else fX2_matches_14 N K  )) else fX2_matches_14 N K  ))
def rmX2_matches : Room := { frames := 2, cells := 0, slots := 0, locals := 66 }
set_option maxHeartbeats 4000000 in
set_option maxRecDepth 100000 in
theorem tX2_matches {l : Launch} {dC : Nat → ClassId} {dI : Nat → Nat → Nat} {cI cB cP : ClassId} {ad : Nat → Nat → Nat} {Z : Nat → Nat} {base : Nat} {R : va_W} {N : Nat} {K : OT} {p0 : Int32} {p1 : Int32} {rr : Int32} (hf : mX2_matches N K p0 p1 = some rr) (hCF : OF Z K) : Met l yX2_matches wsX2_matches rmX2_matches (cBp (dC, dI) vwCl [(cI, .int), (cB, .byte), (cP, .object RX0)] base (outW cI cB cP ad Z K ++ R) [.ref (ad 0 0), .int p0, .int p1]) (cQp rr) 0 0 (fun _ => False) := by
  refine Met.ofW (cc := cX2_matches) (maxL := 3) (ret := (some .int)) (by decide) rfl ?_
  intro p e s m args below meth c s₁ B hml hv
  obtain ⟨rfl, hP, hK, hD, hbs, hE⟩ := hv
  have hx := B.exec
  have hb := B.bytes
  have hr := B.returns
  have hts := atoms_spec (ws := wsX2_matches) B.pre
  have hown : s.vm.findClass RX2 = some m.cls := findClass_of_methodNamed B.named
  have hlocks := B.notSynchronized
  have hf_10 := hts (.fieldLink RX2 10 "CaravanLogs" "now" "LCaravanLogs$Caravan;") (by decide +kernel)
  have hEU : ∀ U : State, U.heap = s.heap → s.WarmedH U.vm → EnvB base U := fun U hU hW => Env_step rfl rfl hE va_S.rf hU hW
  have hwX2 : ∀ w ∈ u_ws RX2 TX2 14, w ∈ wsX2_matches := by decide +kernel
  have hKI : va_K (dC, dI) vwCl [(cI, .int)] s := K_tys (fun x hx => by simp only [List.mem_cons, List.not_mem_nil, or_false] at hx ⊢; simp [hx]) hK
  have hKB : va_K (dC, dI) vwCl [(cB, .byte)] s := K_tys (fun x hx => by simp only [List.mem_cons, List.not_mem_nil, or_false] at hx ⊢; simp [hx]) hK
  have t_14 : ∀  {ls : Array Slot} (h : fX2_matches_14 N K   = some rr) (hl : lv_has ls 3 []), W p l e (headSpec wsX2_matches rmX2_matches).room s m ([.ref (ad 0 0), .int p0, .int p1] : List Value).toArray below meth c s.heap [] 0 0 (MQ below (cQp rr) ([.ref (ad 0 0), .int p0, .int p1] : List Value).toArray s 0 0 (fun _ => False)) (F0 m 14 ls []) := by
    intro   ls h hl
    unfold fX2_matches_14 at h
    refine lv_iconst (v := (-1)) hx hb dX2_matches_14 (by decide) ?_
    exact W.iret hx hb hr (fun t ht _ => retP h ht) (fun _ h9 => absurd h9 List.not_mem_nil) dX2_matches_15
  have hl := lv_entry ([.ref (ad 0 0), .int p0, .int p1]) (n := 3) (Nat.le_of_ble_eq_true rfl)
  rw [lg_entry_eq]
  generalize (lg_sl ([.ref (ad 0 0), .int p0, .int p1]) ++ List.replicate (3 - (lg_sl ([.ref (ad 0 0), .int p0, .int p1])).length) Slot.unset).toArray = ls at hl ⊢
  have hl : lv_has ls 3 [(0, .ref (ad 0 0)), (1, .int p0), (2, .int p1)] := hl
  have h := hf
  unfold mX2_matches at h
  refine lv_iload_n hx hb dX2_matches_0 rfl (lv_at hl 1 rfl) ?_
  obtain ⟨v1, hv1, h⟩ := bdP_some h
  refine call_SP (As := [.int p0]) (rest := []) ⟨hx, hb, hml, hown, hts⟩ (tX2_isNoCamp (l := l) hv1) (va_cwS 1 hts gX2_matches_X2_isNoCamp rfl rfl rfl (by decide +kernel) ⟨Nat.le_of_ble_eq_true rfl, Nat.le_of_ble_eq_true rfl⟩) (by rfl) hl.1 rfl (Nat.le_of_ble_eq_true rfl) dX2_matches_1 ⟨Nat.zero_le _, Nat.zero_le _⟩ ?_
  refine lv_if_ne (tgt := 14) hx hb dX2_matches_4 (by decide) (fun c2 => ?_) (fun c2 => ?_)
  · replace h := if_n c2 h
    exact t_14  h (lv_sub hl [] rfl)
  · replace h := if_p c2 h
    refine lv_iload_n hx hb dX2_matches_7 rfl (lv_at hl 2 rfl) ?_
    obtain ⟨v3, hv3, h⟩ := bdP_some h
    refine call_SP (As := [.int p1]) (rest := []) ⟨hx, hb, hml, hown, hts⟩ (tX2_isNoCamp (l := l) hv3) (va_cwS 1 hts gX2_matches_X2_isNoCamp rfl rfl rfl (by decide +kernel) ⟨Nat.le_of_ble_eq_true rfl, Nat.le_of_ble_eq_true rfl⟩) (by rfl) hl.1 rfl (Nat.le_of_ble_eq_true rfl) dX2_matches_8 ⟨Nat.zero_le _, Nat.zero_le _⟩ ?_
    refine lv_if_eq (tgt := 16) hx hb dX2_matches_11 (by decide) (fun c4 => ?_) (fun c4 => ?_)
    · replace h := if_p c4 h
      refine lv_aload_n hx hb dX2_matches_16 rfl (lv_at hl 0 rfl) ?_
      refine va_get (D := (dC, dI)) (ci := 3) (v := .ref (ad 1 0)) (C := RX2) (T := TX2) (N := 14) hx hb hts hwX2 hown hK hP 0 rfl rfl 0 (by decide) hf_10 (fun _ h9 => h9) rfl dX2_matches_17 ?_
      refine lv_iload_n hx hb dX2_matches_20 rfl (lv_at hl 1 rfl) ?_
      refine lv_iload_n hx hb dX2_matches_21 rfl (lv_at hl 2 rfl) ?_
      obtain ⟨v5, hv5, h⟩ := bdP_some h
      refine call_VP (As := [.int p0, .int p1]) (rest := []) ⟨hx, hb, hml, hown, hts⟩ (tX0_pagesAlike (l := l) (dC := dC) (dI := dI) (cI := cI) (ob := ad (1 + 0) 0) (q := fun f => ad (1 + 0) (1 + f)) hv5) (cwV 2 hts gX2_matches_X0_pagesAlike rfl rfl rfl (by decide +kernel) ⟨Nat.le_of_ble_eq_true rfl, Nat.le_of_ble_eq_true rfl⟩) hKI (o_inP 0 (by decide) hP) 0 rfl rfl (by rfl) hl.1 rfl (Nat.le_of_ble_eq_true rfl) dX2_matches_22 ⟨Nat.zero_le _, Nat.zero_le _⟩ ?_
      exact W.iret hx hb hr (fun t ht _ => retP h ht) (fun _ h9 => absurd h9 List.not_mem_nil) dX2_matches_25
    · replace h := if_n c4 h
      exact t_14  h (lv_sub hl [] rfl)
def fX2_matchesAgain_14 (N : Nat) (K : OT)   : Option Int32 := some ((-1))
def mX2_matchesAgain (N : Nat) (K : OT) (p0 : Int32) (p1 : Int32) : Option Int32 := bdP (mX2_isNoCamp N p0) (fun v1 => (if v1 = 0 then bdP (mX2_isNoCamp N p1) (fun v3 => (if v3 = 0 then bdP (mX0_pagesAlikeByHalves N (K 0) p0 p1) (fun v5 => some v5) else fX2_matchesAgain_14 N K  )) else fX2_matchesAgain_14 N K  ))
def rmX2_matchesAgain : Room := { frames := 3, cells := 0, slots := 0, locals := 87 }
set_option maxHeartbeats 4000000 in
set_option maxRecDepth 100000 in
theorem tX2_matchesAgain {l : Launch} {dC : Nat → ClassId} {dI : Nat → Nat → Nat} {cI cB cP : ClassId} {ad : Nat → Nat → Nat} {Z : Nat → Nat} {base : Nat} {R : va_W} {N : Nat} {K : OT} {p0 : Int32} {p1 : Int32} {rr : Int32} (hf : mX2_matchesAgain N K p0 p1 = some rr) (hCF : OF Z K) : Met l yX2_matchesAgain wsX2_matchesAgain rmX2_matchesAgain (cBp (dC, dI) vwCl [(cI, .int), (cB, .byte), (cP, .object RX0)] base (outW cI cB cP ad Z K ++ R) [.ref (ad 0 0), .int p0, .int p1]) (cQp rr) 0 0 (fun _ => False) := by
  refine Met.ofW (cc := cX2_matchesAgain) (maxL := 3) (ret := (some .int)) (by decide) rfl ?_
  intro p e s m args below meth c s₁ B hml hv
  obtain ⟨rfl, hP, hK, hD, hbs, hE⟩ := hv
  have hx := B.exec
  have hb := B.bytes
  have hr := B.returns
  have hts := atoms_spec (ws := wsX2_matchesAgain) B.pre
  have hown : s.vm.findClass RX2 = some m.cls := findClass_of_methodNamed B.named
  have hlocks := B.notSynchronized
  have hf_10 := hts (.fieldLink RX2 10 "CaravanLogs" "now" "LCaravanLogs$Caravan;") (by decide +kernel)
  have hEU : ∀ U : State, U.heap = s.heap → s.WarmedH U.vm → EnvB base U := fun U hU hW => Env_step rfl rfl hE va_S.rf hU hW
  have hwX2 : ∀ w ∈ u_ws RX2 TX2 14, w ∈ wsX2_matchesAgain := by decide +kernel
  have hKI : va_K (dC, dI) vwCl [(cI, .int)] s := K_tys (fun x hx => by simp only [List.mem_cons, List.not_mem_nil, or_false] at hx ⊢; simp [hx]) hK
  have hKB : va_K (dC, dI) vwCl [(cB, .byte)] s := K_tys (fun x hx => by simp only [List.mem_cons, List.not_mem_nil, or_false] at hx ⊢; simp [hx]) hK
  have t_14 : ∀  {ls : Array Slot} (h : fX2_matchesAgain_14 N K   = some rr) (hl : lv_has ls 3 []), W p l e (headSpec wsX2_matchesAgain rmX2_matchesAgain).room s m ([.ref (ad 0 0), .int p0, .int p1] : List Value).toArray below meth c s.heap [] 0 0 (MQ below (cQp rr) ([.ref (ad 0 0), .int p0, .int p1] : List Value).toArray s 0 0 (fun _ => False)) (F0 m 14 ls []) := by
    intro   ls h hl
    unfold fX2_matchesAgain_14 at h
    refine lv_iconst (v := (-1)) hx hb dX2_matchesAgain_14 (by decide) ?_
    exact W.iret hx hb hr (fun t ht _ => retP h ht) (fun _ h9 => absurd h9 List.not_mem_nil) dX2_matchesAgain_15
  have hl := lv_entry ([.ref (ad 0 0), .int p0, .int p1]) (n := 3) (Nat.le_of_ble_eq_true rfl)
  rw [lg_entry_eq]
  generalize (lg_sl ([.ref (ad 0 0), .int p0, .int p1]) ++ List.replicate (3 - (lg_sl ([.ref (ad 0 0), .int p0, .int p1])).length) Slot.unset).toArray = ls at hl ⊢
  have hl : lv_has ls 3 [(0, .ref (ad 0 0)), (1, .int p0), (2, .int p1)] := hl
  have h := hf
  unfold mX2_matchesAgain at h
  refine lv_iload_n hx hb dX2_matchesAgain_0 rfl (lv_at hl 1 rfl) ?_
  obtain ⟨v1, hv1, h⟩ := bdP_some h
  refine call_SP (As := [.int p0]) (rest := []) ⟨hx, hb, hml, hown, hts⟩ (tX2_isNoCamp (l := l) hv1) (va_cwS 1 hts gX2_matchesAgain_X2_isNoCamp rfl rfl rfl (by decide +kernel) ⟨Nat.le_of_ble_eq_true rfl, Nat.le_of_ble_eq_true rfl⟩) (by rfl) hl.1 rfl (Nat.le_of_ble_eq_true rfl) dX2_matchesAgain_1 ⟨Nat.zero_le _, Nat.zero_le _⟩ ?_
  refine lv_if_ne (tgt := 14) hx hb dX2_matchesAgain_4 (by decide) (fun c2 => ?_) (fun c2 => ?_)
  · replace h := if_n c2 h
    exact t_14  h (lv_sub hl [] rfl)
  · replace h := if_p c2 h
    refine lv_iload_n hx hb dX2_matchesAgain_7 rfl (lv_at hl 2 rfl) ?_
    obtain ⟨v3, hv3, h⟩ := bdP_some h
    refine call_SP (As := [.int p1]) (rest := []) ⟨hx, hb, hml, hown, hts⟩ (tX2_isNoCamp (l := l) hv3) (va_cwS 1 hts gX2_matchesAgain_X2_isNoCamp rfl rfl rfl (by decide +kernel) ⟨Nat.le_of_ble_eq_true rfl, Nat.le_of_ble_eq_true rfl⟩) (by rfl) hl.1 rfl (Nat.le_of_ble_eq_true rfl) dX2_matchesAgain_8 ⟨Nat.zero_le _, Nat.zero_le _⟩ ?_
    refine lv_if_eq (tgt := 16) hx hb dX2_matchesAgain_11 (by decide) (fun c4 => ?_) (fun c4 => ?_)
    · replace h := if_p c4 h
      refine lv_aload_n hx hb dX2_matchesAgain_16 rfl (lv_at hl 0 rfl) ?_
      refine va_get (D := (dC, dI)) (ci := 3) (v := .ref (ad 1 0)) (C := RX2) (T := TX2) (N := 14) hx hb hts hwX2 hown hK hP 0 rfl rfl 0 (by decide) hf_10 (fun _ h9 => h9) rfl dX2_matchesAgain_17 ?_
      refine lv_iload_n hx hb dX2_matchesAgain_20 rfl (lv_at hl 1 rfl) ?_
      refine lv_iload_n hx hb dX2_matchesAgain_21 rfl (lv_at hl 2 rfl) ?_
      obtain ⟨v5, hv5, h⟩ := bdP_some h
      refine call_VP (As := [.int p0, .int p1]) (rest := []) ⟨hx, hb, hml, hown, hts⟩ (tX0_pagesAlikeByHalves (l := l) (dC := dC) (dI := dI) (cI := cI) (ob := ad (1 + 0) 0) (q := fun f => ad (1 + 0) (1 + f)) hv5) (cwV 2 hts gX2_matchesAgain_X0_pagesAlikeByHalves rfl rfl rfl (by decide +kernel) ⟨Nat.le_of_ble_eq_true rfl, Nat.le_of_ble_eq_true rfl⟩) hKI (o_inP 0 (by decide) hP) 0 rfl rfl (by rfl) hl.1 rfl (Nat.le_of_ble_eq_true rfl) dX2_matchesAgain_22 ⟨Nat.zero_le _, Nat.zero_le _⟩ ?_
      exact W.iret hx hb hr (fun t ht _ => retP h ht) (fun _ h9 => absurd h9 List.not_mem_nil) dX2_matchesAgain_25
    · replace h := if_n c4 h
      exact t_14  h (lv_sub hl [] rfl)
