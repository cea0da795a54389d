def fX2_describe_142 (N : Nat)  (K : OT) (x1 : Int32) : Option (Int32 × OT) := bdS (s_cC (K 14) 115) (fun v1 => inO (oset K 14 v1) (fun O2 => rdA (O2 0 4) 5 x1 (fun v3 => bdS (s_cI (O2 14) v3) (fun v5 => inO (oset O2 14 v5) (fun O6 => bdP (s_length (O6 14) ) (fun v7 => some (v7, O6)))))))
def fX2_describe_71 (N : Nat)  (K : OT) (x1 : Int32) : Option (Int32 × OT) := bdS (s_cC (K 14) 58) (fun v8 => inO (oset K 14 v8) (fun O9 => rdA (O9 0 0) 5 x1 (fun v10 => bdS (s_cI (O9 14) v10) (fun v12 => inO (oset O9 14 v12) (fun O13 => bdS (s_cC (O13 14) 118) (fun v14 => inO (oset O13 14 v14) (fun O15 => rdA (O15 0 1) 5 x1 (fun v16 => (if v16 = ((-4)) then bdS (s_cC (O15 14) 45) (fun v23 => inO (oset O15 14 v23) (fun O24 => fX2_describe_142 N  O24 x1)) else rdA (O15 0 1) 5 x1 (fun v19 => bdS (s_cI (O15 14) v19) (fun v21 => inO (oset O15 14 v21) (fun O22 => fX2_describe_142 N  O22 x1))))))))))))
def fX2_describe_48 (N : Nat)  (K : OT) (x1 : Int32) : Option (Int32 × OT) := rdA (K 0 2) 5 x1 (fun v25 => (if v25 = 1 then bdS (s_cC (K 14) 67) (fun v28 => inO (oset K 14 v28) (fun O29 => fX2_describe_71 N  O29 x1)) else fX2_describe_71 N  K x1))
def mX2_describe (N : Nat) (K : OT) (p0 : Int32) : Option (Int32 × OT) := bdP (mX2_isNoCamp N p0) (fun v30 => (if v30 = 0 then bdS (s_cL (K 14) 0) (fun v32 => inO (oset K 14 v32) (fun O33 => bdS (s_cI (O33 14) p0) (fun v34 => inO (oset O33 14 v34) (fun O35 => rdA (O35 0 3) 5 p0 (fun v36 => (if v36 = 0 then bdS (s_cC (O35 14) 122) (fun v39 => inO (oset O35 14 v39) (fun O40 => fX2_describe_48 N  O40 p0)) else fX2_describe_48 N  O35 p0)))))) else some ((-1), K)))
def rmX2_describe : Room := { frames := 8, cells := 10, slots := 256 * (10), locals := 235 }
set_option maxHeartbeats 4000000 in
set_option maxRecDepth 100000 in
theorem tX2_describe {l : Launch} {dC : Nat → ClassId} {dI : Nat → Nat → Nat} {cI cB cP : ClassId} {ad : Nat → Nat → Nat} {Z : Nat → Nat} {base : Nat} {R : va_W} {N : Nat} {K : OT} {p0 : Int32} {rr : Int32} {KK : OT} (hf : mX2_describe N K p0 = some (rr, KK)) (hCF : OF Z K) : Met l yX2_describe wsX2_describe rmX2_describe (cBp (dC, dI) vwCl [(cI, .int), (cB, .byte), (cP, .object RX0)] base (outW cI cB cP ad Z K ++ R) [.ref (ad 0 0), .int p0]) (cBe (dC, dI) vwCl base (some (.int rr)) (fun ws => ∃ Z : Nat → Nat, ws = (outW cI cB cP ad Z KK ++ R) ∧ OF Z KK)) (10) (256 * (10)) (aB base) := by
  refine Met.ofW (cc := cX2_describe) (maxL := 2) (ret := (some .int)) (by decide) rfl ?_
  intro p e s m args below meth c s₁ B hml hv
  obtain ⟨rfl, hP, hK, hD, hbs, hE⟩ := hv
  have hx := B.exec
  have hb := B.bytes
  have hr := B.returns
  have hts := atoms_spec (ws := wsX2_describe) B.pre
  have hown : s.vm.findClass RX2 = some m.cls := findClass_of_methodNamed B.named
  have hlocks := B.notSynchronized
  have hf_10 := hts (.fieldLink RX2 10 "CaravanLogs" "now" "LCaravanLogs$Caravan;") (by decide +kernel)
  have hf_50 := hts (.fieldLink RX2 50 "CaravanLogs" "line" "Ljava/lang/StringBuilder;") (by decide +kernel)
  have hf_98 := hts (.fieldLink RX2 98 "CaravanLogs$Caravan" "term" "[I") (by decide +kernel)
  have hf_102 := hts (.fieldLink RX2 102 "CaravanLogs$Caravan" "vote" "[I") (by decide +kernel)
  have hf_105 := hts (.fieldLink RX2 105 "CaravanLogs$Caravan" "isCaptain" "[I") (by decide +kernel)
  have hf_108 := hts (.fieldLink RX2 108 "CaravanLogs$Caravan" "isAwake" "[I") (by decide +kernel)
  have hf_117 := hts (.fieldLink RX2 117 "CaravanLogs$Caravan" "silence" "[I") (by decide +kernel)
  have hwX0 : ∀ w ∈ u_ws RX0 TX0 16, w ∈ wsX2_describe := by decide +kernel
  have hwX2 : ∀ w ∈ u_ws RX2 TX2 14, w ∈ wsX2_describe := by decide +kernel
  have hKI : va_K (dC, dI) vwCl [(cI, .int)] s := K_tys (fun x hx => by simp only [List.mem_cons, List.not_mem_nil, or_false] at hx ⊢; simp [hx]) hK
  have hKB : va_K (dC, dI) vwCl [(cB, .byte)] s := K_tys (fun x hx => by simp only [List.mem_cons, List.not_mem_nil, or_false] at hx ⊢; simp [hx]) hK
  have hcn : 0 + (10) ≤ 10 ∧ 0 + 256 * (10) ≤ 256 * (10) := by omega
  have t_142 : ∀ {K : OT} {x1 : Int32} {H : Heap} {locs : List Loc} {Z : Nat → Nat} {cells slots : Nat} {ls : Array Slot} (h : fX2_describe_142 N  K x1 = some (rr, KK)) (hl : lv_has ls 2 [(0, .ref (ad 0 0)), (1, .int x1)]) (hP : va_P (dC, dI) vwCl (outW cI cB cP ad Z K ++ R) H) (hD : va_D (aB base) (outW cI cB cP ad Z K ++ R)) (hS : va_S (aB base) s.heap H locs) (hCF : OF Z K) (hcn : cells + (2) ≤ 10 ∧ slots + 256 * (2) ≤ 256 * (10)), W p l e (headSpec wsX2_describe rmX2_describe).room s m ([.ref (ad 0 0), .int p0] : List Value).toArray below meth c H locs cells slots (MQ below (cBe (dC, dI) vwCl base (some (.int rr)) (fun ws => ∃ Z : Nat → Nat, ws = (outW cI cB cP ad Z KK ++ R) ∧ OF Z KK)) ([.ref (ad 0 0), .int p0] : List Value).toArray s (10) (256 * (10)) (aB base)) (F0 m 142 ls []) := by
    intro  K x1 H locs Z cells slots ls h hl hP hD hS hCF hcn
    unfold fX2_describe_142 at h
    refine lv_aload_n hx hb dX2_describe_142 rfl (lv_at hl 0 rfl) ?_
    refine va_get (D := (dC, dI)) (ci := 3) (v := .ref (ad 0 4)) (C := RX2) (T := TX2) (N := 14) hx hb hts hwX2 hown hK hP 0 rfl rfl 9 (by decide) hf_50 (fun _ h9 => h9) rfl dX2_describe_143 ?_
    refine lv_bipush (v := 115) hx hb dX2_describe_146 (by decide) ?_
    obtain ⟨v1, hv1, h⟩ := bdS_some h
    obtain ⟨O2, eO2, h⟩ := inO_some h
    refine call_BVE (As := [.int 115]) (rest := []) ⟨hx, hb, hml, hown, hts⟩ (tS_cC (l := l) (dC := dC) (dI := dI) (cB := cB) (ob := ad 0 4) (sb := Z 2) (mm := Z 3) (base := base) (R := o_xL cI cB cP ad Z K R) hv1 hCF.2) (cwV 1 hts gX2_describe_J4_append_cf468 rfl rfl rfl (by decide +kernel) ⟨Nat.le_of_ble_eq_true rfl, Nat.le_of_ble_eq_true rfl⟩) hKB (P_perm (o_pL cI cB cP ad Z K R) hP) (D_perm (o_pL cI cB cP ad Z K R) hD) hS (Nat.le_trans hbs hS.1) (fun U hU hW => Env_step rfl rfl hE hS hU hW) 0 rfl rfl (by rfl) hl.1 rfl (Nat.le_of_ble_eq_true rfl) dX2_describe_148 ⟨by show _ ≤ 10; omega, by show _ ≤ 256 * (10); omega⟩ (fun H locs ws9 hW9 hP hD _ hS => ?_)
    obtain ⟨b9, m9, rfl, hC9⟩ := hW9
    obtain ⟨Z, hP, hD, hCF⟩ := o_bL hP hD hCF hC9
    have hP : va_P (dC, dI) vwCl (outW cI cB cP ad Z O2 ++ R) H := by rw [eO2]; exact hP
    have hD : va_D (aB base) (outW cI cB cP ad Z O2 ++ R) := by rw [eO2]; exact hD
    have hCF : OF Z O2 := by rw [eO2]; exact hCF
    refine lv_aload_n hx hb dX2_describe_151 rfl (lv_at hl 0 rfl) ?_
    refine va_get (D := (dC, dI)) (ci := 3) (v := .ref (ad 1 0)) (C := RX2) (T := TX2) (N := 14) hx hb hts hwX2 hown hK hP 0 rfl rfl 0 (by decide) hf_10 (fun _ h9 => h9) rfl dX2_describe_152 ?_
    refine va_get (D := (dC, dI)) (ci := 1) (v := .ref (ad 1 5)) (C := RX0) (T := TX0) (N := 16) hx hb hts hwX0 hown hK hP 7 rfl rfl 4 (by decide) hf_117 (fun _ h9 => h9) rfl dX2_describe_155 ?_
    refine lv_iload_n hx hb dX2_describe_158 rfl (lv_at hl 1 rfl) ?_
    obtain ⟨hi4, v3, ev3, h⟩ := rdA_some h
    refine k_iald hx hb hK hP 12 0 rfl rfl hi4 ev3 dX2_describe_159 ?_
    obtain ⟨v5, hv5, h⟩ := bdS_some h
    obtain ⟨O6, eO6, h⟩ := inO_some h
    refine call_BVE (As := [.int v3]) (rest := []) ⟨hx, hb, hml, hown, hts⟩ (tS_cI (l := l) (dC := dC) (dI := dI) (cB := cB) (ob := ad 0 4) (sb := Z 2) (mm := Z 3) (base := base) (R := o_xL cI cB cP ad Z O2 R) hv5 hCF.2) (cwV 1 hts gX2_describe_J4_append_bf812 rfl rfl rfl (by decide +kernel) ⟨Nat.le_of_ble_eq_true rfl, Nat.le_of_ble_eq_true rfl⟩) hKB (P_perm (o_pL cI cB cP ad Z O2 R) hP) (D_perm (o_pL cI cB cP ad Z O2 R) hD) hS (Nat.le_trans hbs hS.1) (fun U hU hW => Env_step rfl rfl hE hS hU hW) 0 rfl rfl (by rfl) hl.1 rfl (Nat.le_of_ble_eq_true rfl) dX2_describe_160 ⟨by show _ ≤ 10; omega, by show _ ≤ 256 * (10); omega⟩ (fun H locs ws9 hW9 hP hD _ hS => ?_)
    obtain ⟨b9, m9, rfl, hC9⟩ := hW9
    obtain ⟨Z, hP, hD, hCF⟩ := o_bL hP hD hCF hC9
    have hP : va_P (dC, dI) vwCl (outW cI cB cP ad Z O6 ++ R) H := by rw [eO6]; exact hP
    have hD : va_D (aB base) (outW cI cB cP ad Z O6 ++ R) := by rw [eO6]; exact hD
    have hCF : OF Z O6 := by rw [eO6]; exact hCF
    refine lv_pop hx hb dX2_describe_163 rfl ?_
    refine lv_aload_n hx hb dX2_describe_164 rfl (lv_at hl 0 rfl) ?_
    refine va_get (D := (dC, dI)) (ci := 3) (v := .ref (ad 0 4)) (C := RX2) (T := TX2) (N := 14) hx hb hts hwX2 hown hK hP 0 rfl rfl 9 (by decide) hf_50 (fun _ h9 => h9) rfl dX2_describe_165 ?_
    obtain ⟨v7, hv7, h⟩ := bdP_some h
    refine call_BVP (As := []) (rest := []) ⟨hx, hb, hml, hown, hts⟩ (tS_length (l := l) (dC := dC) (dI := dI) (cB := cB) (ob := ad 0 4) (sb := Z 2) (mm := Z 3) (base := base) (R := o_xL cI cB cP ad Z O6 R) hv7 hCF.2) (cwV 0 hts gX2_describe_J4_length_8abf5 rfl rfl rfl (by decide +kernel) ⟨Nat.le_of_ble_eq_true rfl, Nat.le_of_ble_eq_true rfl⟩) hKB (P_perm (o_pL cI cB cP ad Z O6 R) hP) (D_perm (o_pL cI cB cP ad Z O6 R) hD) (Nat.le_trans hbs hS.1) (fun U hU hW => Env_step rfl rfl hE hS hU hW) 0 rfl rfl (by rfl) hl.1 rfl (Nat.le_of_ble_eq_true rfl) dX2_describe_168 ⟨by show _ ≤ 10; omega, by show _ ≤ 256 * (10); omega⟩ ?_
    exact W_le (by omega) (by omega) (W.iret hx hb hr (fun t ht _ => retO h hCF hP hD hS ht) hS.2.2 dX2_describe_171)
  have t_71 : ∀ {K : OT} {x1 : Int32} {H : Heap} {locs : List Loc} {Z : Nat → Nat} {cells slots : Nat} {ls : Array Slot} (h : fX2_describe_71 N  K x1 = some (rr, KK)) (hl : lv_has ls 2 [(0, .ref (ad 0 0)), (1, .int x1)]) (hP : va_P (dC, dI) vwCl (outW cI cB cP ad Z K ++ R) H) (hD : va_D (aB base) (outW cI cB cP ad Z K ++ R)) (hS : va_S (aB base) s.heap H locs) (hCF : OF Z K) (hcn : cells + (6) ≤ 10 ∧ slots + 256 * (6) ≤ 256 * (10)), W p l e (headSpec wsX2_describe rmX2_describe).room s m ([.ref (ad 0 0), .int p0] : List Value).toArray below meth c H locs cells slots (MQ below (cBe (dC, dI) vwCl base (some (.int rr)) (fun ws => ∃ Z : Nat → Nat, ws = (outW cI cB cP ad Z KK ++ R) ∧ OF Z KK)) ([.ref (ad 0 0), .int p0] : List Value).toArray s (10) (256 * (10)) (aB base)) (F0 m 71 ls []) := by
    intro  K x1 H locs Z cells slots ls h hl hP hD hS hCF hcn
    unfold fX2_describe_71 at h
    refine lv_aload_n hx hb dX2_describe_71 rfl (lv_at hl 0 rfl) ?_
    refine va_get (D := (dC, dI)) (ci := 3) (v := .ref (ad 0 4)) (C := RX2) (T := TX2) (N := 14) hx hb hts hwX2 hown hK hP 0 rfl rfl 9 (by decide) hf_50 (fun _ h9 => h9) rfl dX2_describe_72 ?_
    refine lv_bipush (v := 58) hx hb dX2_describe_75 (by decide) ?_
    obtain ⟨v8, hv8, h⟩ := bdS_some h
    obtain ⟨O9, eO9, h⟩ := inO_some h
    refine call_BVE (As := [.int 58]) (rest := []) ⟨hx, hb, hml, hown, hts⟩ (tS_cC (l := l) (dC := dC) (dI := dI) (cB := cB) (ob := ad 0 4) (sb := Z 2) (mm := Z 3) (base := base) (R := o_xL cI cB cP ad Z K R) hv8 hCF.2) (cwV 1 hts gX2_describe_J4_append_cf468 rfl rfl rfl (by decide +kernel) ⟨Nat.le_of_ble_eq_true rfl, Nat.le_of_ble_eq_true rfl⟩) hKB (P_perm (o_pL cI cB cP ad Z K R) hP) (D_perm (o_pL cI cB cP ad Z K R) hD) hS (Nat.le_trans hbs hS.1) (fun U hU hW => Env_step rfl rfl hE hS hU hW) 0 rfl rfl (by rfl) hl.1 rfl (Nat.le_of_ble_eq_true rfl) dX2_describe_77 ⟨by show _ ≤ 10; omega, by show _ ≤ 256 * (10); omega⟩ (fun H locs ws9 hW9 hP hD _ hS => ?_)
    obtain ⟨b9, m9, rfl, hC9⟩ := hW9
    obtain ⟨Z, hP, hD, hCF⟩ := o_bL hP hD hCF hC9
    have hP : va_P (dC, dI) vwCl (outW cI cB cP ad Z O9 ++ R) H := by rw [eO9]; exact hP
    have hD : va_D (aB base) (outW cI cB cP ad Z O9 ++ R) := by rw [eO9]; exact hD
    have hCF : OF Z O9 := by rw [eO9]; exact hCF
    refine lv_aload_n hx hb dX2_describe_80 rfl (lv_at hl 0 rfl) ?_
    refine va_get (D := (dC, dI)) (ci := 3) (v := .ref (ad 1 0)) (C := RX2) (T := TX2) (N := 14) hx hb hts hwX2 hown hK hP 0 rfl rfl 0 (by decide) hf_10 (fun _ h9 => h9) rfl dX2_describe_81 ?_
    refine va_get (D := (dC, dI)) (ci := 1) (v := .ref (ad 1 1)) (C := RX0) (T := TX0) (N := 16) hx hb hts hwX0 hown hK hP 7 rfl rfl 0 (by decide) hf_98 (fun _ h9 => h9) rfl dX2_describe_84 ?_
    refine lv_iload_n hx hb dX2_describe_87 rfl (lv_at hl 1 rfl) ?_
    obtain ⟨hi11, v10, ev10, h⟩ := rdA_some h
    refine k_iald hx hb hK hP 8 0 rfl rfl hi11 ev10 dX2_describe_88 ?_
    obtain ⟨v12, hv12, h⟩ := bdS_some h
    obtain ⟨O13, eO13, h⟩ := inO_some h
    refine call_BVE (As := [.int v10]) (rest := []) ⟨hx, hb, hml, hown, hts⟩ (tS_cI (l := l) (dC := dC) (dI := dI) (cB := cB) (ob := ad 0 4) (sb := Z 2) (mm := Z 3) (base := base) (R := o_xL cI cB cP ad Z O9 R) hv12 hCF.2) (cwV 1 hts gX2_describe_J4_append_bf812 rfl rfl rfl (by decide +kernel) ⟨Nat.le_of_ble_eq_true rfl, Nat.le_of_ble_eq_true rfl⟩) hKB (P_perm (o_pL cI cB cP ad Z O9 R) hP) (D_perm (o_pL cI cB cP ad Z O9 R) hD) hS (Nat.le_trans hbs hS.1) (fun U hU hW => Env_step rfl rfl hE hS hU hW) 0 rfl rfl (by rfl) hl.1 rfl (Nat.le_of_ble_eq_true rfl) dX2_describe_89 ⟨by show _ ≤ 10; omega, by show _ ≤ 256 * (10); omega⟩ (fun H locs ws9 hW9 hP hD _ hS => ?_)
    obtain ⟨b9, m9, rfl, hC9⟩ := hW9
    obtain ⟨Z, hP, hD, hCF⟩ := o_bL hP hD hCF hC9
    have hP : va_P (dC, dI) vwCl (outW cI cB cP ad Z O13 ++ R) H := by rw [eO13]; exact hP
    have hD : va_D (aB base) (outW cI cB cP ad Z O13 ++ R) := by rw [eO13]; exact hD
    have hCF : OF Z O13 := by rw [eO13]; exact hCF
    refine lv_bipush (v := 118) hx hb dX2_describe_92 (by decide) ?_
    obtain ⟨v14, hv14, h⟩ := bdS_some h
    obtain ⟨O15, eO15, h⟩ := inO_some h
    refine call_BVE (As := [.int 118]) (rest := []) ⟨hx, hb, hml, hown, hts⟩ (tS_cC (l := l) (dC := dC) (dI := dI) (cB := cB) (ob := ad 0 4) (sb := Z 2) (mm := Z 3) (base := base) (R := o_xL cI cB cP ad Z O13 R) hv14 hCF.2) (cwV 1 hts gX2_describe_J4_append_cf468 rfl rfl rfl (by decide +kernel) ⟨Nat.le_of_ble_eq_true rfl, Nat.le_of_ble_eq_true rfl⟩) hKB (P_perm (o_pL cI cB cP ad Z O13 R) hP) (D_perm (o_pL cI cB cP ad Z O13 R) hD) hS (Nat.le_trans hbs hS.1) (fun U hU hW => Env_step rfl rfl hE hS hU hW) 0 rfl rfl (by rfl) hl.1 rfl (Nat.le_of_ble_eq_true rfl) dX2_describe_94 ⟨by show _ ≤ 10; omega, by show _ ≤ 256 * (10); omega⟩ (fun H locs ws9 hW9 hP hD _ hS => ?_)
    obtain ⟨b9, m9, rfl, hC9⟩ := hW9
    obtain ⟨Z, hP, hD, hCF⟩ := o_bL hP hD hCF hC9
    have hP : va_P (dC, dI) vwCl (outW cI cB cP ad Z O15 ++ R) H := by rw [eO15]; exact hP
    have hD : va_D (aB base) (outW cI cB cP ad Z O15 ++ R) := by rw [eO15]; exact hD
    have hCF : OF Z O15 := by rw [eO15]; exact hCF
    refine lv_pop hx hb dX2_describe_97 rfl ?_
    refine lv_aload_n hx hb dX2_describe_98 rfl (lv_at hl 0 rfl) ?_
    refine va_get (D := (dC, dI)) (ci := 3) (v := .ref (ad 1 0)) (C := RX2) (T := TX2) (N := 14) hx hb hts hwX2 hown hK hP 0 rfl rfl 0 (by decide) hf_10 (fun _ h9 => h9) rfl dX2_describe_99 ?_
    refine va_get (D := (dC, dI)) (ci := 1) (v := .ref (ad 1 2)) (C := RX0) (T := TX0) (N := 16) hx hb hts hwX0 hown hK hP 7 rfl rfl 1 (by decide) hf_102 (fun _ h9 => h9) rfl dX2_describe_102 ?_
    refine lv_iload_n hx hb dX2_describe_105 rfl (lv_at hl 1 rfl) ?_
    obtain ⟨hi17, v16, ev16, h⟩ := rdA_some h
    refine k_iald hx hb hK hP 9 0 rfl rfl hi17 ev16 dX2_describe_106 ?_
    refine lv_bipush (v := (-4)) hx hb dX2_describe_107 (by decide) ?_
    refine lv_icmp_ne (tgt := 125) hx hb dX2_describe_109 (by decide) (fun c18 => ?_) (fun c18 => ?_)
    · replace h := if_n c18 h
      refine lv_aload_n hx hb dX2_describe_125 rfl (lv_at hl 0 rfl) ?_
      refine va_get (D := (dC, dI)) (ci := 3) (v := .ref (ad 0 4)) (C := RX2) (T := TX2) (N := 14) hx hb hts hwX2 hown hK hP 0 rfl rfl 9 (by decide) hf_50 (fun _ h9 => h9) rfl dX2_describe_126 ?_
      refine lv_aload_n hx hb dX2_describe_129 rfl (lv_at hl 0 rfl) ?_
      refine va_get (D := (dC, dI)) (ci := 3) (v := .ref (ad 1 0)) (C := RX2) (T := TX2) (N := 14) hx hb hts hwX2 hown hK hP 0 rfl rfl 0 (by decide) hf_10 (fun _ h9 => h9) rfl dX2_describe_130 ?_
      refine va_get (D := (dC, dI)) (ci := 1) (v := .ref (ad 1 2)) (C := RX0) (T := TX0) (N := 16) hx hb hts hwX0 hown hK hP 7 rfl rfl 1 (by decide) hf_102 (fun _ h9 => h9) rfl dX2_describe_133 ?_
      refine lv_iload_n hx hb dX2_describe_136 rfl (lv_at hl 1 rfl) ?_
      obtain ⟨hi20, v19, ev19, h⟩ := rdA_some h
      refine k_iald hx hb hK hP 9 0 rfl rfl hi20 ev19 dX2_describe_137 ?_
      obtain ⟨v21, hv21, h⟩ := bdS_some h
      obtain ⟨O22, eO22, h⟩ := inO_some h
      refine call_BVE (As := [.int v19]) (rest := []) ⟨hx, hb, hml, hown, hts⟩ (tS_cI (l := l) (dC := dC) (dI := dI) (cB := cB) (ob := ad 0 4) (sb := Z 2) (mm := Z 3) (base := base) (R := o_xL cI cB cP ad Z O15 R) hv21 hCF.2) (cwV 1 hts gX2_describe_J4_append_bf812 rfl rfl rfl (by decide +kernel) ⟨Nat.le_of_ble_eq_true rfl, Nat.le_of_ble_eq_true rfl⟩) hKB (P_perm (o_pL cI cB cP ad Z O15 R) hP) (D_perm (o_pL cI cB cP ad Z O15 R) hD) hS (Nat.le_trans hbs hS.1) (fun U hU hW => Env_step rfl rfl hE hS hU hW) 0 rfl rfl (by rfl) hl.1 rfl (Nat.le_of_ble_eq_true rfl) dX2_describe_138 ⟨by show _ ≤ 10; omega, by show _ ≤ 256 * (10); omega⟩ (fun H locs ws9 hW9 hP hD _ hS => ?_)
      obtain ⟨b9, m9, rfl, hC9⟩ := hW9
      obtain ⟨Z, hP, hD, hCF⟩ := o_bL hP hD hCF hC9
      have hP : va_P (dC, dI) vwCl (outW cI cB cP ad Z O22 ++ R) H := by rw [eO22]; exact hP
      have hD : va_D (aB base) (outW cI cB cP ad Z O22 ++ R) := by rw [eO22]; exact hD
      have hCF : OF Z O22 := by rw [eO22]; exact hCF
      refine lv_pop hx hb dX2_describe_141 rfl ?_
      exact t_142  h (lv_sub hl [0, 1] rfl) hP hD hS hCF (by omega)
    · replace h := if_p c18 h
      refine lv_aload_n hx hb dX2_describe_112 rfl (lv_at hl 0 rfl) ?_
      refine va_get (D := (dC, dI)) (ci := 3) (v := .ref (ad 0 4)) (C := RX2) (T := TX2) (N := 14) hx hb hts hwX2 hown hK hP 0 rfl rfl 9 (by decide) hf_50 (fun _ h9 => h9) rfl dX2_describe_113 ?_
      refine lv_bipush (v := 45) hx hb dX2_describe_116 (by decide) ?_
      obtain ⟨v23, hv23, h⟩ := bdS_some h
      obtain ⟨O24, eO24, h⟩ := inO_some h
      refine call_BVE (As := [.int 45]) (rest := []) ⟨hx, hb, hml, hown, hts⟩ (tS_cC (l := l) (dC := dC) (dI := dI) (cB := cB) (ob := ad 0 4) (sb := Z 2) (mm := Z 3) (base := base) (R := o_xL cI cB cP ad Z O15 R) hv23 hCF.2) (cwV 1 hts gX2_describe_J4_append_cf468 rfl rfl rfl (by decide +kernel) ⟨Nat.le_of_ble_eq_true rfl, Nat.le_of_ble_eq_true rfl⟩) hKB (P_perm (o_pL cI cB cP ad Z O15 R) hP) (D_perm (o_pL cI cB cP ad Z O15 R) hD) hS (Nat.le_trans hbs hS.1) (fun U hU hW => Env_step rfl rfl hE hS hU hW) 0 rfl rfl (by rfl) hl.1 rfl (Nat.le_of_ble_eq_true rfl) dX2_describe_118 ⟨by show _ ≤ 10; omega, by show _ ≤ 256 * (10); omega⟩ (fun H locs ws9 hW9 hP hD _ hS => ?_)
      obtain ⟨b9, m9, rfl, hC9⟩ := hW9
      obtain ⟨Z, hP, hD, hCF⟩ := o_bL hP hD hCF hC9
      have hP : va_P (dC, dI) vwCl (outW cI cB cP ad Z O24 ++ R) H := by rw [eO24]; exact hP
      have hD : va_D (aB base) (outW cI cB cP ad Z O24 ++ R) := by rw [eO24]; exact hD
      have hCF : OF Z O24 := by rw [eO24]; exact hCF
      refine lv_pop hx hb dX2_describe_121 rfl ?_
      refine lv_goto (tgt := 142) hx hb dX2_describe_122 (by decide) ?_
      exact t_142  h (lv_sub hl [0, 1] rfl) hP hD hS hCF (by omega)
  have t_48 : ∀ {K : OT} {x1 : Int32} {H : Heap} {locs : List Loc} {Z : Nat → Nat} {cells slots : Nat} {ls : Array Slot} (h : fX2_describe_48 N  K x1 = some (rr, KK)) (hl : lv_has ls 2 [(0, .ref (ad 0 0)), (1, .int x1)]) (hP : va_P (dC, dI) vwCl (outW cI cB cP ad Z K ++ R) H) (hD : va_D (aB base) (outW cI cB cP ad Z K ++ R)) (hS : va_S (aB base) s.heap H locs) (hCF : OF Z K) (hcn : cells + (7) ≤ 10 ∧ slots + 256 * (7) ≤ 256 * (10)), W p l e (headSpec wsX2_describe rmX2_describe).room s m ([.ref (ad 0 0), .int p0] : List Value).toArray below meth c H locs cells slots (MQ below (cBe (dC, dI) vwCl base (some (.int rr)) (fun ws => ∃ Z : Nat → Nat, ws = (outW cI cB cP ad Z KK ++ R) ∧ OF Z KK)) ([.ref (ad 0 0), .int p0] : List Value).toArray s (10) (256 * (10)) (aB base)) (F0 m 48 ls []) := by
    intro  K x1 H locs Z cells slots ls h hl hP hD hS hCF hcn
    unfold fX2_describe_48 at h
    refine lv_aload_n hx hb dX2_describe_48 rfl (lv_at hl 0 rfl) ?_
    refine va_get (D := (dC, dI)) (ci := 3) (v := .ref (ad 1 0)) (C := RX2) (T := TX2) (N := 14) hx hb hts hwX2 hown hK hP 0 rfl rfl 0 (by decide) hf_10 (fun _ h9 => h9) rfl dX2_describe_49 ?_
    refine va_get (D := (dC, dI)) (ci := 1) (v := .ref (ad 1 3)) (C := RX0) (T := TX0) (N := 16) hx hb hts hwX0 hown hK hP 7 rfl rfl 2 (by decide) hf_105 (fun _ h9 => h9) rfl dX2_describe_52 ?_
    refine lv_iload_n hx hb dX2_describe_55 rfl (lv_at hl 1 rfl) ?_
    obtain ⟨hi26, v25, ev25, h⟩ := rdA_some h
    refine k_iald hx hb hK hP 10 0 rfl rfl hi26 ev25 dX2_describe_56 ?_
    refine lv_iconst (v := 1) hx hb dX2_describe_57 (by decide) ?_
    refine lv_icmp_ne (tgt := 71) hx hb dX2_describe_58 (by decide) (fun c27 => ?_) (fun c27 => ?_)
    · replace h := if_n c27 h
      exact t_71  h (lv_sub hl [0, 1] rfl) hP hD hS hCF (by omega)
    · replace h := if_p c27 h
      refine lv_aload_n hx hb dX2_describe_61 rfl (lv_at hl 0 rfl) ?_
      refine va_get (D := (dC, dI)) (ci := 3) (v := .ref (ad 0 4)) (C := RX2) (T := TX2) (N := 14) hx hb hts hwX2 hown hK hP 0 rfl rfl 9 (by decide) hf_50 (fun _ h9 => h9) rfl dX2_describe_62 ?_
      refine lv_bipush (v := 67) hx hb dX2_describe_65 (by decide) ?_
      obtain ⟨v28, hv28, h⟩ := bdS_some h
      obtain ⟨O29, eO29, h⟩ := inO_some h
      refine call_BVE (As := [.int 67]) (rest := []) ⟨hx, hb, hml, hown, hts⟩ (tS_cC (l := l) (dC := dC) (dI := dI) (cB := cB) (ob := ad 0 4) (sb := Z 2) (mm := Z 3) (base := base) (R := o_xL cI cB cP ad Z K R) hv28 hCF.2) (cwV 1 hts gX2_describe_J4_append_cf468 rfl rfl rfl (by decide +kernel) ⟨Nat.le_of_ble_eq_true rfl, Nat.le_of_ble_eq_true rfl⟩) hKB (P_perm (o_pL cI cB cP ad Z K R) hP) (D_perm (o_pL cI cB cP ad Z K R) hD) hS (Nat.le_trans hbs hS.1) (fun U hU hW => Env_step rfl rfl hE hS hU hW) 0 rfl rfl (by rfl) hl.1 rfl (Nat.le_of_ble_eq_true rfl) dX2_describe_67 ⟨by show _ ≤ 10; omega, by show _ ≤ 256 * (10); omega⟩ (fun H locs ws9 hW9 hP hD _ hS => ?_)
      obtain ⟨b9, m9, rfl, hC9⟩ := hW9
      obtain ⟨Z, hP, hD, hCF⟩ := o_bL hP hD hCF hC9
      have hP : va_P (dC, dI) vwCl (outW cI cB cP ad Z O29 ++ R) H := by rw [eO29]; exact hP
      have hD : va_D (aB base) (outW cI cB cP ad Z O29 ++ R) := by rw [eO29]; exact hD
      have hCF : OF Z O29 := by rw [eO29]; exact hCF
      refine lv_pop hx hb dX2_describe_70 rfl ?_
      exact t_71  h (lv_sub hl [0, 1] rfl) hP hD hS hCF (by omega)
  have hS : va_S (aB base) s.heap s.heap [] := va_S.rf
  have hl := lv_entry ([.ref (ad 0 0), .int p0]) (n := 2) (Nat.le_of_ble_eq_true rfl)
  rw [lg_entry_eq]
  generalize (lg_sl ([.ref (ad 0 0), .int p0]) ++ List.replicate (2 - (lg_sl ([.ref (ad 0 0), .int p0])).length) Slot.unset).toArray = ls at hl ⊢
  have hl : lv_has ls 2 [(0, .ref (ad 0 0)), (1, .int p0)] := hl
  have h := hf
  unfold mX2_describe at h
  refine lv_iload_n hx hb dX2_describe_0 rfl (lv_at hl 1 rfl) ?_
  obtain ⟨v30, hv30, h⟩ := bdP_some h
  refine call_SP (As := [.int p0]) (rest := []) ⟨hx, hb, hml, hown, hts⟩ (tX2_isNoCamp (l := l) hv30) (va_cwS 1 hts gX2_describe_X2_isNoCamp rfl rfl rfl (by decide +kernel) ⟨Nat.le_of_ble_eq_true rfl, Nat.le_of_ble_eq_true rfl⟩) (by rfl) hl.1 rfl (Nat.le_of_ble_eq_true rfl) dX2_describe_1 ⟨Nat.zero_le _, Nat.zero_le _⟩ ?_
  refine lv_if_eq (tgt := 9) hx hb dX2_describe_4 (by decide) (fun c31 => ?_) (fun c31 => ?_)
  · replace h := if_p c31 h
    refine lv_aload_n hx hb dX2_describe_9 rfl (lv_at hl 0 rfl) ?_
    refine va_get (D := (dC, dI)) (ci := 3) (v := .ref (ad 0 4)) (C := RX2) (T := TX2) (N := 14) hx hb hts hwX2 hown hK hP 0 rfl rfl 9 (by decide) hf_50 (fun _ h9 => h9) rfl dX2_describe_10 ?_
    refine lv_iconst (v := 0) hx hb dX2_describe_13 (by decide) ?_
    obtain ⟨v32, hv32, h⟩ := bdS_some h
    obtain ⟨O33, eO33, h⟩ := inO_some h
    refine call_BVE (As := [.int 0]) (rest := []) ⟨hx, hb, hml, hown, hts⟩ (tS_cL (l := l) (dC := dC) (dI := dI) (cB := cB) (ob := ad 0 4) (sb := Z 2) (mm := Z 3) (base := base) (R := o_xL cI cB cP ad Z K R) hv32 hCF.2) (cwV 1 hts gX2_describe_J4_setLength_d00df rfl rfl rfl (by decide +kernel) ⟨Nat.le_of_ble_eq_true rfl, Nat.le_of_ble_eq_true rfl⟩) hKB (P_perm (o_pL cI cB cP ad Z K R) hP) (D_perm (o_pL cI cB cP ad Z K R) hD) hS (Nat.le_trans hbs hS.1) (fun U hU hW => Env_step rfl rfl hE hS hU hW) 0 rfl rfl (by rfl) hl.1 rfl (Nat.le_of_ble_eq_true rfl) dX2_describe_14 ⟨by show _ ≤ 10; omega, by show _ ≤ 256 * (10); omega⟩ (fun H locs ws9 hW9 hP hD _ hS => ?_)
    obtain ⟨b9, m9, rfl, hC9⟩ := hW9
    obtain ⟨Z, hP, hD, hCF⟩ := o_bL hP hD hCF hC9
    have hP : va_P (dC, dI) vwCl (outW cI cB cP ad Z O33 ++ R) H := by rw [eO33]; exact hP
    have hD : va_D (aB base) (outW cI cB cP ad Z O33 ++ R) := by rw [eO33]; exact hD
    have hCF : OF Z O33 := by rw [eO33]; exact hCF
    refine lv_aload_n hx hb dX2_describe_17 rfl (lv_at hl 0 rfl) ?_
    refine va_get (D := (dC, dI)) (ci := 3) (v := .ref (ad 0 4)) (C := RX2) (T := TX2) (N := 14) hx hb hts hwX2 hown hK hP 0 rfl rfl 9 (by decide) hf_50 (fun _ h9 => h9) rfl dX2_describe_18 ?_
    refine lv_iload_n hx hb dX2_describe_21 rfl (lv_at hl 1 rfl) ?_
    obtain ⟨v34, hv34, h⟩ := bdS_some h
    obtain ⟨O35, eO35, h⟩ := inO_some h
    refine call_BVE (As := [.int p0]) (rest := []) ⟨hx, hb, hml, hown, hts⟩ (tS_cI (l := l) (dC := dC) (dI := dI) (cB := cB) (ob := ad 0 4) (sb := Z 2) (mm := Z 3) (base := base) (R := o_xL cI cB cP ad Z O33 R) hv34 hCF.2) (cwV 1 hts gX2_describe_J4_append_bf812 rfl rfl rfl (by decide +kernel) ⟨Nat.le_of_ble_eq_true rfl, Nat.le_of_ble_eq_true rfl⟩) hKB (P_perm (o_pL cI cB cP ad Z O33 R) hP) (D_perm (o_pL cI cB cP ad Z O33 R) hD) hS (Nat.le_trans hbs hS.1) (fun U hU hW => Env_step rfl rfl hE hS hU hW) 0 rfl rfl (by rfl) hl.1 rfl (Nat.le_of_ble_eq_true rfl) dX2_describe_22 ⟨by show _ ≤ 10; omega, by show _ ≤ 256 * (10); omega⟩ (fun H locs ws9 hW9 hP hD _ hS => ?_)
    obtain ⟨b9, m9, rfl, hC9⟩ := hW9
    obtain ⟨Z, hP, hD, hCF⟩ := o_bL hP hD hCF hC9
    have hP : va_P (dC, dI) vwCl (outW cI cB cP ad Z O35 ++ R) H := by rw [eO35]; exact hP
    have hD : va_D (aB base) (outW cI cB cP ad Z O35 ++ R) := by rw [eO35]; exact hD
    have hCF : OF Z O35 := by rw [eO35]; exact hCF
    refine lv_pop hx hb dX2_describe_25 rfl ?_
    refine lv_aload_n hx hb dX2_describe_26 rfl (lv_at hl 0 rfl) ?_
    refine va_get (D := (dC, dI)) (ci := 3) (v := .ref (ad 1 0)) (C := RX2) (T := TX2) (N := 14) hx hb hts hwX2 hown hK hP 0 rfl rfl 0 (by decide) hf_10 (fun _ h9 => h9) rfl dX2_describe_27 ?_
    refine va_get (D := (dC, dI)) (ci := 1) (v := .ref (ad 1 4)) (C := RX0) (T := TX0) (N := 16) hx hb hts hwX0 hown hK hP 7 rfl rfl 3 (by decide) hf_108 (fun _ h9 => h9) rfl dX2_describe_30 ?_
    refine lv_iload_n hx hb dX2_describe_33 rfl (lv_at hl 1 rfl) ?_
    obtain ⟨hi37, v36, ev36, h⟩ := rdA_some h
    refine k_iald hx hb hK hP 11 0 rfl rfl hi37 ev36 dX2_describe_34 ?_
    refine lv_if_ne (tgt := 48) hx hb dX2_describe_35 (by decide) (fun c38 => ?_) (fun c38 => ?_)
    · replace h := if_n c38 h
      exact t_48  h (lv_sub hl [0, 1] rfl) hP hD hS hCF (by omega)
    · replace h := if_p c38 h
      refine lv_aload_n hx hb dX2_describe_38 rfl (lv_at hl 0 rfl) ?_
      refine va_get (D := (dC, dI)) (ci := 3) (v := .ref (ad 0 4)) (C := RX2) (T := TX2) (N := 14) hx hb hts hwX2 hown hK hP 0 rfl rfl 9 (by decide) hf_50 (fun _ h9 => h9) rfl dX2_describe_39 ?_
      refine lv_bipush (v := 122) hx hb dX2_describe_42 (by decide) ?_
      obtain ⟨v39, hv39, h⟩ := bdS_some h
      obtain ⟨O40, eO40, h⟩ := inO_some h
      refine call_BVE (As := [.int 122]) (rest := []) ⟨hx, hb, hml, hown, hts⟩ (tS_cC (l := l) (dC := dC) (dI := dI) (cB := cB) (ob := ad 0 4) (sb := Z 2) (mm := Z 3) (base := base) (R := o_xL cI cB cP ad Z O35 R) hv39 hCF.2) (cwV 1 hts gX2_describe_J4_append_cf468 rfl rfl rfl (by decide +kernel) ⟨Nat.le_of_ble_eq_true rfl, Nat.le_of_ble_eq_true rfl⟩) hKB (P_perm (o_pL cI cB cP ad Z O35 R) hP) (D_perm (o_pL cI cB cP ad Z O35 R) hD) hS (Nat.le_trans hbs hS.1) (fun U hU hW => Env_step rfl rfl hE hS hU hW) 0 rfl rfl (by rfl) hl.1 rfl (Nat.le_of_ble_eq_true rfl) dX2_describe_44 ⟨by show _ ≤ 10; omega, by show _ ≤ 256 * (10); omega⟩ (fun H locs ws9 hW9 hP hD _ hS => ?_)
      obtain ⟨b9, m9, rfl, hC9⟩ := hW9
      obtain ⟨Z, hP, hD, hCF⟩ := o_bL hP hD hCF hC9
      have hP : va_P (dC, dI) vwCl (outW cI cB cP ad Z O40 ++ R) H := by rw [eO40]; exact hP
      have hD : va_D (aB base) (outW cI cB cP ad Z O40 ++ R) := by rw [eO40]; exact hD
      have hCF : OF Z O40 := by rw [eO40]; exact hCF
      refine lv_pop hx hb dX2_describe_47 rfl ?_
      exact t_48  h (lv_sub hl [0, 1] rfl) hP hD hS hCF (by omega)
  · replace h := if_n c31 h
    refine lv_iconst (v := (-1)) hx hb dX2_describe_7 (by decide) ?_
    exact W_le (by omega) (by omega) (W.iret hx hb hr (fun t ht _ => retO h hCF hP hD hS ht) hS.2.2 dX2_describe_8)
def fX2_appendPages_8 (N : Nat)  : Nat → OT → Int32 → Int32 → Int32 → Option (Int32 × OT)
  | 0, _, _, _, _ => none
  | n + 1, K, x1, x3, x4 => (if ((x1 * 12) + x3) ≤ x4 then some (0, K) else rdA (K 0 8) 60 x4 (fun v2 => bdS (s_cC (K 14) (i2c (97 + v2))) (fun v4 => inO (oset K 14 v4) (fun O5 => rdA (O5 0 7) 60 x4 (fun v6 => bdS (s_cI (O5 14) v6) (fun v8 => inO (oset O5 14 v8) (fun O9 => (fX2_appendPages_8 N  n) O9 x1 x3 (x4 + 1))))))))
def mX2_appendPages (N : Nat) (K : OT) (p0 : Int32) (p1 : Int32) (p2 : Int32) : Option (Int32 × OT) := fX2_appendPages_8 N  N K p0 p2 ((p0 * 12) + p1)
def rmX2_appendPages (N : Nat) : Room := { frames := 8, cells := 2 * N, slots := 256 * (2 * N), locals := 235 }
set_option maxHeartbeats 4000000 in
set_option maxRecDepth 100000 in
theorem tX2_appendPages {l : Launch} {dC : Nat → ClassId} {dI : Nat → Nat → Nat} {cI cB cP : ClassId} {ad : Nat → Nat → Nat} {Z : Nat → Nat} {base : Nat} {R : va_W} {N : Nat} {K : OT} {p0 : Int32} {p1 : Int32} {p2 : Int32} {rr : Int32} {KK : OT} (hf : mX2_appendPages N K p0 p1 p2 = some (rr, KK)) (hCF : OF Z K) : Met l yX2_appendPages wsX2_appendPages (rmX2_appendPages N) (cBp (dC, dI) vwCl [(cI, .int), (cB, .byte), (cP, .object RX0)] base (outW cI cB cP ad Z K ++ R) [.ref (ad 0 0), .int p0, .int p1, .int p2]) (cBe (dC, dI) vwCl base (none) (fun ws => ∃ Z : Nat → Nat, ws = (outW cI cB cP ad Z KK ++ R) ∧ OF Z KK)) (2 * N) (256 * (2 * N)) (aB base) := by
  refine Met.ofW (cc := cX2_appendPages) (maxL := 5) (ret := none) (by decide) rfl ?_
  intro p e s m args below meth c s₁ B hml hv
  obtain ⟨rfl, hP, hK, hD, hbs, hE⟩ := hv
  have hx := B.exec
  have hb := B.bytes
  have hr := B.returns
  have hts := atoms_spec (ws := wsX2_appendPages) B.pre
  have hown : s.vm.findClass RX2 = some m.cls := findClass_of_methodNamed B.named
  have hlocks := B.notSynchronized
  have hf_10 := hts (.fieldLink RX2 10 "CaravanLogs" "now" "LCaravanLogs$Caravan;") (by decide +kernel)
  have hf_50 := hts (.fieldLink RX2 50 "CaravanLogs" "line" "Ljava/lang/StringBuilder;") (by decide +kernel)
  have hf_127 := hts (.fieldLink RX2 127 "CaravanLogs$Caravan" "pageTerm" "[I") (by decide +kernel)
  have hf_130 := hts (.fieldLink RX2 130 "CaravanLogs$Caravan" "pageLetter" "[I") (by decide +kernel)
  have hwX0 : ∀ w ∈ u_ws RX0 TX0 16, w ∈ wsX2_appendPages := by decide +kernel
  have hwX2 : ∀ w ∈ u_ws RX2 TX2 14, w ∈ wsX2_appendPages := by decide +kernel
  have hKI : va_K (dC, dI) vwCl [(cI, .int)] s := K_tys (fun x hx => by simp only [List.mem_cons, List.not_mem_nil, or_false] at hx ⊢; simp [hx]) hK
  have hKB : va_K (dC, dI) vwCl [(cB, .byte)] s := K_tys (fun x hx => by simp only [List.mem_cons, List.not_mem_nil, or_false] at hx ⊢; simp [hx]) hK
  have hcn : 0 + (2 * N) ≤ 2 * N ∧ 0 + 256 * (2 * N) ≤ 256 * (2 * N) := by omega
  have t_8 : ∀ {n : Nat}, ∀ {K : OT} {x1 : Int32} {x3 : Int32} {x4 : Int32} {H : Heap} {locs : List Loc} {Z : Nat → Nat} {cells slots : Nat} {ls : Array Slot} (h : fX2_appendPages_8 N  n K x1 x3 x4 = some (rr, KK)) (hl : lv_has ls 5 [(0, .ref (ad 0 0)), (1, .int x1), (3, .int x3), (4, .int x4)]) (hP : va_P (dC, dI) vwCl (outW cI cB cP ad Z K ++ R) H) (hD : va_D (aB base) (outW cI cB cP ad Z K ++ R)) (hS : va_S (aB base) s.heap H locs) (hCF : OF Z K) (hcn : cells + (2 * n) ≤ 2 * N ∧ slots + 256 * (2 * n) ≤ 256 * (2 * N)), W p l e (headSpec wsX2_appendPages (rmX2_appendPages N)).room s m ([.ref (ad 0 0), .int p0, .int p1, .int p2] : List Value).toArray below meth c H locs cells slots (MQ below (cBe (dC, dI) vwCl base (none) (fun ws => ∃ Z : Nat → Nat, ws = (outW cI cB cP ad Z KK ++ R) ∧ OF Z KK)) ([.ref (ad 0 0), .int p0, .int p1, .int p2] : List Value).toArray s (2 * N) (256 * (2 * N)) (aB base)) (F0 m 8 ls []) := by
    intro  n
    induction n with
    | zero =>
      intro K x1 x3 x4 H locs Z cells slots ls h hl hP hD hS hCF hcn
      unfold fX2_appendPages_8 at h
      cases h
    | succ n ih =>
      intro K x1 x3 x4 H locs Z cells slots ls h hl hP hD hS hCF hcn
      unfold fX2_appendPages_8 at h
      refine lv_iload hx hb dX2_appendPages_8 (lv_at hl 3 rfl) ?_
      refine lv_iload_n hx hb dX2_appendPages_10 rfl (lv_at hl 1 rfl) ?_
      refine lv_bipush (v := 12) hx hb dX2_appendPages_11 (by decide) ?_
      refine lv_imul hx hb dX2_appendPages_13 ?_
      refine lv_iload_n hx hb dX2_appendPages_14 rfl (lv_at hl 2 rfl) ?_
      refine lv_iadd hx hb dX2_appendPages_15 ?_
      refine lv_icmp_ge (tgt := 60) hx hb dX2_appendPages_16 (by decide) (fun c1 => ?_) (fun c1 => ?_)
      · replace h := if_p c1 h
        exact W_le (by omega) (by omega) (W.vret hx hb hr (fun t ht _ => retOv h hCF hP hD hS ht) hS.2.2 dX2_appendPages_60)
      · replace h := if_n c1 h
        refine lv_aload_n hx hb dX2_appendPages_19 rfl (lv_at hl 0 rfl) ?_
        refine va_get (D := (dC, dI)) (ci := 3) (v := .ref (ad 0 4)) (C := RX2) (T := TX2) (N := 14) hx hb hts hwX2 hown hK hP 0 rfl rfl 9 (by decide) hf_50 (fun _ h9 => h9) rfl dX2_appendPages_20 ?_
        refine lv_bipush (v := 97) hx hb dX2_appendPages_23 (by decide) ?_
        refine lv_aload_n hx hb dX2_appendPages_25 rfl (lv_at hl 0 rfl) ?_
        refine va_get (D := (dC, dI)) (ci := 3) (v := .ref (ad 1 0)) (C := RX2) (T := TX2) (N := 14) hx hb hts hwX2 hown hK hP 0 rfl rfl 0 (by decide) hf_10 (fun _ h9 => h9) rfl dX2_appendPages_26 ?_
        refine va_get (D := (dC, dI)) (ci := 1) (v := .ref (ad 1 9)) (C := RX0) (T := TX0) (N := 16) hx hb hts hwX0 hown hK hP 7 rfl rfl 8 (by decide) hf_130 (fun _ h9 => h9) rfl dX2_appendPages_29 ?_
        refine lv_iload hx hb dX2_appendPages_32 (lv_at hl 3 rfl) ?_
        obtain ⟨hi3, v2, ev2, h⟩ := rdA_some h
        refine k_iald hx hb hK hP 16 0 rfl rfl hi3 ev2 dX2_appendPages_34 ?_
        refine lv_iadd hx hb dX2_appendPages_35 ?_
        refine lv_i2c (v := i2c (97 + v2)) hx hb dX2_appendPages_36 rfl ?_
        obtain ⟨v4, hv4, h⟩ := bdS_some h
        obtain ⟨O5, eO5, h⟩ := inO_some h
        refine call_BVE (As := [.int (i2c (97 + v2))]) (rest := []) ⟨hx, hb, hml, hown, hts⟩ (tS_cC (l := l) (dC := dC) (dI := dI) (cB := cB) (ob := ad 0 4) (sb := Z 2) (mm := Z 3) (base := base) (R := o_xL cI cB cP ad Z K R) hv4 hCF.2) (cwV 1 hts gX2_appendPages_J4_append_cf468 rfl rfl rfl (by decide +kernel) ⟨Nat.le_of_ble_eq_true rfl, Nat.le_of_ble_eq_true rfl⟩) hKB (P_perm (o_pL cI cB cP ad Z K R) hP) (D_perm (o_pL cI cB cP ad Z K R) hD) hS (Nat.le_trans hbs hS.1) (fun U hU hW => Env_step rfl rfl hE hS hU hW) 0 rfl rfl (by rfl) hl.1 rfl (Nat.le_of_ble_eq_true rfl) dX2_appendPages_37 ⟨by show _ ≤ 2 * N; omega, by show _ ≤ 256 * (2 * N); omega⟩ (fun H locs ws9 hW9 hP hD _ hS => ?_)
        obtain ⟨b9, m9, rfl, hC9⟩ := hW9
        obtain ⟨Z, hP, hD, hCF⟩ := o_bL hP hD hCF hC9
        have hP : va_P (dC, dI) vwCl (outW cI cB cP ad Z O5 ++ R) H := by rw [eO5]; exact hP
        have hD : va_D (aB base) (outW cI cB cP ad Z O5 ++ R) := by rw [eO5]; exact hD
        have hCF : OF Z O5 := by rw [eO5]; exact hCF
        refine lv_aload_n hx hb dX2_appendPages_40 rfl (lv_at hl 0 rfl) ?_
        refine va_get (D := (dC, dI)) (ci := 3) (v := .ref (ad 1 0)) (C := RX2) (T := TX2) (N := 14) hx hb hts hwX2 hown hK hP 0 rfl rfl 0 (by decide) hf_10 (fun _ h9 => h9) rfl dX2_appendPages_41 ?_
        refine va_get (D := (dC, dI)) (ci := 1) (v := .ref (ad 1 8)) (C := RX0) (T := TX0) (N := 16) hx hb hts hwX0 hown hK hP 7 rfl rfl 7 (by decide) hf_127 (fun _ h9 => h9) rfl dX2_appendPages_44 ?_
        refine lv_iload hx hb dX2_appendPages_47 (lv_at hl 3 rfl) ?_
        obtain ⟨hi7, v6, ev6, h⟩ := rdA_some h
        refine k_iald hx hb hK hP 15 0 rfl rfl hi7 ev6 dX2_appendPages_49 ?_
        obtain ⟨v8, hv8, h⟩ := bdS_some h
        obtain ⟨O9, eO9, h⟩ := inO_some h
        refine call_BVE (As := [.int v6]) (rest := []) ⟨hx, hb, hml, hown, hts⟩ (tS_cI (l := l) (dC := dC) (dI := dI) (cB := cB) (ob := ad 0 4) (sb := Z 2) (mm := Z 3) (base := base) (R := o_xL cI cB cP ad Z O5 R) hv8 hCF.2) (cwV 1 hts gX2_appendPages_J4_append_bf812 rfl rfl rfl (by decide +kernel) ⟨Nat.le_of_ble_eq_true rfl, Nat.le_of_ble_eq_true rfl⟩) hKB (P_perm (o_pL cI cB cP ad Z O5 R) hP) (D_perm (o_pL cI cB cP ad Z O5 R) hD) hS (Nat.le_trans hbs hS.1) (fun U hU hW => Env_step rfl rfl hE hS hU hW) 0 rfl rfl (by rfl) hl.1 rfl (Nat.le_of_ble_eq_true rfl) dX2_appendPages_50 ⟨by show _ ≤ 2 * N; omega, by show _ ≤ 256 * (2 * N); omega⟩ (fun H locs ws9 hW9 hP hD _ hS => ?_)
        obtain ⟨b9, m9, rfl, hC9⟩ := hW9
        obtain ⟨Z, hP, hD, hCF⟩ := o_bL hP hD hCF hC9
        have hP : va_P (dC, dI) vwCl (outW cI cB cP ad Z O9 ++ R) H := by rw [eO9]; exact hP
        have hD : va_D (aB base) (outW cI cB cP ad Z O9 ++ R) := by rw [eO9]; exact hD
        have hCF : OF Z O9 := by rw [eO9]; exact hCF
        refine lv_pop hx hb dX2_appendPages_53 rfl ?_
        refine lv_iinc (v := x4 + 1) (lv' := [(4, .int (x4 + 1)), (0, .ref (ad 0 0)), (1, .int x1), (3, .int x3)]) hx hb dX2_appendPages_54 hl (k := 3) rfl rfl (by decide) rfl (fun ls hl => ?_)
        refine lv_goto (tgt := 8) hx hb dX2_appendPages_57 (by decide) ?_
        exact ih h (lv_sub hl [1, 2, 3, 0] rfl) hP hD hS hCF (by omega)
  have hS : va_S (aB base) s.heap s.heap [] := va_S.rf
  have hl := lv_entry ([.ref (ad 0 0), .int p0, .int p1, .int p2]) (n := 5) (Nat.le_of_ble_eq_true rfl)
  rw [lg_entry_eq]
  generalize (lg_sl ([.ref (ad 0 0), .int p0, .int p1, .int p2]) ++ List.replicate (5 - (lg_sl ([.ref (ad 0 0), .int p0, .int p1, .int p2])).length) Slot.unset).toArray = ls at hl ⊢
  have hl : lv_has ls 5 [(0, .ref (ad 0 0)), (1, .int p0), (2, .int p1), (3, .int p2)] := hl
  have h := hf
  unfold mX2_appendPages at h
  refine lv_iload_n hx hb dX2_appendPages_0 rfl (lv_at hl 1 rfl) ?_
  refine lv_bipush (v := 12) hx hb dX2_appendPages_1 (by decide) ?_
  refine lv_imul hx hb dX2_appendPages_3 ?_
  refine lv_iload_n hx hb dX2_appendPages_4 rfl (lv_at hl 2 rfl) ?_
  refine lv_iadd hx hb dX2_appendPages_5 ?_
  refine lv_istore (lv' := [(4, .int ((p0 * 12) + p1)), (0, .ref (ad 0 0)), (1, .int p0), (2, .int p1), (3, .int p2)]) hx hb dX2_appendPages_6 hl (by decide) rfl (fun ls hl => ?_)
  exact t_8  h (lv_sub hl [1, 2, 4, 0] rfl) hP hD hS hCF (by omega)
def mX2_show (N : Nat) (K : OT) (p0 : Int32) : Option (Int32 × OT) := bdP (mX2_isNoCamp N p0) (fun v1 => (if v1 = 0 then bdS (s_cL (K 14) 0) (fun v3 => inO (oset K 14 v3) (fun O4 => rdA (O4 0 6) 5 p0 (fun v5 => bdO (mX2_appendPages N O4 p0 0 v5) (fun v7 O8 => bdS (s_cC (O8 14) 124) (fun v9 => inO (oset O8 14 v9) (fun O10 => rdA (O10 0 6) 5 p0 (fun v11 => rdA (O10 0 5) 5 p0 (fun v13 => bdO (mX2_appendPages N O10 p0 v11 v13) (fun v15 O16 => bdP (s_length (O16 14) ) (fun v17 => some (v17, O16))))))))))) else some ((-1), K)))
def rmX2_show (N : Nat) : Room := { frames := 9, cells := 4 * N + 2, slots := 256 * (4 * N + 2), locals := 260 }
set_option maxHeartbeats 4000000 in
set_option maxRecDepth 100000 in
theorem tX2_show {l : Launch} {dC : Nat → ClassId} {dI : Nat → Nat → Nat} {cI cB cP : ClassId} {ad : Nat → Nat → Nat} {Z : Nat → Nat} {base : Nat} {R : va_W} {N : Nat} {K : OT} {p0 : Int32} {rr : Int32} {KK : OT} (hf : mX2_show N K p0 = some (rr, KK)) (hCF : OF Z K) : Met l yX2_show wsX2_show (rmX2_show N) (cBp (dC, dI) vwCl [(cI, .int), (cB, .byte), (cP, .object RX0)] base (outW cI cB cP ad Z K ++ R) [.ref (ad 0 0), .int p0]) (cBe (dC, dI) vwCl base (some (.int rr)) (fun ws => ∃ Z : Nat → Nat, ws = (outW cI cB cP ad Z KK ++ R) ∧ OF Z KK)) (4 * N + 2) (256 * (4 * N + 2)) (aB base) := by
  refine Met.ofW (cc := cX2_show) (maxL := 2) (ret := (some .int)) (by decide) rfl ?_
  intro p e s m args below meth c s₁ B hml hv
  obtain ⟨rfl, hP, hK, hD, hbs, hE⟩ := hv
  have hx := B.exec
  have hb := B.bytes
  have hr := B.returns
  have hts := atoms_spec (ws := wsX2_show) B.pre
  have hown : s.vm.findClass RX2 = some m.cls := findClass_of_methodNamed B.named
  have hlocks := B.notSynchronized
  have hf_10 := hts (.fieldLink RX2 10 "CaravanLogs" "now" "LCaravanLogs$Caravan;") (by decide +kernel)
  have hf_50 := hts (.fieldLink RX2 50 "CaravanLogs" "line" "Ljava/lang/StringBuilder;") (by decide +kernel)
  have hf_111 := hts (.fieldLink RX2 111 "CaravanLogs$Caravan" "pages" "[I") (by decide +kernel)
  have hf_114 := hts (.fieldLink RX2 114 "CaravanLogs$Caravan" "settled" "[I") (by decide +kernel)
  have hwX0 : ∀ w ∈ u_ws RX0 TX0 16, w ∈ wsX2_show := by decide +kernel
  have hwX2 : ∀ w ∈ u_ws RX2 TX2 14, w ∈ wsX2_show := by decide +kernel
  have hKI : va_K (dC, dI) vwCl [(cI, .int)] s := K_tys (fun x hx => by simp only [List.mem_cons, List.not_mem_nil, or_false] at hx ⊢; simp [hx]) hK
  have hKB : va_K (dC, dI) vwCl [(cB, .byte)] s := K_tys (fun x hx => by simp only [List.mem_cons, List.not_mem_nil, or_false] at hx ⊢; simp [hx]) hK
  have hcn : 0 + (4 * N + 2) ≤ 4 * N + 2 ∧ 0 + 256 * (4 * N + 2) ≤ 256 * (4 * N + 2) := by omega
  have hS : va_S (aB base) s.heap s.heap [] := va_S.rf
  have hl := lv_entry ([.ref (ad 0 0), .int p0]) (n := 2) (Nat.le_of_ble_eq_true rfl)
  rw [lg_entry_eq]
  generalize (lg_sl ([.ref (ad 0 0), .int p0]) ++ List.replicate (2 - (lg_sl ([.ref (ad 0 0), .int p0])).length) Slot.unset).toArray = ls at hl ⊢
  have hl : lv_has ls 2 [(0, .ref (ad 0 0)), (1, .int p0)] := hl
  have h := hf
  unfold mX2_show at h
  refine lv_iload_n hx hb dX2_show_0 rfl (lv_at hl 1 rfl) ?_
  obtain ⟨v1, hv1, h⟩ := bdP_some h
  refine call_SP (As := [.int p0]) (rest := []) ⟨hx, hb, hml, hown, hts⟩ (tX2_isNoCamp (l := l) hv1) (va_cwS 1 hts gX2_show_X2_isNoCamp rfl rfl rfl (by decide +kernel) ⟨Nat.le_of_ble_eq_true rfl, Nat.le_of_ble_eq_true rfl⟩) (by rfl) hl.1 rfl (Nat.le_of_ble_eq_true rfl) dX2_show_1 ⟨Nat.zero_le _, Nat.zero_le _⟩ ?_
  refine lv_if_eq (tgt := 9) hx hb dX2_show_4 (by decide) (fun c2 => ?_) (fun c2 => ?_)
  · replace h := if_p c2 h
    refine lv_aload_n hx hb dX2_show_9 rfl (lv_at hl 0 rfl) ?_
    refine va_get (D := (dC, dI)) (ci := 3) (v := .ref (ad 0 4)) (C := RX2) (T := TX2) (N := 14) hx hb hts hwX2 hown hK hP 0 rfl rfl 9 (by decide) hf_50 (fun _ h9 => h9) rfl dX2_show_10 ?_
    refine lv_iconst (v := 0) hx hb dX2_show_13 (by decide) ?_
    obtain ⟨v3, hv3, h⟩ := bdS_some h
    obtain ⟨O4, eO4, h⟩ := inO_some h
    refine call_BVE (As := [.int 0]) (rest := []) ⟨hx, hb, hml, hown, hts⟩ (tS_cL (l := l) (dC := dC) (dI := dI) (cB := cB) (ob := ad 0 4) (sb := Z 2) (mm := Z 3) (base := base) (R := o_xL cI cB cP ad Z K R) hv3 hCF.2) (cwV 1 hts gX2_show_J4_setLength_d00df rfl rfl rfl (by decide +kernel) ⟨Nat.le_of_ble_eq_true rfl, Nat.le_of_ble_eq_true rfl⟩) hKB (P_perm (o_pL cI cB cP ad Z K R) hP) (D_perm (o_pL cI cB cP ad Z K R) hD) hS (Nat.le_trans hbs hS.1) (fun U hU hW => Env_step rfl rfl hE hS hU hW) 0 rfl rfl (by rfl) hl.1 rfl (Nat.le_of_ble_eq_true rfl) dX2_show_14 ⟨by show _ ≤ 4 * N + 2; omega, by show _ ≤ 256 * (4 * N + 2); omega⟩ (fun H locs ws9 hW9 hP hD _ hS => ?_)
    obtain ⟨b9, m9, rfl, hC9⟩ := hW9
    obtain ⟨Z, hP, hD, hCF⟩ := o_bL hP hD hCF hC9
    have hP : va_P (dC, dI) vwCl (outW cI cB cP ad Z O4 ++ R) H := by rw [eO4]; exact hP
    have hD : va_D (aB base) (outW cI cB cP ad Z O4 ++ R) := by rw [eO4]; exact hD
    have hCF : OF Z O4 := by rw [eO4]; exact hCF
    refine lv_aload_n hx hb dX2_show_17 rfl (lv_at hl 0 rfl) ?_
    refine lv_iload_n hx hb dX2_show_18 rfl (lv_at hl 1 rfl) ?_
    refine lv_iconst (v := 0) hx hb dX2_show_19 (by decide) ?_
    refine lv_aload_n hx hb dX2_show_20 rfl (lv_at hl 0 rfl) ?_
    refine va_get (D := (dC, dI)) (ci := 3) (v := .ref (ad 1 0)) (C := RX2) (T := TX2) (N := 14) hx hb hts hwX2 hown hK hP 0 rfl rfl 0 (by decide) hf_10 (fun _ h9 => h9) rfl dX2_show_21 ?_
    refine va_get (D := (dC, dI)) (ci := 1) (v := .ref (ad 1 7)) (C := RX0) (T := TX0) (N := 16) hx hb hts hwX0 hown hK hP 7 rfl rfl 6 (by decide) hf_114 (fun _ h9 => h9) rfl dX2_show_24 ?_
    refine lv_iload_n hx hb dX2_show_27 rfl (lv_at hl 1 rfl) ?_
    obtain ⟨hi6, v5, ev5, h⟩ := rdA_some h
    refine k_iald hx hb hK hP 14 0 rfl rfl hi6 ev5 dX2_show_28 ?_
    obtain ⟨v7, O8, hv7, h⟩ := bdO_some h
    refine call_BVE (As := [.int p0, .int 0, .int v5]) (rest := []) ⟨hx, hb, hml, hown, hts⟩ (tX2_appendPages (l := l) (dC := dC) (dI := dI) (cI := cI) (cB := cB) (cP := cP) (ad := ad) (base := base) (R := R) hv7 hCF) (cwV 3 hts gX2_show_X2_appendPages rfl rfl rfl (by decide +kernel) ⟨Nat.le_of_ble_eq_true rfl, Nat.le_of_ble_eq_true rfl⟩) hK hP hD hS (Nat.le_trans hbs hS.1) (fun U hU hW => Env_step rfl rfl hE hS hU hW) 0 rfl rfl (by rfl) hl.1 rfl (Nat.le_of_ble_eq_true rfl) dX2_show_29 ⟨by show _ ≤ 4 * N + 2; omega, by show _ ≤ 256 * (4 * N + 2); omega⟩ (fun H locs ws9 hW9 hP hD _ hS => ?_)
    obtain ⟨Z, rfl, hCF⟩ := hW9
    refine lv_aload_n hx hb dX2_show_32 rfl (lv_at hl 0 rfl) ?_
    refine va_get (D := (dC, dI)) (ci := 3) (v := .ref (ad 0 4)) (C := RX2) (T := TX2) (N := 14) hx hb hts hwX2 hown hK hP 0 rfl rfl 9 (by decide) hf_50 (fun _ h9 => h9) rfl dX2_show_33 ?_
    refine lv_bipush (v := 124) hx hb dX2_show_36 (by decide) ?_
    obtain ⟨v9, hv9, h⟩ := bdS_some h
    obtain ⟨O10, eO10, h⟩ := inO_some h
    refine call_BVE (As := [.int 124]) (rest := []) ⟨hx, hb, hml, hown, hts⟩ (tS_cC (l := l) (dC := dC) (dI := dI) (cB := cB) (ob := ad 0 4) (sb := Z 2) (mm := Z 3) (base := base) (R := o_xL cI cB cP ad Z O8 R) hv9 hCF.2) (cwV 1 hts gX2_show_J4_append_cf468 rfl rfl rfl (by decide +kernel) ⟨Nat.le_of_ble_eq_true rfl, Nat.le_of_ble_eq_true rfl⟩) hKB (P_perm (o_pL cI cB cP ad Z O8 R) hP) (D_perm (o_pL cI cB cP ad Z O8 R) hD) hS (Nat.le_trans hbs hS.1) (fun U hU hW => Env_step rfl rfl hE hS hU hW) 0 rfl rfl (by rfl) hl.1 rfl (Nat.le_of_ble_eq_true rfl) dX2_show_38 ⟨by show _ ≤ 4 * N + 2; omega, by show _ ≤ 256 * (4 * N + 2); omega⟩ (fun H locs ws9 hW9 hP hD _ hS => ?_)
    obtain ⟨b9, m9, rfl, hC9⟩ := hW9
    obtain ⟨Z, hP, hD, hCF⟩ := o_bL hP hD hCF hC9
    have hP : va_P (dC, dI) vwCl (outW cI cB cP ad Z O10 ++ R) H := by rw [eO10]; exact hP
    have hD : va_D (aB base) (outW cI cB cP ad Z O10 ++ R) := by rw [eO10]; exact hD
    have hCF : OF Z O10 := by rw [eO10]; exact hCF
    refine lv_pop hx hb dX2_show_41 rfl ?_
    refine lv_aload_n hx hb dX2_show_42 rfl (lv_at hl 0 rfl) ?_
    refine lv_iload_n hx hb dX2_show_43 rfl (lv_at hl 1 rfl) ?_
    refine lv_aload_n hx hb dX2_show_44 rfl (lv_at hl 0 rfl) ?_
    refine va_get (D := (dC, dI)) (ci := 3) (v := .ref (ad 1 0)) (C := RX2) (T := TX2) (N := 14) hx hb hts hwX2 hown hK hP 0 rfl rfl 0 (by decide) hf_10 (fun _ h9 => h9) rfl dX2_show_45 ?_
    refine va_get (D := (dC, dI)) (ci := 1) (v := .ref (ad 1 7)) (C := RX0) (T := TX0) (N := 16) hx hb hts hwX0 hown hK hP 7 rfl rfl 6 (by decide) hf_114 (fun _ h9 => h9) rfl dX2_show_48 ?_
    refine lv_iload_n hx hb dX2_show_51 rfl (lv_at hl 1 rfl) ?_
    obtain ⟨hi12, v11, ev11, h⟩ := rdA_some h
    refine k_iald hx hb hK hP 14 0 rfl rfl hi12 ev11 dX2_show_52 ?_
    refine lv_aload_n hx hb dX2_show_53 rfl (lv_at hl 0 rfl) ?_
    refine va_get (D := (dC, dI)) (ci := 3) (v := .ref (ad 1 0)) (C := RX2) (T := TX2) (N := 14) hx hb hts hwX2 hown hK hP 0 rfl rfl 0 (by decide) hf_10 (fun _ h9 => h9) rfl dX2_show_54 ?_
    refine va_get (D := (dC, dI)) (ci := 1) (v := .ref (ad 1 6)) (C := RX0) (T := TX0) (N := 16) hx hb hts hwX0 hown hK hP 7 rfl rfl 5 (by decide) hf_111 (fun _ h9 => h9) rfl dX2_show_57 ?_
    refine lv_iload_n hx hb dX2_show_60 rfl (lv_at hl 1 rfl) ?_
    obtain ⟨hi14, v13, ev13, h⟩ := rdA_some h
    refine k_iald hx hb hK hP 13 0 rfl rfl hi14 ev13 dX2_show_61 ?_
    obtain ⟨v15, O16, hv15, h⟩ := bdO_some h
    refine call_BVE (As := [.int p0, .int v11, .int v13]) (rest := []) ⟨hx, hb, hml, hown, hts⟩ (tX2_appendPages (l := l) (dC := dC) (dI := dI) (cI := cI) (cB := cB) (cP := cP) (ad := ad) (base := base) (R := R) hv15 hCF) (cwV 3 hts gX2_show_X2_appendPages rfl rfl rfl (by decide +kernel) ⟨Nat.le_of_ble_eq_true rfl, Nat.le_of_ble_eq_true rfl⟩) hK hP hD hS (Nat.le_trans hbs hS.1) (fun U hU hW => Env_step rfl rfl hE hS hU hW) 0 rfl rfl (by rfl) hl.1 rfl (Nat.le_of_ble_eq_true rfl) dX2_show_62 ⟨by show _ ≤ 4 * N + 2; omega, by show _ ≤ 256 * (4 * N + 2); omega⟩ (fun H locs ws9 hW9 hP hD _ hS => ?_)
    obtain ⟨Z, rfl, hCF⟩ := hW9
    refine lv_aload_n hx hb dX2_show_65 rfl (lv_at hl 0 rfl) ?_
    refine va_get (D := (dC, dI)) (ci := 3) (v := .ref (ad 0 4)) (C := RX2) (T := TX2) (N := 14) hx hb hts hwX2 hown hK hP 0 rfl rfl 9 (by decide) hf_50 (fun _ h9 => h9) rfl dX2_show_66 ?_
    obtain ⟨v17, hv17, h⟩ := bdP_some h
    refine call_BVP (As := []) (rest := []) ⟨hx, hb, hml, hown, hts⟩ (tS_length (l := l) (dC := dC) (dI := dI) (cB := cB) (ob := ad 0 4) (sb := Z 2) (mm := Z 3) (base := base) (R := o_xL cI cB cP ad Z O16 R) hv17 hCF.2) (cwV 0 hts gX2_show_J4_length_8abf5 rfl rfl rfl (by decide +kernel) ⟨Nat.le_of_ble_eq_true rfl, Nat.le_of_ble_eq_true rfl⟩) hKB (P_perm (o_pL cI cB cP ad Z O16 R) hP) (D_perm (o_pL cI cB cP ad Z O16 R) hD) (Nat.le_trans hbs hS.1) (fun U hU hW => Env_step rfl rfl hE hS hU hW) 0 rfl rfl (by rfl) hl.1 rfl (Nat.le_of_ble_eq_true rfl) dX2_show_69 ⟨by show _ ≤ 4 * N + 2; omega, by show _ ≤ 256 * (4 * N + 2); omega⟩ ?_
    exact W_le (by omega) (by omega) (W.iret hx hb hr (fun t ht _ => retO h hCF hP hD hS ht) hS.2.2 dX2_show_72)
  · replace h := if_n c2 h
    refine lv_iconst (v := (-1)) hx hb dX2_show_7 (by decide) ?_
    exact W_le (by omega) (by omega) (W.iret hx hb hr (fun t ht _ => retO h hCF hP hD hS ht) hS.2.2 dX2_show_8)
def fX2_sign_15 (N : Nat) (K : OT)   : Option Int32 := some ((-1))
def mX2_sign (N : Nat) (K : OT) (p0 : Int32) : Option Int32 := (if p0 < 0 then fX2_sign_15 N K   else bdP (s_length (K 14) ) (fun v2 => (if p0 < v2 then bdP (s_charAt (K 14) p0) (fun v4 => some v4) else fX2_sign_15 N K  )))
def rmX2_sign : Room := { frames := 6, cells := 0, slots := 0, locals := 160 }
set_option maxHeartbeats 4000000 in
set_option maxRecDepth 100000 in
theorem tX2_sign {l : Launch} {dC : Nat → ClassId} {dI : Nat → Nat → Nat} {cI cB cP : ClassId} {ad : Nat → Nat → Nat} {Z : Nat → Nat} {base : Nat} {R : va_W} {N : Nat} {K : OT} {p0 : Int32} {rr : Int32} (hf : mX2_sign N K p0 = some rr) (hCF : OF Z K) : Met l yX2_sign wsX2_sign rmX2_sign (cBp (dC, dI) vwCl [(cI, .int), (cB, .byte), (cP, .object RX0)] base (outW cI cB cP ad Z K ++ R) [.ref (ad 0 0), .int p0]) (cQp rr) 0 0 (fun _ => False) := by
  refine Met.ofW (cc := cX2_sign) (maxL := 2) (ret := (some .int)) (by decide) rfl ?_
  intro p e s m args below meth c s₁ B hml hv
  obtain ⟨rfl, hP, hK, hD, hbs, hE⟩ := hv
  have hx := B.exec
  have hb := B.bytes
  have hr := B.returns
  have hts := atoms_spec (ws := wsX2_sign) B.pre
  have hown : s.vm.findClass RX2 = some m.cls := findClass_of_methodNamed B.named
  have hlocks := B.notSynchronized
  have hf_50 := hts (.fieldLink RX2 50 "CaravanLogs" "line" "Ljava/lang/StringBuilder;") (by decide +kernel)
  have hEU : ∀ U : State, U.heap = s.heap → s.WarmedH U.vm → EnvB base U := fun U hU hW => Env_step rfl rfl hE va_S.rf hU hW
  have hwX2 : ∀ w ∈ u_ws RX2 TX2 14, w ∈ wsX2_sign := by decide +kernel
  have hKI : va_K (dC, dI) vwCl [(cI, .int)] s := K_tys (fun x hx => by simp only [List.mem_cons, List.not_mem_nil, or_false] at hx ⊢; simp [hx]) hK
  have hKB : va_K (dC, dI) vwCl [(cB, .byte)] s := K_tys (fun x hx => by simp only [List.mem_cons, List.not_mem_nil, or_false] at hx ⊢; simp [hx]) hK
  have t_15 : ∀  {ls : Array Slot} (h : fX2_sign_15 N K   = some rr) (hl : lv_has ls 2 []), W p l e (headSpec wsX2_sign rmX2_sign).room s m ([.ref (ad 0 0), .int p0] : List Value).toArray below meth c s.heap [] 0 0 (MQ below (cQp rr) ([.ref (ad 0 0), .int p0] : List Value).toArray s 0 0 (fun _ => False)) (F0 m 15 ls []) := by
    intro   ls h hl
    unfold fX2_sign_15 at h
    refine lv_iconst (v := (-1)) hx hb dX2_sign_15 (by decide) ?_
    exact W.iret hx hb hr (fun t ht _ => retP h ht) (fun _ h9 => absurd h9 List.not_mem_nil) dX2_sign_16
  have hl := lv_entry ([.ref (ad 0 0), .int p0]) (n := 2) (Nat.le_of_ble_eq_true rfl)
  rw [lg_entry_eq]
  generalize (lg_sl ([.ref (ad 0 0), .int p0]) ++ List.replicate (2 - (lg_sl ([.ref (ad 0 0), .int p0])).length) Slot.unset).toArray = ls at hl ⊢
  have hl : lv_has ls 2 [(0, .ref (ad 0 0)), (1, .int p0)] := hl
  have h := hf
  unfold mX2_sign at h
  refine lv_iload_n hx hb dX2_sign_0 rfl (lv_at hl 1 rfl) ?_
  refine lv_if_lt (tgt := 15) hx hb dX2_sign_1 (by decide) (fun c1 => ?_) (fun c1 => ?_)
  · replace h := if_p c1 h
    exact t_15  h (lv_sub hl [] rfl)
  · replace h := if_n c1 h
    refine lv_iload_n hx hb dX2_sign_4 rfl (lv_at hl 1 rfl) ?_
    refine lv_aload_n hx hb dX2_sign_5 rfl (lv_at hl 0 rfl) ?_
    refine va_get (D := (dC, dI)) (ci := 3) (v := .ref (ad 0 4)) (C := RX2) (T := TX2) (N := 14) hx hb hts hwX2 hown hK hP 0 rfl rfl 9 (by decide) hf_50 (fun _ h9 => h9) rfl dX2_sign_6 ?_
    obtain ⟨v2, hv2, h⟩ := bdP_some h
    refine call_BVP (As := []) (rest := [.int p0]) ⟨hx, hb, hml, hown, hts⟩ (tS_length (l := l) (dC := dC) (dI := dI) (cB := cB) (ob := ad 0 4) (sb := Z 2) (mm := Z 3) (base := base) (R := o_xL cI cB cP ad Z K R) hv2 hCF.2) (cwV 0 hts gX2_sign_J4_length_8abf5 rfl rfl rfl (by decide +kernel) ⟨Nat.le_of_ble_eq_true rfl, Nat.le_of_ble_eq_true rfl⟩) hKB (P_perm (o_pL cI cB cP ad Z K R) hP) (D_perm (o_pL cI cB cP ad Z K R) hD) hbs hEU 0 rfl rfl (by rfl) hl.1 rfl (Nat.le_of_ble_eq_true rfl) dX2_sign_9 ⟨Nat.zero_le _, Nat.zero_le _⟩ ?_
    refine lv_icmp_lt (tgt := 17) hx hb dX2_sign_12 (by decide) (fun c3 => ?_) (fun c3 => ?_)
    · replace h := if_p c3 h
      refine lv_aload_n hx hb dX2_sign_17 rfl (lv_at hl 0 rfl) ?_
      refine va_get (D := (dC, dI)) (ci := 3) (v := .ref (ad 0 4)) (C := RX2) (T := TX2) (N := 14) hx hb hts hwX2 hown hK hP 0 rfl rfl 9 (by decide) hf_50 (fun _ h9 => h9) rfl dX2_sign_18 ?_
      refine lv_iload_n hx hb dX2_sign_21 rfl (lv_at hl 1 rfl) ?_
      obtain ⟨v4, hv4, h⟩ := bdP_some h
      refine call_BVP (As := [.int p0]) (rest := []) ⟨hx, hb, hml, hown, hts⟩ (tS_charAt (l := l) (dC := dC) (dI := dI) (cB := cB) (ob := ad 0 4) (sb := Z 2) (mm := Z 3) (base := base) (R := o_xL cI cB cP ad Z K R) hv4 hCF.2) (cwV 1 hts gX2_sign_J4_charAt_5068e rfl rfl rfl (by decide +kernel) ⟨Nat.le_of_ble_eq_true rfl, Nat.le_of_ble_eq_true rfl⟩) hKB (P_perm (o_pL cI cB cP ad Z K R) hP) (D_perm (o_pL cI cB cP ad Z K R) hD) hbs hEU 0 rfl rfl (by rfl) hl.1 rfl (Nat.le_of_ble_eq_true rfl) dX2_sign_22 ⟨Nat.zero_le _, Nat.zero_le _⟩ ?_
      exact W.iret hx hb hr (fun t ht _ => retP h ht) (fun _ h9 => absurd h9 List.not_mem_nil) dX2_sign_25
    · replace h := if_n c3 h
      exact t_15  h (lv_sub hl [] rfl)
def fX2_append_27 (N : Nat)  (K : OT)  : Option (Int32 × OT) := some ((-2), K)
def mX2_append (N : Nat) (K : OT) (p0 : Int32) : Option (Int32 × OT) := (if p0 < 32 then fX2_append_27 N  K  else (if 126 < p0 then fX2_append_27 N  K  else bdP (s_length (K 13) ) (fun v3 => (if v3 < 70 then bdS (s_cC (K 13) (i2c p0)) (fun v5 => inO (oset K 13 v5) (fun O6 => bdP (s_length (O6 13) ) (fun v7 => some (v7, O6)))) else fX2_append_27 N  K ))))
def rmX2_append : Room := { frames := 8, cells := 1, slots := 256 * (1), locals := 235 }
set_option maxHeartbeats 4000000 in
set_option maxRecDepth 100000 in
theorem tX2_append {l : Launch} {dC : Nat → ClassId} {dI : Nat → Nat → Nat} {cI cB cP : ClassId} {ad : Nat → Nat → Nat} {Z : Nat → Nat} {base : Nat} {R : va_W} {N : Nat} {K : OT} {p0 : Int32} {rr : Int32} {KK : OT} (hf : mX2_append N K p0 = some (rr, KK)) (hCF : OF Z K) : Met l yX2_append wsX2_append rmX2_append (cBp (dC, dI) vwCl [(cI, .int), (cB, .byte), (cP, .object RX0)] base (outW cI cB cP ad Z K ++ R) [.ref (ad 0 0), .int p0]) (cBe (dC, dI) vwCl base (some (.int rr)) (fun ws => ∃ Z : Nat → Nat, ws = (outW cI cB cP ad Z KK ++ R) ∧ OF Z KK)) (1) (256 * (1)) (aB base) := by
  refine Met.ofW (cc := cX2_append) (maxL := 2) (ret := (some .int)) (by decide) rfl ?_
  intro p e s m args below meth c s₁ B hml hv
  obtain ⟨rfl, hP, hK, hD, hbs, hE⟩ := hv
  have hx := B.exec
  have hb := B.bytes
  have hr := B.returns
  have hts := atoms_spec (ws := wsX2_append) B.pre
  have hown : s.vm.findClass RX2 = some m.cls := findClass_of_methodNamed B.named
  have hlocks := B.notSynchronized
  have hf_43 := hts (.fieldLink RX2 43 "CaravanLogs" "commands" "LCaravanLogs$Commands;") (by decide +kernel)
  have hf_190 := hts (.fieldLink RX2 190 "CaravanLogs$Commands" "text" "Ljava/lang/StringBuilder;") (by decide +kernel)
  have hwX1 : ∀ w ∈ u_ws RX1 TX1 6, w ∈ wsX2_append := by decide +kernel
  have hwX2 : ∀ w ∈ u_ws RX2 TX2 14, w ∈ wsX2_append := by decide +kernel
  have hKI : va_K (dC, dI) vwCl [(cI, .int)] s := K_tys (fun x hx => by simp only [List.mem_cons, List.not_mem_nil, or_false] at hx ⊢; simp [hx]) hK
  have hKB : va_K (dC, dI) vwCl [(cB, .byte)] s := K_tys (fun x hx => by simp only [List.mem_cons, List.not_mem_nil, or_false] at hx ⊢; simp [hx]) hK
  have hcn : 0 + (1) ≤ 1 ∧ 0 + 256 * (1) ≤ 256 * (1) := by omega
  have t_27 : ∀ {K : OT}  {H : Heap} {locs : List Loc} {Z : Nat → Nat} {cells slots : Nat} {ls : Array Slot} (h : fX2_append_27 N  K  = some (rr, KK)) (hl : lv_has ls 2 []) (hP : va_P (dC, dI) vwCl (outW cI cB cP ad Z K ++ R) H) (hD : va_D (aB base) (outW cI cB cP ad Z K ++ R)) (hS : va_S (aB base) s.heap H locs) (hCF : OF Z K) (hcn : cells + (0) ≤ 1 ∧ slots + 256 * (0) ≤ 256 * (1)), W p l e (headSpec wsX2_append rmX2_append).room s m ([.ref (ad 0 0), .int p0] : List Value).toArray below meth c H locs cells slots (MQ below (cBe (dC, dI) vwCl base (some (.int rr)) (fun ws => ∃ Z : Nat → Nat, ws = (outW cI cB cP ad Z KK ++ R) ∧ OF Z KK)) ([.ref (ad 0 0), .int p0] : List Value).toArray s (1) (256 * (1)) (aB base)) (F0 m 27 ls []) := by
    intro  K H locs Z cells slots ls h hl hP hD hS hCF hcn
    unfold fX2_append_27 at h
    refine lv_bipush (v := (-2)) hx hb dX2_append_27 (by decide) ?_
    exact W_le (by omega) (by omega) (W.iret hx hb hr (fun t ht _ => retO h hCF hP hD hS ht) hS.2.2 dX2_append_29)
  have hS : va_S (aB base) s.heap s.heap [] := va_S.rf
  have hl := lv_entry ([.ref (ad 0 0), .int p0]) (n := 2) (Nat.le_of_ble_eq_true rfl)
  rw [lg_entry_eq]
  generalize (lg_sl ([.ref (ad 0 0), .int p0]) ++ List.replicate (2 - (lg_sl ([.ref (ad 0 0), .int p0])).length) Slot.unset).toArray = ls at hl ⊢
  have hl : lv_has ls 2 [(0, .ref (ad 0 0)), (1, .int p0)] := hl
  have h := hf
  unfold mX2_append at h
  refine lv_iload_n hx hb dX2_append_0 rfl (lv_at hl 1 rfl) ?_
  refine lv_bipush (v := 32) hx hb dX2_append_1 (by decide) ?_
  refine lv_icmp_lt (tgt := 27) hx hb dX2_append_3 (by decide) (fun c1 => ?_) (fun c1 => ?_)
  · replace h := if_p c1 h
    exact t_27  h (lv_sub hl [] rfl) hP hD hS hCF (by omega)
  · replace h := if_n c1 h
    refine lv_iload_n hx hb dX2_append_6 rfl (lv_at hl 1 rfl) ?_
    refine lv_bipush (v := 126) hx hb dX2_append_7 (by decide) ?_
    refine lv_icmp_gt (tgt := 27) hx hb dX2_append_9 (by decide) (fun c2 => ?_) (fun c2 => ?_)
    · replace h := if_p c2 h
      exact t_27  h (lv_sub hl [] rfl) hP hD hS hCF (by omega)
    · replace h := if_n c2 h
      refine lv_aload_n hx hb dX2_append_12 rfl (lv_at hl 0 rfl) ?_
      refine va_get (D := (dC, dI)) (ci := 3) (v := .ref (ad 0 2)) (C := RX2) (T := TX2) (N := 14) hx hb hts hwX2 hown hK hP 0 rfl rfl 8 (by decide) hf_43 (fun _ h9 => h9) rfl dX2_append_13 ?_
      refine va_get (D := (dC, dI)) (ci := 2) (v := .ref (ad 0 3)) (C := RX1) (T := TX1) (N := 6) hx hb hts hwX1 hown hK hP 2 rfl rfl 0 (by decide) hf_190 (fun _ h9 => h9) rfl dX2_append_16 ?_
      obtain ⟨v3, hv3, h⟩ := bdP_some h
      refine call_BVP (As := []) (rest := []) ⟨hx, hb, hml, hown, hts⟩ (tS_length (l := l) (dC := dC) (dI := dI) (cB := cB) (ob := ad 0 3) (sb := Z 0) (mm := Z 1) (base := base) (R := o_xT cI cB cP ad Z K R) hv3 hCF.1) (cwV 0 hts gX2_append_J4_length_8abf5 rfl rfl rfl (by decide +kernel) ⟨Nat.le_of_ble_eq_true rfl, Nat.le_of_ble_eq_true rfl⟩) hKB (P_perm (o_pT cI cB cP ad Z K R) hP) (D_perm (o_pT cI cB cP ad Z K R) hD) (Nat.le_trans hbs hS.1) (fun U hU hW => Env_step rfl rfl hE hS hU hW) 0 rfl rfl (by rfl) hl.1 rfl (Nat.le_of_ble_eq_true rfl) dX2_append_19 ⟨by show _ ≤ 1; omega, by show _ ≤ 256 * (1); omega⟩ ?_
      refine lv_bipush (v := 70) hx hb dX2_append_22 (by decide) ?_
      refine lv_icmp_lt (tgt := 30) hx hb dX2_append_24 (by decide) (fun c4 => ?_) (fun c4 => ?_)
      · replace h := if_p c4 h
        refine lv_aload_n hx hb dX2_append_30 rfl (lv_at hl 0 rfl) ?_
        refine va_get (D := (dC, dI)) (ci := 3) (v := .ref (ad 0 2)) (C := RX2) (T := TX2) (N := 14) hx hb hts hwX2 hown hK hP 0 rfl rfl 8 (by decide) hf_43 (fun _ h9 => h9) rfl dX2_append_31 ?_
        refine va_get (D := (dC, dI)) (ci := 2) (v := .ref (ad 0 3)) (C := RX1) (T := TX1) (N := 6) hx hb hts hwX1 hown hK hP 2 rfl rfl 0 (by decide) hf_190 (fun _ h9 => h9) rfl dX2_append_34 ?_
        refine lv_iload_n hx hb dX2_append_37 rfl (lv_at hl 1 rfl) ?_
        refine lv_i2c (v := i2c p0) hx hb dX2_append_38 rfl ?_
        obtain ⟨v5, hv5, h⟩ := bdS_some h
        obtain ⟨O6, eO6, h⟩ := inO_some h
        refine call_BVE (As := [.int (i2c p0)]) (rest := []) ⟨hx, hb, hml, hown, hts⟩ (tS_cC (l := l) (dC := dC) (dI := dI) (cB := cB) (ob := ad 0 3) (sb := Z 0) (mm := Z 1) (base := base) (R := o_xT cI cB cP ad Z K R) hv5 hCF.1) (cwV 1 hts gX2_append_J4_append_cf468 rfl rfl rfl (by decide +kernel) ⟨Nat.le_of_ble_eq_true rfl, Nat.le_of_ble_eq_true rfl⟩) hKB (P_perm (o_pT cI cB cP ad Z K R) hP) (D_perm (o_pT cI cB cP ad Z K R) hD) hS (Nat.le_trans hbs hS.1) (fun U hU hW => Env_step rfl rfl hE hS hU hW) 0 rfl rfl (by rfl) hl.1 rfl (Nat.le_of_ble_eq_true rfl) dX2_append_39 ⟨by show _ ≤ 1; omega, by show _ ≤ 256 * (1); omega⟩ (fun H locs ws9 hW9 hP hD _ hS => ?_)
        obtain ⟨b9, m9, rfl, hC9⟩ := hW9
        obtain ⟨Z, hP, hD, hCF⟩ := o_bT hP hD hCF hC9 (s_cC_keep hv5)
        have hP : va_P (dC, dI) vwCl (outW cI cB cP ad Z O6 ++ R) H := by rw [eO6]; exact hP
        have hD : va_D (aB base) (outW cI cB cP ad Z O6 ++ R) := by rw [eO6]; exact hD
        have hCF : OF Z O6 := by rw [eO6]; exact hCF
        refine lv_pop hx hb dX2_append_42 rfl ?_
        refine lv_aload_n hx hb dX2_append_43 rfl (lv_at hl 0 rfl) ?_
        refine va_get (D := (dC, dI)) (ci := 3) (v := .ref (ad 0 2)) (C := RX2) (T := TX2) (N := 14) hx hb hts hwX2 hown hK hP 0 rfl rfl 8 (by decide) hf_43 (fun _ h9 => h9) rfl dX2_append_44 ?_
        refine va_get (D := (dC, dI)) (ci := 2) (v := .ref (ad 0 3)) (C := RX1) (T := TX1) (N := 6) hx hb hts hwX1 hown hK hP 2 rfl rfl 0 (by decide) hf_190 (fun _ h9 => h9) rfl dX2_append_47 ?_
        obtain ⟨v7, hv7, h⟩ := bdP_some h
        refine call_BVP (As := []) (rest := []) ⟨hx, hb, hml, hown, hts⟩ (tS_length (l := l) (dC := dC) (dI := dI) (cB := cB) (ob := ad 0 3) (sb := Z 0) (mm := Z 1) (base := base) (R := o_xT cI cB cP ad Z O6 R) hv7 hCF.1) (cwV 0 hts gX2_append_J4_length_8abf5 rfl rfl rfl (by decide +kernel) ⟨Nat.le_of_ble_eq_true rfl, Nat.le_of_ble_eq_true rfl⟩) hKB (P_perm (o_pT cI cB cP ad Z O6 R) hP) (D_perm (o_pT cI cB cP ad Z O6 R) hD) (Nat.le_trans hbs hS.1) (fun U hU hW => Env_step rfl rfl hE hS hU hW) 0 rfl rfl (by rfl) hl.1 rfl (Nat.le_of_ble_eq_true rfl) dX2_append_50 ⟨by show _ ≤ 1; omega, by show _ ≤ 256 * (1); omega⟩ ?_
        exact W_le (by omega) (by omega) (W.iret hx hb hr (fun t ht _ => retO h hCF hP hD hS ht) hS.2.2 dX2_append_53)
      · replace h := if_n c4 h
        exact t_27  h (lv_sub hl [] rfl) hP hD hS hCF (by omega)
def fX2_read_99 (N : Nat)  (K : OT) (x1 : Int32) : Option (Int32 × OT) := inO (oset K 12 (fset (K 12) 0 3 ((-4)))) (fun O1 => bdS (s_cL (O1 13) 0) (fun v2 => inO (oset O1 13 v2) (fun O3 => bdO (mX2_finishChange N O3 x1) (fun v4 O5 => some (v4, O5)))))
def fX2_read_79 (N : Nat)  (K : OT) (y0 : Int32) : Option (Int32 × OT) := fX2_read_99 N  K y0
def fX2_read_55 (N : Nat)  (K : OT) (x3 : Int32) : Option (Int32 × OT) := inO (oset K 0 (K 1)) (fun O7 => (if x3 = ((-3)) then fX2_read_79 N  O7 ((-3)) else fX2_read_79 N  O7 ((-2))))
def fX2_read_28 (N : Nat)  : Nat → OT → Int32 → Int32 → Option (Int32 × OT)
  | 0, _, _, _ => none
  | n + 1, K, x1, x2 => (if x1 ≤ x2 then fX2_read_99 N  K x1 else bdE (mX1_takeCommand N (K 13) ) (fun v10 K11 => inO (oset K 13 K11) (fun O12 => inO (oset O12 12 (fset (O12 12) 0 3 x2)) (fun O13 => bdO (mX2_carryOutCommand N O13 ) (fun v14 O15 => (if 0 ≤ v14 then bdE (mX1_takeSign N (O15 13) 59) (fun v17 K18 => inO (oset O15 13 K18) (fun O19 => (fX2_read_28 N  n) O19 x1 (x2 + 1))) else fX2_read_55 N  O15 v14))))))
def mX2_read (N : Nat) (K : OT)  : Option (Int32 × OT) := inO (oset K 1 (K 0)) (fun O21 => bdE (mX1_check N (O21 13) ) (fun v22 K23 => inO (oset O21 13 K23) (fun O24 => bdE (mX1_goToStart N (O24 13) ) (fun v25 K26 => inO (oset O24 13 K26) (fun O27 => fX2_read_28 N  N O27 v22 0)))))
def rmX2_read : Room := { frames := 11, cells := 1, slots := 256 * (1), locals := 340 }
set_option maxHeartbeats 4000000 in
set_option maxRecDepth 100000 in
theorem tX2_read {l : Launch} {dC : Nat → ClassId} {dI : Nat → Nat → Nat} {cI cB cP : ClassId} {ad : Nat → Nat → Nat} {Z : Nat → Nat} {base : Nat} {R : va_W} {N : Nat} {K : OT}  {rr : Int32} {KK : OT} (hf : mX2_read N K  = some (rr, KK)) (hCF : OF Z K) : Met l yX2_read wsX2_read rmX2_read (cBp (dC, dI) vwCl [(cI, .int), (cB, .byte), (cP, .object RX0)] base (outW cI cB cP ad Z K ++ R) [.ref (ad 0 0)]) (cBe (dC, dI) vwCl base (some (.int rr)) (fun ws => ∃ Z : Nat → Nat, ws = (outW cI cB cP ad Z KK ++ R) ∧ OF Z KK)) (1) (256 * (1)) (aB base) := by
  refine Met.ofW (cc := cX2_read) (maxL := 4) (ret := (some .int)) (by decide) rfl ?_
  intro p e s m args below meth c s₁ B hml hv
  obtain ⟨rfl, hP, hK, hD, hbs, hE⟩ := hv
  have hx := B.exec
  have hb := B.bytes
  have hr := B.returns
  have hts := atoms_spec (ws := wsX2_read) B.pre
  have hown : s.vm.findClass RX2 = some m.cls := findClass_of_methodNamed B.named
  have hlocks := B.notSynchronized
  have hf_10 := hts (.fieldLink RX2 10 "CaravanLogs" "now" "LCaravanLogs$Caravan;") (by decide +kernel)
  have hf_16 := hts (.fieldLink RX2 16 "CaravanLogs" "before" "LCaravanLogs$Caravan;") (by decide +kernel)
  have hf_43 := hts (.fieldLink RX2 43 "CaravanLogs" "commands" "LCaravanLogs$Commands;") (by decide +kernel)
  have hf_54 := hts (.fieldLink RX2 54 "CaravanLogs" "command" "I") (by decide +kernel)
  have hf_190 := hts (.fieldLink RX2 190 "CaravanLogs$Commands" "text" "Ljava/lang/StringBuilder;") (by decide +kernel)
  have hwX1 : ∀ w ∈ u_ws RX1 TX1 6, w ∈ wsX2_read := by decide +kernel
  have hwX2 : ∀ w ∈ u_ws RX2 TX2 14, w ∈ wsX2_read := by decide +kernel
  have hKI : va_K (dC, dI) vwCl [(cI, .int)] s := K_tys (fun x hx => by simp only [List.mem_cons, List.not_mem_nil, or_false] at hx ⊢; simp [hx]) hK
  have hKB : va_K (dC, dI) vwCl [(cB, .byte)] s := K_tys (fun x hx => by simp only [List.mem_cons, List.not_mem_nil, or_false] at hx ⊢; simp [hx]) hK
  have hcn : 0 + (1) ≤ 1 ∧ 0 + 256 * (1) ≤ 256 * (1) := by omega
  have t_99 : ∀ {K : OT} {x1 : Int32} {H : Heap} {locs : List Loc} {Z : Nat → Nat} {cells slots : Nat} {ls : Array Slot} (h : fX2_read_99 N  K x1 = some (rr, KK)) (hl : lv_has ls 4 [(0, .ref (ad 0 0)), (1, .int x1)]) (hP : va_P (dC, dI) vwCl (outW cI cB cP ad Z K ++ R) H) (hD : va_D (aB base) (outW cI cB cP ad Z K ++ R)) (hS : va_S (aB base) s.heap H locs) (hCF : OF Z K) (hcn : cells + (1) ≤ 1 ∧ slots + 256 * (1) ≤ 256 * (1)), W p l e (headSpec wsX2_read rmX2_read).room s m ([.ref (ad 0 0)] : List Value).toArray below meth c H locs cells slots (MQ below (cBe (dC, dI) vwCl base (some (.int rr)) (fun ws => ∃ Z : Nat → Nat, ws = (outW cI cB cP ad Z KK ++ R) ∧ OF Z KK)) ([.ref (ad 0 0)] : List Value).toArray s (1) (256 * (1)) (aB base)) (F0 m 99 ls []) := by
    intro  K x1 H locs Z cells slots ls h hl hP hD hS hCF hcn
    unfold fX2_read_99 at h
    refine lv_aload_n hx hb dX2_read_99 rfl (lv_at hl 0 rfl) ?_
    refine lv_bipush (v := (-4)) hx hb dX2_read_100 (by decide) ?_
    obtain ⟨O1, eO1, h⟩ := inO_some h
    refine va_put (D := (dC, dI)) (ci := 3) (v := .int ((-4))) (ty := .int) (C := RX2) (T := TX2) (N := 14) hx hb hts hwX2 tyX2 tyX2_ok nmX2 hown hK hP hD hS 0 rfl rfl 10 (by decide) hf_54 (fun _ h9 => h9) rfl (by decide +kernel) rfl rfl (Nat.le_of_ble_eq_true rfl) dX2_read_102 (fun H locs hP hD hS => ?_)
    have hP : va_P (dC, dI) vwCl (outW cI cB cP ad Z O1 ++ R) H := by rw [eO1, out_scal]; exact hP
    have hD : va_D (aB base) (outW cI cB cP ad Z O1 ++ R) := by rw [eO1, out_scal]; exact hD
    have hCF : OF Z O1 := by rw [eO1]; exact OF_set hCF (by decide)
    refine lv_aload_n hx hb dX2_read_105 rfl (lv_at hl 0 rfl) ?_
    refine va_get (D := (dC, dI)) (ci := 3) (v := .ref (ad 0 2)) (C := RX2) (T := TX2) (N := 14) hx hb hts hwX2 hown hK hP 0 rfl rfl 8 (by decide) hf_43 (fun _ h9 => h9) rfl dX2_read_106 ?_
    refine va_get (D := (dC, dI)) (ci := 2) (v := .ref (ad 0 3)) (C := RX1) (T := TX1) (N := 6) hx hb hts hwX1 hown hK hP 2 rfl rfl 0 (by decide) hf_190 (fun _ h9 => h9) rfl dX2_read_109 ?_
    refine lv_iconst (v := 0) hx hb dX2_read_112 (by decide) ?_
    obtain ⟨v2, hv2, h⟩ := bdS_some h
    obtain ⟨O3, eO3, h⟩ := inO_some h
    refine call_BVE (As := [.int 0]) (rest := []) ⟨hx, hb, hml, hown, hts⟩ (tS_cL (l := l) (dC := dC) (dI := dI) (cB := cB) (ob := ad 0 3) (sb := Z 0) (mm := Z 1) (base := base) (R := o_xT cI cB cP ad Z O1 R) hv2 hCF.1) (cwV 1 hts gX2_read_J4_setLength_d00df rfl rfl rfl (by decide +kernel) ⟨Nat.le_of_ble_eq_true rfl, Nat.le_of_ble_eq_true rfl⟩) hKB (P_perm (o_pT cI cB cP ad Z O1 R) hP) (D_perm (o_pT cI cB cP ad Z O1 R) hD) hS (Nat.le_trans hbs hS.1) (fun U hU hW => Env_step rfl rfl hE hS hU hW) 0 rfl rfl (by rfl) hl.1 rfl (Nat.le_of_ble_eq_true rfl) dX2_read_113 ⟨by show _ ≤ 1; omega, by show _ ≤ 256 * (1); omega⟩ (fun H locs ws9 hW9 hP hD _ hS => ?_)
    obtain ⟨b9, m9, rfl, hC9⟩ := hW9
    obtain ⟨Z, hP, hD, hCF⟩ := o_bT hP hD hCF hC9 (s_cL_keep hv2)
    have hP : va_P (dC, dI) vwCl (outW cI cB cP ad Z O3 ++ R) H := by rw [eO3]; exact hP
    have hD : va_D (aB base) (outW cI cB cP ad Z O3 ++ R) := by rw [eO3]; exact hD
    have hCF : OF Z O3 := by rw [eO3]; exact hCF
    refine lv_aload_n hx hb dX2_read_116 rfl (lv_at hl 0 rfl) ?_
    refine lv_iload_n hx hb dX2_read_117 rfl (lv_at hl 1 rfl) ?_
    obtain ⟨v4, O5, hv4, h⟩ := bdO_some h
    refine call_BVE (As := [.int x1]) (rest := []) ⟨hx, hb, hml, hown, hts⟩ (tX2_finishChange (l := l) (dC := dC) (dI := dI) (cI := cI) (cB := cB) (cP := cP) (ad := ad) (base := base) (R := R) hv4 hCF) (cwV 1 hts gX2_read_X2_finishChange rfl rfl rfl (by decide +kernel) ⟨Nat.le_of_ble_eq_true rfl, Nat.le_of_ble_eq_true rfl⟩) hK hP hD hS (Nat.le_trans hbs hS.1) (fun U hU hW => Env_step rfl rfl hE hS hU hW) 0 rfl rfl (by rfl) hl.1 rfl (Nat.le_of_ble_eq_true rfl) dX2_read_118 ⟨by show _ ≤ 1; omega, by show _ ≤ 256 * (1); omega⟩ (fun H locs ws9 hW9 hP hD _ hS => ?_)
    obtain ⟨Z, rfl, hCF⟩ := hW9
    exact W_le (by omega) (by omega) (W.iret hx hb hr (fun t ht _ => retO h hCF hP hD hS ht) hS.2.2 dX2_read_121)
  have t_79 : ∀ {K : OT} {y0 : Int32} {H : Heap} {locs : List Loc} {Z : Nat → Nat} {cells slots : Nat} {ls : Array Slot} (h : fX2_read_79 N  K y0 = some (rr, KK)) (hl : lv_has ls 4 [(0, .ref (ad 0 0))]) (hP : va_P (dC, dI) vwCl (outW cI cB cP ad Z K ++ R) H) (hD : va_D (aB base) (outW cI cB cP ad Z K ++ R)) (hS : va_S (aB base) s.heap H locs) (hCF : OF Z K) (hcn : cells + (1) ≤ 1 ∧ slots + 256 * (1) ≤ 256 * (1)), W p l e (headSpec wsX2_read rmX2_read).room s m ([.ref (ad 0 0)] : List Value).toArray below meth c H locs cells slots (MQ below (cBe (dC, dI) vwCl base (some (.int rr)) (fun ws => ∃ Z : Nat → Nat, ws = (outW cI cB cP ad Z KK ++ R) ∧ OF Z KK)) ([.ref (ad 0 0)] : List Value).toArray s (1) (256 * (1)) (aB base)) (F0 m 79 ls [.int y0]) := by
    intro  K y0 H locs Z cells slots ls h hl hP hD hS hCF hcn
    unfold fX2_read_79 at h
    refine lv_istore_n (lv' := [(1, .int y0), (0, .ref (ad 0 0))]) hx hb dX2_read_79 rfl hl (by decide) rfl (fun ls hl => ?_)
    refine lv_goto (tgt := 99) hx hb dX2_read_80 (by decide) ?_
    exact t_99  h (lv_sub hl [1, 0] rfl) hP hD hS hCF (by omega)
  have t_55 : ∀ {K : OT} {x3 : Int32} {H : Heap} {locs : List Loc} {Z : Nat → Nat} {cells slots : Nat} {ls : Array Slot} (h : fX2_read_55 N  K x3 = some (rr, KK)) (hl : lv_has ls 4 [(0, .ref (ad 0 0)), (3, .int x3)]) (hP : va_P (dC, dI) vwCl (outW cI cB cP ad Z K ++ R) H) (hD : va_D (aB base) (outW cI cB cP ad Z K ++ R)) (hS : va_S (aB base) s.heap H locs) (hCF : OF Z K) (hcn : cells + (1) ≤ 1 ∧ slots + 256 * (1) ≤ 256 * (1)), W p l e (headSpec wsX2_read rmX2_read).room s m ([.ref (ad 0 0)] : List Value).toArray below meth c H locs cells slots (MQ below (cBe (dC, dI) vwCl base (some (.int rr)) (fun ws => ∃ Z : Nat → Nat, ws = (outW cI cB cP ad Z KK ++ R) ∧ OF Z KK)) ([.ref (ad 0 0)] : List Value).toArray s (1) (256 * (1)) (aB base)) (F0 m 55 ls []) := by
    intro  K x3 H locs Z cells slots ls h hl hP hD hS hCF hcn
    unfold fX2_read_55 at h
    refine lv_aload_n hx hb dX2_read_55 rfl (lv_at hl 0 rfl) ?_
    refine va_get (D := (dC, dI)) (ci := 3) (v := .ref (ad 1 0)) (C := RX2) (T := TX2) (N := 14) hx hb hts hwX2 hown hK hP 0 rfl rfl 0 (by decide) hf_10 (fun _ h9 => h9) rfl dX2_read_56 ?_
    refine lv_aload_n hx hb dX2_read_59 rfl (lv_at hl 0 rfl) ?_
    refine va_get (D := (dC, dI)) (ci := 3) (v := .ref (ad 2 0)) (C := RX2) (T := TX2) (N := 14) hx hb hts hwX2 hown hK hP 0 rfl rfl 1 (by decide) hf_16 (fun _ h9 => h9) rfl dX2_read_60 ?_
    obtain ⟨O7, eO7, h⟩ := inO_some h
    refine call_copy (rest := []) (j := 0) (i := 1) (Rr := R) (O := K) ⟨hx, hb, hml, hown, hts⟩ (by decide) (by decide) (by decide) (tX0_copyFrom (l := l) (dC := dC) (dI := dI) (cI := cI) (ob := ad (1 + 0) 0) (ob2 := ad (1 + 1) 0) (q := fun f => ad (1 + 0) (1 + f)) (q2 := fun f => ad (1 + 1) (1 + f)) (K := K 0) (J := K 1)) (cwV 1 hts gX2_read_X0_copyFrom rfl rfl rfl (by decide +kernel) ⟨Nat.le_of_ble_eq_true rfl, Nat.le_of_ble_eq_true rfl⟩) hKI hP hD hS rfl hl.1 rfl (Nat.le_of_ble_eq_true rfl) dX2_read_63 ⟨by show _ ≤ 1; omega, by show _ ≤ 256 * (1); omega⟩ (fun H locs hP hD hS => ?_)
    have hP : va_P (dC, dI) vwCl (outW cI cB cP ad Z O7 ++ R) H := by rw [eO7]; exact hP
    have hD : va_D (aB base) (outW cI cB cP ad Z O7 ++ R) := by rw [eO7]; exact hD
    have hCF : OF Z O7 := by rw [eO7]; exact OF_set hCF (by decide)
    refine lv_iload_n hx hb dX2_read_66 rfl (lv_at hl 1 rfl) ?_
    refine lv_bipush (v := (-3)) hx hb dX2_read_67 (by decide) ?_
    refine lv_icmp_ne (tgt := 77) hx hb dX2_read_69 (by decide) (fun c8 => ?_) (fun c8 => ?_)
    · replace h := if_n c8 h
      refine lv_bipush (v := (-2)) hx hb dX2_read_77 (by decide) ?_
      exact t_79  h (lv_sub hl [0] rfl) hP hD hS hCF (by omega)
    · replace h := if_p c8 h
      refine lv_bipush (v := (-3)) hx hb dX2_read_72 (by decide) ?_
      refine lv_goto (tgt := 79) hx hb dX2_read_74 (by decide) ?_
      exact t_79  h (lv_sub hl [0] rfl) hP hD hS hCF (by omega)
  have t_28 : ∀ {n : Nat}, ∀ {K : OT} {x1 : Int32} {x2 : Int32} {H : Heap} {locs : List Loc} {Z : Nat → Nat} {cells slots : Nat} {ls : Array Slot} (h : fX2_read_28 N  n K x1 x2 = some (rr, KK)) (hl : lv_has ls 4 [(0, .ref (ad 0 0)), (1, .int x1), (2, .int x2)]) (hP : va_P (dC, dI) vwCl (outW cI cB cP ad Z K ++ R) H) (hD : va_D (aB base) (outW cI cB cP ad Z K ++ R)) (hS : va_S (aB base) s.heap H locs) (hCF : OF Z K) (hcn : cells + (1) ≤ 1 ∧ slots + 256 * (1) ≤ 256 * (1)), W p l e (headSpec wsX2_read rmX2_read).room s m ([.ref (ad 0 0)] : List Value).toArray below meth c H locs cells slots (MQ below (cBe (dC, dI) vwCl base (some (.int rr)) (fun ws => ∃ Z : Nat → Nat, ws = (outW cI cB cP ad Z KK ++ R) ∧ OF Z KK)) ([.ref (ad 0 0)] : List Value).toArray s (1) (256 * (1)) (aB base)) (F0 m 28 ls []) := by
    intro  n
    induction n with
    | zero =>
      intro K x1 x2 H locs Z cells slots ls h hl hP hD hS hCF hcn
      unfold fX2_read_28 at h
      cases h
    | succ n ih =>
      intro K x1 x2 H locs Z cells slots ls h hl hP hD hS hCF hcn
      unfold fX2_read_28 at h
      refine lv_iload_n hx hb dX2_read_28 rfl (lv_at hl 2 rfl) ?_
      refine lv_iload_n hx hb dX2_read_29 rfl (lv_at hl 1 rfl) ?_
      refine lv_icmp_ge (tgt := 99) hx hb dX2_read_30 (by decide) (fun c9 => ?_) (fun c9 => ?_)
      · replace h := if_p c9 h
        exact t_99  h (lv_sub hl [0, 1] rfl) hP hD hS hCF (by omega)
      · replace h := if_n c9 h
        refine lv_aload_n hx hb dX2_read_33 rfl (lv_at hl 0 rfl) ?_
        refine va_get (D := (dC, dI)) (ci := 3) (v := .ref (ad 0 2)) (C := RX2) (T := TX2) (N := 14) hx hb hts hwX2 hown hK hP 0 rfl rfl 8 (by decide) hf_43 (fun _ h9 => h9) rfl dX2_read_34 ?_
        obtain ⟨v10, K11, hv10, h⟩ := bdE_some h
        obtain ⟨O12, eO12, h⟩ := inO_some h
        refine call_BVE (As := []) (rest := []) ⟨hx, hb, hml, hown, hts⟩ (tX1_takeCommand (l := l) (dC := dC) (dI := dI) (cB := cB) (ob := ad 0 2) (sa := ad 0 3) (sb := Z 0) (mm := Z 1) (base := base) (R := o_xC cI cB cP ad Z K R) hv10 hCF.1) (cwV 0 hts gX2_read_X1_takeCommand rfl rfl rfl (by decide +kernel) ⟨Nat.le_of_ble_eq_true rfl, Nat.le_of_ble_eq_true rfl⟩) hKB (P_perm (o_pC cI cB cP ad Z K R) hP) (D_perm (o_pC cI cB cP ad Z K R) hD) hS (Nat.le_trans hbs hS.1) (fun U hU hW => Env_step rfl rfl hE hS hU hW) 0 rfl rfl (by rfl) hl.1 rfl (Nat.le_of_ble_eq_true rfl) dX2_read_37 ⟨by show _ ≤ 1; omega, by show _ ≤ 256 * (1); omega⟩ (fun H locs ws9 hW9 hP hD _ hS => ?_)
        obtain ⟨rfl, hC9⟩ := hW9
        have hP := P_perm (o_bC cI cB cP ad Z K R K11) hP
        have hD := D_perm (o_bC cI cB cP ad Z K R K11) hD
        have hP : va_P (dC, dI) vwCl (outW cI cB cP ad Z O12 ++ R) H := by rw [eO12]; exact hP
        have hD : va_D (aB base) (outW cI cB cP ad Z O12 ++ R) := by rw [eO12]; exact hD
        have hCF : OF Z O12 := by rw [eO12]; exact OF_cmd hCF hC9
        refine lv_pop hx hb dX2_read_40 rfl ?_
        refine lv_aload_n hx hb dX2_read_41 rfl (lv_at hl 0 rfl) ?_
        refine lv_iload_n hx hb dX2_read_42 rfl (lv_at hl 2 rfl) ?_
        obtain ⟨O13, eO13, h⟩ := inO_some h
        refine va_put (D := (dC, dI)) (ci := 3) (v := .int x2) (ty := .int) (C := RX2) (T := TX2) (N := 14) hx hb hts hwX2 tyX2 tyX2_ok nmX2 hown hK hP hD hS 0 rfl rfl 10 (by decide) hf_54 (fun _ h9 => h9) rfl (by decide +kernel) rfl rfl (Nat.le_of_ble_eq_true rfl) dX2_read_43 (fun H locs hP hD hS => ?_)
        have hP : va_P (dC, dI) vwCl (outW cI cB cP ad Z O13 ++ R) H := by rw [eO13, out_scal]; exact hP
        have hD : va_D (aB base) (outW cI cB cP ad Z O13 ++ R) := by rw [eO13, out_scal]; exact hD
        have hCF : OF Z O13 := by rw [eO13]; exact OF_set hCF (by decide)
        refine lv_aload_n hx hb dX2_read_46 rfl (lv_at hl 0 rfl) ?_
        obtain ⟨v14, O15, hv14, h⟩ := bdO_some h
        refine call_BVE (As := []) (rest := []) ⟨hx, hb, hml, hown, hts⟩ (tX2_carryOutCommand (l := l) (dC := dC) (dI := dI) (cI := cI) (cB := cB) (cP := cP) (ad := ad) (base := base) (R := R) hv14 hCF) (cwV 0 hts gX2_read_X2_carryOutCommand rfl rfl rfl (by decide +kernel) ⟨Nat.le_of_ble_eq_true rfl, Nat.le_of_ble_eq_true rfl⟩) hK hP hD hS (Nat.le_trans hbs hS.1) (fun U hU hW => Env_step rfl rfl hE hS hU hW) 0 rfl rfl (by rfl) hl.1 rfl (Nat.le_of_ble_eq_true rfl) dX2_read_47 ⟨by show _ ≤ 1; omega, by show _ ≤ 256 * (1); omega⟩ (fun H locs ws9 hW9 hP hD _ hS => ?_)
        obtain ⟨Z, rfl, hCF⟩ := hW9
        refine lv_istore_n (lv' := [(3, .int v14), (0, .ref (ad 0 0)), (1, .int x1), (2, .int x2)]) hx hb dX2_read_50 rfl hl (by decide) rfl (fun ls hl => ?_)
        refine lv_iload_n hx hb dX2_read_51 rfl (lv_at hl 0 rfl) ?_
        refine lv_if_ge (tgt := 83) hx hb dX2_read_52 (by decide) (fun c16 => ?_) (fun c16 => ?_)
        · replace h := if_p c16 h
          refine lv_aload_n hx hb dX2_read_83 rfl (lv_at hl 1 rfl) ?_
          refine va_get (D := (dC, dI)) (ci := 3) (v := .ref (ad 0 2)) (C := RX2) (T := TX2) (N := 14) hx hb hts hwX2 hown hK hP 0 rfl rfl 8 (by decide) hf_43 (fun _ h9 => h9) rfl dX2_read_84 ?_
          refine lv_bipush (v := 59) hx hb dX2_read_87 (by decide) ?_
          obtain ⟨v17, K18, hv17, h⟩ := bdE_some h
          obtain ⟨O19, eO19, h⟩ := inO_some h
          refine call_BVE (As := [.int 59]) (rest := []) ⟨hx, hb, hml, hown, hts⟩ (tX1_takeSign (l := l) (dC := dC) (dI := dI) (cB := cB) (ob := ad 0 2) (sa := ad 0 3) (sb := Z 0) (mm := Z 1) (base := base) (R := o_xC cI cB cP ad Z O15 R) hv17 hCF.1) (cwV 1 hts gX2_read_X1_takeSign rfl rfl rfl (by decide +kernel) ⟨Nat.le_of_ble_eq_true rfl, Nat.le_of_ble_eq_true rfl⟩) hKB (P_perm (o_pC cI cB cP ad Z O15 R) hP) (D_perm (o_pC cI cB cP ad Z O15 R) hD) hS (Nat.le_trans hbs hS.1) (fun U hU hW => Env_step rfl rfl hE hS hU hW) 0 rfl rfl (by rfl) hl.1 rfl (Nat.le_of_ble_eq_true rfl) dX2_read_89 ⟨by show _ ≤ 1; omega, by show _ ≤ 256 * (1); omega⟩ (fun H locs ws9 hW9 hP hD _ hS => ?_)
          obtain ⟨rfl, hC9⟩ := hW9
          have hP := P_perm (o_bC cI cB cP ad Z O15 R K18) hP
          have hD := D_perm (o_bC cI cB cP ad Z O15 R K18) hD
          have hP : va_P (dC, dI) vwCl (outW cI cB cP ad Z O19 ++ R) H := by rw [eO19]; exact hP
          have hD : va_D (aB base) (outW cI cB cP ad Z O19 ++ R) := by rw [eO19]; exact hD
          have hCF : OF Z O19 := by rw [eO19]; exact OF_cmd hCF hC9
          refine lv_pop hx hb dX2_read_92 rfl ?_
          refine lv_iinc (v := x2 + 1) (lv' := [(2, .int (x2 + 1)), (3, .int v14), (0, .ref (ad 0 0)), (1, .int x1)]) hx hb dX2_read_93 hl (k := 3) rfl rfl (by decide) rfl (fun ls hl => ?_)
          refine lv_goto (tgt := 28) hx hb dX2_read_96 (by decide) ?_
          exact ih h (lv_sub hl [2, 3, 0] rfl) hP hD hS hCF (by omega)
        · replace h := if_n c16 h
          exact t_55  h (lv_sub hl [1, 0] rfl) hP hD hS hCF (by omega)
  have hS : va_S (aB base) s.heap s.heap [] := va_S.rf
  have hl := lv_entry ([.ref (ad 0 0)]) (n := 4) (Nat.le_of_ble_eq_true rfl)
  rw [lg_entry_eq]
  generalize (lg_sl ([.ref (ad 0 0)]) ++ List.replicate (4 - (lg_sl ([.ref (ad 0 0)])).length) Slot.unset).toArray = ls at hl ⊢
  have hl : lv_has ls 4 [(0, .ref (ad 0 0))] := hl
  have h := hf
  unfold mX2_read at h
  refine lv_aload_n hx hb dX2_read_0 rfl (lv_at hl 0 rfl) ?_
  refine va_get (D := (dC, dI)) (ci := 3) (v := .ref (ad 2 0)) (C := RX2) (T := TX2) (N := 14) hx hb hts hwX2 hown hK hP 0 rfl rfl 1 (by decide) hf_16 (fun _ h9 => h9) rfl dX2_read_1 ?_
  refine lv_aload_n hx hb dX2_read_4 rfl (lv_at hl 0 rfl) ?_
  refine va_get (D := (dC, dI)) (ci := 3) (v := .ref (ad 1 0)) (C := RX2) (T := TX2) (N := 14) hx hb hts hwX2 hown hK hP 0 rfl rfl 0 (by decide) hf_10 (fun _ h9 => h9) rfl dX2_read_5 ?_
  obtain ⟨O21, eO21, h⟩ := inO_some h
  refine call_copy (rest := []) (j := 1) (i := 0) (Rr := R) (O := K) ⟨hx, hb, hml, hown, hts⟩ (by decide) (by decide) (by decide) (tX0_copyFrom (l := l) (dC := dC) (dI := dI) (cI := cI) (ob := ad (1 + 1) 0) (ob2 := ad (1 + 0) 0) (q := fun f => ad (1 + 1) (1 + f)) (q2 := fun f => ad (1 + 0) (1 + f)) (K := K 1) (J := K 0)) (cwV 1 hts gX2_read_X0_copyFrom rfl rfl rfl (by decide +kernel) ⟨Nat.le_of_ble_eq_true rfl, Nat.le_of_ble_eq_true rfl⟩) hKI hP hD hS rfl hl.1 rfl (Nat.le_of_ble_eq_true rfl) dX2_read_8 ⟨by show _ ≤ 1; omega, by show _ ≤ 256 * (1); omega⟩ (fun H locs hP hD hS => ?_)
  have hP : va_P (dC, dI) vwCl (outW cI cB cP ad Z O21 ++ R) H := by rw [eO21]; exact hP
  have hD : va_D (aB base) (outW cI cB cP ad Z O21 ++ R) := by rw [eO21]; exact hD
  have hCF : OF Z O21 := by rw [eO21]; exact OF_set hCF (by decide)
  refine lv_aload_n hx hb dX2_read_11 rfl (lv_at hl 0 rfl) ?_
  refine va_get (D := (dC, dI)) (ci := 3) (v := .ref (ad 0 2)) (C := RX2) (T := TX2) (N := 14) hx hb hts hwX2 hown hK hP 0 rfl rfl 8 (by decide) hf_43 (fun _ h9 => h9) rfl dX2_read_12 ?_
  obtain ⟨v22, K23, hv22, h⟩ := bdE_some h
  obtain ⟨O24, eO24, h⟩ := inO_some h
  refine call_BVE (As := []) (rest := []) ⟨hx, hb, hml, hown, hts⟩ (tX1_check (l := l) (dC := dC) (dI := dI) (cB := cB) (ob := ad 0 2) (sa := ad 0 3) (sb := Z 0) (mm := Z 1) (base := base) (R := o_xC cI cB cP ad Z O21 R) hv22 hCF.1) (cwV 0 hts gX2_read_X1_check rfl rfl rfl (by decide +kernel) ⟨Nat.le_of_ble_eq_true rfl, Nat.le_of_ble_eq_true rfl⟩) hKB (P_perm (o_pC cI cB cP ad Z O21 R) hP) (D_perm (o_pC cI cB cP ad Z O21 R) hD) hS (Nat.le_trans hbs hS.1) (fun U hU hW => Env_step rfl rfl hE hS hU hW) 0 rfl rfl (by rfl) hl.1 rfl (Nat.le_of_ble_eq_true rfl) dX2_read_15 ⟨by show _ ≤ 1; omega, by show _ ≤ 256 * (1); omega⟩ (fun H locs ws9 hW9 hP hD _ hS => ?_)
  obtain ⟨rfl, hC9⟩ := hW9
  have hP := P_perm (o_bC cI cB cP ad Z O21 R K23) hP
  have hD := D_perm (o_bC cI cB cP ad Z O21 R K23) hD
  have hP : va_P (dC, dI) vwCl (outW cI cB cP ad Z O24 ++ R) H := by rw [eO24]; exact hP
  have hD : va_D (aB base) (outW cI cB cP ad Z O24 ++ R) := by rw [eO24]; exact hD
  have hCF : OF Z O24 := by rw [eO24]; exact OF_cmd hCF hC9
  refine lv_istore_n (lv' := [(1, .int v22), (0, .ref (ad 0 0))]) hx hb dX2_read_18 rfl hl (by decide) rfl (fun ls hl => ?_)
  refine lv_aload_n hx hb dX2_read_19 rfl (lv_at hl 1 rfl) ?_
  refine va_get (D := (dC, dI)) (ci := 3) (v := .ref (ad 0 2)) (C := RX2) (T := TX2) (N := 14) hx hb hts hwX2 hown hK hP 0 rfl rfl 8 (by decide) hf_43 (fun _ h9 => h9) rfl dX2_read_20 ?_
  obtain ⟨v25, K26, hv25, h⟩ := bdE_some h
  obtain ⟨O27, eO27, h⟩ := inO_some h
  refine call_BVE (As := []) (rest := []) ⟨hx, hb, hml, hown, hts⟩ (tX1_goToStart (l := l) (dC := dC) (dI := dI) (cB := cB) (ob := ad 0 2) (sa := ad 0 3) (sb := Z 0) (mm := Z 1) (base := base) (R := o_xC cI cB cP ad Z O24 R) hv25 hCF.1) (cwV 0 hts gX2_read_X1_goToStart rfl rfl rfl (by decide +kernel) ⟨Nat.le_of_ble_eq_true rfl, Nat.le_of_ble_eq_true rfl⟩) hKB (P_perm (o_pC cI cB cP ad Z O24 R) hP) (D_perm (o_pC cI cB cP ad Z O24 R) hD) hS (Nat.le_trans hbs hS.1) (fun U hU hW => Env_step rfl rfl hE hS hU hW) 0 rfl rfl (by rfl) hl.1 rfl (Nat.le_of_ble_eq_true rfl) dX2_read_23 ⟨by show _ ≤ 1; omega, by show _ ≤ 256 * (1); omega⟩ (fun H locs ws9 hW9 hP hD _ hS => ?_)
  obtain ⟨rfl, hC9⟩ := hW9
  have hP := P_perm (o_bC cI cB cP ad Z O24 R K26) hP
  have hD := D_perm (o_bC cI cB cP ad Z O24 R K26) hD
  have hP : va_P (dC, dI) vwCl (outW cI cB cP ad Z O27 ++ R) H := by rw [eO27]; exact hP
  have hD : va_D (aB base) (outW cI cB cP ad Z O27 ++ R) := by rw [eO27]; exact hD
  have hCF : OF Z O27 := by rw [eO27]; exact OF_cmd hCF hC9
  refine lv_iconst (v := 0) hx hb dX2_read_26 (by decide) ?_
  refine lv_istore_n (lv' := [(2, .int 0), (1, .int v22), (0, .ref (ad 0 0))]) hx hb dX2_read_27 rfl hl (by decide) rfl (fun ls hl => ?_)
  exact t_28  h (lv_sub hl [2, 1, 0] rfl) hP hD hS hCF (by omega)
def mX2_account (N : Nat) (K : OT) (p0 : Int32) : Option Int32 := (if p0 = 0 then bdP (mX2_greatestOf N 5 (K 0 0)) (fun v2 => some v2) else (if p0 = 1 then bdP (mX2_sumOf N 5 (K 0 2)) (fun v4 => some v4) else (if p0 = 2 then bdP (mX2_sumOf N 5 (K 0 3)) (fun v6 => some v6) else (if p0 = 3 then bdP (mX0_openRoads N (K 0) ) (fun v8 => some v8) else (if p0 = 4 then some (K 0 10 0) else (if p0 = 5 then some (K 0 10 1) else (if p0 = 6 then some (K 0 10 2) else (if p0 = 7 then some (K 0 10 3) else (if p0 = 8 then some (K 0 10 4) else (if p0 = 9 then bdP (mX2_greatestOf N 5 (K 0 6)) (fun v15 => some v15) else (if p0 = 10 then some (K 0 10 5) else (if p0 = 11 then bdP (s_length (K 13) ) (fun v18 => some v18) else (if p0 = 12 then some (K 12 0 2) else some ((-2)))))))))))))))
def rmX2_account : Room := { frames := 4, cells := 0, slots := 0, locals := 120 }
set_option maxHeartbeats 4000000 in
set_option maxRecDepth 100000 in
theorem tX2_account {l : Launch} {dC : Nat → ClassId} {dI : Nat → Nat → Nat} {cI cB cP : ClassId} {ad : Nat → Nat → Nat} {Z : Nat → Nat} {base : Nat} {R : va_W} {N : Nat} {K : OT} {p0 : Int32} {rr : Int32} (hf : mX2_account N K p0 = some rr) (hCF : OF Z K) : Met l yX2_account wsX2_account rmX2_account (cBp (dC, dI) vwCl [(cI, .int), (cB, .byte), (cP, .object RX0)] base (outW cI cB cP ad Z K ++ R) [.ref (ad 0 0), .int p0]) (cQp rr) 0 0 (fun _ => False) := by
  refine Met.ofW (cc := cX2_account) (maxL := 2) (ret := (some .int)) (by decide) rfl ?_
  intro p e s m args below meth c s₁ B hml hv
  obtain ⟨rfl, hP, hK, hD, hbs, hE⟩ := hv
  have hx := B.exec
  have hb := B.bytes
  have hr := B.returns
  have hts := atoms_spec (ws := wsX2_account) B.pre
  have hown : s.vm.findClass RX2 = some m.cls := findClass_of_methodNamed B.named
  have hlocks := B.notSynchronized
  have hf_10 := hts (.fieldLink RX2 10 "CaravanLogs" "now" "LCaravanLogs$Caravan;") (by decide +kernel)
  have hf_37 := hts (.fieldLink RX2 37 "CaravanLogs" "undoable" "I") (by decide +kernel)
  have hf_43 := hts (.fieldLink RX2 43 "CaravanLogs" "commands" "LCaravanLogs$Commands;") (by decide +kernel)
  have hf_98 := hts (.fieldLink RX2 98 "CaravanLogs$Caravan" "term" "[I") (by decide +kernel)
  have hf_105 := hts (.fieldLink RX2 105 "CaravanLogs$Caravan" "isCaptain" "[I") (by decide +kernel)
  have hf_108 := hts (.fieldLink RX2 108 "CaravanLogs$Caravan" "isAwake" "[I") (by decide +kernel)
  have hf_114 := hts (.fieldLink RX2 114 "CaravanLogs$Caravan" "settled" "[I") (by decide +kernel)
  have hf_190 := hts (.fieldLink RX2 190 "CaravanLogs$Commands" "text" "Ljava/lang/StringBuilder;") (by decide +kernel)
  have hf_218 := hts (.fieldLink RX2 218 "CaravanLogs$Caravan" "dusks" "I") (by decide +kernel)
  have hf_221 := hts (.fieldLink RX2 221 "CaravanLogs$Caravan" "captainsMade" "I") (by decide +kernel)
  have hf_224 := hts (.fieldLink RX2 224 "CaravanLogs$Caravan" "pagesWritten" "I") (by decide +kernel)
  have hf_227 := hts (.fieldLink RX2 227 "CaravanLogs$Caravan" "pagesTorn" "I") (by decide +kernel)
  have hf_230 := hts (.fieldLink RX2 230 "CaravanLogs$Caravan" "marches" "I") (by decide +kernel)
  have hf_233 := hts (.fieldLink RX2 233 "CaravanLogs$Caravan" "hours" "I") (by decide +kernel)
  have hEU : ∀ U : State, U.heap = s.heap → s.WarmedH U.vm → EnvB base U := fun U hU hW => Env_step rfl rfl hE va_S.rf hU hW
  have hwX0 : ∀ w ∈ u_ws RX0 TX0 16, w ∈ wsX2_account := by decide +kernel
  have hwX1 : ∀ w ∈ u_ws RX1 TX1 6, w ∈ wsX2_account := by decide +kernel
  have hwX2 : ∀ w ∈ u_ws RX2 TX2 14, w ∈ wsX2_account := by decide +kernel
  have hKI : va_K (dC, dI) vwCl [(cI, .int)] s := K_tys (fun x hx => by simp only [List.mem_cons, List.not_mem_nil, or_false] at hx ⊢; simp [hx]) hK
  have hKB : va_K (dC, dI) vwCl [(cB, .byte)] s := K_tys (fun x hx => by simp only [List.mem_cons, List.not_mem_nil, or_false] at hx ⊢; simp [hx]) hK
  have hl := lv_entry ([.ref (ad 0 0), .int p0]) (n := 2) (Nat.le_of_ble_eq_true rfl)
  rw [lg_entry_eq]
  generalize (lg_sl ([.ref (ad 0 0), .int p0]) ++ List.replicate (2 - (lg_sl ([.ref (ad 0 0), .int p0])).length) Slot.unset).toArray = ls at hl ⊢
  have hl : lv_has ls 2 [(0, .ref (ad 0 0)), (1, .int p0)] := hl
  have h := hf
  unfold mX2_account at h
  refine lv_iload_n hx hb dX2_account_0 rfl (lv_at hl 1 rfl) ?_
  by_cases c1 : p0 = 0
  · replace h := if_p c1 h
    refine lv_tableIn (tgt := 68) hx hb dX2_account_1 (by rw [c1]; decide) (by rw [c1]; decide) (by rw [c1]; rfl) (by decide) ?_
    refine lv_aload_n hx hb dX2_account_68 rfl (lv_at hl 0 rfl) ?_
    refine va_get (D := (dC, dI)) (ci := 3) (v := .ref (ad 1 0)) (C := RX2) (T := TX2) (N := 14) hx hb hts hwX2 hown hK hP 0 rfl rfl 0 (by decide) hf_10 (fun _ h9 => h9) rfl dX2_account_69 ?_
    refine va_get (D := (dC, dI)) (ci := 1) (v := .ref (ad 1 1)) (C := RX0) (T := TX0) (N := 16) hx hb hts hwX0 hown hK hP 7 rfl rfl 0 (by decide) hf_98 (fun _ h9 => h9) rfl dX2_account_72 ?_
    obtain ⟨v2, hv2, h⟩ := bdP_some h
    refine call_SPa (As := [.ref (ad 1 1)]) (rest := []) ⟨hx, hb, hml, hown, hts⟩ (tX2_greatestOf (l := l) (dC := dC) (dI := dI) (cI := cI) (ap0 := ad 1 1) hv2) (va_cwS 1 hts gX2_account_X2_greatestOf rfl rfl rfl (by decide +kernel) ⟨Nat.le_of_ble_eq_true rfl, Nat.le_of_ble_eq_true rfl⟩) hKI (hP.sub (ws' := [(ad 1 1, .inl (cI, 5, .inl (K 0 0)))]) [8] rfl) (by rfl) hl.1 rfl (Nat.le_of_ble_eq_true rfl) dX2_account_75 ⟨Nat.zero_le _, Nat.zero_le _⟩ ?_
    exact W.iret hx hb hr (fun t ht _ => retP h ht) (fun _ h9 => absurd h9 List.not_mem_nil) dX2_account_78
  · replace h := if_n c1 h
    by_cases c3 : p0 = 1
    · replace h := if_p c3 h
      refine lv_tableIn (tgt := 79) hx hb dX2_account_1 (by rw [c3]; decide) (by rw [c3]; decide) (by rw [c3]; rfl) (by decide) ?_
      refine lv_aload_n hx hb dX2_account_79 rfl (lv_at hl 0 rfl) ?_
      refine va_get (D := (dC, dI)) (ci := 3) (v := .ref (ad 1 0)) (C := RX2) (T := TX2) (N := 14) hx hb hts hwX2 hown hK hP 0 rfl rfl 0 (by decide) hf_10 (fun _ h9 => h9) rfl dX2_account_80 ?_
      refine va_get (D := (dC, dI)) (ci := 1) (v := .ref (ad 1 3)) (C := RX0) (T := TX0) (N := 16) hx hb hts hwX0 hown hK hP 7 rfl rfl 2 (by decide) hf_105 (fun _ h9 => h9) rfl dX2_account_83 ?_
      obtain ⟨v4, hv4, h⟩ := bdP_some h
      refine call_SPa (As := [.ref (ad 1 3)]) (rest := []) ⟨hx, hb, hml, hown, hts⟩ (tX2_sumOf (l := l) (dC := dC) (dI := dI) (cI := cI) (ap0 := ad 1 3) hv4) (va_cwS 1 hts gX2_account_X2_sumOf rfl rfl rfl (by decide +kernel) ⟨Nat.le_of_ble_eq_true rfl, Nat.le_of_ble_eq_true rfl⟩) hKI (hP.sub (ws' := [(ad 1 3, .inl (cI, 5, .inl (K 0 2)))]) [10] rfl) (by rfl) hl.1 rfl (Nat.le_of_ble_eq_true rfl) dX2_account_86 ⟨Nat.zero_le _, Nat.zero_le _⟩ ?_
      exact W.iret hx hb hr (fun t ht _ => retP h ht) (fun _ h9 => absurd h9 List.not_mem_nil) dX2_account_89
    · replace h := if_n c3 h
      by_cases c5 : p0 = 2
      · replace h := if_p c5 h
        refine lv_tableIn (tgt := 90) hx hb dX2_account_1 (by rw [c5]; decide) (by rw [c5]; decide) (by rw [c5]; rfl) (by decide) ?_
        refine lv_aload_n hx hb dX2_account_90 rfl (lv_at hl 0 rfl) ?_
        refine va_get (D := (dC, dI)) (ci := 3) (v := .ref (ad 1 0)) (C := RX2) (T := TX2) (N := 14) hx hb hts hwX2 hown hK hP 0 rfl rfl 0 (by decide) hf_10 (fun _ h9 => h9) rfl dX2_account_91 ?_
        refine va_get (D := (dC, dI)) (ci := 1) (v := .ref (ad 1 4)) (C := RX0) (T := TX0) (N := 16) hx hb hts hwX0 hown hK hP 7 rfl rfl 3 (by decide) hf_108 (fun _ h9 => h9) rfl dX2_account_94 ?_
        obtain ⟨v6, hv6, h⟩ := bdP_some h
        refine call_SPa (As := [.ref (ad 1 4)]) (rest := []) ⟨hx, hb, hml, hown, hts⟩ (tX2_sumOf (l := l) (dC := dC) (dI := dI) (cI := cI) (ap0 := ad 1 4) hv6) (va_cwS 1 hts gX2_account_X2_sumOf rfl rfl rfl (by decide +kernel) ⟨Nat.le_of_ble_eq_true rfl, Nat.le_of_ble_eq_true rfl⟩) hKI (hP.sub (ws' := [(ad 1 4, .inl (cI, 5, .inl (K 0 3)))]) [11] rfl) (by rfl) hl.1 rfl (Nat.le_of_ble_eq_true rfl) dX2_account_97 ⟨Nat.zero_le _, Nat.zero_le _⟩ ?_
        exact W.iret hx hb hr (fun t ht _ => retP h ht) (fun _ h9 => absurd h9 List.not_mem_nil) dX2_account_100
      · replace h := if_n c5 h
        by_cases c7 : p0 = 3
        · replace h := if_p c7 h
          refine lv_tableIn (tgt := 101) hx hb dX2_account_1 (by rw [c7]; decide) (by rw [c7]; decide) (by rw [c7]; rfl) (by decide) ?_
          refine lv_aload_n hx hb dX2_account_101 rfl (lv_at hl 0 rfl) ?_
          refine va_get (D := (dC, dI)) (ci := 3) (v := .ref (ad 1 0)) (C := RX2) (T := TX2) (N := 14) hx hb hts hwX2 hown hK hP 0 rfl rfl 0 (by decide) hf_10 (fun _ h9 => h9) rfl dX2_account_102 ?_
          obtain ⟨v8, hv8, h⟩ := bdP_some h
          refine call_VPn (As := []) (rest := []) ⟨hx, hb, hml, hown, hts⟩ (tX0_openRoads (l := l) (dC := dC) (dI := dI) (cI := cI) (ob := ad (1 + 0) 0) (q := fun f => ad (1 + 0) (1 + f)) hv8) (cwV 0 hts gX2_account_X0_openRoads rfl rfl rfl (by decide +kernel) ⟨Nat.le_of_ble_eq_true rfl, Nat.le_of_ble_eq_true rfl⟩) hKI (o_inP 0 (by decide) hP) (fun U hU hW => (Env_step rfl rfl hE va_S.rf hU hW).2.2.2.2.1) 0 rfl rfl (by rfl) hl.1 rfl (Nat.le_of_ble_eq_true rfl) dX2_account_105 ⟨Nat.zero_le _, Nat.zero_le _⟩ ?_
          exact W.iret hx hb hr (fun t ht _ => retP h ht) (fun _ h9 => absurd h9 List.not_mem_nil) dX2_account_108
        · replace h := if_n c7 h
          by_cases c9 : p0 = 4
          · replace h := if_p c9 h
            refine lv_tableIn (tgt := 109) hx hb dX2_account_1 (by rw [c9]; decide) (by rw [c9]; decide) (by rw [c9]; rfl) (by decide) ?_
            refine lv_aload_n hx hb dX2_account_109 rfl (lv_at hl 0 rfl) ?_
            refine va_get (D := (dC, dI)) (ci := 3) (v := .ref (ad 1 0)) (C := RX2) (T := TX2) (N := 14) hx hb hts hwX2 hown hK hP 0 rfl rfl 0 (by decide) hf_10 (fun _ h9 => h9) rfl dX2_account_110 ?_
            refine va_get (D := (dC, dI)) (ci := 1) (v := .int (K 0 10 0)) (C := RX0) (T := TX0) (N := 16) hx hb hts hwX0 hown hK hP 7 rfl rfl 10 (by decide) hf_218 (fun _ h9 => h9) rfl dX2_account_113 ?_
            exact W.iret hx hb hr (fun t ht _ => retP h ht) (fun _ h9 => absurd h9 List.not_mem_nil) dX2_account_116
          · replace h := if_n c9 h
            by_cases c10 : p0 = 5
            · replace h := if_p c10 h
              refine lv_tableIn (tgt := 117) hx hb dX2_account_1 (by rw [c10]; decide) (by rw [c10]; decide) (by rw [c10]; rfl) (by decide) ?_
              refine lv_aload_n hx hb dX2_account_117 rfl (lv_at hl 0 rfl) ?_
              refine va_get (D := (dC, dI)) (ci := 3) (v := .ref (ad 1 0)) (C := RX2) (T := TX2) (N := 14) hx hb hts hwX2 hown hK hP 0 rfl rfl 0 (by decide) hf_10 (fun _ h9 => h9) rfl dX2_account_118 ?_
              refine va_get (D := (dC, dI)) (ci := 1) (v := .int (K 0 10 1)) (C := RX0) (T := TX0) (N := 16) hx hb hts hwX0 hown hK hP 7 rfl rfl 11 (by decide) hf_221 (fun _ h9 => h9) rfl dX2_account_121 ?_
              exact W.iret hx hb hr (fun t ht _ => retP h ht) (fun _ h9 => absurd h9 List.not_mem_nil) dX2_account_124
            · replace h := if_n c10 h
              by_cases c11 : p0 = 6
              · replace h := if_p c11 h
                refine lv_tableIn (tgt := 125) hx hb dX2_account_1 (by rw [c11]; decide) (by rw [c11]; decide) (by rw [c11]; rfl) (by decide) ?_
                refine lv_aload_n hx hb dX2_account_125 rfl (lv_at hl 0 rfl) ?_
                refine va_get (D := (dC, dI)) (ci := 3) (v := .ref (ad 1 0)) (C := RX2) (T := TX2) (N := 14) hx hb hts hwX2 hown hK hP 0 rfl rfl 0 (by decide) hf_10 (fun _ h9 => h9) rfl dX2_account_126 ?_
                refine va_get (D := (dC, dI)) (ci := 1) (v := .int (K 0 10 2)) (C := RX0) (T := TX0) (N := 16) hx hb hts hwX0 hown hK hP 7 rfl rfl 12 (by decide) hf_224 (fun _ h9 => h9) rfl dX2_account_129 ?_
                exact W.iret hx hb hr (fun t ht _ => retP h ht) (fun _ h9 => absurd h9 List.not_mem_nil) dX2_account_132
              · replace h := if_n c11 h
                by_cases c12 : p0 = 7
                · replace h := if_p c12 h
                  refine lv_tableIn (tgt := 133) hx hb dX2_account_1 (by rw [c12]; decide) (by rw [c12]; decide) (by rw [c12]; rfl) (by decide) ?_
                  refine lv_aload_n hx hb dX2_account_133 rfl (lv_at hl 0 rfl) ?_
                  refine va_get (D := (dC, dI)) (ci := 3) (v := .ref (ad 1 0)) (C := RX2) (T := TX2) (N := 14) hx hb hts hwX2 hown hK hP 0 rfl rfl 0 (by decide) hf_10 (fun _ h9 => h9) rfl dX2_account_134 ?_
                  refine va_get (D := (dC, dI)) (ci := 1) (v := .int (K 0 10 3)) (C := RX0) (T := TX0) (N := 16) hx hb hts hwX0 hown hK hP 7 rfl rfl 13 (by decide) hf_227 (fun _ h9 => h9) rfl dX2_account_137 ?_
                  exact W.iret hx hb hr (fun t ht _ => retP h ht) (fun _ h9 => absurd h9 List.not_mem_nil) dX2_account_140
                · replace h := if_n c12 h
                  by_cases c13 : p0 = 8
                  · replace h := if_p c13 h
                    refine lv_tableIn (tgt := 141) hx hb dX2_account_1 (by rw [c13]; decide) (by rw [c13]; decide) (by rw [c13]; rfl) (by decide) ?_
                    refine lv_aload_n hx hb dX2_account_141 rfl (lv_at hl 0 rfl) ?_
                    refine va_get (D := (dC, dI)) (ci := 3) (v := .ref (ad 1 0)) (C := RX2) (T := TX2) (N := 14) hx hb hts hwX2 hown hK hP 0 rfl rfl 0 (by decide) hf_10 (fun _ h9 => h9) rfl dX2_account_142 ?_
                    refine va_get (D := (dC, dI)) (ci := 1) (v := .int (K 0 10 4)) (C := RX0) (T := TX0) (N := 16) hx hb hts hwX0 hown hK hP 7 rfl rfl 14 (by decide) hf_230 (fun _ h9 => h9) rfl dX2_account_145 ?_
                    exact W.iret hx hb hr (fun t ht _ => retP h ht) (fun _ h9 => absurd h9 List.not_mem_nil) dX2_account_148
                  · replace h := if_n c13 h
                    by_cases c14 : p0 = 9
                    · replace h := if_p c14 h
                      refine lv_tableIn (tgt := 149) hx hb dX2_account_1 (by rw [c14]; decide) (by rw [c14]; decide) (by rw [c14]; rfl) (by decide) ?_
                      refine lv_aload_n hx hb dX2_account_149 rfl (lv_at hl 0 rfl) ?_
                      refine va_get (D := (dC, dI)) (ci := 3) (v := .ref (ad 1 0)) (C := RX2) (T := TX2) (N := 14) hx hb hts hwX2 hown hK hP 0 rfl rfl 0 (by decide) hf_10 (fun _ h9 => h9) rfl dX2_account_150 ?_
                      refine va_get (D := (dC, dI)) (ci := 1) (v := .ref (ad 1 7)) (C := RX0) (T := TX0) (N := 16) hx hb hts hwX0 hown hK hP 7 rfl rfl 6 (by decide) hf_114 (fun _ h9 => h9) rfl dX2_account_153 ?_
                      obtain ⟨v15, hv15, h⟩ := bdP_some h
                      refine call_SPa (As := [.ref (ad 1 7)]) (rest := []) ⟨hx, hb, hml, hown, hts⟩ (tX2_greatestOf (l := l) (dC := dC) (dI := dI) (cI := cI) (ap0 := ad 1 7) hv15) (va_cwS 1 hts gX2_account_X2_greatestOf rfl rfl rfl (by decide +kernel) ⟨Nat.le_of_ble_eq_true rfl, Nat.le_of_ble_eq_true rfl⟩) hKI (hP.sub (ws' := [(ad 1 7, .inl (cI, 5, .inl (K 0 6)))]) [14] rfl) (by rfl) hl.1 rfl (Nat.le_of_ble_eq_true rfl) dX2_account_156 ⟨Nat.zero_le _, Nat.zero_le _⟩ ?_
                      exact W.iret hx hb hr (fun t ht _ => retP h ht) (fun _ h9 => absurd h9 List.not_mem_nil) dX2_account_159
                    · replace h := if_n c14 h
                      by_cases c16 : p0 = 10
                      · replace h := if_p c16 h
                        refine lv_tableIn (tgt := 160) hx hb dX2_account_1 (by rw [c16]; decide) (by rw [c16]; decide) (by rw [c16]; rfl) (by decide) ?_
                        refine lv_aload_n hx hb dX2_account_160 rfl (lv_at hl 0 rfl) ?_
                        refine va_get (D := (dC, dI)) (ci := 3) (v := .ref (ad 1 0)) (C := RX2) (T := TX2) (N := 14) hx hb hts hwX2 hown hK hP 0 rfl rfl 0 (by decide) hf_10 (fun _ h9 => h9) rfl dX2_account_161 ?_
                        refine va_get (D := (dC, dI)) (ci := 1) (v := .int (K 0 10 5)) (C := RX0) (T := TX0) (N := 16) hx hb hts hwX0 hown hK hP 7 rfl rfl 15 (by decide) hf_233 (fun _ h9 => h9) rfl dX2_account_164 ?_
                        exact W.iret hx hb hr (fun t ht _ => retP h ht) (fun _ h9 => absurd h9 List.not_mem_nil) dX2_account_167
                      · replace h := if_n c16 h
                        by_cases c17 : p0 = 11
                        · replace h := if_p c17 h
                          refine lv_tableIn (tgt := 168) hx hb dX2_account_1 (by rw [c17]; decide) (by rw [c17]; decide) (by rw [c17]; rfl) (by decide) ?_
                          refine lv_aload_n hx hb dX2_account_168 rfl (lv_at hl 0 rfl) ?_
                          refine va_get (D := (dC, dI)) (ci := 3) (v := .ref (ad 0 2)) (C := RX2) (T := TX2) (N := 14) hx hb hts hwX2 hown hK hP 0 rfl rfl 8 (by decide) hf_43 (fun _ h9 => h9) rfl dX2_account_169 ?_
                          refine va_get (D := (dC, dI)) (ci := 2) (v := .ref (ad 0 3)) (C := RX1) (T := TX1) (N := 6) hx hb hts hwX1 hown hK hP 2 rfl rfl 0 (by decide) hf_190 (fun _ h9 => h9) rfl dX2_account_172 ?_
                          obtain ⟨v18, hv18, h⟩ := bdP_some h
                          refine call_BVP (As := []) (rest := []) ⟨hx, hb, hml, hown, hts⟩ (tS_length (l := l) (dC := dC) (dI := dI) (cB := cB) (ob := ad 0 3) (sb := Z 0) (mm := Z 1) (base := base) (R := o_xT cI cB cP ad Z K R) hv18 hCF.1) (cwV 0 hts gX2_account_J4_length_8abf5 rfl rfl rfl (by decide +kernel) ⟨Nat.le_of_ble_eq_true rfl, Nat.le_of_ble_eq_true rfl⟩) hKB (P_perm (o_pT cI cB cP ad Z K R) hP) (D_perm (o_pT cI cB cP ad Z K R) hD) hbs hEU 0 rfl rfl (by rfl) hl.1 rfl (Nat.le_of_ble_eq_true rfl) dX2_account_175 ⟨Nat.zero_le _, Nat.zero_le _⟩ ?_
                          exact W.iret hx hb hr (fun t ht _ => retP h ht) (fun _ h9 => absurd h9 List.not_mem_nil) dX2_account_178
                        · replace h := if_n c17 h
                          by_cases c19 : p0 = 12
                          · replace h := if_p c19 h
                            refine lv_tableIn (tgt := 179) hx hb dX2_account_1 (by rw [c19]; decide) (by rw [c19]; decide) (by rw [c19]; rfl) (by decide) ?_
                            refine lv_aload_n hx hb dX2_account_179 rfl (lv_at hl 0 rfl) ?_
                            refine va_get (D := (dC, dI)) (ci := 3) (v := .int (K 12 0 2)) (C := RX2) (T := TX2) (N := 14) hx hb hts hwX2 hown hK hP 0 rfl rfl 7 (by decide) hf_37 (fun _ h9 => h9) rfl dX2_account_180 ?_
                            exact W.iret hx hb hr (fun t ht _ => retP h ht) (fun _ h9 => absurd h9 List.not_mem_nil) dX2_account_183
                          · replace h := if_n c19 h
                            -- default
                            have qc1 := i32_ne c1; rw [show (0 : Int32).toInt = 0 from by decide] at qc1
                            have qc3 := i32_ne c3; rw [show (1 : Int32).toInt = 1 from by decide] at qc3
                            have qc5 := i32_ne c5; rw [show (2 : Int32).toInt = 2 from by decide] at qc5
                            have qc7 := i32_ne c7; rw [show (3 : Int32).toInt = 3 from by decide] at qc7
                            have qc9 := i32_ne c9; rw [show (4 : Int32).toInt = 4 from by decide] at qc9
                            have qc10 := i32_ne c10; rw [show (5 : Int32).toInt = 5 from by decide] at qc10
                            have qc11 := i32_ne c11; rw [show (6 : Int32).toInt = 6 from by decide] at qc11
                            have qc12 := i32_ne c12; rw [show (7 : Int32).toInt = 7 from by decide] at qc12
                            have qc13 := i32_ne c13; rw [show (8 : Int32).toInt = 8 from by decide] at qc13
                            have qc14 := i32_ne c14; rw [show (9 : Int32).toInt = 9 from by decide] at qc14
                            have qc16 := i32_ne c16; rw [show (10 : Int32).toInt = 10 from by decide] at qc16
                            have qc17 := i32_ne c17; rw [show (11 : Int32).toInt = 11 from by decide] at qc17
                            have qc19 := i32_ne c19; rw [show (12 : Int32).toInt = 12 from by decide] at qc19
                            refine lv_tableOut (tgt := 184) hx hb dX2_account_1 (by omega) (by decide) ?_
                            refine lv_bipush (v := (-2)) hx hb dX2_account_184 (by decide) ?_
                            exact W.iret hx hb hr (fun t ht _ => retP h ht) (fun _ h9 => absurd h9 List.not_mem_nil) dX2_account_186
