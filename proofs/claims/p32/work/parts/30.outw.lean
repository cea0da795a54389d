def mX2_captain (N : Nat) (K : OT)  : Option Int32 := bdP (mX0_greatestCaptain N (K 0) ) (fun v1 => some v1)
def rmX2_captain : Room := { frames := 2, cells := 0, slots := 0, locals := 63 }
set_option maxHeartbeats 4000000 in
set_option maxRecDepth 100000 in
theorem tX2_captain {l : Launch} {dC : Nat → ClassId} {dI : Nat → Nat → Nat} {cI cB cP : ClassId} {ad : Nat → Nat → Nat} {Z : Nat → Nat} {base : Nat} {R : va_W} {N : Nat} {K : OT}  {rr : Int32} (hf : mX2_captain N K  = some rr) (hCF : OF Z K) : Met l yX2_captain wsX2_captain rmX2_captain (cBp (dC, dI) vwCl [(cI, .int), (cB, .byte), (cP, .object RX0)] base (outW cI cB cP ad Z K ++ R) [.ref (ad 0 0)]) (cQp rr) 0 0 (fun _ => False) := by
  refine Met.ofW (cc := cX2_captain) (maxL := 1) (ret := (some .int)) (by decide) rfl ?_
  intro p e s m args below meth c s₁ B hml hv
  obtain ⟨rfl, hP, hK, hD, hbs, hE⟩ := hv
  have hx := B.exec
  have hb := B.bytes
  have hr := B.returns
  have hts := atoms_spec (ws := wsX2_captain) B.pre
  have hown : s.vm.findClass RX2 = some m.cls := findClass_of_methodNamed B.named
  have hlocks := B.notSynchronized
  have hf_10 := hts (.fieldLink RX2 10 "CaravanLogs" "now" "LCaravanLogs$Caravan;") (by decide +kernel)
  have hEU : ∀ U : State, U.heap = s.heap → s.WarmedH U.vm → EnvB base U := fun U hU hW => Env_step rfl rfl hE va_S.rf hU hW
  have hwX2 : ∀ w ∈ u_ws RX2 TX2 14, w ∈ wsX2_captain := by decide +kernel
  have hKI : va_K (dC, dI) vwCl [(cI, .int)] s := K_tys (fun x hx => by simp only [List.mem_cons, List.not_mem_nil, or_false] at hx ⊢; simp [hx]) hK
  have hKB : va_K (dC, dI) vwCl [(cB, .byte)] s := K_tys (fun x hx => by simp only [List.mem_cons, List.not_mem_nil, or_false] at hx ⊢; simp [hx]) hK
  have hl := lv_entry ([.ref (ad 0 0)]) (n := 1) (Nat.le_of_ble_eq_true rfl)
  rw [lg_entry_eq]
  generalize (lg_sl ([.ref (ad 0 0)]) ++ List.replicate (1 - (lg_sl ([.ref (ad 0 0)])).length) Slot.unset).toArray = ls at hl ⊢
  have hl : lv_has ls 1 [(0, .ref (ad 0 0))] := hl
  have h := hf
  unfold mX2_captain at h
  refine lv_aload_n hx hb dX2_captain_0 rfl (lv_at hl 0 rfl) ?_
  refine va_get (D := (dC, dI)) (ci := 3) (v := .ref (ad 1 0)) (C := RX2) (T := TX2) (N := 14) hx hb hts hwX2 hown hK hP 0 rfl rfl 0 (by decide) hf_10 (fun _ h9 => h9) rfl dX2_captain_1 ?_
  obtain ⟨v1, hv1, h⟩ := bdP_some h
  refine call_VP (As := []) (rest := []) ⟨hx, hb, hml, hown, hts⟩ (tX0_greatestCaptain (l := l) (dC := dC) (dI := dI) (cI := cI) (ob := ad (1 + 0) 0) (q := fun f => ad (1 + 0) (1 + f)) hv1) (cwV 0 hts gX2_captain_X0_greatestCaptain rfl rfl rfl (by decide +kernel) ⟨Nat.le_of_ble_eq_true rfl, Nat.le_of_ble_eq_true rfl⟩) hKI (o_inP 0 (by decide) hP) 0 rfl rfl (by rfl) hl.1 rfl (Nat.le_of_ble_eq_true rfl) dX2_captain_4 ⟨Nat.zero_le _, Nat.zero_le _⟩ ?_
  exact W.iret hx hb hr (fun t ht _ => retP h ht) (fun _ h9 => absurd h9 List.not_mem_nil) dX2_captain_7
def mX2_holders (N : Nat) (K : OT) (p0 : Int32) (p1 : Int32) : Option Int32 := bdP (mX2_isNoPage N K p0 p1) (fun v1 => (if v1 = 0 then bdP (mX0_campsAlike N (K 0) p0 (p1 + 1)) (fun v3 => some v3) else some ((-1))))
def rmX2_holders : Room := { frames := 3, cells := 0, slots := 0, locals := 90 }
set_option maxHeartbeats 4000000 in
set_option maxRecDepth 100000 in
theorem tX2_holders {l : Launch} {dC : Nat → ClassId} {dI : Nat → Nat → Nat} {cI cB cP : ClassId} {ad : Nat → Nat → Nat} {Z : Nat → Nat} {base : Nat} {R : va_W} {N : Nat} {K : OT} {p0 : Int32} {p1 : Int32} {rr : Int32} (hf : mX2_holders N K p0 p1 = some rr) (hCF : OF Z K) : Met l yX2_holders wsX2_holders rmX2_holders (cBp (dC, dI) vwCl [(cI, .int), (cB, .byte), (cP, .object RX0)] base (outW cI cB cP ad Z K ++ R) [.ref (ad 0 0), .int p0, .int p1]) (cQp rr) 0 0 (fun _ => False) := by
  refine Met.ofW (cc := cX2_holders) (maxL := 3) (ret := (some .int)) (by decide) rfl ?_
  intro p e s m args below meth c s₁ B hml hv
  obtain ⟨rfl, hP, hK, hD, hbs, hE⟩ := hv
  have hx := B.exec
  have hb := B.bytes
  have hr := B.returns
  have hts := atoms_spec (ws := wsX2_holders) B.pre
  have hown : s.vm.findClass RX2 = some m.cls := findClass_of_methodNamed B.named
  have hlocks := B.notSynchronized
  have hf_10 := hts (.fieldLink RX2 10 "CaravanLogs" "now" "LCaravanLogs$Caravan;") (by decide +kernel)
  have hEU : ∀ U : State, U.heap = s.heap → s.WarmedH U.vm → EnvB base U := fun U hU hW => Env_step rfl rfl hE va_S.rf hU hW
  have hwX2 : ∀ w ∈ u_ws RX2 TX2 14, w ∈ wsX2_holders := by decide +kernel
  have hKI : va_K (dC, dI) vwCl [(cI, .int)] s := K_tys (fun x hx => by simp only [List.mem_cons, List.not_mem_nil, or_false] at hx ⊢; simp [hx]) hK
  have hKB : va_K (dC, dI) vwCl [(cB, .byte)] s := K_tys (fun x hx => by simp only [List.mem_cons, List.not_mem_nil, or_false] at hx ⊢; simp [hx]) hK
  have hl := lv_entry ([.ref (ad 0 0), .int p0, .int p1]) (n := 3) (Nat.le_of_ble_eq_true rfl)
  rw [lg_entry_eq]
  generalize (lg_sl ([.ref (ad 0 0), .int p0, .int p1]) ++ List.replicate (3 - (lg_sl ([.ref (ad 0 0), .int p0, .int p1])).length) Slot.unset).toArray = ls at hl ⊢
  have hl : lv_has ls 3 [(0, .ref (ad 0 0)), (1, .int p0), (2, .int p1)] := hl
  have h := hf
  unfold mX2_holders at h
  refine lv_aload_n hx hb dX2_holders_0 rfl (lv_at hl 0 rfl) ?_
  refine lv_iload_n hx hb dX2_holders_1 rfl (lv_at hl 1 rfl) ?_
  refine lv_iload_n hx hb dX2_holders_2 rfl (lv_at hl 2 rfl) ?_
  obtain ⟨v1, hv1, h⟩ := bdP_some h
  refine call_BVP (As := [.int p0, .int p1]) (rest := []) ⟨hx, hb, hml, hown, hts⟩ (tX2_isNoPage (l := l) (dC := dC) (dI := dI) (cI := cI) (cB := cB) (cP := cP) (ad := ad) (base := base) (R := R) hv1 hCF) (cwV 2 hts gX2_holders_X2_isNoPage rfl rfl rfl (by decide +kernel) ⟨Nat.le_of_ble_eq_true rfl, Nat.le_of_ble_eq_true rfl⟩) hK hP hD hbs hEU 0 rfl rfl (by rfl) hl.1 rfl (Nat.le_of_ble_eq_true rfl) dX2_holders_3 ⟨Nat.zero_le _, Nat.zero_le _⟩ ?_
  refine lv_if_eq (tgt := 11) hx hb dX2_holders_6 (by decide) (fun c2 => ?_) (fun c2 => ?_)
  · replace h := if_p c2 h
    refine lv_aload_n hx hb dX2_holders_11 rfl (lv_at hl 0 rfl) ?_
    refine va_get (D := (dC, dI)) (ci := 3) (v := .ref (ad 1 0)) (C := RX2) (T := TX2) (N := 14) hx hb hts hwX2 hown hK hP 0 rfl rfl 0 (by decide) hf_10 (fun _ h9 => h9) rfl dX2_holders_12 ?_
    refine lv_iload_n hx hb dX2_holders_15 rfl (lv_at hl 1 rfl) ?_
    refine lv_iload_n hx hb dX2_holders_16 rfl (lv_at hl 2 rfl) ?_
    refine lv_iconst (v := 1) hx hb dX2_holders_17 (by decide) ?_
    refine lv_iadd hx hb dX2_holders_18 ?_
    obtain ⟨v3, hv3, h⟩ := bdP_some h
    refine call_VP (As := [.int p0, .int (p1 + 1)]) (rest := []) ⟨hx, hb, hml, hown, hts⟩ (tX0_campsAlike (l := l) (dC := dC) (dI := dI) (cI := cI) (ob := ad (1 + 0) 0) (q := fun f => ad (1 + 0) (1 + f)) hv3) (cwV 2 hts gX2_holders_X0_campsAlike rfl rfl rfl (by decide +kernel) ⟨Nat.le_of_ble_eq_true rfl, Nat.le_of_ble_eq_true rfl⟩) hKI (o_inP 0 (by decide) hP) 0 rfl rfl (by rfl) hl.1 rfl (Nat.le_of_ble_eq_true rfl) dX2_holders_19 ⟨Nat.zero_le _, Nat.zero_le _⟩ ?_
    exact W.iret hx hb hr (fun t ht _ => retP h ht) (fun _ h9 => absurd h9 List.not_mem_nil) dX2_holders_22
  · replace h := if_n c2 h
    refine lv_iconst (v := (-1)) hx hb dX2_holders_9 (by decide) ?_
    exact W.iret hx hb hr (fun t ht _ => retP h ht) (fun _ h9 => absurd h9 List.not_mem_nil) dX2_holders_10
def mX2_letters (N : Nat) (K : OT) (p0 : Int32) : Option Int32 := bdP (mX2_isNoLetter N p0) (fun v1 => (if v1 = 0 then bdP (mX0_settledPagesWith N (K 0) p0) (fun v3 => some v3) else some ((-1))))
def rmX2_letters : Room := { frames := 2, cells := 0, slots := 0, locals := 64 }
set_option maxHeartbeats 4000000 in
set_option maxRecDepth 100000 in
theorem tX2_letters {l : Launch} {dC : Nat → ClassId} {dI : Nat → Nat → Nat} {cI cB cP : ClassId} {ad : Nat → Nat → Nat} {Z : Nat → Nat} {base : Nat} {R : va_W} {N : Nat} {K : OT} {p0 : Int32} {rr : Int32} (hf : mX2_letters N K p0 = some rr) (hCF : OF Z K) : Met l yX2_letters wsX2_letters rmX2_letters (cBp (dC, dI) vwCl [(cI, .int), (cB, .byte), (cP, .object RX0)] base (outW cI cB cP ad Z K ++ R) [.ref (ad 0 0), .int p0]) (cQp rr) 0 0 (fun _ => False) := by
  refine Met.ofW (cc := cX2_letters) (maxL := 2) (ret := (some .int)) (by decide) rfl ?_
  intro p e s m args below meth c s₁ B hml hv
  obtain ⟨rfl, hP, hK, hD, hbs, hE⟩ := hv
  have hx := B.exec
  have hb := B.bytes
  have hr := B.returns
  have hts := atoms_spec (ws := wsX2_letters) B.pre
  have hown : s.vm.findClass RX2 = some m.cls := findClass_of_methodNamed B.named
  have hlocks := B.notSynchronized
  have hf_10 := hts (.fieldLink RX2 10 "CaravanLogs" "now" "LCaravanLogs$Caravan;") (by decide +kernel)
  have hEU : ∀ U : State, U.heap = s.heap → s.WarmedH U.vm → EnvB base U := fun U hU hW => Env_step rfl rfl hE va_S.rf hU hW
  have hwX2 : ∀ w ∈ u_ws RX2 TX2 14, w ∈ wsX2_letters := by decide +kernel
  have hKI : va_K (dC, dI) vwCl [(cI, .int)] s := K_tys (fun x hx => by simp only [List.mem_cons, List.not_mem_nil, or_false] at hx ⊢; simp [hx]) hK
  have hKB : va_K (dC, dI) vwCl [(cB, .byte)] s := K_tys (fun x hx => by simp only [List.mem_cons, List.not_mem_nil, or_false] at hx ⊢; simp [hx]) hK
  have hl := lv_entry ([.ref (ad 0 0), .int p0]) (n := 2) (Nat.le_of_ble_eq_true rfl)
  rw [lg_entry_eq]
  generalize (lg_sl ([.ref (ad 0 0), .int p0]) ++ List.replicate (2 - (lg_sl ([.ref (ad 0 0), .int p0])).length) Slot.unset).toArray = ls at hl ⊢
  have hl : lv_has ls 2 [(0, .ref (ad 0 0)), (1, .int p0)] := hl
  have h := hf
  unfold mX2_letters at h
  refine lv_iload_n hx hb dX2_letters_0 rfl (lv_at hl 1 rfl) ?_
  obtain ⟨v1, hv1, h⟩ := bdP_some h
  refine call_SP (As := [.int p0]) (rest := []) ⟨hx, hb, hml, hown, hts⟩ (tX2_isNoLetter (l := l) hv1) (va_cwS 1 hts gX2_letters_X2_isNoLetter rfl rfl rfl (by decide +kernel) ⟨Nat.le_of_ble_eq_true rfl, Nat.le_of_ble_eq_true rfl⟩) (by rfl) hl.1 rfl (Nat.le_of_ble_eq_true rfl) dX2_letters_1 ⟨Nat.zero_le _, Nat.zero_le _⟩ ?_
  refine lv_if_eq (tgt := 9) hx hb dX2_letters_4 (by decide) (fun c2 => ?_) (fun c2 => ?_)
  · replace h := if_p c2 h
    refine lv_aload_n hx hb dX2_letters_9 rfl (lv_at hl 0 rfl) ?_
    refine va_get (D := (dC, dI)) (ci := 3) (v := .ref (ad 1 0)) (C := RX2) (T := TX2) (N := 14) hx hb hts hwX2 hown hK hP 0 rfl rfl 0 (by decide) hf_10 (fun _ h9 => h9) rfl dX2_letters_10 ?_
    refine lv_iload_n hx hb dX2_letters_13 rfl (lv_at hl 1 rfl) ?_
    obtain ⟨v3, hv3, h⟩ := bdP_some h
    refine call_VP (As := [.int p0]) (rest := []) ⟨hx, hb, hml, hown, hts⟩ (tX0_settledPagesWith (l := l) (dC := dC) (dI := dI) (cI := cI) (ob := ad (1 + 0) 0) (q := fun f => ad (1 + 0) (1 + f)) hv3) (cwV 1 hts gX2_letters_X0_settledPagesWith rfl rfl rfl (by decide +kernel) ⟨Nat.le_of_ble_eq_true rfl, Nat.le_of_ble_eq_true rfl⟩) hKI (o_inP 0 (by decide) hP) 0 rfl rfl (by rfl) hl.1 rfl (Nat.le_of_ble_eq_true rfl) dX2_letters_14 ⟨Nat.zero_le _, Nat.zero_le _⟩ ?_
    exact W.iret hx hb hr (fun t ht _ => retP h ht) (fun _ h9 => absurd h9 List.not_mem_nil) dX2_letters_17
  · replace h := if_n c2 h
    refine lv_iconst (v := (-1)) hx hb dX2_letters_7 (by decide) ?_
    exact W.iret hx hb hr (fun t ht _ => retP h ht) (fun _ h9 => absurd h9 List.not_mem_nil) dX2_letters_8
def fX2_would_34 (N : Nat)  (K : OT)  : Option (Int32 × OT) := some ((-4), K)
def mX2_would (N : Nat) (K : OT) (p0 : Int32) : Option (Int32 × OT) := bdP (mX2_isNoCamp N p0) (fun v1 => (if v1 = 0 then rdA (K 0 3) 5 p0 (fun v3 => (if v3 = 0 then fX2_would_34 N  K  else rdA (K 0 2) 5 p0 (fun v6 => (if v6 = 1 then fX2_would_34 N  K  else inO (oset K 2 (K 0)) (fun O10 => bdE (mX0_askForVotes N (O10 2) p0) (fun v11 K12 => inO (oset O10 2 K12) (fun O13 => some (v11, O13)))))))) else some ((-1), K)))
def rmX2_would : Room := { frames := 4, cells := 0, slots := 0, locals := 108 }
set_option maxHeartbeats 4000000 in
set_option maxRecDepth 100000 in
theorem tX2_would {l : Launch} {dC : Nat → ClassId} {dI : Nat → Nat → Nat} {cI cB cP : ClassId} {ad : Nat → Nat → Nat} {Z : Nat → Nat} {base : Nat} {R : va_W} {N : Nat} {K : OT} {p0 : Int32} {rr : Int32} {KK : OT} (hf : mX2_would N K p0 = some (rr, KK)) (hCF : OF Z K) : Met l yX2_would wsX2_would rmX2_would (cBp (dC, dI) vwCl [(cI, .int), (cB, .byte), (cP, .object RX0)] base (outW cI cB cP ad Z K ++ R) [.ref (ad 0 0), .int p0]) (cBe (dC, dI) vwCl base (some (.int rr)) (fun ws => ∃ Z : Nat → Nat, ws = (outW cI cB cP ad Z KK ++ R) ∧ OF Z KK)) 0 0 (aB base) := by
  refine Met.ofW (cc := cX2_would) (maxL := 2) (ret := (some .int)) (by decide) rfl ?_
  intro p e s m args below meth c s₁ B hml hv
  obtain ⟨rfl, hP, hK, hD, hbs, hE⟩ := hv
  have hx := B.exec
  have hb := B.bytes
  have hr := B.returns
  have hts := atoms_spec (ws := wsX2_would) B.pre
  have hown : s.vm.findClass RX2 = some m.cls := findClass_of_methodNamed B.named
  have hlocks := B.notSynchronized
  have hf_10 := hts (.fieldLink RX2 10 "CaravanLogs" "now" "LCaravanLogs$Caravan;") (by decide +kernel)
  have hf_19 := hts (.fieldLink RX2 19 "CaravanLogs" "trial" "LCaravanLogs$Caravan;") (by decide +kernel)
  have hf_105 := hts (.fieldLink RX2 105 "CaravanLogs$Caravan" "isCaptain" "[I") (by decide +kernel)
  have hf_108 := hts (.fieldLink RX2 108 "CaravanLogs$Caravan" "isAwake" "[I") (by decide +kernel)
  have hwX0 : ∀ w ∈ u_ws RX0 TX0 16, w ∈ wsX2_would := by decide +kernel
  have hwX2 : ∀ w ∈ u_ws RX2 TX2 14, w ∈ wsX2_would := by decide +kernel
  have hKI : va_K (dC, dI) vwCl [(cI, .int)] s := K_tys (fun x hx => by simp only [List.mem_cons, List.not_mem_nil, or_false] at hx ⊢; simp [hx]) hK
  have hKB : va_K (dC, dI) vwCl [(cB, .byte)] s := K_tys (fun x hx => by simp only [List.mem_cons, List.not_mem_nil, or_false] at hx ⊢; simp [hx]) hK
  have t_34 : ∀ {K : OT}  {H : Heap} {locs : List Loc} {Z : Nat → Nat} {ls : Array Slot} (h : fX2_would_34 N  K  = some (rr, KK)) (hl : lv_has ls 2 []) (hP : va_P (dC, dI) vwCl (outW cI cB cP ad Z K ++ R) H) (hD : va_D (aB base) (outW cI cB cP ad Z K ++ R)) (hS : va_S (aB base) s.heap H locs) (hCF : OF Z K), W p l e (headSpec wsX2_would rmX2_would).room s m ([.ref (ad 0 0), .int p0] : List Value).toArray below meth c H locs 0 0 (MQ below (cBe (dC, dI) vwCl base (some (.int rr)) (fun ws => ∃ Z : Nat → Nat, ws = (outW cI cB cP ad Z KK ++ R) ∧ OF Z KK)) ([.ref (ad 0 0), .int p0] : List Value).toArray s 0 0 (aB base)) (F0 m 34 ls []) := by
    intro  K H locs Z ls h hl hP hD hS hCF
    unfold fX2_would_34 at h
    refine lv_bipush (v := (-4)) hx hb dX2_would_34 (by decide) ?_
    exact (W.iret hx hb hr (fun t ht _ => retO h hCF hP hD hS ht) hS.2.2 dX2_would_36)
  have hS : va_S (aB base) s.heap s.heap [] := va_S.rf
  have hl := lv_entry ([.ref (ad 0 0), .int p0]) (n := 2) (Nat.le_of_ble_eq_true rfl)
  rw [lg_entry_eq]
  generalize (lg_sl ([.ref (ad 0 0), .int p0]) ++ List.replicate (2 - (lg_sl ([.ref (ad 0 0), .int p0])).length) Slot.unset).toArray = ls at hl ⊢
  have hl : lv_has ls 2 [(0, .ref (ad 0 0)), (1, .int p0)] := hl
  have h := hf
  unfold mX2_would at h
  refine lv_iload_n hx hb dX2_would_0 rfl (lv_at hl 1 rfl) ?_
  obtain ⟨v1, hv1, h⟩ := bdP_some h
  refine call_SP (As := [.int p0]) (rest := []) ⟨hx, hb, hml, hown, hts⟩ (tX2_isNoCamp (l := l) hv1) (va_cwS 1 hts gX2_would_X2_isNoCamp rfl rfl rfl (by decide +kernel) ⟨Nat.le_of_ble_eq_true rfl, Nat.le_of_ble_eq_true rfl⟩) (by rfl) hl.1 rfl (Nat.le_of_ble_eq_true rfl) dX2_would_1 ⟨Nat.zero_le _, Nat.zero_le _⟩ ?_
  refine lv_if_eq (tgt := 9) hx hb dX2_would_4 (by decide) (fun c2 => ?_) (fun c2 => ?_)
  · replace h := if_p c2 h
    refine lv_aload_n hx hb dX2_would_9 rfl (lv_at hl 0 rfl) ?_
    refine va_get (D := (dC, dI)) (ci := 3) (v := .ref (ad 1 0)) (C := RX2) (T := TX2) (N := 14) hx hb hts hwX2 hown hK hP 0 rfl rfl 0 (by decide) hf_10 (fun _ h9 => h9) rfl dX2_would_10 ?_
    refine va_get (D := (dC, dI)) (ci := 1) (v := .ref (ad 1 4)) (C := RX0) (T := TX0) (N := 16) hx hb hts hwX0 hown hK hP 7 rfl rfl 3 (by decide) hf_108 (fun _ h9 => h9) rfl dX2_would_13 ?_
    refine lv_iload_n hx hb dX2_would_16 rfl (lv_at hl 1 rfl) ?_
    obtain ⟨hi4, v3, ev3, h⟩ := rdA_some h
    refine k_iald hx hb hK hP 11 0 rfl rfl hi4 ev3 dX2_would_17 ?_
    refine lv_if_eq (tgt := 34) hx hb dX2_would_18 (by decide) (fun c5 => ?_) (fun c5 => ?_)
    · replace h := if_p c5 h
      exact t_34  h (lv_sub hl [] rfl) hP hD hS hCF
    · replace h := if_n c5 h
      refine lv_aload_n hx hb dX2_would_21 rfl (lv_at hl 0 rfl) ?_
      refine va_get (D := (dC, dI)) (ci := 3) (v := .ref (ad 1 0)) (C := RX2) (T := TX2) (N := 14) hx hb hts hwX2 hown hK hP 0 rfl rfl 0 (by decide) hf_10 (fun _ h9 => h9) rfl dX2_would_22 ?_
      refine va_get (D := (dC, dI)) (ci := 1) (v := .ref (ad 1 3)) (C := RX0) (T := TX0) (N := 16) hx hb hts hwX0 hown hK hP 7 rfl rfl 2 (by decide) hf_105 (fun _ h9 => h9) rfl dX2_would_25 ?_
      refine lv_iload_n hx hb dX2_would_28 rfl (lv_at hl 1 rfl) ?_
      obtain ⟨hi7, v6, ev6, h⟩ := rdA_some h
      refine k_iald hx hb hK hP 10 0 rfl rfl hi7 ev6 dX2_would_29 ?_
      refine lv_iconst (v := 1) hx hb dX2_would_30 (by decide) ?_
      refine lv_icmp_ne (tgt := 37) hx hb dX2_would_31 (by decide) (fun c8 => ?_) (fun c8 => ?_)
      · replace h := if_n c8 h
        refine lv_aload_n hx hb dX2_would_37 rfl (lv_at hl 0 rfl) ?_
        refine va_get (D := (dC, dI)) (ci := 3) (v := .ref (ad 3 0)) (C := RX2) (T := TX2) (N := 14) hx hb hts hwX2 hown hK hP 0 rfl rfl 2 (by decide) hf_19 (fun _ h9 => h9) rfl dX2_would_38 ?_
        refine lv_aload_n hx hb dX2_would_41 rfl (lv_at hl 0 rfl) ?_
        refine va_get (D := (dC, dI)) (ci := 3) (v := .ref (ad 1 0)) (C := RX2) (T := TX2) (N := 14) hx hb hts hwX2 hown hK hP 0 rfl rfl 0 (by decide) hf_10 (fun _ h9 => h9) rfl dX2_would_42 ?_
        obtain ⟨O10, eO10, h⟩ := inO_some h
        refine call_copy (rest := []) (j := 2) (i := 0) (Rr := R) (O := K) ⟨hx, hb, hml, hown, hts⟩ (by decide) (by decide) (by decide) (tX0_copyFrom (l := l) (dC := dC) (dI := dI) (cI := cI) (ob := ad (1 + 2) 0) (ob2 := ad (1 + 0) 0) (q := fun f => ad (1 + 2) (1 + f)) (q2 := fun f => ad (1 + 0) (1 + f)) (K := K 2) (J := K 0)) (cwV 1 hts gX2_would_X0_copyFrom rfl rfl rfl (by decide +kernel) ⟨Nat.le_of_ble_eq_true rfl, Nat.le_of_ble_eq_true rfl⟩) hKI hP hD hS rfl hl.1 rfl (Nat.le_of_ble_eq_true rfl) dX2_would_45 ⟨Nat.zero_le _, Nat.zero_le _⟩ (fun H locs hP hD hS => ?_)
        have hP : va_P (dC, dI) vwCl (outW cI cB cP ad Z O10 ++ R) H := by rw [eO10]; exact hP
        have hD : va_D (aB base) (outW cI cB cP ad Z O10 ++ R) := by rw [eO10]; exact hD
        have hCF : OF Z O10 := by rw [eO10]; exact OF_set hCF (by decide)
        refine lv_aload_n hx hb dX2_would_48 rfl (lv_at hl 0 rfl) ?_
        refine va_get (D := (dC, dI)) (ci := 3) (v := .ref (ad 3 0)) (C := RX2) (T := TX2) (N := 14) hx hb hts hwX2 hown hK hP 0 rfl rfl 2 (by decide) hf_19 (fun _ h9 => h9) rfl dX2_would_49 ?_
        refine lv_iload_n hx hb dX2_would_52 rfl (lv_at hl 1 rfl) ?_
        obtain ⟨v11, K12, hv11, h⟩ := bdE_some h
        obtain ⟨O13, eO13, h⟩ := inO_some h
        obtain ⟨o1, o2, o3⟩ := o_in 2 (by decide) hP hD
        refine call_VE (As := [.int p0]) (rest := []) ⟨hx, hb, hml, hown, hts⟩ (tX0_askForVotes (l := l) (dC := dC) (dI := dI) (cI := cI) (ob := ad (1 + 2) 0) (q := fun f => ad (1 + 2) (1 + f)) hv11) (cwV 1 hts gX2_would_X0_askForVotes rfl rfl rfl (by decide +kernel) ⟨Nat.le_of_ble_eq_true rfl, Nat.le_of_ble_eq_true rfl⟩) hKI o1 o2 hS o3 0 rfl rfl (by rfl) hl.1 rfl (Nat.le_of_ble_eq_true rfl) dX2_would_53 ⟨Nat.zero_le _, Nat.zero_le _⟩ (fun H locs hP9 hD9 hk9 hS => ?_)
        have hP8 := o_back 2 (by decide) hP hD hP9 hk9.2
        have hP := hP8.1
        have hD := hP8.2
        have hP : va_P (dC, dI) vwCl (outW cI cB cP ad Z O13 ++ R) H := by rw [eO13]; exact hP
        have hD : va_D (aB base) (outW cI cB cP ad Z O13 ++ R) := by rw [eO13]; exact hD
        have hCF : OF Z O13 := by rw [eO13]; exact OF_set hCF (by decide)
        exact (W.iret hx hb hr (fun t ht _ => retO h hCF hP hD hS ht) hS.2.2 dX2_would_56)
      · replace h := if_p c8 h
        exact t_34  h (lv_sub hl [] rfl) hP hD hS hCF
  · replace h := if_n c2 h
    refine lv_iconst (v := (-1)) hx hb dX2_would_7 (by decide) ?_
    exact (W.iret hx hb hr (fun t ht _ => retO h hCF hP hD hS ht) hS.2.2 dX2_would_8)
def fX2_captainIn_61 (N : Nat)  (K : OT) (y0 : Int32) : Option (Int32 × OT) := some (y0, K)
def fX2_captainIn_44 (N : Nat)  (K : OT)  : Option (Int32 × OT) := bdP (mX0_hasForemostCaptain N (K 2) ) (fun v1 => (if v1 = 0 then fX2_captainIn_61 N  K ((-4)) else fX2_captainIn_61 N  K 60))
def fX2_captainIn_13 (N : Nat)  : Nat → OT → Int32 → Option (Int32 × OT)
  | 0, _, _ => none
  | n + 1, K, x1 => (if 60 ≤ x1 then fX2_captainIn_44 N  K  else bdP (mX0_hasForemostCaptain N (K 2) ) (fun v4 => (if v4 = 0 then bdE (mX0_letHourGoBy N (K 2) ) (fun v6 K7 => inO (oset K 2 K7) (fun O8 => (fX2_captainIn_13 N  n) O8 (x1 + 1))) else some (x1, K))))
def mX2_captainIn (N : Nat) (K : OT)  : Option (Int32 × OT) := inO (oset K 2 (K 0)) (fun O10 => fX2_captainIn_13 N  N O10 0)
def rmX2_captainIn : Room := { frames := 5, cells := 0, slots := 0, locals := 134 }
set_option maxHeartbeats 4000000 in
set_option maxRecDepth 100000 in
theorem tX2_captainIn {l : Launch} {dC : Nat → ClassId} {dI : Nat → Nat → Nat} {cI cB cP : ClassId} {ad : Nat → Nat → Nat} {Z : Nat → Nat} {base : Nat} {R : va_W} {N : Nat} {K : OT}  {rr : Int32} {KK : OT} (hf : mX2_captainIn N K  = some (rr, KK)) (hCF : OF Z K) : Met l yX2_captainIn wsX2_captainIn rmX2_captainIn (cBp (dC, dI) vwCl [(cI, .int), (cB, .byte), (cP, .object RX0)] base (outW cI cB cP ad Z K ++ R) [.ref (ad 0 0)]) (cBe (dC, dI) vwCl base (some (.int rr)) (fun ws => ∃ Z : Nat → Nat, ws = (outW cI cB cP ad Z KK ++ R) ∧ OF Z KK)) 0 0 (aB base) := by
  refine Met.ofW (cc := cX2_captainIn) (maxL := 2) (ret := (some .int)) (by decide) rfl ?_
  intro p e s m args below meth c s₁ B hml hv
  obtain ⟨rfl, hP, hK, hD, hbs, hE⟩ := hv
  have hx := B.exec
  have hb := B.bytes
  have hr := B.returns
  have hts := atoms_spec (ws := wsX2_captainIn) B.pre
  have hown : s.vm.findClass RX2 = some m.cls := findClass_of_methodNamed B.named
  have hlocks := B.notSynchronized
  have hf_10 := hts (.fieldLink RX2 10 "CaravanLogs" "now" "LCaravanLogs$Caravan;") (by decide +kernel)
  have hf_19 := hts (.fieldLink RX2 19 "CaravanLogs" "trial" "LCaravanLogs$Caravan;") (by decide +kernel)
  have hwX2 : ∀ w ∈ u_ws RX2 TX2 14, w ∈ wsX2_captainIn := by decide +kernel
  have hKI : va_K (dC, dI) vwCl [(cI, .int)] s := K_tys (fun x hx => by simp only [List.mem_cons, List.not_mem_nil, or_false] at hx ⊢; simp [hx]) hK
  have hKB : va_K (dC, dI) vwCl [(cB, .byte)] s := K_tys (fun x hx => by simp only [List.mem_cons, List.not_mem_nil, or_false] at hx ⊢; simp [hx]) hK
  have t_61 : ∀ {K : OT} {y0 : Int32} {H : Heap} {locs : List Loc} {Z : Nat → Nat} {ls : Array Slot} (h : fX2_captainIn_61 N  K y0 = some (rr, KK)) (hl : lv_has ls 2 []) (hP : va_P (dC, dI) vwCl (outW cI cB cP ad Z K ++ R) H) (hD : va_D (aB base) (outW cI cB cP ad Z K ++ R)) (hS : va_S (aB base) s.heap H locs) (hCF : OF Z K), W p l e (headSpec wsX2_captainIn rmX2_captainIn).room s m ([.ref (ad 0 0)] : List Value).toArray below meth c H locs 0 0 (MQ below (cBe (dC, dI) vwCl base (some (.int rr)) (fun ws => ∃ Z : Nat → Nat, ws = (outW cI cB cP ad Z KK ++ R) ∧ OF Z KK)) ([.ref (ad 0 0)] : List Value).toArray s 0 0 (aB base)) (F0 m 61 ls [.int y0]) := by
    intro  K y0 H locs Z ls h hl hP hD hS hCF
    unfold fX2_captainIn_61 at h
    exact (W.iret hx hb hr (fun t ht _ => retO h hCF hP hD hS ht) hS.2.2 dX2_captainIn_61)
  have t_44 : ∀ {K : OT}  {H : Heap} {locs : List Loc} {Z : Nat → Nat} {ls : Array Slot} (h : fX2_captainIn_44 N  K  = some (rr, KK)) (hl : lv_has ls 2 [(0, .ref (ad 0 0))]) (hP : va_P (dC, dI) vwCl (outW cI cB cP ad Z K ++ R) H) (hD : va_D (aB base) (outW cI cB cP ad Z K ++ R)) (hS : va_S (aB base) s.heap H locs) (hCF : OF Z K), W p l e (headSpec wsX2_captainIn rmX2_captainIn).room s m ([.ref (ad 0 0)] : List Value).toArray below meth c H locs 0 0 (MQ below (cBe (dC, dI) vwCl base (some (.int rr)) (fun ws => ∃ Z : Nat → Nat, ws = (outW cI cB cP ad Z KK ++ R) ∧ OF Z KK)) ([.ref (ad 0 0)] : List Value).toArray s 0 0 (aB base)) (F0 m 44 ls []) := by
    intro  K H locs Z ls h hl hP hD hS hCF
    unfold fX2_captainIn_44 at h
    refine lv_aload_n hx hb dX2_captainIn_44 rfl (lv_at hl 0 rfl) ?_
    refine va_get (D := (dC, dI)) (ci := 3) (v := .ref (ad 3 0)) (C := RX2) (T := TX2) (N := 14) hx hb hts hwX2 hown hK hP 0 rfl rfl 2 (by decide) hf_19 (fun _ h9 => h9) rfl dX2_captainIn_45 ?_
    obtain ⟨v1, hv1, h⟩ := bdP_some h
    refine call_VP (As := []) (rest := []) ⟨hx, hb, hml, hown, hts⟩ (tX0_hasForemostCaptain (l := l) (dC := dC) (dI := dI) (cI := cI) (ob := ad (1 + 2) 0) (q := fun f => ad (1 + 2) (1 + f)) hv1) (cwV 0 hts gX2_captainIn_X0_hasForemostCaptain rfl rfl rfl (by decide +kernel) ⟨Nat.le_of_ble_eq_true rfl, Nat.le_of_ble_eq_true rfl⟩) hKI (o_inP 2 (by decide) hP) 0 rfl rfl (by rfl) hl.1 rfl (Nat.le_of_ble_eq_true rfl) dX2_captainIn_48 ⟨Nat.zero_le _, Nat.zero_le _⟩ ?_
    refine lv_if_eq (tgt := 59) hx hb dX2_captainIn_51 (by decide) (fun c2 => ?_) (fun c2 => ?_)
    · replace h := if_p c2 h
      refine lv_bipush (v := (-4)) hx hb dX2_captainIn_59 (by decide) ?_
      exact t_61  h (lv_sub hl [] rfl) hP hD hS hCF
    · replace h := if_n c2 h
      refine lv_bipush (v := 60) hx hb dX2_captainIn_54 (by decide) ?_
      refine lv_goto (tgt := 61) hx hb dX2_captainIn_56 (by decide) ?_
      exact t_61  h (lv_sub hl [] rfl) hP hD hS hCF
  have t_13 : ∀ {n : Nat}, ∀ {K : OT} {x1 : Int32} {H : Heap} {locs : List Loc} {Z : Nat → Nat} {ls : Array Slot} (h : fX2_captainIn_13 N  n K x1 = some (rr, KK)) (hl : lv_has ls 2 [(0, .ref (ad 0 0)), (1, .int x1)]) (hP : va_P (dC, dI) vwCl (outW cI cB cP ad Z K ++ R) H) (hD : va_D (aB base) (outW cI cB cP ad Z K ++ R)) (hS : va_S (aB base) s.heap H locs) (hCF : OF Z K), W p l e (headSpec wsX2_captainIn rmX2_captainIn).room s m ([.ref (ad 0 0)] : List Value).toArray below meth c H locs 0 0 (MQ below (cBe (dC, dI) vwCl base (some (.int rr)) (fun ws => ∃ Z : Nat → Nat, ws = (outW cI cB cP ad Z KK ++ R) ∧ OF Z KK)) ([.ref (ad 0 0)] : List Value).toArray s 0 0 (aB base)) (F0 m 13 ls []) := by
    intro  n
    induction n with
    | zero =>
      intro K x1 H locs Z ls h hl hP hD hS hCF
      unfold fX2_captainIn_13 at h
      cases h
    | succ n ih =>
      intro K x1 H locs Z ls h hl hP hD hS hCF
      unfold fX2_captainIn_13 at h
      refine lv_iload_n hx hb dX2_captainIn_13 rfl (lv_at hl 1 rfl) ?_
      refine lv_bipush (v := 60) hx hb dX2_captainIn_14 (by decide) ?_
      refine lv_icmp_ge (tgt := 44) hx hb dX2_captainIn_16 (by decide) (fun c3 => ?_) (fun c3 => ?_)
      · replace h := if_p c3 h
        exact t_44  h (lv_sub hl [0] rfl) hP hD hS hCF
      · replace h := if_n c3 h
        refine lv_aload_n hx hb dX2_captainIn_19 rfl (lv_at hl 0 rfl) ?_
        refine va_get (D := (dC, dI)) (ci := 3) (v := .ref (ad 3 0)) (C := RX2) (T := TX2) (N := 14) hx hb hts hwX2 hown hK hP 0 rfl rfl 2 (by decide) hf_19 (fun _ h9 => h9) rfl dX2_captainIn_20 ?_
        obtain ⟨v4, hv4, h⟩ := bdP_some h
        refine call_VP (As := []) (rest := []) ⟨hx, hb, hml, hown, hts⟩ (tX0_hasForemostCaptain (l := l) (dC := dC) (dI := dI) (cI := cI) (ob := ad (1 + 2) 0) (q := fun f => ad (1 + 2) (1 + f)) hv4) (cwV 0 hts gX2_captainIn_X0_hasForemostCaptain rfl rfl rfl (by decide +kernel) ⟨Nat.le_of_ble_eq_true rfl, Nat.le_of_ble_eq_true rfl⟩) hKI (o_inP 2 (by decide) hP) 0 rfl rfl (by rfl) hl.1 rfl (Nat.le_of_ble_eq_true rfl) dX2_captainIn_23 ⟨Nat.zero_le _, Nat.zero_le _⟩ ?_
        refine lv_if_eq (tgt := 31) hx hb dX2_captainIn_26 (by decide) (fun c5 => ?_) (fun c5 => ?_)
        · replace h := if_p c5 h
          refine lv_aload_n hx hb dX2_captainIn_31 rfl (lv_at hl 0 rfl) ?_
          refine va_get (D := (dC, dI)) (ci := 3) (v := .ref (ad 3 0)) (C := RX2) (T := TX2) (N := 14) hx hb hts hwX2 hown hK hP 0 rfl rfl 2 (by decide) hf_19 (fun _ h9 => h9) rfl dX2_captainIn_32 ?_
          obtain ⟨v6, K7, hv6, h⟩ := bdE_some h
          obtain ⟨O8, eO8, h⟩ := inO_some h
          obtain ⟨o1, o2, o3⟩ := o_in 2 (by decide) hP hD
          refine call_VEv (As := []) (rest := []) ⟨hx, hb, hml, hown, hts⟩ (tX0_letHourGoBy (l := l) (dC := dC) (dI := dI) (cI := cI) (ob := ad (1 + 2) 0) (q := fun f => ad (1 + 2) (1 + f)) hv6) (cwV 0 hts gX2_captainIn_X0_letHourGoBy rfl rfl rfl (by decide +kernel) ⟨Nat.le_of_ble_eq_true rfl, Nat.le_of_ble_eq_true rfl⟩) hKI o1 o2 hS o3 0 rfl rfl (by rfl) hl.1 rfl (Nat.le_of_ble_eq_true rfl) dX2_captainIn_35 ⟨Nat.zero_le _, Nat.zero_le _⟩ (fun H locs hP9 hD9 hk9 hS => ?_)
          have hP8 := o_back 2 (by decide) hP hD hP9 hk9.2
          have hP := hP8.1
          have hD := hP8.2
          have hP : va_P (dC, dI) vwCl (outW cI cB cP ad Z O8 ++ R) H := by rw [eO8]; exact hP
          have hD : va_D (aB base) (outW cI cB cP ad Z O8 ++ R) := by rw [eO8]; exact hD
          have hCF : OF Z O8 := by rw [eO8]; exact OF_set hCF (by decide)
          refine lv_iinc (v := x1 + 1) (lv' := [(1, .int (x1 + 1)), (0, .ref (ad 0 0))]) hx hb dX2_captainIn_38 hl (k := 1) rfl rfl (by decide) rfl (fun ls hl => ?_)
          refine lv_goto (tgt := 13) hx hb dX2_captainIn_41 (by decide) ?_
          exact ih h (lv_sub hl [1, 0] rfl) hP hD hS hCF
        · replace h := if_n c5 h
          refine lv_iload_n hx hb dX2_captainIn_29 rfl (lv_at hl 1 rfl) ?_
          exact (W.iret hx hb hr (fun t ht _ => retO h hCF hP hD hS ht) hS.2.2 dX2_captainIn_30)
  have hS : va_S (aB base) s.heap s.heap [] := va_S.rf
  have hl := lv_entry ([.ref (ad 0 0)]) (n := 2) (Nat.le_of_ble_eq_true rfl)
  rw [lg_entry_eq]
  generalize (lg_sl ([.ref (ad 0 0)]) ++ List.replicate (2 - (lg_sl ([.ref (ad 0 0)])).length) Slot.unset).toArray = ls at hl ⊢
  have hl : lv_has ls 2 [(0, .ref (ad 0 0))] := hl
  have h := hf
  unfold mX2_captainIn at h
  refine lv_aload_n hx hb dX2_captainIn_0 rfl (lv_at hl 0 rfl) ?_
  refine va_get (D := (dC, dI)) (ci := 3) (v := .ref (ad 3 0)) (C := RX2) (T := TX2) (N := 14) hx hb hts hwX2 hown hK hP 0 rfl rfl 2 (by decide) hf_19 (fun _ h9 => h9) rfl dX2_captainIn_1 ?_
  refine lv_aload_n hx hb dX2_captainIn_4 rfl (lv_at hl 0 rfl) ?_
  refine va_get (D := (dC, dI)) (ci := 3) (v := .ref (ad 1 0)) (C := RX2) (T := TX2) (N := 14) hx hb hts hwX2 hown hK hP 0 rfl rfl 0 (by decide) hf_10 (fun _ h9 => h9) rfl dX2_captainIn_5 ?_
  obtain ⟨O10, eO10, h⟩ := inO_some h
  refine call_copy (rest := []) (j := 2) (i := 0) (Rr := R) (O := K) ⟨hx, hb, hml, hown, hts⟩ (by decide) (by decide) (by decide) (tX0_copyFrom (l := l) (dC := dC) (dI := dI) (cI := cI) (ob := ad (1 + 2) 0) (ob2 := ad (1 + 0) 0) (q := fun f => ad (1 + 2) (1 + f)) (q2 := fun f => ad (1 + 0) (1 + f)) (K := K 2) (J := K 0)) (cwV 1 hts gX2_captainIn_X0_copyFrom rfl rfl rfl (by decide +kernel) ⟨Nat.le_of_ble_eq_true rfl, Nat.le_of_ble_eq_true rfl⟩) hKI hP hD hS rfl hl.1 rfl (Nat.le_of_ble_eq_true rfl) dX2_captainIn_8 ⟨Nat.zero_le _, Nat.zero_le _⟩ (fun H locs hP hD hS => ?_)
  have hP : va_P (dC, dI) vwCl (outW cI cB cP ad Z O10 ++ R) H := by rw [eO10]; exact hP
  have hD : va_D (aB base) (outW cI cB cP ad Z O10 ++ R) := by rw [eO10]; exact hD
  have hCF : OF Z O10 := by rw [eO10]; exact OF_set hCF (by decide)
  refine lv_iconst (v := 0) hx hb dX2_captainIn_11 (by decide) ?_
  refine lv_istore_n (lv' := [(1, .int 0), (0, .ref (ad 0 0))]) hx hb dX2_captainIn_12 rfl hl (by decide) rfl (fun ls hl => ?_)
  exact t_13  h (lv_sub hl [1, 0] rfl) hP hD hS hCF
def fX2_ranked_2 (N : Nat) (K : OT)  : Nat → Int32 → Int32 → Option Int32
  | 0, _, _ => none
  | n + 1, x1, x2 => (if 5 ≤ x2 then some ((-1)) else bdP (mX0_campsAheadOf N (K 0) x2) (fun v2 => (if v2 = x1 then some x2 else (fX2_ranked_2 N K  n) x1 (x2 + 1))))
def mX2_ranked (N : Nat) (K : OT) (p0 : Int32) : Option Int32 := fX2_ranked_2 N K  N p0 0
def rmX2_ranked : Room := { frames := 5, cells := 0, slots := 0, locals := 131 }
set_option maxHeartbeats 4000000 in
set_option maxRecDepth 100000 in
theorem tX2_ranked {l : Launch} {dC : Nat → ClassId} {dI : Nat → Nat → Nat} {cI cB cP : ClassId} {ad : Nat → Nat → Nat} {Z : Nat → Nat} {base : Nat} {R : va_W} {N : Nat} {K : OT} {p0 : Int32} {rr : Int32} (hf : mX2_ranked N K p0 = some rr) (hCF : OF Z K) : Met l yX2_ranked wsX2_ranked rmX2_ranked (cBp (dC, dI) vwCl [(cI, .int), (cB, .byte), (cP, .object RX0)] base (outW cI cB cP ad Z K ++ R) [.ref (ad 0 0), .int p0]) (cQp rr) 0 0 (fun _ => False) := by
  refine Met.ofW (cc := cX2_ranked) (maxL := 3) (ret := (some .int)) (by decide) rfl ?_
  intro p e s m args below meth c s₁ B hml hv
  obtain ⟨rfl, hP, hK, hD, hbs, hE⟩ := hv
  have hx := B.exec
  have hb := B.bytes
  have hr := B.returns
  have hts := atoms_spec (ws := wsX2_ranked) B.pre
  have hown : s.vm.findClass RX2 = some m.cls := findClass_of_methodNamed B.named
  have hlocks := B.notSynchronized
  have hf_10 := hts (.fieldLink RX2 10 "CaravanLogs" "now" "LCaravanLogs$Caravan;") (by decide +kernel)
  have hEU : ∀ U : State, U.heap = s.heap → s.WarmedH U.vm → EnvB base U := fun U hU hW => Env_step rfl rfl hE va_S.rf hU hW
  have hwX2 : ∀ w ∈ u_ws RX2 TX2 14, w ∈ wsX2_ranked := by decide +kernel
  have hKI : va_K (dC, dI) vwCl [(cI, .int)] s := K_tys (fun x hx => by simp only [List.mem_cons, List.not_mem_nil, or_false] at hx ⊢; simp [hx]) hK
  have hKB : va_K (dC, dI) vwCl [(cB, .byte)] s := K_tys (fun x hx => by simp only [List.mem_cons, List.not_mem_nil, or_false] at hx ⊢; simp [hx]) hK
  have t_2 : ∀ {n : Nat}, ∀ {x1 : Int32} {x2 : Int32} {ls : Array Slot} (h : fX2_ranked_2 N K  n x1 x2 = some rr) (hl : lv_has ls 3 [(0, .ref (ad 0 0)), (1, .int x1), (2, .int x2)]), W p l e (headSpec wsX2_ranked rmX2_ranked).room s m ([.ref (ad 0 0), .int p0] : List Value).toArray below meth c s.heap [] 0 0 (MQ below (cQp rr) ([.ref (ad 0 0), .int p0] : List Value).toArray s 0 0 (fun _ => False)) (F0 m 2 ls []) := by
    intro  n
    induction n with
    | zero =>
      intro x1 x2 ls h hl
      unfold fX2_ranked_2 at h
      cases h
    | succ n ih =>
      intro x1 x2 ls h hl
      unfold fX2_ranked_2 at h
      refine lv_iload_n hx hb dX2_ranked_2 rfl (lv_at hl 2 rfl) ?_
      refine lv_iconst (v := 5) hx hb dX2_ranked_3 (by decide) ?_
      refine lv_icmp_ge (tgt := 27) hx hb dX2_ranked_4 (by decide) (fun c1 => ?_) (fun c1 => ?_)
      · replace h := if_p c1 h
        refine lv_iconst (v := (-1)) hx hb dX2_ranked_27 (by decide) ?_
        exact W.iret hx hb hr (fun t ht _ => retP h ht) (fun _ h9 => absurd h9 List.not_mem_nil) dX2_ranked_28
      · replace h := if_n c1 h
        refine lv_aload_n hx hb dX2_ranked_7 rfl (lv_at hl 0 rfl) ?_
        refine va_get (D := (dC, dI)) (ci := 3) (v := .ref (ad 1 0)) (C := RX2) (T := TX2) (N := 14) hx hb hts hwX2 hown hK hP 0 rfl rfl 0 (by decide) hf_10 (fun _ h9 => h9) rfl dX2_ranked_8 ?_
        refine lv_iload_n hx hb dX2_ranked_11 rfl (lv_at hl 2 rfl) ?_
        obtain ⟨v2, hv2, h⟩ := bdP_some h
        refine call_VP (As := [.int x2]) (rest := []) ⟨hx, hb, hml, hown, hts⟩ (tX0_campsAheadOf (l := l) (dC := dC) (dI := dI) (cI := cI) (ob := ad (1 + 0) 0) (q := fun f => ad (1 + 0) (1 + f)) hv2) (cwV 1 hts gX2_ranked_X0_campsAheadOf rfl rfl rfl (by decide +kernel) ⟨Nat.le_of_ble_eq_true rfl, Nat.le_of_ble_eq_true rfl⟩) hKI (o_inP 0 (by decide) hP) 0 rfl rfl (by rfl) hl.1 rfl (Nat.le_of_ble_eq_true rfl) dX2_ranked_12 ⟨Nat.zero_le _, Nat.zero_le _⟩ ?_
        refine lv_iload_n hx hb dX2_ranked_15 rfl (lv_at hl 1 rfl) ?_
        refine lv_icmp_ne (tgt := 21) hx hb dX2_ranked_16 (by decide) (fun c3 => ?_) (fun c3 => ?_)
        · replace h := if_n c3 h
          refine lv_iinc (v := x2 + 1) (lv' := [(2, .int (x2 + 1)), (0, .ref (ad 0 0)), (1, .int x1)]) hx hb dX2_ranked_21 hl (k := 2) rfl rfl (by decide) rfl (fun ls hl => ?_)
          refine lv_goto (tgt := 2) hx hb dX2_ranked_24 (by decide) ?_
          exact ih h (lv_sub hl [1, 2, 0] rfl)
        · replace h := if_p c3 h
          refine lv_iload_n hx hb dX2_ranked_19 rfl (lv_at hl 2 rfl) ?_
          exact W.iret hx hb hr (fun t ht _ => retP h ht) (fun _ h9 => absurd h9 List.not_mem_nil) dX2_ranked_20
  have hl := lv_entry ([.ref (ad 0 0), .int p0]) (n := 3) (Nat.le_of_ble_eq_true rfl)
  rw [lg_entry_eq]
  generalize (lg_sl ([.ref (ad 0 0), .int p0]) ++ List.replicate (3 - (lg_sl ([.ref (ad 0 0), .int p0])).length) Slot.unset).toArray = ls at hl ⊢
  have hl : lv_has ls 3 [(0, .ref (ad 0 0)), (1, .int p0)] := hl
  have h := hf
  unfold mX2_ranked at h
  refine lv_iconst (v := 0) hx hb dX2_ranked_0 (by decide) ?_
  refine lv_istore_n (lv' := [(2, .int 0), (0, .ref (ad 0 0)), (1, .int p0)]) hx hb dX2_ranked_1 rfl hl (by decide) rfl (fun ls hl => ?_)
  exact t_2  h (lv_sub hl [1, 2, 0] rfl)
def mX2_carryOutCommand (N : Nat) (K : OT)  : Option (Int32 × OT) := (if (K 13 1 3) = 100 then bdO (mX2_bringDusk N K (K 13 1 4)) (fun v2 O3 => some (v2, O3)) else (if (K 13 1 3) = 107 then bdO (mX2_turnCamp N K (K 13 1 4) 1) (fun v5 O6 => some (v5, O6)) else (if (K 13 1 3) = 109 then bdO (mX2_sendCaptain N K (K 13 1 4)) (fun v8 O9 => some (v8, O9)) else (if (K 13 1 3) = 114 then bdO (mX2_turnRoad N K (K 13 1 4) (K 13 1 5) (K 13 1 6)) (fun v11 O12 => some (v11, O12)) else (if (K 13 1 3) = 119 then bdO (mX2_writePage N K (K 13 1 4) (K 13 1 5)) (fun v14 O15 => some (v14, O15)) else (if (K 13 1 3) = 122 then bdO (mX2_turnCamp N K (K 13 1 4) 0) (fun v17 O18 => some (v17, O18)) else bdO (mX2_passHours N K (K 13 1 4)) (fun v19 O20 => some (v19, O20))))))))
def rmX2_carryOutCommand : Room := { frames := 6, cells := 0, slots := 0, locals := 157 }
set_option maxHeartbeats 4000000 in
set_option maxRecDepth 100000 in
theorem tX2_carryOutCommand {l : Launch} {dC : Nat → ClassId} {dI : Nat → Nat → Nat} {cI cB cP : ClassId} {ad : Nat → Nat → Nat} {Z : Nat → Nat} {base : Nat} {R : va_W} {N : Nat} {K : OT}  {rr : Int32} {KK : OT} (hf : mX2_carryOutCommand N K  = some (rr, KK)) (hCF : OF Z K) : Met l yX2_carryOutCommand wsX2_carryOutCommand rmX2_carryOutCommand (cBp (dC, dI) vwCl [(cI, .int), (cB, .byte), (cP, .object RX0)] base (outW cI cB cP ad Z K ++ R) [.ref (ad 0 0)]) (cBe (dC, dI) vwCl base (some (.int rr)) (fun ws => ∃ Z : Nat → Nat, ws = (outW cI cB cP ad Z KK ++ R) ∧ OF Z KK)) 0 0 (aB base) := by
  refine Met.ofW (cc := cX2_carryOutCommand) (maxL := 1) (ret := (some .int)) (by decide) rfl ?_
  intro p e s m args below meth c s₁ B hml hv
  obtain ⟨rfl, hP, hK, hD, hbs, hE⟩ := hv
  have hx := B.exec
  have hb := B.bytes
  have hr := B.returns
  have hts := atoms_spec (ws := wsX2_carryOutCommand) B.pre
  have hown : s.vm.findClass RX2 = some m.cls := findClass_of_methodNamed B.named
  have hlocks := B.notSynchronized
  have hf_43 := hts (.fieldLink RX2 43 "CaravanLogs" "commands" "LCaravanLogs$Commands;") (by decide +kernel)
  have hf_258 := hts (.fieldLink RX2 258 "CaravanLogs$Commands" "kind" "I") (by decide +kernel)
  have hf_261 := hts (.fieldLink RX2 261 "CaravanLogs$Commands" "first" "I") (by decide +kernel)
  have hf_264 := hts (.fieldLink RX2 264 "CaravanLogs$Commands" "second" "I") (by decide +kernel)
  have hf_267 := hts (.fieldLink RX2 267 "CaravanLogs$Commands" "third" "I") (by decide +kernel)
  have hwX1 : ∀ w ∈ u_ws RX1 TX1 6, w ∈ wsX2_carryOutCommand := by decide +kernel
  have hwX2 : ∀ w ∈ u_ws RX2 TX2 14, w ∈ wsX2_carryOutCommand := by decide +kernel
  have hKI : va_K (dC, dI) vwCl [(cI, .int)] s := K_tys (fun x hx => by simp only [List.mem_cons, List.not_mem_nil, or_false] at hx ⊢; simp [hx]) hK
  have hKB : va_K (dC, dI) vwCl [(cB, .byte)] s := K_tys (fun x hx => by simp only [List.mem_cons, List.not_mem_nil, or_false] at hx ⊢; simp [hx]) hK
  have hS : va_S (aB base) s.heap s.heap [] := va_S.rf
  have hl := lv_entry ([.ref (ad 0 0)]) (n := 1) (Nat.le_of_ble_eq_true rfl)
  rw [lg_entry_eq]
  generalize (lg_sl ([.ref (ad 0 0)]) ++ List.replicate (1 - (lg_sl ([.ref (ad 0 0)])).length) Slot.unset).toArray = ls at hl ⊢
  have hl : lv_has ls 1 [(0, .ref (ad 0 0))] := hl
  have h := hf
  unfold mX2_carryOutCommand at h
  refine lv_aload_n hx hb dX2_carryOutCommand_0 rfl (lv_at hl 0 rfl) ?_
  refine va_get (D := (dC, dI)) (ci := 3) (v := .ref (ad 0 2)) (C := RX2) (T := TX2) (N := 14) hx hb hts hwX2 hown hK hP 0 rfl rfl 8 (by decide) hf_43 (fun _ h9 => h9) rfl dX2_carryOutCommand_1 ?_
  refine va_get (D := (dC, dI)) (ci := 2) (v := .int (K 13 1 3)) (C := RX1) (T := TX1) (N := 6) hx hb hts hwX1 hown hK hP 2 rfl rfl 2 (by decide) hf_258 (fun _ h9 => h9) rfl dX2_carryOutCommand_4 ?_
  by_cases c1 : (K 13 1 3) = 100
  · replace h := if_p c1 h
    refine lv_lookup (tgt := 64) hx hb dX2_carryOutCommand_7 (by decide) (by rw [c1] <;> rfl) (by decide) ?_
    refine lv_aload_n hx hb dX2_carryOutCommand_64 rfl (lv_at hl 0 rfl) ?_
    refine lv_aload_n hx hb dX2_carryOutCommand_65 rfl (lv_at hl 0 rfl) ?_
    refine va_get (D := (dC, dI)) (ci := 3) (v := .ref (ad 0 2)) (C := RX2) (T := TX2) (N := 14) hx hb hts hwX2 hown hK hP 0 rfl rfl 8 (by decide) hf_43 (fun _ h9 => h9) rfl dX2_carryOutCommand_66 ?_
    refine va_get (D := (dC, dI)) (ci := 2) (v := .int (K 13 1 4)) (C := RX1) (T := TX1) (N := 6) hx hb hts hwX1 hown hK hP 2 rfl rfl 3 (by decide) hf_261 (fun _ h9 => h9) rfl dX2_carryOutCommand_69 ?_
    obtain ⟨v2, O3, hv2, h⟩ := bdO_some h
    refine call_BVE (As := [.int (K 13 1 4)]) (rest := []) ⟨hx, hb, hml, hown, hts⟩ (tX2_bringDusk (l := l) (dC := dC) (dI := dI) (cI := cI) (cB := cB) (cP := cP) (ad := ad) (base := base) (R := R) hv2 hCF) (cwV 1 hts gX2_carryOutCommand_X2_bringDusk rfl rfl rfl (by decide +kernel) ⟨Nat.le_of_ble_eq_true rfl, Nat.le_of_ble_eq_true rfl⟩) hK hP hD hS (Nat.le_trans hbs hS.1) (fun U hU hW => Env_step rfl rfl hE hS hU hW) 0 rfl rfl (by rfl) hl.1 rfl (Nat.le_of_ble_eq_true rfl) dX2_carryOutCommand_72 ⟨Nat.zero_le _, Nat.zero_le _⟩ (fun H locs ws9 hW9 hP hD _ hS => ?_)
    obtain ⟨Z, rfl, hCF⟩ := hW9
    exact (W.iret hx hb hr (fun t ht _ => retO h hCF hP hD hS ht) hS.2.2 dX2_carryOutCommand_75)
  · replace h := if_n c1 h
    by_cases c4 : (K 13 1 3) = 107
    · replace h := if_p c4 h
      refine lv_lookup (tgt := 146) hx hb dX2_carryOutCommand_7 (by decide) (by rw [c4] <;> rfl) (by decide) ?_
      refine lv_aload_n hx hb dX2_carryOutCommand_146 rfl (lv_at hl 0 rfl) ?_
      refine lv_aload_n hx hb dX2_carryOutCommand_147 rfl (lv_at hl 0 rfl) ?_
      refine va_get (D := (dC, dI)) (ci := 3) (v := .ref (ad 0 2)) (C := RX2) (T := TX2) (N := 14) hx hb hts hwX2 hown hK hP 0 rfl rfl 8 (by decide) hf_43 (fun _ h9 => h9) rfl dX2_carryOutCommand_148 ?_
      refine va_get (D := (dC, dI)) (ci := 2) (v := .int (K 13 1 4)) (C := RX1) (T := TX1) (N := 6) hx hb hts hwX1 hown hK hP 2 rfl rfl 3 (by decide) hf_261 (fun _ h9 => h9) rfl dX2_carryOutCommand_151 ?_
      refine lv_iconst (v := 1) hx hb dX2_carryOutCommand_154 (by decide) ?_
      obtain ⟨v5, O6, hv5, h⟩ := bdO_some h
      refine call_BVE (As := [.int (K 13 1 4), .int 1]) (rest := []) ⟨hx, hb, hml, hown, hts⟩ (tX2_turnCamp (l := l) (dC := dC) (dI := dI) (cI := cI) (cB := cB) (cP := cP) (ad := ad) (base := base) (R := R) hv5 hCF) (cwV 2 hts gX2_carryOutCommand_X2_turnCamp rfl rfl rfl (by decide +kernel) ⟨Nat.le_of_ble_eq_true rfl, Nat.le_of_ble_eq_true rfl⟩) hK hP hD hS (Nat.le_trans hbs hS.1) (fun U hU hW => Env_step rfl rfl hE hS hU hW) 0 rfl rfl (by rfl) hl.1 rfl (Nat.le_of_ble_eq_true rfl) dX2_carryOutCommand_155 ⟨Nat.zero_le _, Nat.zero_le _⟩ (fun H locs ws9 hW9 hP hD _ hS => ?_)
      obtain ⟨Z, rfl, hCF⟩ := hW9
      exact (W.iret hx hb hr (fun t ht _ => retO h hCF hP hD hS ht) hS.2.2 dX2_carryOutCommand_158)
    · replace h := if_n c4 h
      by_cases c7 : (K 13 1 3) = 109
      · replace h := if_p c7 h
        refine lv_lookup (tgt := 95) hx hb dX2_carryOutCommand_7 (by decide) (by rw [c7] <;> rfl) (by decide) ?_
        refine lv_aload_n hx hb dX2_carryOutCommand_95 rfl (lv_at hl 0 rfl) ?_
        refine lv_aload_n hx hb dX2_carryOutCommand_96 rfl (lv_at hl 0 rfl) ?_
        refine va_get (D := (dC, dI)) (ci := 3) (v := .ref (ad 0 2)) (C := RX2) (T := TX2) (N := 14) hx hb hts hwX2 hown hK hP 0 rfl rfl 8 (by decide) hf_43 (fun _ h9 => h9) rfl dX2_carryOutCommand_97 ?_
        refine va_get (D := (dC, dI)) (ci := 2) (v := .int (K 13 1 4)) (C := RX1) (T := TX1) (N := 6) hx hb hts hwX1 hown hK hP 2 rfl rfl 3 (by decide) hf_261 (fun _ h9 => h9) rfl dX2_carryOutCommand_100 ?_
        obtain ⟨v8, O9, hv8, h⟩ := bdO_some h
        refine call_BVE (As := [.int (K 13 1 4)]) (rest := []) ⟨hx, hb, hml, hown, hts⟩ (tX2_sendCaptain (l := l) (dC := dC) (dI := dI) (cI := cI) (cB := cB) (cP := cP) (ad := ad) (base := base) (R := R) hv8 hCF) (cwV 1 hts gX2_carryOutCommand_X2_sendCaptain rfl rfl rfl (by decide +kernel) ⟨Nat.le_of_ble_eq_true rfl, Nat.le_of_ble_eq_true rfl⟩) hK hP hD hS (Nat.le_trans hbs hS.1) (fun U hU hW => Env_step rfl rfl hE hS hU hW) 0 rfl rfl (by rfl) hl.1 rfl (Nat.le_of_ble_eq_true rfl) dX2_carryOutCommand_103 ⟨Nat.zero_le _, Nat.zero_le _⟩ (fun H locs ws9 hW9 hP hD _ hS => ?_)
        obtain ⟨Z, rfl, hCF⟩ := hW9
        exact (W.iret hx hb hr (fun t ht _ => retO h hCF hP hD hS ht) hS.2.2 dX2_carryOutCommand_106)
      · replace h := if_n c7 h
        by_cases c10 : (K 13 1 3) = 114
        · replace h := if_p c10 h
          refine lv_lookup (tgt := 107) hx hb dX2_carryOutCommand_7 (by decide) (by rw [c10] <;> rfl) (by decide) ?_
          refine lv_aload_n hx hb dX2_carryOutCommand_107 rfl (lv_at hl 0 rfl) ?_
          refine lv_aload_n hx hb dX2_carryOutCommand_108 rfl (lv_at hl 0 rfl) ?_
          refine va_get (D := (dC, dI)) (ci := 3) (v := .ref (ad 0 2)) (C := RX2) (T := TX2) (N := 14) hx hb hts hwX2 hown hK hP 0 rfl rfl 8 (by decide) hf_43 (fun _ h9 => h9) rfl dX2_carryOutCommand_109 ?_
          refine va_get (D := (dC, dI)) (ci := 2) (v := .int (K 13 1 4)) (C := RX1) (T := TX1) (N := 6) hx hb hts hwX1 hown hK hP 2 rfl rfl 3 (by decide) hf_261 (fun _ h9 => h9) rfl dX2_carryOutCommand_112 ?_
          refine lv_aload_n hx hb dX2_carryOutCommand_115 rfl (lv_at hl 0 rfl) ?_
          refine va_get (D := (dC, dI)) (ci := 3) (v := .ref (ad 0 2)) (C := RX2) (T := TX2) (N := 14) hx hb hts hwX2 hown hK hP 0 rfl rfl 8 (by decide) hf_43 (fun _ h9 => h9) rfl dX2_carryOutCommand_116 ?_
          refine va_get (D := (dC, dI)) (ci := 2) (v := .int (K 13 1 5)) (C := RX1) (T := TX1) (N := 6) hx hb hts hwX1 hown hK hP 2 rfl rfl 4 (by decide) hf_264 (fun _ h9 => h9) rfl dX2_carryOutCommand_119 ?_
          refine lv_aload_n hx hb dX2_carryOutCommand_122 rfl (lv_at hl 0 rfl) ?_
          refine va_get (D := (dC, dI)) (ci := 3) (v := .ref (ad 0 2)) (C := RX2) (T := TX2) (N := 14) hx hb hts hwX2 hown hK hP 0 rfl rfl 8 (by decide) hf_43 (fun _ h9 => h9) rfl dX2_carryOutCommand_123 ?_
          refine va_get (D := (dC, dI)) (ci := 2) (v := .int (K 13 1 6)) (C := RX1) (T := TX1) (N := 6) hx hb hts hwX1 hown hK hP 2 rfl rfl 5 (by decide) hf_267 (fun _ h9 => h9) rfl dX2_carryOutCommand_126 ?_
          obtain ⟨v11, O12, hv11, h⟩ := bdO_some h
          refine call_BVE (As := [.int (K 13 1 4), .int (K 13 1 5), .int (K 13 1 6)]) (rest := []) ⟨hx, hb, hml, hown, hts⟩ (tX2_turnRoad (l := l) (dC := dC) (dI := dI) (cI := cI) (cB := cB) (cP := cP) (ad := ad) (base := base) (R := R) hv11 hCF) (cwV 3 hts gX2_carryOutCommand_X2_turnRoad rfl rfl rfl (by decide +kernel) ⟨Nat.le_of_ble_eq_true rfl, Nat.le_of_ble_eq_true rfl⟩) hK hP hD hS (Nat.le_trans hbs hS.1) (fun U hU hW => Env_step rfl rfl hE hS hU hW) 0 rfl rfl (by rfl) hl.1 rfl (Nat.le_of_ble_eq_true rfl) dX2_carryOutCommand_129 ⟨Nat.zero_le _, Nat.zero_le _⟩ (fun H locs ws9 hW9 hP hD _ hS => ?_)
          obtain ⟨Z, rfl, hCF⟩ := hW9
          exact (W.iret hx hb hr (fun t ht _ => retO h hCF hP hD hS ht) hS.2.2 dX2_carryOutCommand_132)
        · replace h := if_n c10 h
          by_cases c13 : (K 13 1 3) = 119
          · replace h := if_p c13 h
            refine lv_lookup (tgt := 76) hx hb dX2_carryOutCommand_7 (by decide) (by rw [c13] <;> rfl) (by decide) ?_
            refine lv_aload_n hx hb dX2_carryOutCommand_76 rfl (lv_at hl 0 rfl) ?_
            refine lv_aload_n hx hb dX2_carryOutCommand_77 rfl (lv_at hl 0 rfl) ?_
            refine va_get (D := (dC, dI)) (ci := 3) (v := .ref (ad 0 2)) (C := RX2) (T := TX2) (N := 14) hx hb hts hwX2 hown hK hP 0 rfl rfl 8 (by decide) hf_43 (fun _ h9 => h9) rfl dX2_carryOutCommand_78 ?_
            refine va_get (D := (dC, dI)) (ci := 2) (v := .int (K 13 1 4)) (C := RX1) (T := TX1) (N := 6) hx hb hts hwX1 hown hK hP 2 rfl rfl 3 (by decide) hf_261 (fun _ h9 => h9) rfl dX2_carryOutCommand_81 ?_
            refine lv_aload_n hx hb dX2_carryOutCommand_84 rfl (lv_at hl 0 rfl) ?_
            refine va_get (D := (dC, dI)) (ci := 3) (v := .ref (ad 0 2)) (C := RX2) (T := TX2) (N := 14) hx hb hts hwX2 hown hK hP 0 rfl rfl 8 (by decide) hf_43 (fun _ h9 => h9) rfl dX2_carryOutCommand_85 ?_
            refine va_get (D := (dC, dI)) (ci := 2) (v := .int (K 13 1 5)) (C := RX1) (T := TX1) (N := 6) hx hb hts hwX1 hown hK hP 2 rfl rfl 4 (by decide) hf_264 (fun _ h9 => h9) rfl dX2_carryOutCommand_88 ?_
            obtain ⟨v14, O15, hv14, h⟩ := bdO_some h
            refine call_BVE (As := [.int (K 13 1 4), .int (K 13 1 5)]) (rest := []) ⟨hx, hb, hml, hown, hts⟩ (tX2_writePage (l := l) (dC := dC) (dI := dI) (cI := cI) (cB := cB) (cP := cP) (ad := ad) (base := base) (R := R) hv14 hCF) (cwV 2 hts gX2_carryOutCommand_X2_writePage rfl rfl rfl (by decide +kernel) ⟨Nat.le_of_ble_eq_true rfl, Nat.le_of_ble_eq_true rfl⟩) hK hP hD hS (Nat.le_trans hbs hS.1) (fun U hU hW => Env_step rfl rfl hE hS hU hW) 0 rfl rfl (by rfl) hl.1 rfl (Nat.le_of_ble_eq_true rfl) dX2_carryOutCommand_91 ⟨Nat.zero_le _, Nat.zero_le _⟩ (fun H locs ws9 hW9 hP hD _ hS => ?_)
            obtain ⟨Z, rfl, hCF⟩ := hW9
            exact (W.iret hx hb hr (fun t ht _ => retO h hCF hP hD hS ht) hS.2.2 dX2_carryOutCommand_94)
          · replace h := if_n c13 h
            by_cases c16 : (K 13 1 3) = 122
            · replace h := if_p c16 h
              refine lv_lookup (tgt := 133) hx hb dX2_carryOutCommand_7 (by decide) (by rw [c16] <;> rfl) (by decide) ?_
              refine lv_aload_n hx hb dX2_carryOutCommand_133 rfl (lv_at hl 0 rfl) ?_
              refine lv_aload_n hx hb dX2_carryOutCommand_134 rfl (lv_at hl 0 rfl) ?_
              refine va_get (D := (dC, dI)) (ci := 3) (v := .ref (ad 0 2)) (C := RX2) (T := TX2) (N := 14) hx hb hts hwX2 hown hK hP 0 rfl rfl 8 (by decide) hf_43 (fun _ h9 => h9) rfl dX2_carryOutCommand_135 ?_
              refine va_get (D := (dC, dI)) (ci := 2) (v := .int (K 13 1 4)) (C := RX1) (T := TX1) (N := 6) hx hb hts hwX1 hown hK hP 2 rfl rfl 3 (by decide) hf_261 (fun _ h9 => h9) rfl dX2_carryOutCommand_138 ?_
              refine lv_iconst (v := 0) hx hb dX2_carryOutCommand_141 (by decide) ?_
              obtain ⟨v17, O18, hv17, h⟩ := bdO_some h
              refine call_BVE (As := [.int (K 13 1 4), .int 0]) (rest := []) ⟨hx, hb, hml, hown, hts⟩ (tX2_turnCamp (l := l) (dC := dC) (dI := dI) (cI := cI) (cB := cB) (cP := cP) (ad := ad) (base := base) (R := R) hv17 hCF) (cwV 2 hts gX2_carryOutCommand_X2_turnCamp rfl rfl rfl (by decide +kernel) ⟨Nat.le_of_ble_eq_true rfl, Nat.le_of_ble_eq_true rfl⟩) hK hP hD hS (Nat.le_trans hbs hS.1) (fun U hU hW => Env_step rfl rfl hE hS hU hW) 0 rfl rfl (by rfl) hl.1 rfl (Nat.le_of_ble_eq_true rfl) dX2_carryOutCommand_142 ⟨Nat.zero_le _, Nat.zero_le _⟩ (fun H locs ws9 hW9 hP hD _ hS => ?_)
              obtain ⟨Z, rfl, hCF⟩ := hW9
              exact (W.iret hx hb hr (fun t ht _ => retO h hCF hP hD hS ht) hS.2.2 dX2_carryOutCommand_145)
            · replace h := if_n c16 h
              have qc1 := i32_ne c1; rw [show (100 : Int32).toInt = 100 from by decide] at qc1
              have qc4 := i32_ne c4; rw [show (107 : Int32).toInt = 107 from by decide] at qc4
              have qc7 := i32_ne c7; rw [show (109 : Int32).toInt = 109 from by decide] at qc7
              have qc10 := i32_ne c10; rw [show (114 : Int32).toInt = 114 from by decide] at qc10
              have qc13 := i32_ne c13; rw [show (119 : Int32).toInt = 119 from by decide] at qc13
              have qc16 := i32_ne c16; rw [show (122 : Int32).toInt = 122 from by decide] at qc16
              refine lv_lookup (off := 152) (tgt := 159) hx hb dX2_carryOutCommand_7 (by decide) (by simp [Op.lookupswitch.offset, Ne.symm qc1, Ne.symm qc4, Ne.symm qc7, Ne.symm qc10, Ne.symm qc13, Ne.symm qc16]) (by decide) ?_
              refine lv_aload_n hx hb dX2_carryOutCommand_159 rfl (lv_at hl 0 rfl) ?_
              refine lv_aload_n hx hb dX2_carryOutCommand_160 rfl (lv_at hl 0 rfl) ?_
              refine va_get (D := (dC, dI)) (ci := 3) (v := .ref (ad 0 2)) (C := RX2) (T := TX2) (N := 14) hx hb hts hwX2 hown hK hP 0 rfl rfl 8 (by decide) hf_43 (fun _ h9 => h9) rfl dX2_carryOutCommand_161 ?_
              refine va_get (D := (dC, dI)) (ci := 2) (v := .int (K 13 1 4)) (C := RX1) (T := TX1) (N := 6) hx hb hts hwX1 hown hK hP 2 rfl rfl 3 (by decide) hf_261 (fun _ h9 => h9) rfl dX2_carryOutCommand_164 ?_
              obtain ⟨v19, O20, hv19, h⟩ := bdO_some h
              refine call_BVE (As := [.int (K 13 1 4)]) (rest := []) ⟨hx, hb, hml, hown, hts⟩ (tX2_passHours (l := l) (dC := dC) (dI := dI) (cI := cI) (cB := cB) (cP := cP) (ad := ad) (base := base) (R := R) hv19 hCF) (cwV 1 hts gX2_carryOutCommand_X2_passHours rfl rfl rfl (by decide +kernel) ⟨Nat.le_of_ble_eq_true rfl, Nat.le_of_ble_eq_true rfl⟩) hK hP hD hS (Nat.le_trans hbs hS.1) (fun U hU hW => Env_step rfl rfl hE hS hU hW) 0 rfl rfl (by rfl) hl.1 rfl (Nat.le_of_ble_eq_true rfl) dX2_carryOutCommand_167 ⟨Nat.zero_le _, Nat.zero_le _⟩ (fun H locs ws9 hW9 hP hD _ hS => ?_)
              obtain ⟨Z, rfl, hCF⟩ := hW9
              exact (W.iret hx hb hr (fun t ht _ => retO h hCF hP hD hS ht) hS.2.2 dX2_carryOutCommand_170)
def mX2_refusal (N : Nat) (K : OT) (p0 : Int32) : Option Int32 := (if p0 = 0 then some (K 12 0 4) else (if p0 = 1 then some (K 12 0 5) else (if p0 = 2 then some (K 12 0 6) else some ((-2)))))
def rmX2_refusal : Room := { frames := 1, cells := 0, slots := 0, locals := 40 }
set_option maxHeartbeats 4000000 in
set_option maxRecDepth 100000 in
theorem tX2_refusal {l : Launch} {dC : Nat → ClassId} {dI : Nat → Nat → Nat} {cI cB cP : ClassId} {ad : Nat → Nat → Nat} {Z : Nat → Nat} {base : Nat} {R : va_W} {N : Nat} {K : OT} {p0 : Int32} {rr : Int32} (hf : mX2_refusal N K p0 = some rr) (hCF : OF Z K) : Met l yX2_refusal wsX2_refusal rmX2_refusal (cBp (dC, dI) vwCl [(cI, .int), (cB, .byte), (cP, .object RX0)] base (outW cI cB cP ad Z K ++ R) [.ref (ad 0 0), .int p0]) (cQp rr) 0 0 (fun _ => False) := by
  refine Met.ofW (cc := cX2_refusal) (maxL := 2) (ret := (some .int)) (by decide) rfl ?_
  intro p e s m args below meth c s₁ B hml hv
  obtain ⟨rfl, hP, hK, hD, hbs, hE⟩ := hv
  have hx := B.exec
  have hb := B.bytes
  have hr := B.returns
  have hts := atoms_spec (ws := wsX2_refusal) B.pre
  have hown : s.vm.findClass RX2 = some m.cls := findClass_of_methodNamed B.named
  have hlocks := B.notSynchronized
  have hf_57 := hts (.fieldLink RX2 57 "CaravanLogs" "refusedReason" "I") (by decide +kernel)
  have hf_60 := hts (.fieldLink RX2 60 "CaravanLogs" "refusedDetail" "I") (by decide +kernel)
  have hf_63 := hts (.fieldLink RX2 63 "CaravanLogs" "refusedCommand" "I") (by decide +kernel)
  have hEU : ∀ U : State, U.heap = s.heap → s.WarmedH U.vm → EnvB base U := fun U hU hW => Env_step rfl rfl hE va_S.rf hU hW
  have hwX2 : ∀ w ∈ u_ws RX2 TX2 14, w ∈ wsX2_refusal := by decide +kernel
  have hKI : va_K (dC, dI) vwCl [(cI, .int)] s := K_tys (fun x hx => by simp only [List.mem_cons, List.not_mem_nil, or_false] at hx ⊢; simp [hx]) hK
  have hKB : va_K (dC, dI) vwCl [(cB, .byte)] s := K_tys (fun x hx => by simp only [List.mem_cons, List.not_mem_nil, or_false] at hx ⊢; simp [hx]) hK
  have hl := lv_entry ([.ref (ad 0 0), .int p0]) (n := 2) (Nat.le_of_ble_eq_true rfl)
  rw [lg_entry_eq]
  generalize (lg_sl ([.ref (ad 0 0), .int p0]) ++ List.replicate (2 - (lg_sl ([.ref (ad 0 0), .int p0])).length) Slot.unset).toArray = ls at hl ⊢
  have hl : lv_has ls 2 [(0, .ref (ad 0 0)), (1, .int p0)] := hl
  have h := hf
  unfold mX2_refusal at h
  refine lv_iload_n hx hb dX2_refusal_0 rfl (lv_at hl 1 rfl) ?_
  by_cases c1 : p0 = 0
  · replace h := if_p c1 h
    refine lv_tableIn (tgt := 28) hx hb dX2_refusal_1 (by rw [c1]; decide) (by rw [c1]; decide) (by rw [c1]; rfl) (by decide) ?_
    refine lv_aload_n hx hb dX2_refusal_28 rfl (lv_at hl 0 rfl) ?_
    refine va_get (D := (dC, dI)) (ci := 3) (v := .int (K 12 0 4)) (C := RX2) (T := TX2) (N := 14) hx hb hts hwX2 hown hK hP 0 rfl rfl 11 (by decide) hf_57 (fun _ h9 => h9) rfl dX2_refusal_29 ?_
    exact W.iret hx hb hr (fun t ht _ => retP h ht) (fun _ h9 => absurd h9 List.not_mem_nil) dX2_refusal_32
  · replace h := if_n c1 h
    by_cases c2 : p0 = 1
    · replace h := if_p c2 h
      refine lv_tableIn (tgt := 33) hx hb dX2_refusal_1 (by rw [c2]; decide) (by rw [c2]; decide) (by rw [c2]; rfl) (by decide) ?_
      refine lv_aload_n hx hb dX2_refusal_33 rfl (lv_at hl 0 rfl) ?_
      refine va_get (D := (dC, dI)) (ci := 3) (v := .int (K 12 0 5)) (C := RX2) (T := TX2) (N := 14) hx hb hts hwX2 hown hK hP 0 rfl rfl 12 (by decide) hf_60 (fun _ h9 => h9) rfl dX2_refusal_34 ?_
      exact W.iret hx hb hr (fun t ht _ => retP h ht) (fun _ h9 => absurd h9 List.not_mem_nil) dX2_refusal_37
    · replace h := if_n c2 h
      by_cases c3 : p0 = 2
      · replace h := if_p c3 h
        refine lv_tableIn (tgt := 38) hx hb dX2_refusal_1 (by rw [c3]; decide) (by rw [c3]; decide) (by rw [c3]; rfl) (by decide) ?_
        refine lv_aload_n hx hb dX2_refusal_38 rfl (lv_at hl 0 rfl) ?_
        refine va_get (D := (dC, dI)) (ci := 3) (v := .int (K 12 0 6)) (C := RX2) (T := TX2) (N := 14) hx hb hts hwX2 hown hK hP 0 rfl rfl 13 (by decide) hf_63 (fun _ h9 => h9) rfl dX2_refusal_39 ?_
        exact W.iret hx hb hr (fun t ht _ => retP h ht) (fun _ h9 => absurd h9 List.not_mem_nil) dX2_refusal_42
      · replace h := if_n c3 h
        -- default
        have qc1 := i32_ne c1; rw [show (0 : Int32).toInt = 0 from by decide] at qc1
        have qc2 := i32_ne c2; rw [show (1 : Int32).toInt = 1 from by decide] at qc2
        have qc3 := i32_ne c3; rw [show (2 : Int32).toInt = 2 from by decide] at qc3
        refine lv_tableOut (tgt := 43) hx hb dX2_refusal_1 (by omega) (by decide) ?_
        refine lv_bipush (v := (-2)) hx hb dX2_refusal_43 (by decide) ?_
        exact W.iret hx hb hr (fun t ht _ => retP h ht) (fun _ h9 => absurd h9 List.not_mem_nil) dX2_refusal_45
def fX2_isWell_15 (N : Nat) (K : OT)  (y0 : Int32) : Option Int32 := some y0
def mX2_isWell (N : Nat) (K : OT)  : Option Int32 := bdP (mX0_isAllWell N (K 0) ) (fun v1 => (if v1 = 0 then fX2_isWell_15 N K  0 else fX2_isWell_15 N K  1))
def rmX2_isWell : Room := { frames := 5, cells := 0, slots := 0, locals := 132 }
set_option maxHeartbeats 4000000 in
set_option maxRecDepth 100000 in
theorem tX2_isWell {l : Launch} {dC : Nat → ClassId} {dI : Nat → Nat → Nat} {cI cB cP : ClassId} {ad : Nat → Nat → Nat} {Z : Nat → Nat} {base : Nat} {R : va_W} {N : Nat} {K : OT}  {rr : Int32} (hf : mX2_isWell N K  = some rr) (hCF : OF Z K) : Met l yX2_isWell wsX2_isWell rmX2_isWell (cBp (dC, dI) vwCl [(cI, .int), (cB, .byte), (cP, .object RX0)] base (outW cI cB cP ad Z K ++ R) [.ref (ad 0 0)]) (cQp rr) 0 0 (fun _ => False) := by
  refine Met.ofW (cc := cX2_isWell) (maxL := 1) (ret := (some .int)) (by decide) rfl ?_
  intro p e s m args below meth c s₁ B hml hv
  obtain ⟨rfl, hP, hK, hD, hbs, hE⟩ := hv
  have hx := B.exec
  have hb := B.bytes
  have hr := B.returns
  have hts := atoms_spec (ws := wsX2_isWell) B.pre
  have hown : s.vm.findClass RX2 = some m.cls := findClass_of_methodNamed B.named
  have hlocks := B.notSynchronized
  have hf_10 := hts (.fieldLink RX2 10 "CaravanLogs" "now" "LCaravanLogs$Caravan;") (by decide +kernel)
  have hEU : ∀ U : State, U.heap = s.heap → s.WarmedH U.vm → EnvB base U := fun U hU hW => Env_step rfl rfl hE va_S.rf hU hW
  have hwX2 : ∀ w ∈ u_ws RX2 TX2 14, w ∈ wsX2_isWell := by decide +kernel
  have hKI : va_K (dC, dI) vwCl [(cI, .int)] s := K_tys (fun x hx => by simp only [List.mem_cons, List.not_mem_nil, or_false] at hx ⊢; simp [hx]) hK
  have hKB : va_K (dC, dI) vwCl [(cB, .byte)] s := K_tys (fun x hx => by simp only [List.mem_cons, List.not_mem_nil, or_false] at hx ⊢; simp [hx]) hK
  have t_15 : ∀ {y0 : Int32} {ls : Array Slot} (h : fX2_isWell_15 N K  y0 = some rr) (hl : lv_has ls 1 []), W p l e (headSpec wsX2_isWell rmX2_isWell).room s m ([.ref (ad 0 0)] : List Value).toArray below meth c s.heap [] 0 0 (MQ below (cQp rr) ([.ref (ad 0 0)] : List Value).toArray s 0 0 (fun _ => False)) (F0 m 15 ls [.int y0]) := by
    intro  y0 ls h hl
    unfold fX2_isWell_15 at h
    exact W.iret hx hb hr (fun t ht _ => retP h ht) (fun _ h9 => absurd h9 List.not_mem_nil) dX2_isWell_15
  have hl := lv_entry ([.ref (ad 0 0)]) (n := 1) (Nat.le_of_ble_eq_true rfl)
  rw [lg_entry_eq]
  generalize (lg_sl ([.ref (ad 0 0)]) ++ List.replicate (1 - (lg_sl ([.ref (ad 0 0)])).length) Slot.unset).toArray = ls at hl ⊢
  have hl : lv_has ls 1 [(0, .ref (ad 0 0))] := hl
  have h := hf
  unfold mX2_isWell at h
  refine lv_aload_n hx hb dX2_isWell_0 rfl (lv_at hl 0 rfl) ?_
  refine va_get (D := (dC, dI)) (ci := 3) (v := .ref (ad 1 0)) (C := RX2) (T := TX2) (N := 14) hx hb hts hwX2 hown hK hP 0 rfl rfl 0 (by decide) hf_10 (fun _ h9 => h9) rfl dX2_isWell_1 ?_
  obtain ⟨v1, hv1, h⟩ := bdP_some h
  refine call_VP (As := []) (rest := []) ⟨hx, hb, hml, hown, hts⟩ (tX0_isAllWell (l := l) (dC := dC) (dI := dI) (cI := cI) (ob := ad (1 + 0) 0) (q := fun f => ad (1 + 0) (1 + f)) hv1) (cwV 0 hts gX2_isWell_X0_isAllWell rfl rfl rfl (by decide +kernel) ⟨Nat.le_of_ble_eq_true rfl, Nat.le_of_ble_eq_true rfl⟩) hKI (o_inP 0 (by decide) hP) 0 rfl rfl (by rfl) hl.1 rfl (Nat.le_of_ble_eq_true rfl) dX2_isWell_4 ⟨Nat.zero_le _, Nat.zero_le _⟩ ?_
  refine lv_if_eq (tgt := 14) hx hb dX2_isWell_7 (by decide) (fun c2 => ?_) (fun c2 => ?_)
  · replace h := if_p c2 h
    refine lv_iconst (v := 0) hx hb dX2_isWell_14 (by decide) ?_
    exact t_15  h (lv_sub hl [] rfl)
  · replace h := if_n c2 h
    refine lv_iconst (v := 1) hx hb dX2_isWell_10 (by decide) ?_
    refine lv_goto (tgt := 15) hx hb dX2_isWell_11 (by decide) ?_
    exact t_15  h (lv_sub hl [] rfl)
def fX2_undo_21 (N : Nat)  (K : OT)  : Option (Int32 × OT) := some ((-4), K)
def mX2_undo (N : Nat) (K : OT)  : Option (Int32 × OT) := rdP (K 12 0 1) (fun n1 => (if (K 12 0 2) = 0 then fX2_undo_21 N  K  else inO (oset K 0 (K (4 + n1))) (fun O4 => inO (oset O4 12 (fset (O4 12) 0 1 ((((O4 12 0 1) + 8) - 1) - (((O4 12 0 1) + 8) - 1) / 8 * 8))) (fun O5 => inO (oset O5 12 (fset (O5 12) 0 2 ((O5 12 0 2) - 1))) (fun O6 => some (O6 12 0 2, O6))))))
def rmX2_undo : Room := { frames := 2, cells := 0, slots := 0, locals := 81 }
set_option maxHeartbeats 4000000 in
set_option maxRecDepth 100000 in
theorem tX2_undo {l : Launch} {dC : Nat → ClassId} {dI : Nat → Nat → Nat} {cI cB cP : ClassId} {ad : Nat → Nat → Nat} {Z : Nat → Nat} {base : Nat} {R : va_W} {N : Nat} {K : OT}  {rr : Int32} {KK : OT} (hf : mX2_undo N K  = some (rr, KK)) (hCF : OF Z K) : Met l yX2_undo wsX2_undo rmX2_undo (cBp (dC, dI) vwCl [(cI, .int), (cB, .byte), (cP, .object RX0)] base (outW cI cB cP ad Z K ++ R) [.ref (ad 0 0)]) (cBe (dC, dI) vwCl base (some (.int rr)) (fun ws => ∃ Z : Nat → Nat, ws = (outW cI cB cP ad Z KK ++ R) ∧ OF Z KK)) 0 0 (aB base) := by
  refine Met.ofW (cc := cX2_undo) (maxL := 2) (ret := (some .int)) (by decide) rfl ?_
  intro p e s m args below meth c s₁ B hml hv
  obtain ⟨rfl, hP, hK, hD, hbs, hE⟩ := hv
  have hx := B.exec
  have hb := B.bytes
  have hr := B.returns
  have hts := atoms_spec (ws := wsX2_undo) B.pre
  have hown : s.vm.findClass RX2 = some m.cls := findClass_of_methodNamed B.named
  have hlocks := B.notSynchronized
  have hf_10 := hts (.fieldLink RX2 10 "CaravanLogs" "now" "LCaravanLogs$Caravan;") (by decide +kernel)
  have hf_29 := hts (.fieldLink RX2 29 "CaravanLogs" "past" "[LCaravanLogs$Caravan;") (by decide +kernel)
  have hf_33 := hts (.fieldLink RX2 33 "CaravanLogs" "latest" "I") (by decide +kernel)
  have hf_37 := hts (.fieldLink RX2 37 "CaravanLogs" "undoable" "I") (by decide +kernel)
  have hwX2 : ∀ w ∈ u_ws RX2 TX2 14, w ∈ wsX2_undo := by decide +kernel
  have hKI : va_K (dC, dI) vwCl [(cI, .int)] s := K_tys (fun x hx => by simp only [List.mem_cons, List.not_mem_nil, or_false] at hx ⊢; simp [hx]) hK
  have hKB : va_K (dC, dI) vwCl [(cB, .byte)] s := K_tys (fun x hx => by simp only [List.mem_cons, List.not_mem_nil, or_false] at hx ⊢; simp [hx]) hK
  have t_21 : ∀ {K : OT}  {H : Heap} {locs : List Loc} {Z : Nat → Nat} {ls : Array Slot} (h : fX2_undo_21 N  K  = some (rr, KK)) (hl : lv_has ls 2 []) (hP : va_P (dC, dI) vwCl (outW cI cB cP ad Z K ++ R) H) (hD : va_D (aB base) (outW cI cB cP ad Z K ++ R)) (hS : va_S (aB base) s.heap H locs) (hCF : OF Z K), W p l e (headSpec wsX2_undo rmX2_undo).room s m ([.ref (ad 0 0)] : List Value).toArray below meth c H locs 0 0 (MQ below (cBe (dC, dI) vwCl base (some (.int rr)) (fun ws => ∃ Z : Nat → Nat, ws = (outW cI cB cP ad Z KK ++ R) ∧ OF Z KK)) ([.ref (ad 0 0)] : List Value).toArray s 0 0 (aB base)) (F0 m 21 ls []) := by
    intro  K H locs Z ls h hl hP hD hS hCF
    unfold fX2_undo_21 at h
    refine lv_bipush (v := (-4)) hx hb dX2_undo_21 (by decide) ?_
    exact (W.iret hx hb hr (fun t ht _ => retO h hCF hP hD hS ht) hS.2.2 dX2_undo_23)
  have hS : va_S (aB base) s.heap s.heap [] := va_S.rf
  have hl := lv_entry ([.ref (ad 0 0)]) (n := 2) (Nat.le_of_ble_eq_true rfl)
  rw [lg_entry_eq]
  generalize (lg_sl ([.ref (ad 0 0)]) ++ List.replicate (2 - (lg_sl ([.ref (ad 0 0)])).length) Slot.unset).toArray = ls at hl ⊢
  have hl : lv_has ls 2 [(0, .ref (ad 0 0))] := hl
  have h := hf
  unfold mX2_undo at h
  refine lv_aload_n hx hb dX2_undo_0 rfl (lv_at hl 0 rfl) ?_
  refine va_get (D := (dC, dI)) (ci := 3) (v := .ref (ad 0 1)) (C := RX2) (T := TX2) (N := 14) hx hb hts hwX2 hown hK hP 0 rfl rfl 5 (by decide) hf_29 (fun _ h9 => h9) rfl dX2_undo_1 ?_
  refine lv_aload_n hx hb dX2_undo_4 rfl (lv_at hl 0 rfl) ?_
  refine va_get (D := (dC, dI)) (ci := 3) (v := .int (K 12 0 1)) (C := RX2) (T := TX2) (N := 14) hx hb hts hwX2 hown hK hP 0 rfl rfl 6 (by decide) hf_33 (fun _ h9 => h9) rfl dX2_undo_5 ?_
  obtain ⟨n1, en1, ln1, in1, h⟩ := rdP_some h
  refine k_past hx hb hK hP 2 rfl en1 in1 dX2_undo_8 ?_
  refine lv_astore_n (lv' := [(1, .ref (ad (1 + (4 + n1)) 0)), (0, .ref (ad 0 0))]) hx hb dX2_undo_9 rfl hl (by decide) rfl (fun ls hl => ?_)
  refine lv_aload_n hx hb dX2_undo_10 rfl (lv_at hl 1 rfl) ?_
  refine va_get (D := (dC, dI)) (ci := 3) (v := .int (K 12 0 2)) (C := RX2) (T := TX2) (N := 14) hx hb hts hwX2 hown hK hP 0 rfl rfl 7 (by decide) hf_37 (fun _ h9 => h9) rfl dX2_undo_11 ?_
  refine lv_if_eq (tgt := 21) hx hb dX2_undo_14 (by decide) (fun c2 => ?_) (fun c2 => ?_)
  · replace h := if_p c2 h
    exact t_21  h (lv_sub hl [] rfl) hP hD hS hCF
  · replace h := if_n c2 h
    refine lv_aload_n hx hb dX2_undo_17 rfl (lv_at hl 0 rfl) ?_
    refine lv_ifnonnull (tgt := 24) hx hb dX2_undo_18 (by decide) ?_
    refine lv_aload_n hx hb dX2_undo_24 rfl (lv_at hl 1 rfl) ?_
    refine va_get (D := (dC, dI)) (ci := 3) (v := .ref (ad 1 0)) (C := RX2) (T := TX2) (N := 14) hx hb hts hwX2 hown hK hP 0 rfl rfl 0 (by decide) hf_10 (fun _ h9 => h9) rfl dX2_undo_25 ?_
    refine lv_aload_n hx hb dX2_undo_28 rfl (lv_at hl 0 rfl) ?_
    obtain ⟨O4, eO4, h⟩ := inO_some h
    refine call_copy (rest := []) (j := 0) (i := (4 + n1)) (Rr := R) (O := K) ⟨hx, hb, hml, hown, hts⟩ (by decide) (by have := ln1; omega) (by omega) (tX0_copyFrom (l := l) (dC := dC) (dI := dI) (cI := cI) (ob := ad (1 + 0) 0) (ob2 := ad (1 + (4 + n1)) 0) (q := fun f => ad (1 + 0) (1 + f)) (q2 := fun f => ad (1 + (4 + n1)) (1 + f)) (K := K 0) (J := K (4 + n1))) (cwV 1 hts gX2_undo_X0_copyFrom rfl rfl rfl (by decide +kernel) ⟨Nat.le_of_ble_eq_true rfl, Nat.le_of_ble_eq_true rfl⟩) hKI hP hD hS rfl hl.1 rfl (Nat.le_of_ble_eq_true rfl) dX2_undo_29 ⟨Nat.zero_le _, Nat.zero_le _⟩ (fun H locs hP hD hS => ?_)
    have hP : va_P (dC, dI) vwCl (outW cI cB cP ad Z O4 ++ R) H := by rw [eO4]; exact hP
    have hD : va_D (aB base) (outW cI cB cP ad Z O4 ++ R) := by rw [eO4]; exact hD
    have hCF : OF Z O4 := by rw [eO4]; exact OF_set hCF (by decide)
    refine lv_aload_n hx hb dX2_undo_32 rfl (lv_at hl 1 rfl) ?_
    refine lv_aload_n hx hb dX2_undo_33 rfl (lv_at hl 1 rfl) ?_
    refine va_get (D := (dC, dI)) (ci := 3) (v := .int (O4 12 0 1)) (C := RX2) (T := TX2) (N := 14) hx hb hts hwX2 hown hK hP 0 rfl rfl 6 (by decide) hf_33 (fun _ h9 => h9) rfl dX2_undo_34 ?_
    refine lv_bipush (v := 8) hx hb dX2_undo_37 (by decide) ?_
    refine lv_iadd hx hb dX2_undo_39 ?_
    refine lv_iconst (v := 1) hx hb dX2_undo_40 (by decide) ?_
    refine lv_isub hx hb dX2_undo_41 ?_
    refine lv_bipush (v := 8) hx hb dX2_undo_42 (by decide) ?_
    refine lv_irem hx hb dX2_undo_44 (by decide) ?_
    obtain ⟨O5, eO5, h⟩ := inO_some h
    refine va_put (D := (dC, dI)) (ci := 3) (v := .int ((((O4 12 0 1) + 8) - 1) - (((O4 12 0 1) + 8) - 1) / 8 * 8)) (ty := .int) (C := RX2) (T := TX2) (N := 14) hx hb hts hwX2 tyX2 tyX2_ok nmX2 hown hK hP hD hS 0 rfl rfl 6 (by decide) hf_33 (fun _ h9 => h9) rfl (by decide +kernel) rfl rfl (Nat.le_of_ble_eq_true rfl) dX2_undo_45 (fun H locs hP hD hS => ?_)
    have hP : va_P (dC, dI) vwCl (outW cI cB cP ad Z O5 ++ R) H := by rw [eO5, out_scal]; exact hP
    have hD : va_D (aB base) (outW cI cB cP ad Z O5 ++ R) := by rw [eO5, out_scal]; exact hD
    have hCF : OF Z O5 := by rw [eO5]; exact OF_set hCF (by decide)
    refine lv_aload_n hx hb dX2_undo_48 rfl (lv_at hl 1 rfl) ?_
    refine lv_dup hx hb dX2_undo_49 rfl ?_
    refine va_get (D := (dC, dI)) (ci := 3) (v := .int (O5 12 0 2)) (C := RX2) (T := TX2) (N := 14) hx hb hts hwX2 hown hK hP 0 rfl rfl 7 (by decide) hf_37 (fun _ h9 => h9) rfl dX2_undo_50 ?_
    refine lv_iconst (v := 1) hx hb dX2_undo_53 (by decide) ?_
    refine lv_isub hx hb dX2_undo_54 ?_
    obtain ⟨O6, eO6, h⟩ := inO_some h
    refine va_put (D := (dC, dI)) (ci := 3) (v := .int ((O5 12 0 2) - 1)) (ty := .int) (C := RX2) (T := TX2) (N := 14) hx hb hts hwX2 tyX2 tyX2_ok nmX2 hown hK hP hD hS 0 rfl rfl 7 (by decide) hf_37 (fun _ h9 => h9) rfl (by decide +kernel) rfl rfl (Nat.le_of_ble_eq_true rfl) dX2_undo_55 (fun H locs hP hD hS => ?_)
    have hP : va_P (dC, dI) vwCl (outW cI cB cP ad Z O6 ++ R) H := by rw [eO6, out_scal]; exact hP
    have hD : va_D (aB base) (outW cI cB cP ad Z O6 ++ R) := by rw [eO6, out_scal]; exact hD
    have hCF : OF Z O6 := by rw [eO6]; exact OF_set hCF (by decide)
    refine lv_aload_n hx hb dX2_undo_58 rfl (lv_at hl 1 rfl) ?_
    refine va_get (D := (dC, dI)) (ci := 3) (v := .int (O6 12 0 2)) (C := RX2) (T := TX2) (N := 14) hx hb hts hwX2 hown hK hP 0 rfl rfl 7 (by decide) hf_37 (fun _ h9 => h9) rfl dX2_undo_59 ?_
    exact (W.iret hx hb hr (fun t ht _ => retO h hCF hP hD hS ht) hS.2.2 dX2_undo_62)
