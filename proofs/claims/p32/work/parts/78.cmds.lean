def mX1_goToStart (N : Nat) (K : KT)  : Option (Int32 × KT) := ptF K 1 2 0 (fun K1 => some (0, K1))
def rmX1_goToStart : Room := { frames := 1, cells := 0, slots := 0, locals := 40 }
set_option maxHeartbeats 4000000 in
set_option maxRecDepth 100000 in
theorem tX1_goToStart {l : Launch} {dC : Nat → ClassId} {dI : Nat → Nat → Nat} {cB : ClassId} {ob sa sb mm base : Nat} {R : va_W} {N : Nat} {K : KT}  {rr : Int32} {KK : KT} (hf : mX1_goToStart N K  = some (rr, KK)) (hCF : CF mm K) : Met l yX1_goToStart wsX1_goToStart rmX1_goToStart (cBp (dC, dI) vwCl [(cB, .byte)] base (cmW cB ob sa sb mm K ++ R) [.ref ob]) (cBe (dC, dI) vwCl base (none) (fun ws => ws = (cmW cB ob sa sb mm KK ++ R) ∧ CF mm KK)) 0 0 (aB base) := by
  refine Met.ofW (cc := cX1_goToStart) (maxL := 1) (ret := none) (by decide) rfl ?_
  intro p e s m args below meth c s₁ B hml hv
  obtain ⟨rfl, hP, hK, hD, hbs, hE⟩ := hv
  have hx := B.exec
  have hb := B.bytes
  have hr := B.returns
  have hts := atoms_spec (ws := wsX1_goToStart) B.pre
  have hown : s.vm.findClass RX1 = some m.cls := findClass_of_methodNamed B.named
  have hlocks := B.notSynchronized
  have hwX1 : ∀ w ∈ u_ws RX1 TX1 6, w ∈ wsX1_goToStart := by decide +kernel
  have hf_18 := hts (.fieldLink RX1 18 "CaravanLogs$Commands" "at" "I") (by decide +kernel)
  have hS : va_S (aB base) s.heap s.heap [] := va_S.rf
  have hl := lv_entry ([.ref ob]) (n := 1) (Nat.le_of_ble_eq_true rfl)
  rw [lg_entry_eq]
  generalize (lg_sl ([.ref ob]) ++ List.replicate (1 - (lg_sl ([.ref ob])).length) Slot.unset).toArray = ls at hl ⊢
  have hl : lv_has ls 1 [(0, .ref ob)] := hl
  have h := hf
  unfold mX1_goToStart at h
  refine lv_aload_n hx hb dX1_goToStart_0 rfl (lv_at hl 0 rfl) ?_
  refine lv_iconst (v := 0) hx hb dX1_goToStart_1 (by decide) ?_
  obtain ⟨K1, eK1, h⟩ := ptF_some h
  refine va_put (D := (dC, dI)) (ci := 2) (v := .int 0) (ty := .int) (C := RX1) (T := TX1) (N := 6) hx hb hts hwX1 tyX1 tyX1_ok nmX1 hown hK hP hD hS 0 rfl rfl 1 (by decide) hf_18 (fun _ h9 => h9) rfl (by decide +kernel) rfl rfl (Nat.le_of_ble_eq_true rfl) dX1_goToStart_2 (fun H locs hP hD hS => ?_)
  have hP : va_P (dC, dI) vwCl (cmW cB ob sa sb mm K1 ++ R) H := by rw [eK1]; exact hP
  have hD : va_D (aB base) (cmW cB ob sa sb mm K1 ++ R) := by rw [eK1]; exact hD
  have hCF : CF mm K1 := by rw [eK1]; exact CF_pt hCF (by decide)
  exact W.vret hx hb hr (fun t ht _ => retCv (w := (fun K => (cmW cB ob sa sb mm K ++ R))) (cf := fun K => CF mm K) h hCF hP hD hS ht) hS.2.2 dX1_goToStart_5
def fX1_peek_36 (N : Nat) (K : KT)  (y0 : Int32) : Option Int32 := some y0
def fX1_peek_35 (N : Nat) (K : KT)   : Option Int32 := fX1_peek_36 N K  ((-1))
def mX1_peek (N : Nat) (K : KT)  : Option Int32 := (if (K 1 2) < 0 then fX1_peek_35 N K   else bdP (s_length K ) (fun v2 => (if v2 ≤ (K 1 2) then fX1_peek_35 N K   else bdP (s_charAt K (K 1 2)) (fun v4 => fX1_peek_36 N K  v4))))
def rmX1_peek : Room := { frames := 5, cells := 0, slots := 0, locals := 150 }
set_option maxHeartbeats 4000000 in
set_option maxRecDepth 100000 in
theorem tX1_peek {l : Launch} {dC : Nat → ClassId} {dI : Nat → Nat → Nat} {cB : ClassId} {ob sa sb mm base : Nat} {R : va_W} {N : Nat} {K : KT}  {rr : Int32} (hf : mX1_peek N K  = some rr) (hCF : CF mm K) : Met l yX1_peek wsX1_peek rmX1_peek (cBp (dC, dI) vwCl [(cB, .byte)] base (cmW cB ob sa sb mm K ++ R) [.ref ob]) (cQp rr) 0 0 (fun _ => False) := by
  refine Met.ofW (cc := cX1_peek) (maxL := 1) (ret := (some .int)) (by decide) rfl ?_
  intro p e s m args below meth c s₁ B hml hv
  obtain ⟨rfl, hP, hK, hD, hbs, hE⟩ := hv
  have hx := B.exec
  have hb := B.bytes
  have hr := B.returns
  have hts := atoms_spec (ws := wsX1_peek) B.pre
  have hown : s.vm.findClass RX1 = some m.cls := findClass_of_methodNamed B.named
  have hlocks := B.notSynchronized
  have hwX1 : ∀ w ∈ u_ws RX1 TX1 6, w ∈ wsX1_peek := by decide +kernel
  have hf_12 := hts (.fieldLink RX1 12 "CaravanLogs$Commands" "text" "Ljava/lang/StringBuilder;") (by decide +kernel)
  have hf_18 := hts (.fieldLink RX1 18 "CaravanLogs$Commands" "at" "I") (by decide +kernel)
  have hEU : ∀ U : State, U.heap = s.heap → s.WarmedH U.vm → EnvB base U := fun U hU hW => Env_step rfl rfl hE va_S.rf hU hW
  have t_36 : ∀ {y0 : Int32} {ls : Array Slot} (h : fX1_peek_36 N K  y0 = some rr) (hl : lv_has ls 1 []), W p l e (headSpec wsX1_peek rmX1_peek).room s m ([.ref ob] : List Value).toArray below meth c s.heap [] 0 0 (MQ below (cQp rr) ([.ref ob] : List Value).toArray s 0 0 (fun _ => False)) (F0 m 36 ls [.int y0]) := by
    intro  y0 ls h hl
    unfold fX1_peek_36 at h
    exact W.iret hx hb hr (fun t ht _ => retP h ht) (fun _ h9 => absurd h9 List.not_mem_nil) dX1_peek_36
  have t_35 : ∀  {ls : Array Slot} (h : fX1_peek_35 N K   = some rr) (hl : lv_has ls 1 []), W p l e (headSpec wsX1_peek rmX1_peek).room s m ([.ref ob] : List Value).toArray below meth c s.heap [] 0 0 (MQ below (cQp rr) ([.ref ob] : List Value).toArray s 0 0 (fun _ => False)) (F0 m 35 ls []) := by
    intro   ls h hl
    unfold fX1_peek_35 at h
    refine lv_iconst (v := (-1)) hx hb dX1_peek_35 (by decide) ?_
    exact t_36  h (lv_sub hl [] rfl)
  have hl := lv_entry ([.ref ob]) (n := 1) (Nat.le_of_ble_eq_true rfl)
  rw [lg_entry_eq]
  generalize (lg_sl ([.ref ob]) ++ List.replicate (1 - (lg_sl ([.ref ob])).length) Slot.unset).toArray = ls at hl ⊢
  have hl : lv_has ls 1 [(0, .ref ob)] := hl
  have h := hf
  unfold mX1_peek at h
  refine lv_aload_n hx hb dX1_peek_0 rfl (lv_at hl 0 rfl) ?_
  refine va_get (D := (dC, dI)) (ci := 2) (v := .int (K 1 2)) (C := RX1) (T := TX1) (N := 6) hx hb hts hwX1 hown hK hP 0 rfl rfl 1 (by decide) hf_18 (fun _ h9 => h9) rfl dX1_peek_1 ?_
  refine lv_if_lt (tgt := 35) hx hb dX1_peek_4 (by decide) (fun c1 => ?_) (fun c1 => ?_)
  · replace h := if_p c1 h
    exact t_35  h (lv_sub hl [] rfl)
  · replace h := if_n c1 h
    refine lv_aload_n hx hb dX1_peek_7 rfl (lv_at hl 0 rfl) ?_
    refine va_get (D := (dC, dI)) (ci := 2) (v := .int (K 1 2)) (C := RX1) (T := TX1) (N := 6) hx hb hts hwX1 hown hK hP 0 rfl rfl 1 (by decide) hf_18 (fun _ h9 => h9) rfl dX1_peek_8 ?_
    refine lv_aload_n hx hb dX1_peek_11 rfl (lv_at hl 0 rfl) ?_
    refine va_get (D := (dC, dI)) (ci := 2) (v := .ref sa) (C := RX1) (T := TX1) (N := 6) hx hb hts hwX1 hown hK hP 0 rfl rfl 0 (by decide) hf_12 (fun _ h9 => h9) rfl dX1_peek_12 ?_
    obtain ⟨v2, hv2, h⟩ := bdP_some h
    refine call_BVP (As := []) (rest := [.int (K 1 2)]) ⟨hx, hb, hml, hown, hts⟩ (tS_length (l := l) (dC := dC) (dI := dI) (cB := cB) (ob := sa) (sb := sb) (mm := mm) (base := base) hv2 hCF) (cwV 0 hts gX1_peek_J4_length_8abf5 rfl rfl rfl (by decide +kernel) ⟨Nat.le_of_ble_eq_true rfl, Nat.le_of_ble_eq_true rfl⟩) hK (P_perm cm_sb hP) (D_perm cm_sb hD) hbs hEU 0 rfl rfl (by rfl) hl.1 rfl (Nat.le_of_ble_eq_true rfl) dX1_peek_15 ⟨Nat.zero_le _, Nat.zero_le _⟩ ?_
    refine lv_icmp_ge (tgt := 35) hx hb dX1_peek_18 (by decide) (fun c3 => ?_) (fun c3 => ?_)
    · replace h := if_p c3 h
      exact t_35  h (lv_sub hl [] rfl)
    · replace h := if_n c3 h
      refine lv_aload_n hx hb dX1_peek_21 rfl (lv_at hl 0 rfl) ?_
      refine va_get (D := (dC, dI)) (ci := 2) (v := .ref sa) (C := RX1) (T := TX1) (N := 6) hx hb hts hwX1 hown hK hP 0 rfl rfl 0 (by decide) hf_12 (fun _ h9 => h9) rfl dX1_peek_22 ?_
      refine lv_aload_n hx hb dX1_peek_25 rfl (lv_at hl 0 rfl) ?_
      refine va_get (D := (dC, dI)) (ci := 2) (v := .int (K 1 2)) (C := RX1) (T := TX1) (N := 6) hx hb hts hwX1 hown hK hP 0 rfl rfl 1 (by decide) hf_18 (fun _ h9 => h9) rfl dX1_peek_26 ?_
      obtain ⟨v4, hv4, h⟩ := bdP_some h
      refine call_BVP (As := [.int (K 1 2)]) (rest := []) ⟨hx, hb, hml, hown, hts⟩ (tS_charAt (l := l) (dC := dC) (dI := dI) (cB := cB) (ob := sa) (sb := sb) (mm := mm) (base := base) hv4 hCF) (cwV 1 hts gX1_peek_J4_charAt_5068e rfl rfl rfl (by decide +kernel) ⟨Nat.le_of_ble_eq_true rfl, Nat.le_of_ble_eq_true rfl⟩) hK (P_perm cm_sb hP) (D_perm cm_sb hD) hbs hEU 0 rfl rfl (by rfl) hl.1 rfl (Nat.le_of_ble_eq_true rfl) dX1_peek_29 ⟨Nat.zero_le _, Nat.zero_le _⟩ ?_
      refine lv_goto (tgt := 36) hx hb dX1_peek_32 (by decide) ?_
      exact t_36  h (lv_sub hl [] rfl)
def fX1_isAtDigit_23 (N : Nat) (K : KT)  (y0 : Int32) : Option Int32 := gd (y0 = 0 ∨ y0 = 1) (some y0)
def fX1_isAtDigit_22 (N : Nat) (K : KT)   : Option Int32 := fX1_isAtDigit_23 N K  0
def mX1_isAtDigit (N : Nat) (K : KT)  : Option Int32 := bdP (mX1_peek N K ) (fun v1 => (if v1 < 48 then fX1_isAtDigit_22 N K   else bdP (mX1_peek N K ) (fun v3 => (if 57 < v3 then fX1_isAtDigit_22 N K   else fX1_isAtDigit_23 N K  1))))
def rmX1_isAtDigit : Room := { frames := 6, cells := 0, slots := 0, locals := 180 }
set_option maxHeartbeats 4000000 in
set_option maxRecDepth 100000 in
theorem tX1_isAtDigit {l : Launch} {dC : Nat → ClassId} {dI : Nat → Nat → Nat} {cB : ClassId} {ob sa sb mm base : Nat} {R : va_W} {N : Nat} {K : KT}  {rr : Int32} (hf : mX1_isAtDigit N K  = some rr) (hCF : CF mm K) : Met l yX1_isAtDigit wsX1_isAtDigit rmX1_isAtDigit (cBp (dC, dI) vwCl [(cB, .byte)] base (cmW cB ob sa sb mm K ++ R) [.ref ob]) (cQp rr) 0 0 (fun _ => False) := by
  refine Met.ofW (cc := cX1_isAtDigit) (maxL := 1) (ret := (some .boolean)) (by decide) rfl ?_
  intro p e s m args below meth c s₁ B hml hv
  obtain ⟨rfl, hP, hK, hD, hbs, hE⟩ := hv
  have hx := B.exec
  have hb := B.bytes
  have hr := B.returns
  have hts := atoms_spec (ws := wsX1_isAtDigit) B.pre
  have hown : s.vm.findClass RX1 = some m.cls := findClass_of_methodNamed B.named
  have hlocks := B.notSynchronized
  have hEU : ∀ U : State, U.heap = s.heap → s.WarmedH U.vm → EnvB base U := fun U hU hW => Env_step rfl rfl hE va_S.rf hU hW
  have t_23 : ∀ {y0 : Int32} {ls : Array Slot} (h : fX1_isAtDigit_23 N K  y0 = some rr) (hl : lv_has ls 1 []), W p l e (headSpec wsX1_isAtDigit rmX1_isAtDigit).room s m ([.ref ob] : List Value).toArray below meth c s.heap [] 0 0 (MQ below (cQp rr) ([.ref ob] : List Value).toArray s 0 0 (fun _ => False)) (F0 m 23 ls [.int y0]) := by
    intro  y0 ls h hl
    unfold fX1_isAtDigit_23 at h
    obtain ⟨hz, h⟩ := gd_some h
    exact W.zret hx hb hr (zb_ok hz) (fun t ht _ => retP h ht) (fun _ h9 => absurd h9 List.not_mem_nil) dX1_isAtDigit_23
  have t_22 : ∀  {ls : Array Slot} (h : fX1_isAtDigit_22 N K   = some rr) (hl : lv_has ls 1 []), W p l e (headSpec wsX1_isAtDigit rmX1_isAtDigit).room s m ([.ref ob] : List Value).toArray below meth c s.heap [] 0 0 (MQ below (cQp rr) ([.ref ob] : List Value).toArray s 0 0 (fun _ => False)) (F0 m 22 ls []) := by
    intro   ls h hl
    unfold fX1_isAtDigit_22 at h
    refine lv_iconst (v := 0) hx hb dX1_isAtDigit_22 (by decide) ?_
    exact t_23  h (lv_sub hl [] rfl)
  have hl := lv_entry ([.ref ob]) (n := 1) (Nat.le_of_ble_eq_true rfl)
  rw [lg_entry_eq]
  generalize (lg_sl ([.ref ob]) ++ List.replicate (1 - (lg_sl ([.ref ob])).length) Slot.unset).toArray = ls at hl ⊢
  have hl : lv_has ls 1 [(0, .ref ob)] := hl
  have h := hf
  unfold mX1_isAtDigit at h
  refine lv_aload_n hx hb dX1_isAtDigit_0 rfl (lv_at hl 0 rfl) ?_
  obtain ⟨v1, hv1, h⟩ := bdP_some h
  refine call_BVP (As := []) (rest := []) ⟨hx, hb, hml, hown, hts⟩ (tX1_peek (l := l) (dC := dC) (dI := dI) (cB := cB) (ob := ob) (sa := sa) (sb := sb) (mm := mm) (base := base) (R := R) hv1 hCF) (cwV 0 hts gX1_isAtDigit_X1_peek rfl rfl rfl (by decide +kernel) ⟨Nat.le_of_ble_eq_true rfl, Nat.le_of_ble_eq_true rfl⟩) hK hP hD hbs hEU 0 rfl rfl (by rfl) hl.1 rfl (Nat.le_of_ble_eq_true rfl) dX1_isAtDigit_1 ⟨Nat.zero_le _, Nat.zero_le _⟩ ?_
  refine lv_bipush (v := 48) hx hb dX1_isAtDigit_4 (by decide) ?_
  refine lv_icmp_lt (tgt := 22) hx hb dX1_isAtDigit_6 (by decide) (fun c2 => ?_) (fun c2 => ?_)
  · replace h := if_p c2 h
    exact t_22  h (lv_sub hl [] rfl)
  · replace h := if_n c2 h
    refine lv_aload_n hx hb dX1_isAtDigit_9 rfl (lv_at hl 0 rfl) ?_
    obtain ⟨v3, hv3, h⟩ := bdP_some h
    refine call_BVP (As := []) (rest := []) ⟨hx, hb, hml, hown, hts⟩ (tX1_peek (l := l) (dC := dC) (dI := dI) (cB := cB) (ob := ob) (sa := sa) (sb := sb) (mm := mm) (base := base) (R := R) hv3 hCF) (cwV 0 hts gX1_isAtDigit_X1_peek rfl rfl rfl (by decide +kernel) ⟨Nat.le_of_ble_eq_true rfl, Nat.le_of_ble_eq_true rfl⟩) hK hP hD hbs hEU 0 rfl rfl (by rfl) hl.1 rfl (Nat.le_of_ble_eq_true rfl) dX1_isAtDigit_10 ⟨Nat.zero_le _, Nat.zero_le _⟩ ?_
    refine lv_bipush (v := 57) hx hb dX1_isAtDigit_13 (by decide) ?_
    refine lv_icmp_gt (tgt := 22) hx hb dX1_isAtDigit_15 (by decide) (fun c4 => ?_) (fun c4 => ?_)
    · replace h := if_p c4 h
      exact t_22  h (lv_sub hl [] rfl)
    · replace h := if_n c4 h
      refine lv_iconst (v := 1) hx hb dX1_isAtDigit_18 (by decide) ?_
      refine lv_goto (tgt := 23) hx hb dX1_isAtDigit_19 (by decide) ?_
      exact t_23  h (lv_sub hl [] rfl)
def mX1_takeDigit (N : Nat) (K : KT)  : Option (Int32 × KT) := bdP (mX1_isAtDigit N K ) (fun v1 => (if v1 = 0 then some (0, K) else bdP (mX1_peek N K ) (fun v3 => ptF K 1 4 (v3 - 48) (fun K4 => ptF K4 1 2 ((K4 1 2) + 1) (fun K5 => some (1, K5))))))
def rmX1_takeDigit : Room := { frames := 7, cells := 0, slots := 0, locals := 210 }
set_option maxHeartbeats 4000000 in
set_option maxRecDepth 100000 in
theorem tX1_takeDigit {l : Launch} {dC : Nat → ClassId} {dI : Nat → Nat → Nat} {cB : ClassId} {ob sa sb mm base : Nat} {R : va_W} {N : Nat} {K : KT}  {rr : Int32} {KK : KT} (hf : mX1_takeDigit N K  = some (rr, KK)) (hCF : CF mm K) : Met l yX1_takeDigit wsX1_takeDigit rmX1_takeDigit (cBp (dC, dI) vwCl [(cB, .byte)] base (cmW cB ob sa sb mm K ++ R) [.ref ob]) (cBe (dC, dI) vwCl base (some (.int rr)) (fun ws => ws = (cmW cB ob sa sb mm KK ++ R) ∧ CF mm KK)) 0 0 (aB base) := by
  refine Met.ofW (cc := cX1_takeDigit) (maxL := 1) (ret := (some .boolean)) (by decide) rfl ?_
  intro p e s m args below meth c s₁ B hml hv
  obtain ⟨rfl, hP, hK, hD, hbs, hE⟩ := hv
  have hx := B.exec
  have hb := B.bytes
  have hr := B.returns
  have hts := atoms_spec (ws := wsX1_takeDigit) B.pre
  have hown : s.vm.findClass RX1 = some m.cls := findClass_of_methodNamed B.named
  have hlocks := B.notSynchronized
  have hwX1 : ∀ w ∈ u_ws RX1 TX1 6, w ∈ wsX1_takeDigit := by decide +kernel
  have hf_18 := hts (.fieldLink RX1 18 "CaravanLogs$Commands" "at" "I") (by decide +kernel)
  have hf_25 := hts (.fieldLink RX1 25 "CaravanLogs$Commands" "first" "I") (by decide +kernel)
  have hS : va_S (aB base) s.heap s.heap [] := va_S.rf
  have hl := lv_entry ([.ref ob]) (n := 1) (Nat.le_of_ble_eq_true rfl)
  rw [lg_entry_eq]
  generalize (lg_sl ([.ref ob]) ++ List.replicate (1 - (lg_sl ([.ref ob])).length) Slot.unset).toArray = ls at hl ⊢
  have hl : lv_has ls 1 [(0, .ref ob)] := hl
  have h := hf
  unfold mX1_takeDigit at h
  refine lv_aload_n hx hb dX1_takeDigit_0 rfl (lv_at hl 0 rfl) ?_
  obtain ⟨v1, hv1, h⟩ := bdP_some h
  refine call_BVP (As := []) (rest := []) ⟨hx, hb, hml, hown, hts⟩ (tX1_isAtDigit (l := l) (dC := dC) (dI := dI) (cB := cB) (ob := ob) (sa := sa) (sb := sb) (mm := mm) (base := base) (R := R) hv1 hCF) (cwV 0 hts gX1_takeDigit_X1_isAtDigit rfl rfl rfl (by decide +kernel) ⟨Nat.le_of_ble_eq_true rfl, Nat.le_of_ble_eq_true rfl⟩) hK hP hD (Nat.le_trans hbs hS.1) (fun U hU hW => Env_step rfl rfl hE hS hU hW) 0 rfl rfl (by rfl) hl.1 rfl (Nat.le_of_ble_eq_true rfl) dX1_takeDigit_1 ⟨Nat.zero_le _, Nat.zero_le _⟩ ?_
  refine lv_if_ne (tgt := 9) hx hb dX1_takeDigit_4 (by decide) (fun c2 => ?_) (fun c2 => ?_)
  · replace h := if_n c2 h
    refine lv_aload_n hx hb dX1_takeDigit_9 rfl (lv_at hl 0 rfl) ?_
    refine lv_aload_n hx hb dX1_takeDigit_10 rfl (lv_at hl 0 rfl) ?_
    obtain ⟨v3, hv3, h⟩ := bdP_some h
    refine call_BVP (As := []) (rest := [.ref ob]) ⟨hx, hb, hml, hown, hts⟩ (tX1_peek (l := l) (dC := dC) (dI := dI) (cB := cB) (ob := ob) (sa := sa) (sb := sb) (mm := mm) (base := base) (R := R) hv3 hCF) (cwV 0 hts gX1_takeDigit_X1_peek rfl rfl rfl (by decide +kernel) ⟨Nat.le_of_ble_eq_true rfl, Nat.le_of_ble_eq_true rfl⟩) hK hP hD (Nat.le_trans hbs hS.1) (fun U hU hW => Env_step rfl rfl hE hS hU hW) 0 rfl rfl (by rfl) hl.1 rfl (Nat.le_of_ble_eq_true rfl) dX1_takeDigit_11 ⟨Nat.zero_le _, Nat.zero_le _⟩ ?_
    refine lv_bipush (v := 48) hx hb dX1_takeDigit_14 (by decide) ?_
    refine lv_isub hx hb dX1_takeDigit_16 ?_
    obtain ⟨K4, eK4, h⟩ := ptF_some h
    refine va_put (D := (dC, dI)) (ci := 2) (v := .int (v3 - 48)) (ty := .int) (C := RX1) (T := TX1) (N := 6) hx hb hts hwX1 tyX1 tyX1_ok nmX1 hown hK hP hD hS 0 rfl rfl 3 (by decide) hf_25 (fun _ h9 => h9) rfl (by decide +kernel) rfl rfl (Nat.le_of_ble_eq_true rfl) dX1_takeDigit_17 (fun H locs hP hD hS => ?_)
    have hP : va_P (dC, dI) vwCl (cmW cB ob sa sb mm K4 ++ R) H := by rw [eK4]; exact hP
    have hD : va_D (aB base) (cmW cB ob sa sb mm K4 ++ R) := by rw [eK4]; exact hD
    have hCF : CF mm K4 := by rw [eK4]; exact CF_pt hCF (by decide)
    refine lv_aload_n hx hb dX1_takeDigit_20 rfl (lv_at hl 0 rfl) ?_
    refine lv_dup hx hb dX1_takeDigit_21 rfl ?_
    refine va_get (D := (dC, dI)) (ci := 2) (v := .int (K4 1 2)) (C := RX1) (T := TX1) (N := 6) hx hb hts hwX1 hown hK hP 0 rfl rfl 1 (by decide) hf_18 (fun _ h9 => h9) rfl dX1_takeDigit_22 ?_
    refine lv_iconst (v := 1) hx hb dX1_takeDigit_25 (by decide) ?_
    refine lv_iadd hx hb dX1_takeDigit_26 ?_
    obtain ⟨K5, eK5, h⟩ := ptF_some h
    refine va_put (D := (dC, dI)) (ci := 2) (v := .int ((K4 1 2) + 1)) (ty := .int) (C := RX1) (T := TX1) (N := 6) hx hb hts hwX1 tyX1 tyX1_ok nmX1 hown hK hP hD hS 0 rfl rfl 1 (by decide) hf_18 (fun _ h9 => h9) rfl (by decide +kernel) rfl rfl (Nat.le_of_ble_eq_true rfl) dX1_takeDigit_27 (fun H locs hP hD hS => ?_)
    have hP : va_P (dC, dI) vwCl (cmW cB ob sa sb mm K5 ++ R) H := by rw [eK5]; exact hP
    have hD : va_D (aB base) (cmW cB ob sa sb mm K5 ++ R) := by rw [eK5]; exact hD
    have hCF : CF mm K5 := by rw [eK5]; exact CF_pt hCF (by decide)
    refine lv_iconst (v := 1) hx hb dX1_takeDigit_30 (by decide) ?_
    exact W.zret hx hb hr (by decide) (fun t ht _ => retC (w := (fun K => (cmW cB ob sa sb mm K ++ R))) (cf := fun K => CF mm K) h hCF hP hD hS ht) hS.2.2 dX1_takeDigit_31
  · replace h := if_p c2 h
    refine lv_iconst (v := 0) hx hb dX1_takeDigit_7 (by decide) ?_
    exact W.zret hx hb hr (by decide) (fun t ht _ => retC (w := (fun K => (cmW cB ob sa sb mm K ++ R))) (cf := fun K => CF mm K) h hCF hP hD hS ht) hS.2.2 dX1_takeDigit_8
def fX1_takeLetter_18 (N : Nat)  (K : KT)  : Option (Int32 × KT) := some (0, K)
def mX1_takeLetter (N : Nat) (K : KT)  : Option (Int32 × KT) := bdP (mX1_peek N K ) (fun v1 => (if v1 < 97 then fX1_takeLetter_18 N  K  else bdP (mX1_peek N K ) (fun v3 => (if v3 ≤ 100 then bdP (mX1_peek N K ) (fun v5 => ptF K 1 5 (v5 - 97) (fun K6 => ptF K6 1 2 ((K6 1 2) + 1) (fun K7 => some (1, K7)))) else fX1_takeLetter_18 N  K ))))
def rmX1_takeLetter : Room := { frames := 6, cells := 0, slots := 0, locals := 180 }
set_option maxHeartbeats 4000000 in
set_option maxRecDepth 100000 in
theorem tX1_takeLetter {l : Launch} {dC : Nat → ClassId} {dI : Nat → Nat → Nat} {cB : ClassId} {ob sa sb mm base : Nat} {R : va_W} {N : Nat} {K : KT}  {rr : Int32} {KK : KT} (hf : mX1_takeLetter N K  = some (rr, KK)) (hCF : CF mm K) : Met l yX1_takeLetter wsX1_takeLetter rmX1_takeLetter (cBp (dC, dI) vwCl [(cB, .byte)] base (cmW cB ob sa sb mm K ++ R) [.ref ob]) (cBe (dC, dI) vwCl base (some (.int rr)) (fun ws => ws = (cmW cB ob sa sb mm KK ++ R) ∧ CF mm KK)) 0 0 (aB base) := by
  refine Met.ofW (cc := cX1_takeLetter) (maxL := 1) (ret := (some .boolean)) (by decide) rfl ?_
  intro p e s m args below meth c s₁ B hml hv
  obtain ⟨rfl, hP, hK, hD, hbs, hE⟩ := hv
  have hx := B.exec
  have hb := B.bytes
  have hr := B.returns
  have hts := atoms_spec (ws := wsX1_takeLetter) B.pre
  have hown : s.vm.findClass RX1 = some m.cls := findClass_of_methodNamed B.named
  have hlocks := B.notSynchronized
  have hwX1 : ∀ w ∈ u_ws RX1 TX1 6, w ∈ wsX1_takeLetter := by decide +kernel
  have hf_18 := hts (.fieldLink RX1 18 "CaravanLogs$Commands" "at" "I") (by decide +kernel)
  have hf_28 := hts (.fieldLink RX1 28 "CaravanLogs$Commands" "second" "I") (by decide +kernel)
  have t_18 : ∀ {K : KT}  {H : Heap} {locs : List Loc} {ls : Array Slot} (h : fX1_takeLetter_18 N  K  = some (rr, KK)) (hl : lv_has ls 1 []) (hP : va_P (dC, dI) vwCl (cmW cB ob sa sb mm K ++ R) H) (hD : va_D (aB base) (cmW cB ob sa sb mm K ++ R)) (hS : va_S (aB base) s.heap H locs) (hCF : CF mm K), W p l e (headSpec wsX1_takeLetter rmX1_takeLetter).room s m ([.ref ob] : List Value).toArray below meth c H locs 0 0 (MQ below (cBe (dC, dI) vwCl base (some (.int rr)) (fun ws => ws = (cmW cB ob sa sb mm KK ++ R) ∧ CF mm KK)) ([.ref ob] : List Value).toArray s 0 0 (aB base)) (F0 m 18 ls []) := by
    intro  K H locs ls h hl hP hD hS hCF
    unfold fX1_takeLetter_18 at h
    refine lv_iconst (v := 0) hx hb dX1_takeLetter_18 (by decide) ?_
    exact W.zret hx hb hr (by decide) (fun t ht _ => retC (w := (fun K => (cmW cB ob sa sb mm K ++ R))) (cf := fun K => CF mm K) h hCF hP hD hS ht) hS.2.2 dX1_takeLetter_19
  have hS : va_S (aB base) s.heap s.heap [] := va_S.rf
  have hl := lv_entry ([.ref ob]) (n := 1) (Nat.le_of_ble_eq_true rfl)
  rw [lg_entry_eq]
  generalize (lg_sl ([.ref ob]) ++ List.replicate (1 - (lg_sl ([.ref ob])).length) Slot.unset).toArray = ls at hl ⊢
  have hl : lv_has ls 1 [(0, .ref ob)] := hl
  have h := hf
  unfold mX1_takeLetter at h
  refine lv_aload_n hx hb dX1_takeLetter_0 rfl (lv_at hl 0 rfl) ?_
  obtain ⟨v1, hv1, h⟩ := bdP_some h
  refine call_BVP (As := []) (rest := []) ⟨hx, hb, hml, hown, hts⟩ (tX1_peek (l := l) (dC := dC) (dI := dI) (cB := cB) (ob := ob) (sa := sa) (sb := sb) (mm := mm) (base := base) (R := R) hv1 hCF) (cwV 0 hts gX1_takeLetter_X1_peek rfl rfl rfl (by decide +kernel) ⟨Nat.le_of_ble_eq_true rfl, Nat.le_of_ble_eq_true rfl⟩) hK hP hD (Nat.le_trans hbs hS.1) (fun U hU hW => Env_step rfl rfl hE hS hU hW) 0 rfl rfl (by rfl) hl.1 rfl (Nat.le_of_ble_eq_true rfl) dX1_takeLetter_1 ⟨Nat.zero_le _, Nat.zero_le _⟩ ?_
  refine lv_bipush (v := 97) hx hb dX1_takeLetter_4 (by decide) ?_
  refine lv_icmp_lt (tgt := 18) hx hb dX1_takeLetter_6 (by decide) (fun c2 => ?_) (fun c2 => ?_)
  · replace h := if_p c2 h
    exact t_18  h (lv_sub hl [] rfl) hP hD hS hCF
  · replace h := if_n c2 h
    refine lv_aload_n hx hb dX1_takeLetter_9 rfl (lv_at hl 0 rfl) ?_
    obtain ⟨v3, hv3, h⟩ := bdP_some h
    refine call_BVP (As := []) (rest := []) ⟨hx, hb, hml, hown, hts⟩ (tX1_peek (l := l) (dC := dC) (dI := dI) (cB := cB) (ob := ob) (sa := sa) (sb := sb) (mm := mm) (base := base) (R := R) hv3 hCF) (cwV 0 hts gX1_takeLetter_X1_peek rfl rfl rfl (by decide +kernel) ⟨Nat.le_of_ble_eq_true rfl, Nat.le_of_ble_eq_true rfl⟩) hK hP hD (Nat.le_trans hbs hS.1) (fun U hU hW => Env_step rfl rfl hE hS hU hW) 0 rfl rfl (by rfl) hl.1 rfl (Nat.le_of_ble_eq_true rfl) dX1_takeLetter_10 ⟨Nat.zero_le _, Nat.zero_le _⟩ ?_
    refine lv_bipush (v := 100) hx hb dX1_takeLetter_13 (by decide) ?_
    refine lv_icmp_le (tgt := 20) hx hb dX1_takeLetter_15 (by decide) (fun c4 => ?_) (fun c4 => ?_)
    · replace h := if_p c4 h
      refine lv_aload_n hx hb dX1_takeLetter_20 rfl (lv_at hl 0 rfl) ?_
      refine lv_aload_n hx hb dX1_takeLetter_21 rfl (lv_at hl 0 rfl) ?_
      obtain ⟨v5, hv5, h⟩ := bdP_some h
      refine call_BVP (As := []) (rest := [.ref ob]) ⟨hx, hb, hml, hown, hts⟩ (tX1_peek (l := l) (dC := dC) (dI := dI) (cB := cB) (ob := ob) (sa := sa) (sb := sb) (mm := mm) (base := base) (R := R) hv5 hCF) (cwV 0 hts gX1_takeLetter_X1_peek rfl rfl rfl (by decide +kernel) ⟨Nat.le_of_ble_eq_true rfl, Nat.le_of_ble_eq_true rfl⟩) hK hP hD (Nat.le_trans hbs hS.1) (fun U hU hW => Env_step rfl rfl hE hS hU hW) 0 rfl rfl (by rfl) hl.1 rfl (Nat.le_of_ble_eq_true rfl) dX1_takeLetter_22 ⟨Nat.zero_le _, Nat.zero_le _⟩ ?_
      refine lv_bipush (v := 97) hx hb dX1_takeLetter_25 (by decide) ?_
      refine lv_isub hx hb dX1_takeLetter_27 ?_
      obtain ⟨K6, eK6, h⟩ := ptF_some h
      refine va_put (D := (dC, dI)) (ci := 2) (v := .int (v5 - 97)) (ty := .int) (C := RX1) (T := TX1) (N := 6) hx hb hts hwX1 tyX1 tyX1_ok nmX1 hown hK hP hD hS 0 rfl rfl 4 (by decide) hf_28 (fun _ h9 => h9) rfl (by decide +kernel) rfl rfl (Nat.le_of_ble_eq_true rfl) dX1_takeLetter_28 (fun H locs hP hD hS => ?_)
      have hP : va_P (dC, dI) vwCl (cmW cB ob sa sb mm K6 ++ R) H := by rw [eK6]; exact hP
      have hD : va_D (aB base) (cmW cB ob sa sb mm K6 ++ R) := by rw [eK6]; exact hD
      have hCF : CF mm K6 := by rw [eK6]; exact CF_pt hCF (by decide)
      refine lv_aload_n hx hb dX1_takeLetter_31 rfl (lv_at hl 0 rfl) ?_
      refine lv_dup hx hb dX1_takeLetter_32 rfl ?_
      refine va_get (D := (dC, dI)) (ci := 2) (v := .int (K6 1 2)) (C := RX1) (T := TX1) (N := 6) hx hb hts hwX1 hown hK hP 0 rfl rfl 1 (by decide) hf_18 (fun _ h9 => h9) rfl dX1_takeLetter_33 ?_
      refine lv_iconst (v := 1) hx hb dX1_takeLetter_36 (by decide) ?_
      refine lv_iadd hx hb dX1_takeLetter_37 ?_
      obtain ⟨K7, eK7, h⟩ := ptF_some h
      refine va_put (D := (dC, dI)) (ci := 2) (v := .int ((K6 1 2) + 1)) (ty := .int) (C := RX1) (T := TX1) (N := 6) hx hb hts hwX1 tyX1 tyX1_ok nmX1 hown hK hP hD hS 0 rfl rfl 1 (by decide) hf_18 (fun _ h9 => h9) rfl (by decide +kernel) rfl rfl (Nat.le_of_ble_eq_true rfl) dX1_takeLetter_38 (fun H locs hP hD hS => ?_)
      have hP : va_P (dC, dI) vwCl (cmW cB ob sa sb mm K7 ++ R) H := by rw [eK7]; exact hP
      have hD : va_D (aB base) (cmW cB ob sa sb mm K7 ++ R) := by rw [eK7]; exact hD
      have hCF : CF mm K7 := by rw [eK7]; exact CF_pt hCF (by decide)
      refine lv_iconst (v := 1) hx hb dX1_takeLetter_41 (by decide) ?_
      exact W.zret hx hb hr (by decide) (fun t ht _ => retC (w := (fun K => (cmW cB ob sa sb mm K ++ R))) (cf := fun K => CF mm K) h hCF hP hD hS ht) hS.2.2 dX1_takeLetter_42
    · replace h := if_n c4 h
      exact t_18  h (lv_sub hl [] rfl) hP hD hS hCF
def mX1_takeSign (N : Nat) (K : KT) (p0 : Int32) : Option (Int32 × KT) := bdP (mX1_peek N K ) (fun v1 => (if v1 = p0 then ptF K 1 2 ((K 1 2) + 1) (fun K3 => some (1, K3)) else some (0, K)))
def rmX1_takeSign : Room := { frames := 6, cells := 0, slots := 0, locals := 180 }
set_option maxHeartbeats 4000000 in
set_option maxRecDepth 100000 in
theorem tX1_takeSign {l : Launch} {dC : Nat → ClassId} {dI : Nat → Nat → Nat} {cB : ClassId} {ob sa sb mm base : Nat} {R : va_W} {N : Nat} {K : KT} {p0 : Int32} {rr : Int32} {KK : KT} (hf : mX1_takeSign N K p0 = some (rr, KK)) (hCF : CF mm K) : Met l yX1_takeSign wsX1_takeSign rmX1_takeSign (cBp (dC, dI) vwCl [(cB, .byte)] base (cmW cB ob sa sb mm K ++ R) [.ref ob, .int p0]) (cBe (dC, dI) vwCl base (some (.int rr)) (fun ws => ws = (cmW cB ob sa sb mm KK ++ R) ∧ CF mm KK)) 0 0 (aB base) := by
  refine Met.ofW (cc := cX1_takeSign) (maxL := 2) (ret := (some .boolean)) (by decide) rfl ?_
  intro p e s m args below meth c s₁ B hml hv
  obtain ⟨rfl, hP, hK, hD, hbs, hE⟩ := hv
  have hx := B.exec
  have hb := B.bytes
  have hr := B.returns
  have hts := atoms_spec (ws := wsX1_takeSign) B.pre
  have hown : s.vm.findClass RX1 = some m.cls := findClass_of_methodNamed B.named
  have hlocks := B.notSynchronized
  have hwX1 : ∀ w ∈ u_ws RX1 TX1 6, w ∈ wsX1_takeSign := by decide +kernel
  have hf_18 := hts (.fieldLink RX1 18 "CaravanLogs$Commands" "at" "I") (by decide +kernel)
  have hS : va_S (aB base) s.heap s.heap [] := va_S.rf
  have hl := lv_entry ([.ref ob, .int p0]) (n := 2) (Nat.le_of_ble_eq_true rfl)
  rw [lg_entry_eq]
  generalize (lg_sl ([.ref ob, .int p0]) ++ List.replicate (2 - (lg_sl ([.ref ob, .int p0])).length) Slot.unset).toArray = ls at hl ⊢
  have hl : lv_has ls 2 [(0, .ref ob), (1, .int p0)] := hl
  have h := hf
  unfold mX1_takeSign at h
  refine lv_aload_n hx hb dX1_takeSign_0 rfl (lv_at hl 0 rfl) ?_
  obtain ⟨v1, hv1, h⟩ := bdP_some h
  refine call_BVP (As := []) (rest := []) ⟨hx, hb, hml, hown, hts⟩ (tX1_peek (l := l) (dC := dC) (dI := dI) (cB := cB) (ob := ob) (sa := sa) (sb := sb) (mm := mm) (base := base) (R := R) hv1 hCF) (cwV 0 hts gX1_takeSign_X1_peek rfl rfl rfl (by decide +kernel) ⟨Nat.le_of_ble_eq_true rfl, Nat.le_of_ble_eq_true rfl⟩) hK hP hD (Nat.le_trans hbs hS.1) (fun U hU hW => Env_step rfl rfl hE hS hU hW) 0 rfl rfl (by rfl) hl.1 rfl (Nat.le_of_ble_eq_true rfl) dX1_takeSign_1 ⟨Nat.zero_le _, Nat.zero_le _⟩ ?_
  refine lv_iload_n hx hb dX1_takeSign_4 rfl (lv_at hl 1 rfl) ?_
  refine lv_icmp_eq (tgt := 10) hx hb dX1_takeSign_5 (by decide) (fun c2 => ?_) (fun c2 => ?_)
  · replace h := if_p c2 h
    refine lv_aload_n hx hb dX1_takeSign_10 rfl (lv_at hl 0 rfl) ?_
    refine lv_dup hx hb dX1_takeSign_11 rfl ?_
    refine va_get (D := (dC, dI)) (ci := 2) (v := .int (K 1 2)) (C := RX1) (T := TX1) (N := 6) hx hb hts hwX1 hown hK hP 0 rfl rfl 1 (by decide) hf_18 (fun _ h9 => h9) rfl dX1_takeSign_12 ?_
    refine lv_iconst (v := 1) hx hb dX1_takeSign_15 (by decide) ?_
    refine lv_iadd hx hb dX1_takeSign_16 ?_
    obtain ⟨K3, eK3, h⟩ := ptF_some h
    refine va_put (D := (dC, dI)) (ci := 2) (v := .int ((K 1 2) + 1)) (ty := .int) (C := RX1) (T := TX1) (N := 6) hx hb hts hwX1 tyX1 tyX1_ok nmX1 hown hK hP hD hS 0 rfl rfl 1 (by decide) hf_18 (fun _ h9 => h9) rfl (by decide +kernel) rfl rfl (Nat.le_of_ble_eq_true rfl) dX1_takeSign_17 (fun H locs hP hD hS => ?_)
    have hP : va_P (dC, dI) vwCl (cmW cB ob sa sb mm K3 ++ R) H := by rw [eK3]; exact hP
    have hD : va_D (aB base) (cmW cB ob sa sb mm K3 ++ R) := by rw [eK3]; exact hD
    have hCF : CF mm K3 := by rw [eK3]; exact CF_pt hCF (by decide)
    refine lv_iconst (v := 1) hx hb dX1_takeSign_20 (by decide) ?_
    exact W.zret hx hb hr (by decide) (fun t ht _ => retC (w := (fun K => (cmW cB ob sa sb mm K ++ R))) (cf := fun K => CF mm K) h hCF hP hD hS ht) hS.2.2 dX1_takeSign_21
  · replace h := if_n c2 h
    refine lv_iconst (v := 0) hx hb dX1_takeSign_8 (by decide) ?_
    exact W.zret hx hb hr (by decide) (fun t ht _ => retC (w := (fun K => (cmW cB ob sa sb mm K ++ R))) (cf := fun K => CF mm K) h hCF hP hD hS ht) hS.2.2 dX1_takeSign_9
def fX1_takeRoad_77 (N : Nat)  (K : KT) (y0 : Int32) : Option (Int32 × KT) := gd (y0 = 0 ∨ y0 = 1) (some (y0, K))
def fX1_takeRoad_72 (N : Nat)  (K : KT)  : Option (Int32 × KT) := fX1_takeRoad_77 N  K 1
def fX1_takeRoad_51 (N : Nat)  (K : KT) (y1 : Int32) : Option (Int32 × KT) := ptF K 1 6 y1 (fun K1 => bdE (mX1_takeSign N K1 43) (fun v2 K3 => (if v2 = 0 then bdE (mX1_takeSign N K3 45) (fun v5 K6 => (if v5 = 0 then fX1_takeRoad_77 N  K6 0 else fX1_takeRoad_72 N  K6 )) else fX1_takeRoad_72 N  K3 )))
def mX1_takeRoad (N : Nat) (K : KT)  : Option (Int32 × KT) := bdE (mX1_takeDigit N K ) (fun v8 K9 => (if v8 = 0 then some (0, K9) else bdE (mX1_takeDigit N K9 ) (fun v11 K12 => (if v11 = 0 then some (0, K12) else ptF K12 1 5 (K12 1 4) (fun K14 => ptF K14 1 4 (K9 1 4) (fun K15 => bdP (mX1_peek N K15 ) (fun v16 => (if v16 = 43 then fX1_takeRoad_51 N  K15 1 else fX1_takeRoad_51 N  K15 0))))))))
def rmX1_takeRoad : Room := { frames := 8, cells := 0, slots := 0, locals := 240 }
set_option maxHeartbeats 4000000 in
set_option maxRecDepth 100000 in
theorem tX1_takeRoad {l : Launch} {dC : Nat → ClassId} {dI : Nat → Nat → Nat} {cB : ClassId} {ob sa sb mm base : Nat} {R : va_W} {N : Nat} {K : KT}  {rr : Int32} {KK : KT} (hf : mX1_takeRoad N K  = some (rr, KK)) (hCF : CF mm K) : Met l yX1_takeRoad wsX1_takeRoad rmX1_takeRoad (cBp (dC, dI) vwCl [(cB, .byte)] base (cmW cB ob sa sb mm K ++ R) [.ref ob]) (cBe (dC, dI) vwCl base (some (.int rr)) (fun ws => ws = (cmW cB ob sa sb mm KK ++ R) ∧ CF mm KK)) 0 0 (aB base) := by
  refine Met.ofW (cc := cX1_takeRoad) (maxL := 2) (ret := (some .boolean)) (by decide) rfl ?_
  intro p e s m args below meth c s₁ B hml hv
  obtain ⟨rfl, hP, hK, hD, hbs, hE⟩ := hv
  have hx := B.exec
  have hb := B.bytes
  have hr := B.returns
  have hts := atoms_spec (ws := wsX1_takeRoad) B.pre
  have hown : s.vm.findClass RX1 = some m.cls := findClass_of_methodNamed B.named
  have hlocks := B.notSynchronized
  have hwX1 : ∀ w ∈ u_ws RX1 TX1 6, w ∈ wsX1_takeRoad := by decide +kernel
  have hf_25 := hts (.fieldLink RX1 25 "CaravanLogs$Commands" "first" "I") (by decide +kernel)
  have hf_28 := hts (.fieldLink RX1 28 "CaravanLogs$Commands" "second" "I") (by decide +kernel)
  have hf_31 := hts (.fieldLink RX1 31 "CaravanLogs$Commands" "third" "I") (by decide +kernel)
  have t_77 : ∀ {K : KT} {y0 : Int32} {H : Heap} {locs : List Loc} {ls : Array Slot} (h : fX1_takeRoad_77 N  K y0 = some (rr, KK)) (hl : lv_has ls 2 []) (hP : va_P (dC, dI) vwCl (cmW cB ob sa sb mm K ++ R) H) (hD : va_D (aB base) (cmW cB ob sa sb mm K ++ R)) (hS : va_S (aB base) s.heap H locs) (hCF : CF mm K), W p l e (headSpec wsX1_takeRoad rmX1_takeRoad).room s m ([.ref ob] : List Value).toArray below meth c H locs 0 0 (MQ below (cBe (dC, dI) vwCl base (some (.int rr)) (fun ws => ws = (cmW cB ob sa sb mm KK ++ R) ∧ CF mm KK)) ([.ref ob] : List Value).toArray s 0 0 (aB base)) (F0 m 77 ls [.int y0]) := by
    intro  K y0 H locs ls h hl hP hD hS hCF
    unfold fX1_takeRoad_77 at h
    obtain ⟨hz, h⟩ := gd_some h
    exact W.zret hx hb hr (zb_ok hz) (fun t ht _ => retC (w := (fun K => (cmW cB ob sa sb mm K ++ R))) (cf := fun K => CF mm K) h hCF hP hD hS ht) hS.2.2 dX1_takeRoad_77
  have t_72 : ∀ {K : KT}  {H : Heap} {locs : List Loc} {ls : Array Slot} (h : fX1_takeRoad_72 N  K  = some (rr, KK)) (hl : lv_has ls 2 []) (hP : va_P (dC, dI) vwCl (cmW cB ob sa sb mm K ++ R) H) (hD : va_D (aB base) (cmW cB ob sa sb mm K ++ R)) (hS : va_S (aB base) s.heap H locs) (hCF : CF mm K), W p l e (headSpec wsX1_takeRoad rmX1_takeRoad).room s m ([.ref ob] : List Value).toArray below meth c H locs 0 0 (MQ below (cBe (dC, dI) vwCl base (some (.int rr)) (fun ws => ws = (cmW cB ob sa sb mm KK ++ R) ∧ CF mm KK)) ([.ref ob] : List Value).toArray s 0 0 (aB base)) (F0 m 72 ls []) := by
    intro  K H locs ls h hl hP hD hS hCF
    unfold fX1_takeRoad_72 at h
    refine lv_iconst (v := 1) hx hb dX1_takeRoad_72 (by decide) ?_
    refine lv_goto (tgt := 77) hx hb dX1_takeRoad_73 (by decide) ?_
    exact t_77  h (lv_sub hl [] rfl) hP hD hS hCF
  have t_51 : ∀ {K : KT} {y1 : Int32} {H : Heap} {locs : List Loc} {ls : Array Slot} (h : fX1_takeRoad_51 N  K y1 = some (rr, KK)) (hl : lv_has ls 2 [(0, .ref ob)]) (hP : va_P (dC, dI) vwCl (cmW cB ob sa sb mm K ++ R) H) (hD : va_D (aB base) (cmW cB ob sa sb mm K ++ R)) (hS : va_S (aB base) s.heap H locs) (hCF : CF mm K), W p l e (headSpec wsX1_takeRoad rmX1_takeRoad).room s m ([.ref ob] : List Value).toArray below meth c H locs 0 0 (MQ below (cBe (dC, dI) vwCl base (some (.int rr)) (fun ws => ws = (cmW cB ob sa sb mm KK ++ R) ∧ CF mm KK)) ([.ref ob] : List Value).toArray s 0 0 (aB base)) (F0 m 51 ls [.int y1, .ref ob]) := by
    intro  K y1 H locs ls h hl hP hD hS hCF
    unfold fX1_takeRoad_51 at h
    obtain ⟨K1, eK1, h⟩ := ptF_some h
    refine va_put (D := (dC, dI)) (ci := 2) (v := .int y1) (ty := .int) (C := RX1) (T := TX1) (N := 6) hx hb hts hwX1 tyX1 tyX1_ok nmX1 hown hK hP hD hS 0 rfl rfl 5 (by decide) hf_31 (fun _ h9 => h9) rfl (by decide +kernel) rfl rfl (Nat.le_of_ble_eq_true rfl) dX1_takeRoad_51 (fun H locs hP hD hS => ?_)
    have hP : va_P (dC, dI) vwCl (cmW cB ob sa sb mm K1 ++ R) H := by rw [eK1]; exact hP
    have hD : va_D (aB base) (cmW cB ob sa sb mm K1 ++ R) := by rw [eK1]; exact hD
    have hCF : CF mm K1 := by rw [eK1]; exact CF_pt hCF (by decide)
    refine lv_aload_n hx hb dX1_takeRoad_54 rfl (lv_at hl 0 rfl) ?_
    refine lv_bipush (v := 43) hx hb dX1_takeRoad_55 (by decide) ?_
    obtain ⟨v2, K3, hv2, h⟩ := bdE_some h
    refine call_BVE (As := [.int 43]) (rest := []) ⟨hx, hb, hml, hown, hts⟩ (tX1_takeSign (l := l) (dC := dC) (dI := dI) (cB := cB) (ob := ob) (sa := sa) (sb := sb) (mm := mm) (base := base) (R := R) hv2 hCF) (cwV 1 hts gX1_takeRoad_X1_takeSign rfl rfl rfl (by decide +kernel) ⟨Nat.le_of_ble_eq_true rfl, Nat.le_of_ble_eq_true rfl⟩) hK hP hD hS (Nat.le_trans hbs hS.1) (fun U hU hW => Env_step rfl rfl hE hS hU hW) 0 rfl rfl (by rfl) hl.1 rfl (Nat.le_of_ble_eq_true rfl) dX1_takeRoad_57 ⟨Nat.zero_le _, Nat.zero_le _⟩ (fun H locs ws9 hW9 hP hD _ hS => ?_)
    obtain ⟨rfl, hCF⟩ := hW9
    refine lv_if_ne (tgt := 72) hx hb dX1_takeRoad_60 (by decide) (fun c4 => ?_) (fun c4 => ?_)
    · replace h := if_n c4 h
      exact t_72  h (lv_sub hl [] rfl) hP hD hS hCF
    · replace h := if_p c4 h
      refine lv_aload_n hx hb dX1_takeRoad_63 rfl (lv_at hl 0 rfl) ?_
      refine lv_bipush (v := 45) hx hb dX1_takeRoad_64 (by decide) ?_
      obtain ⟨v5, K6, hv5, h⟩ := bdE_some h
      refine call_BVE (As := [.int 45]) (rest := []) ⟨hx, hb, hml, hown, hts⟩ (tX1_takeSign (l := l) (dC := dC) (dI := dI) (cB := cB) (ob := ob) (sa := sa) (sb := sb) (mm := mm) (base := base) (R := R) hv5 hCF) (cwV 1 hts gX1_takeRoad_X1_takeSign rfl rfl rfl (by decide +kernel) ⟨Nat.le_of_ble_eq_true rfl, Nat.le_of_ble_eq_true rfl⟩) hK hP hD hS (Nat.le_trans hbs hS.1) (fun U hU hW => Env_step rfl rfl hE hS hU hW) 0 rfl rfl (by rfl) hl.1 rfl (Nat.le_of_ble_eq_true rfl) dX1_takeRoad_66 ⟨Nat.zero_le _, Nat.zero_le _⟩ (fun H locs ws9 hW9 hP hD _ hS => ?_)
      obtain ⟨rfl, hCF⟩ := hW9
      refine lv_if_eq (tgt := 76) hx hb dX1_takeRoad_69 (by decide) (fun c7 => ?_) (fun c7 => ?_)
      · replace h := if_p c7 h
        refine lv_iconst (v := 0) hx hb dX1_takeRoad_76 (by decide) ?_
        exact t_77  h (lv_sub hl [] rfl) hP hD hS hCF
      · replace h := if_n c7 h
        exact t_72  h (lv_sub hl [] rfl) hP hD hS hCF
  have hS : va_S (aB base) s.heap s.heap [] := va_S.rf
  have hl := lv_entry ([.ref ob]) (n := 2) (Nat.le_of_ble_eq_true rfl)
  rw [lg_entry_eq]
  generalize (lg_sl ([.ref ob]) ++ List.replicate (2 - (lg_sl ([.ref ob])).length) Slot.unset).toArray = ls at hl ⊢
  have hl : lv_has ls 2 [(0, .ref ob)] := hl
  have h := hf
  unfold mX1_takeRoad at h
  refine lv_aload_n hx hb dX1_takeRoad_0 rfl (lv_at hl 0 rfl) ?_
  obtain ⟨v8, K9, hv8, h⟩ := bdE_some h
  refine call_BVE (As := []) (rest := []) ⟨hx, hb, hml, hown, hts⟩ (tX1_takeDigit (l := l) (dC := dC) (dI := dI) (cB := cB) (ob := ob) (sa := sa) (sb := sb) (mm := mm) (base := base) (R := R) hv8 hCF) (cwV 0 hts gX1_takeRoad_X1_takeDigit rfl rfl rfl (by decide +kernel) ⟨Nat.le_of_ble_eq_true rfl, Nat.le_of_ble_eq_true rfl⟩) hK hP hD hS (Nat.le_trans hbs hS.1) (fun U hU hW => Env_step rfl rfl hE hS hU hW) 0 rfl rfl (by rfl) hl.1 rfl (Nat.le_of_ble_eq_true rfl) dX1_takeRoad_1 ⟨Nat.zero_le _, Nat.zero_le _⟩ (fun H locs ws9 hW9 hP hD _ hS => ?_)
  obtain ⟨rfl, hCF⟩ := hW9
  refine lv_if_ne (tgt := 9) hx hb dX1_takeRoad_4 (by decide) (fun c10 => ?_) (fun c10 => ?_)
  · replace h := if_n c10 h
    refine lv_aload_n hx hb dX1_takeRoad_9 rfl (lv_at hl 0 rfl) ?_
    refine va_get (D := (dC, dI)) (ci := 2) (v := .int (K9 1 4)) (C := RX1) (T := TX1) (N := 6) hx hb hts hwX1 hown hK hP 0 rfl rfl 3 (by decide) hf_25 (fun _ h9 => h9) rfl dX1_takeRoad_10 ?_
    refine lv_istore_n (lv' := [(1, .int (K9 1 4)), (0, .ref ob)]) hx hb dX1_takeRoad_13 rfl hl (by decide) rfl (fun ls hl => ?_)
    refine lv_aload_n hx hb dX1_takeRoad_14 rfl (lv_at hl 1 rfl) ?_
    obtain ⟨v11, K12, hv11, h⟩ := bdE_some h
    refine call_BVE (As := []) (rest := []) ⟨hx, hb, hml, hown, hts⟩ (tX1_takeDigit (l := l) (dC := dC) (dI := dI) (cB := cB) (ob := ob) (sa := sa) (sb := sb) (mm := mm) (base := base) (R := R) hv11 hCF) (cwV 0 hts gX1_takeRoad_X1_takeDigit rfl rfl rfl (by decide +kernel) ⟨Nat.le_of_ble_eq_true rfl, Nat.le_of_ble_eq_true rfl⟩) hK hP hD hS (Nat.le_trans hbs hS.1) (fun U hU hW => Env_step rfl rfl hE hS hU hW) 0 rfl rfl (by rfl) hl.1 rfl (Nat.le_of_ble_eq_true rfl) dX1_takeRoad_15 ⟨Nat.zero_le _, Nat.zero_le _⟩ (fun H locs ws9 hW9 hP hD _ hS => ?_)
    obtain ⟨rfl, hCF⟩ := hW9
    refine lv_if_ne (tgt := 23) hx hb dX1_takeRoad_18 (by decide) (fun c13 => ?_) (fun c13 => ?_)
    · replace h := if_n c13 h
      refine lv_aload_n hx hb dX1_takeRoad_23 rfl (lv_at hl 1 rfl) ?_
      refine lv_aload_n hx hb dX1_takeRoad_24 rfl (lv_at hl 1 rfl) ?_
      refine va_get (D := (dC, dI)) (ci := 2) (v := .int (K12 1 4)) (C := RX1) (T := TX1) (N := 6) hx hb hts hwX1 hown hK hP 0 rfl rfl 3 (by decide) hf_25 (fun _ h9 => h9) rfl dX1_takeRoad_25 ?_
      obtain ⟨K14, eK14, h⟩ := ptF_some h
      refine va_put (D := (dC, dI)) (ci := 2) (v := .int (K12 1 4)) (ty := .int) (C := RX1) (T := TX1) (N := 6) hx hb hts hwX1 tyX1 tyX1_ok nmX1 hown hK hP hD hS 0 rfl rfl 4 (by decide) hf_28 (fun _ h9 => h9) rfl (by decide +kernel) rfl rfl (Nat.le_of_ble_eq_true rfl) dX1_takeRoad_28 (fun H locs hP hD hS => ?_)
      have hP : va_P (dC, dI) vwCl (cmW cB ob sa sb mm K14 ++ R) H := by rw [eK14]; exact hP
      have hD : va_D (aB base) (cmW cB ob sa sb mm K14 ++ R) := by rw [eK14]; exact hD
      have hCF : CF mm K14 := by rw [eK14]; exact CF_pt hCF (by decide)
      refine lv_aload_n hx hb dX1_takeRoad_31 rfl (lv_at hl 1 rfl) ?_
      refine lv_iload_n hx hb dX1_takeRoad_32 rfl (lv_at hl 0 rfl) ?_
      obtain ⟨K15, eK15, h⟩ := ptF_some h
      refine va_put (D := (dC, dI)) (ci := 2) (v := .int (K9 1 4)) (ty := .int) (C := RX1) (T := TX1) (N := 6) hx hb hts hwX1 tyX1 tyX1_ok nmX1 hown hK hP hD hS 0 rfl rfl 3 (by decide) hf_25 (fun _ h9 => h9) rfl (by decide +kernel) rfl rfl (Nat.le_of_ble_eq_true rfl) dX1_takeRoad_33 (fun H locs hP hD hS => ?_)
      have hP : va_P (dC, dI) vwCl (cmW cB ob sa sb mm K15 ++ R) H := by rw [eK15]; exact hP
      have hD : va_D (aB base) (cmW cB ob sa sb mm K15 ++ R) := by rw [eK15]; exact hD
      have hCF : CF mm K15 := by rw [eK15]; exact CF_pt hCF (by decide)
      refine lv_aload_n hx hb dX1_takeRoad_36 rfl (lv_at hl 1 rfl) ?_
      refine lv_aload_n hx hb dX1_takeRoad_37 rfl (lv_at hl 1 rfl) ?_
      obtain ⟨v16, hv16, h⟩ := bdP_some h
      refine call_BVP (As := []) (rest := [.ref ob]) ⟨hx, hb, hml, hown, hts⟩ (tX1_peek (l := l) (dC := dC) (dI := dI) (cB := cB) (ob := ob) (sa := sa) (sb := sb) (mm := mm) (base := base) (R := R) hv16 hCF) (cwV 0 hts gX1_takeRoad_X1_peek rfl rfl rfl (by decide +kernel) ⟨Nat.le_of_ble_eq_true rfl, Nat.le_of_ble_eq_true rfl⟩) hK hP hD (Nat.le_trans hbs hS.1) (fun U hU hW => Env_step rfl rfl hE hS hU hW) 0 rfl rfl (by rfl) hl.1 rfl (Nat.le_of_ble_eq_true rfl) dX1_takeRoad_38 ⟨Nat.zero_le _, Nat.zero_le _⟩ ?_
      refine lv_bipush (v := 43) hx hb dX1_takeRoad_41 (by decide) ?_
      refine lv_icmp_ne (tgt := 50) hx hb dX1_takeRoad_43 (by decide) (fun c17 => ?_) (fun c17 => ?_)
      · replace h := if_n c17 h
        refine lv_iconst (v := 0) hx hb dX1_takeRoad_50 (by decide) ?_
        exact t_51  h (lv_sub hl [1] rfl) hP hD hS hCF
      · replace h := if_p c17 h
        refine lv_iconst (v := 1) hx hb dX1_takeRoad_46 (by decide) ?_
        refine lv_goto (tgt := 51) hx hb dX1_takeRoad_47 (by decide) ?_
        exact t_51  h (lv_sub hl [1] rfl) hP hD hS hCF
    · replace h := if_p c13 h
      refine lv_iconst (v := 0) hx hb dX1_takeRoad_21 (by decide) ?_
      exact W.zret hx hb hr (by decide) (fun t ht _ => retC (w := (fun K => (cmW cB ob sa sb mm K ++ R))) (cf := fun K => CF mm K) h hCF hP hD hS ht) hS.2.2 dX1_takeRoad_22
  · replace h := if_p c10 h
    refine lv_iconst (v := 0) hx hb dX1_takeRoad_7 (by decide) ?_
    exact W.zret hx hb hr (by decide) (fun t ht _ => retC (w := (fun K => (cmW cB ob sa sb mm K ++ R))) (cf := fun K => CF mm K) h hCF hP hD hS ht) hS.2.2 dX1_takeRoad_8
def fX1_takeNumber_45 (N : Nat)  (K : KT)  : Option (Int32 × KT) := some (1, K)
def mX1_takeNumber (N : Nat) (K : KT)  : Option (Int32 × KT) := bdE (mX1_takeDigit N K ) (fun v1 K2 => (if v1 = 0 then some (0, K2) else bdP (mX1_isAtDigit N K2 ) (fun v4 => (if v4 = 0 then fX1_takeNumber_45 N  K2  else bdP (mX1_peek N K2 ) (fun v6 => ptF K2 1 4 ((((K2 1 4) * 10) + v6) - 48) (fun K7 => ptF K7 1 2 ((K7 1 2) + 1) (fun K8 => fX1_takeNumber_45 N  K8 )))))))
def rmX1_takeNumber : Room := { frames := 8, cells := 0, slots := 0, locals := 240 }
set_option maxHeartbeats 4000000 in
set_option maxRecDepth 100000 in
theorem tX1_takeNumber {l : Launch} {dC : Nat → ClassId} {dI : Nat → Nat → Nat} {cB : ClassId} {ob sa sb mm base : Nat} {R : va_W} {N : Nat} {K : KT}  {rr : Int32} {KK : KT} (hf : mX1_takeNumber N K  = some (rr, KK)) (hCF : CF mm K) : Met l yX1_takeNumber wsX1_takeNumber rmX1_takeNumber (cBp (dC, dI) vwCl [(cB, .byte)] base (cmW cB ob sa sb mm K ++ R) [.ref ob]) (cBe (dC, dI) vwCl base (some (.int rr)) (fun ws => ws = (cmW cB ob sa sb mm KK ++ R) ∧ CF mm KK)) 0 0 (aB base) := by
  refine Met.ofW (cc := cX1_takeNumber) (maxL := 1) (ret := (some .boolean)) (by decide) rfl ?_
  intro p e s m args below meth c s₁ B hml hv
  obtain ⟨rfl, hP, hK, hD, hbs, hE⟩ := hv
  have hx := B.exec
  have hb := B.bytes
  have hr := B.returns
  have hts := atoms_spec (ws := wsX1_takeNumber) B.pre
  have hown : s.vm.findClass RX1 = some m.cls := findClass_of_methodNamed B.named
  have hlocks := B.notSynchronized
  have hwX1 : ∀ w ∈ u_ws RX1 TX1 6, w ∈ wsX1_takeNumber := by decide +kernel
  have hf_18 := hts (.fieldLink RX1 18 "CaravanLogs$Commands" "at" "I") (by decide +kernel)
  have hf_25 := hts (.fieldLink RX1 25 "CaravanLogs$Commands" "first" "I") (by decide +kernel)
  have t_45 : ∀ {K : KT}  {H : Heap} {locs : List Loc} {ls : Array Slot} (h : fX1_takeNumber_45 N  K  = some (rr, KK)) (hl : lv_has ls 1 []) (hP : va_P (dC, dI) vwCl (cmW cB ob sa sb mm K ++ R) H) (hD : va_D (aB base) (cmW cB ob sa sb mm K ++ R)) (hS : va_S (aB base) s.heap H locs) (hCF : CF mm K), W p l e (headSpec wsX1_takeNumber rmX1_takeNumber).room s m ([.ref ob] : List Value).toArray below meth c H locs 0 0 (MQ below (cBe (dC, dI) vwCl base (some (.int rr)) (fun ws => ws = (cmW cB ob sa sb mm KK ++ R) ∧ CF mm KK)) ([.ref ob] : List Value).toArray s 0 0 (aB base)) (F0 m 45 ls []) := by
    intro  K H locs ls h hl hP hD hS hCF
    unfold fX1_takeNumber_45 at h
    refine lv_iconst (v := 1) hx hb dX1_takeNumber_45 (by decide) ?_
    exact W.zret hx hb hr (by decide) (fun t ht _ => retC (w := (fun K => (cmW cB ob sa sb mm K ++ R))) (cf := fun K => CF mm K) h hCF hP hD hS ht) hS.2.2 dX1_takeNumber_46
  have hS : va_S (aB base) s.heap s.heap [] := va_S.rf
  have hl := lv_entry ([.ref ob]) (n := 1) (Nat.le_of_ble_eq_true rfl)
  rw [lg_entry_eq]
  generalize (lg_sl ([.ref ob]) ++ List.replicate (1 - (lg_sl ([.ref ob])).length) Slot.unset).toArray = ls at hl ⊢
  have hl : lv_has ls 1 [(0, .ref ob)] := hl
  have h := hf
  unfold mX1_takeNumber at h
  refine lv_aload_n hx hb dX1_takeNumber_0 rfl (lv_at hl 0 rfl) ?_
  obtain ⟨v1, K2, hv1, h⟩ := bdE_some h
  refine call_BVE (As := []) (rest := []) ⟨hx, hb, hml, hown, hts⟩ (tX1_takeDigit (l := l) (dC := dC) (dI := dI) (cB := cB) (ob := ob) (sa := sa) (sb := sb) (mm := mm) (base := base) (R := R) hv1 hCF) (cwV 0 hts gX1_takeNumber_X1_takeDigit rfl rfl rfl (by decide +kernel) ⟨Nat.le_of_ble_eq_true rfl, Nat.le_of_ble_eq_true rfl⟩) hK hP hD hS (Nat.le_trans hbs hS.1) (fun U hU hW => Env_step rfl rfl hE hS hU hW) 0 rfl rfl (by rfl) hl.1 rfl (Nat.le_of_ble_eq_true rfl) dX1_takeNumber_1 ⟨Nat.zero_le _, Nat.zero_le _⟩ (fun H locs ws9 hW9 hP hD _ hS => ?_)
  obtain ⟨rfl, hCF⟩ := hW9
  refine lv_if_ne (tgt := 9) hx hb dX1_takeNumber_4 (by decide) (fun c3 => ?_) (fun c3 => ?_)
  · replace h := if_n c3 h
    refine lv_aload_n hx hb dX1_takeNumber_9 rfl (lv_at hl 0 rfl) ?_
    obtain ⟨v4, hv4, h⟩ := bdP_some h
    refine call_BVP (As := []) (rest := []) ⟨hx, hb, hml, hown, hts⟩ (tX1_isAtDigit (l := l) (dC := dC) (dI := dI) (cB := cB) (ob := ob) (sa := sa) (sb := sb) (mm := mm) (base := base) (R := R) hv4 hCF) (cwV 0 hts gX1_takeNumber_X1_isAtDigit rfl rfl rfl (by decide +kernel) ⟨Nat.le_of_ble_eq_true rfl, Nat.le_of_ble_eq_true rfl⟩) hK hP hD (Nat.le_trans hbs hS.1) (fun U hU hW => Env_step rfl rfl hE hS hU hW) 0 rfl rfl (by rfl) hl.1 rfl (Nat.le_of_ble_eq_true rfl) dX1_takeNumber_10 ⟨Nat.zero_le _, Nat.zero_le _⟩ ?_
    refine lv_if_eq (tgt := 45) hx hb dX1_takeNumber_13 (by decide) (fun c5 => ?_) (fun c5 => ?_)
    · replace h := if_p c5 h
      exact t_45  h (lv_sub hl [] rfl) hP hD hS hCF
    · replace h := if_n c5 h
      refine lv_aload_n hx hb dX1_takeNumber_16 rfl (lv_at hl 0 rfl) ?_
      refine lv_aload_n hx hb dX1_takeNumber_17 rfl (lv_at hl 0 rfl) ?_
      refine va_get (D := (dC, dI)) (ci := 2) (v := .int (K2 1 4)) (C := RX1) (T := TX1) (N := 6) hx hb hts hwX1 hown hK hP 0 rfl rfl 3 (by decide) hf_25 (fun _ h9 => h9) rfl dX1_takeNumber_18 ?_
      refine lv_bipush (v := 10) hx hb dX1_takeNumber_21 (by decide) ?_
      refine lv_imul hx hb dX1_takeNumber_23 ?_
      refine lv_aload_n hx hb dX1_takeNumber_24 rfl (lv_at hl 0 rfl) ?_
      obtain ⟨v6, hv6, h⟩ := bdP_some h
      refine call_BVP (As := []) (rest := [.int ((K2 1 4) * 10), .ref ob]) ⟨hx, hb, hml, hown, hts⟩ (tX1_peek (l := l) (dC := dC) (dI := dI) (cB := cB) (ob := ob) (sa := sa) (sb := sb) (mm := mm) (base := base) (R := R) hv6 hCF) (cwV 0 hts gX1_takeNumber_X1_peek rfl rfl rfl (by decide +kernel) ⟨Nat.le_of_ble_eq_true rfl, Nat.le_of_ble_eq_true rfl⟩) hK hP hD (Nat.le_trans hbs hS.1) (fun U hU hW => Env_step rfl rfl hE hS hU hW) 0 rfl rfl (by rfl) hl.1 rfl (Nat.le_of_ble_eq_true rfl) dX1_takeNumber_25 ⟨Nat.zero_le _, Nat.zero_le _⟩ ?_
      refine lv_iadd hx hb dX1_takeNumber_28 ?_
      refine lv_bipush (v := 48) hx hb dX1_takeNumber_29 (by decide) ?_
      refine lv_isub hx hb dX1_takeNumber_31 ?_
      obtain ⟨K7, eK7, h⟩ := ptF_some h
      refine va_put (D := (dC, dI)) (ci := 2) (v := .int ((((K2 1 4) * 10) + v6) - 48)) (ty := .int) (C := RX1) (T := TX1) (N := 6) hx hb hts hwX1 tyX1 tyX1_ok nmX1 hown hK hP hD hS 0 rfl rfl 3 (by decide) hf_25 (fun _ h9 => h9) rfl (by decide +kernel) rfl rfl (Nat.le_of_ble_eq_true rfl) dX1_takeNumber_32 (fun H locs hP hD hS => ?_)
      have hP : va_P (dC, dI) vwCl (cmW cB ob sa sb mm K7 ++ R) H := by rw [eK7]; exact hP
      have hD : va_D (aB base) (cmW cB ob sa sb mm K7 ++ R) := by rw [eK7]; exact hD
      have hCF : CF mm K7 := by rw [eK7]; exact CF_pt hCF (by decide)
      refine lv_aload_n hx hb dX1_takeNumber_35 rfl (lv_at hl 0 rfl) ?_
      refine lv_dup hx hb dX1_takeNumber_36 rfl ?_
      refine va_get (D := (dC, dI)) (ci := 2) (v := .int (K7 1 2)) (C := RX1) (T := TX1) (N := 6) hx hb hts hwX1 hown hK hP 0 rfl rfl 1 (by decide) hf_18 (fun _ h9 => h9) rfl dX1_takeNumber_37 ?_
      refine lv_iconst (v := 1) hx hb dX1_takeNumber_40 (by decide) ?_
      refine lv_iadd hx hb dX1_takeNumber_41 ?_
      obtain ⟨K8, eK8, h⟩ := ptF_some h
      refine va_put (D := (dC, dI)) (ci := 2) (v := .int ((K7 1 2) + 1)) (ty := .int) (C := RX1) (T := TX1) (N := 6) hx hb hts hwX1 tyX1 tyX1_ok nmX1 hown hK hP hD hS 0 rfl rfl 1 (by decide) hf_18 (fun _ h9 => h9) rfl (by decide +kernel) rfl rfl (Nat.le_of_ble_eq_true rfl) dX1_takeNumber_42 (fun H locs hP hD hS => ?_)
      have hP : va_P (dC, dI) vwCl (cmW cB ob sa sb mm K8 ++ R) H := by rw [eK8]; exact hP
      have hD : va_D (aB base) (cmW cB ob sa sb mm K8 ++ R) := by rw [eK8]; exact hD
      have hCF : CF mm K8 := by rw [eK8]; exact CF_pt hCF (by decide)
      exact t_45  h (lv_sub hl [] rfl) hP hD hS hCF
  · replace h := if_p c3 h
    refine lv_iconst (v := 0) hx hb dX1_takeNumber_7 (by decide) ?_
    exact W.zret hx hb hr (by decide) (fun t ht _ => retC (w := (fun K => (cmW cB ob sa sb mm K ++ R))) (cf := fun K => CF mm K) h hCF hP hD hS ht) hS.2.2 dX1_takeNumber_8
def fX1_takeCommand_120 (N : Nat)  (K : KT)  : Option (Int32 × KT) := ptF K 1 2 ((K 1 2) + 1) (fun K1 => bdE (mX1_takeDigit N K1 ) (fun v2 K3 => gd (v2 = 0 ∨ v2 = 1) (some (v2, K3))))
def fX1_takeCommand_164 (N : Nat)  (K : KT) (y0 : Int32) : Option (Int32 × KT) := gd (y0 = 0 ∨ y0 = 1) (some (y0, K))
def fX1_takeCommand_163 (N : Nat)  (K : KT)  : Option (Int32 × KT) := fX1_takeCommand_164 N  K 0
def fX1_takeCommand_195 (N : Nat)  (K : KT)  : Option (Int32 × KT) := some (0, K)
def mX1_takeCommand (N : Nat) (K : KT)  : Option (Int32 × KT) := bdP (mX1_peek N K ) (fun v4 => ptF K 1 3 v4 (fun K5 => (if (K5 1 3) = 100 then fX1_takeCommand_120 N  K5  else (if (K5 1 3) = 101 then fX1_takeCommand_195 N  K5  else (if (K5 1 3) = 102 then fX1_takeCommand_195 N  K5  else (if (K5 1 3) = 103 then fX1_takeCommand_195 N  K5  else (if (K5 1 3) = 104 then fX1_takeCommand_195 N  K5  else (if (K5 1 3) = 105 then fX1_takeCommand_195 N  K5  else (if (K5 1 3) = 106 then fX1_takeCommand_195 N  K5  else (if (K5 1 3) = 107 then fX1_takeCommand_120 N  K5  else (if (K5 1 3) = 108 then fX1_takeCommand_195 N  K5  else (if (K5 1 3) = 109 then fX1_takeCommand_120 N  K5  else (if (K5 1 3) = 110 then fX1_takeCommand_195 N  K5  else (if (K5 1 3) = 111 then fX1_takeCommand_195 N  K5  else (if (K5 1 3) = 112 then ptF K5 1 2 ((K5 1 2) + 1) (fun K19 => bdE (mX1_takeNumber N K19 ) (fun v20 K21 => gd (v20 = 0 ∨ v20 = 1) (some (v20, K21)))) else (if (K5 1 3) = 113 then fX1_takeCommand_195 N  K5  else (if (K5 1 3) = 114 then ptF K5 1 2 ((K5 1 2) + 1) (fun K24 => bdE (mX1_takeRoad N K24 ) (fun v25 K26 => gd (v25 = 0 ∨ v25 = 1) (some (v25, K26)))) else (if (K5 1 3) = 115 then fX1_takeCommand_195 N  K5  else (if (K5 1 3) = 116 then fX1_takeCommand_195 N  K5  else (if (K5 1 3) = 117 then fX1_takeCommand_195 N  K5  else (if (K5 1 3) = 118 then fX1_takeCommand_195 N  K5  else (if (K5 1 3) = 119 then ptF K5 1 2 ((K5 1 2) + 1) (fun K32 => bdE (mX1_takeDigit N K32 ) (fun v33 K34 => (if v33 = 0 then fX1_takeCommand_163 N  K34  else bdE (mX1_takeLetter N K34 ) (fun v36 K37 => (if v36 = 0 then fX1_takeCommand_163 N  K37  else fX1_takeCommand_164 N  K37 1))))) else (if (K5 1 3) = 120 then fX1_takeCommand_195 N  K5  else (if (K5 1 3) = 121 then fX1_takeCommand_195 N  K5  else (if (K5 1 3) = 122 then fX1_takeCommand_120 N  K5  else fX1_takeCommand_195 N  K5 )))))))))))))))))))))))))
def rmX1_takeCommand : Room := { frames := 9, cells := 0, slots := 0, locals := 270 }
set_option maxHeartbeats 4000000 in
set_option maxRecDepth 100000 in
theorem tX1_takeCommand {l : Launch} {dC : Nat → ClassId} {dI : Nat → Nat → Nat} {cB : ClassId} {ob sa sb mm base : Nat} {R : va_W} {N : Nat} {K : KT}  {rr : Int32} {KK : KT} (hf : mX1_takeCommand N K  = some (rr, KK)) (hCF : CF mm K) : Met l yX1_takeCommand wsX1_takeCommand rmX1_takeCommand (cBp (dC, dI) vwCl [(cB, .byte)] base (cmW cB ob sa sb mm K ++ R) [.ref ob]) (cBe (dC, dI) vwCl base (some (.int rr)) (fun ws => ws = (cmW cB ob sa sb mm KK ++ R) ∧ CF mm KK)) 0 0 (aB base) := by
  refine Met.ofW (cc := cX1_takeCommand) (maxL := 1) (ret := (some .boolean)) (by decide) rfl ?_
  intro p e s m args below meth c s₁ B hml hv
  obtain ⟨rfl, hP, hK, hD, hbs, hE⟩ := hv
  have hx := B.exec
  have hb := B.bytes
  have hr := B.returns
  have hts := atoms_spec (ws := wsX1_takeCommand) B.pre
  have hown : s.vm.findClass RX1 = some m.cls := findClass_of_methodNamed B.named
  have hlocks := B.notSynchronized
  have hwX1 : ∀ w ∈ u_ws RX1 TX1 6, w ∈ wsX1_takeCommand := by decide +kernel
  have hf_18 := hts (.fieldLink RX1 18 "CaravanLogs$Commands" "at" "I") (by decide +kernel)
  have hf_22 := hts (.fieldLink RX1 22 "CaravanLogs$Commands" "kind" "I") (by decide +kernel)
  have t_120 : ∀ {K : KT}  {H : Heap} {locs : List Loc} {ls : Array Slot} (h : fX1_takeCommand_120 N  K  = some (rr, KK)) (hl : lv_has ls 1 [(0, .ref ob)]) (hP : va_P (dC, dI) vwCl (cmW cB ob sa sb mm K ++ R) H) (hD : va_D (aB base) (cmW cB ob sa sb mm K ++ R)) (hS : va_S (aB base) s.heap H locs) (hCF : CF mm K), W p l e (headSpec wsX1_takeCommand rmX1_takeCommand).room s m ([.ref ob] : List Value).toArray below meth c H locs 0 0 (MQ below (cBe (dC, dI) vwCl base (some (.int rr)) (fun ws => ws = (cmW cB ob sa sb mm KK ++ R) ∧ CF mm KK)) ([.ref ob] : List Value).toArray s 0 0 (aB base)) (F0 m 120 ls []) := by
    intro  K H locs ls h hl hP hD hS hCF
    unfold fX1_takeCommand_120 at h
    refine lv_aload_n hx hb dX1_takeCommand_120 rfl (lv_at hl 0 rfl) ?_
    refine lv_dup hx hb dX1_takeCommand_121 rfl ?_
    refine va_get (D := (dC, dI)) (ci := 2) (v := .int (K 1 2)) (C := RX1) (T := TX1) (N := 6) hx hb hts hwX1 hown hK hP 0 rfl rfl 1 (by decide) hf_18 (fun _ h9 => h9) rfl dX1_takeCommand_122 ?_
    refine lv_iconst (v := 1) hx hb dX1_takeCommand_125 (by decide) ?_
    refine lv_iadd hx hb dX1_takeCommand_126 ?_
    obtain ⟨K1, eK1, h⟩ := ptF_some h
    refine va_put (D := (dC, dI)) (ci := 2) (v := .int ((K 1 2) + 1)) (ty := .int) (C := RX1) (T := TX1) (N := 6) hx hb hts hwX1 tyX1 tyX1_ok nmX1 hown hK hP hD hS 0 rfl rfl 1 (by decide) hf_18 (fun _ h9 => h9) rfl (by decide +kernel) rfl rfl (Nat.le_of_ble_eq_true rfl) dX1_takeCommand_127 (fun H locs hP hD hS => ?_)
    have hP : va_P (dC, dI) vwCl (cmW cB ob sa sb mm K1 ++ R) H := by rw [eK1]; exact hP
    have hD : va_D (aB base) (cmW cB ob sa sb mm K1 ++ R) := by rw [eK1]; exact hD
    have hCF : CF mm K1 := by rw [eK1]; exact CF_pt hCF (by decide)
    refine lv_aload_n hx hb dX1_takeCommand_130 rfl (lv_at hl 0 rfl) ?_
    obtain ⟨v2, K3, hv2, h⟩ := bdE_some h
    refine call_BVE (As := []) (rest := []) ⟨hx, hb, hml, hown, hts⟩ (tX1_takeDigit (l := l) (dC := dC) (dI := dI) (cB := cB) (ob := ob) (sa := sa) (sb := sb) (mm := mm) (base := base) (R := R) hv2 hCF) (cwV 0 hts gX1_takeCommand_X1_takeDigit rfl rfl rfl (by decide +kernel) ⟨Nat.le_of_ble_eq_true rfl, Nat.le_of_ble_eq_true rfl⟩) hK hP hD hS (Nat.le_trans hbs hS.1) (fun U hU hW => Env_step rfl rfl hE hS hU hW) 0 rfl rfl (by rfl) hl.1 rfl (Nat.le_of_ble_eq_true rfl) dX1_takeCommand_131 ⟨Nat.zero_le _, Nat.zero_le _⟩ (fun H locs ws9 hW9 hP hD _ hS => ?_)
    obtain ⟨rfl, hCF⟩ := hW9
    obtain ⟨hz, h⟩ := gd_some h
    exact W.zret hx hb hr (zb_ok hz) (fun t ht _ => retC (w := (fun K => (cmW cB ob sa sb mm K ++ R))) (cf := fun K => CF mm K) h hCF hP hD hS ht) hS.2.2 dX1_takeCommand_134
  have t_164 : ∀ {K : KT} {y0 : Int32} {H : Heap} {locs : List Loc} {ls : Array Slot} (h : fX1_takeCommand_164 N  K y0 = some (rr, KK)) (hl : lv_has ls 1 []) (hP : va_P (dC, dI) vwCl (cmW cB ob sa sb mm K ++ R) H) (hD : va_D (aB base) (cmW cB ob sa sb mm K ++ R)) (hS : va_S (aB base) s.heap H locs) (hCF : CF mm K), W p l e (headSpec wsX1_takeCommand rmX1_takeCommand).room s m ([.ref ob] : List Value).toArray below meth c H locs 0 0 (MQ below (cBe (dC, dI) vwCl base (some (.int rr)) (fun ws => ws = (cmW cB ob sa sb mm KK ++ R) ∧ CF mm KK)) ([.ref ob] : List Value).toArray s 0 0 (aB base)) (F0 m 164 ls [.int y0]) := by
    intro  K y0 H locs ls h hl hP hD hS hCF
    unfold fX1_takeCommand_164 at h
    obtain ⟨hz, h⟩ := gd_some h
    exact W.zret hx hb hr (zb_ok hz) (fun t ht _ => retC (w := (fun K => (cmW cB ob sa sb mm K ++ R))) (cf := fun K => CF mm K) h hCF hP hD hS ht) hS.2.2 dX1_takeCommand_164
  have t_163 : ∀ {K : KT}  {H : Heap} {locs : List Loc} {ls : Array Slot} (h : fX1_takeCommand_163 N  K  = some (rr, KK)) (hl : lv_has ls 1 []) (hP : va_P (dC, dI) vwCl (cmW cB ob sa sb mm K ++ R) H) (hD : va_D (aB base) (cmW cB ob sa sb mm K ++ R)) (hS : va_S (aB base) s.heap H locs) (hCF : CF mm K), W p l e (headSpec wsX1_takeCommand rmX1_takeCommand).room s m ([.ref ob] : List Value).toArray below meth c H locs 0 0 (MQ below (cBe (dC, dI) vwCl base (some (.int rr)) (fun ws => ws = (cmW cB ob sa sb mm KK ++ R) ∧ CF mm KK)) ([.ref ob] : List Value).toArray s 0 0 (aB base)) (F0 m 163 ls []) := by
    intro  K H locs ls h hl hP hD hS hCF
    unfold fX1_takeCommand_163 at h
    refine lv_iconst (v := 0) hx hb dX1_takeCommand_163 (by decide) ?_
    exact t_164  h (lv_sub hl [] rfl) hP hD hS hCF
  have t_195 : ∀ {K : KT}  {H : Heap} {locs : List Loc} {ls : Array Slot} (h : fX1_takeCommand_195 N  K  = some (rr, KK)) (hl : lv_has ls 1 []) (hP : va_P (dC, dI) vwCl (cmW cB ob sa sb mm K ++ R) H) (hD : va_D (aB base) (cmW cB ob sa sb mm K ++ R)) (hS : va_S (aB base) s.heap H locs) (hCF : CF mm K), W p l e (headSpec wsX1_takeCommand rmX1_takeCommand).room s m ([.ref ob] : List Value).toArray below meth c H locs 0 0 (MQ below (cBe (dC, dI) vwCl base (some (.int rr)) (fun ws => ws = (cmW cB ob sa sb mm KK ++ R) ∧ CF mm KK)) ([.ref ob] : List Value).toArray s 0 0 (aB base)) (F0 m 195 ls []) := by
    intro  K H locs ls h hl hP hD hS hCF
    unfold fX1_takeCommand_195 at h
    refine lv_iconst (v := 0) hx hb dX1_takeCommand_195 (by decide) ?_
    exact W.zret hx hb hr (by decide) (fun t ht _ => retC (w := (fun K => (cmW cB ob sa sb mm K ++ R))) (cf := fun K => CF mm K) h hCF hP hD hS ht) hS.2.2 dX1_takeCommand_196
  have hS : va_S (aB base) s.heap s.heap [] := va_S.rf
  have hl := lv_entry ([.ref ob]) (n := 1) (Nat.le_of_ble_eq_true rfl)
  rw [lg_entry_eq]
  generalize (lg_sl ([.ref ob]) ++ List.replicate (1 - (lg_sl ([.ref ob])).length) Slot.unset).toArray = ls at hl ⊢
  have hl : lv_has ls 1 [(0, .ref ob)] := hl
  have h := hf
  unfold mX1_takeCommand at h
  refine lv_aload_n hx hb dX1_takeCommand_0 rfl (lv_at hl 0 rfl) ?_
  refine lv_aload_n hx hb dX1_takeCommand_1 rfl (lv_at hl 0 rfl) ?_
  obtain ⟨v4, hv4, h⟩ := bdP_some h
  refine call_BVP (As := []) (rest := [.ref ob]) ⟨hx, hb, hml, hown, hts⟩ (tX1_peek (l := l) (dC := dC) (dI := dI) (cB := cB) (ob := ob) (sa := sa) (sb := sb) (mm := mm) (base := base) (R := R) hv4 hCF) (cwV 0 hts gX1_takeCommand_X1_peek rfl rfl rfl (by decide +kernel) ⟨Nat.le_of_ble_eq_true rfl, Nat.le_of_ble_eq_true rfl⟩) hK hP hD (Nat.le_trans hbs hS.1) (fun U hU hW => Env_step rfl rfl hE hS hU hW) 0 rfl rfl (by rfl) hl.1 rfl (Nat.le_of_ble_eq_true rfl) dX1_takeCommand_2 ⟨Nat.zero_le _, Nat.zero_le _⟩ ?_
  obtain ⟨K5, eK5, h⟩ := ptF_some h
  refine va_put (D := (dC, dI)) (ci := 2) (v := .int v4) (ty := .int) (C := RX1) (T := TX1) (N := 6) hx hb hts hwX1 tyX1 tyX1_ok nmX1 hown hK hP hD hS 0 rfl rfl 2 (by decide) hf_22 (fun _ h9 => h9) rfl (by decide +kernel) rfl rfl (Nat.le_of_ble_eq_true rfl) dX1_takeCommand_5 (fun H locs hP hD hS => ?_)
  have hP : va_P (dC, dI) vwCl (cmW cB ob sa sb mm K5 ++ R) H := by rw [eK5]; exact hP
  have hD : va_D (aB base) (cmW cB ob sa sb mm K5 ++ R) := by rw [eK5]; exact hD
  have hCF : CF mm K5 := by rw [eK5]; exact CF_pt hCF (by decide)
  refine lv_aload_n hx hb dX1_takeCommand_8 rfl (lv_at hl 0 rfl) ?_
  refine va_get (D := (dC, dI)) (ci := 2) (v := .int (K5 1 3)) (C := RX1) (T := TX1) (N := 6) hx hb hts hwX1 hown hK hP 0 rfl rfl 2 (by decide) hf_22 (fun _ h9 => h9) rfl dX1_takeCommand_9 ?_
  by_cases c6 : (K5 1 3) = 100
  · replace h := if_p c6 h
    refine lv_tableIn (tgt := 120) hx hb dX1_takeCommand_12 (by rw [c6]; decide) (by rw [c6]; decide) (by rw [c6]; rfl) (by decide) ?_
    exact t_120  h (lv_sub hl [0] rfl) hP hD hS hCF
  · replace h := if_n c6 h
    by_cases c7 : (K5 1 3) = 101
    · replace h := if_p c7 h
      refine lv_tableIn (tgt := 195) hx hb dX1_takeCommand_12 (by rw [c7]; decide) (by rw [c7]; decide) (by rw [c7]; rfl) (by decide) ?_
      exact t_195  h (lv_sub hl [] rfl) hP hD hS hCF
    · replace h := if_n c7 h
      by_cases c8 : (K5 1 3) = 102
      · replace h := if_p c8 h
        refine lv_tableIn (tgt := 195) hx hb dX1_takeCommand_12 (by rw [c8]; decide) (by rw [c8]; decide) (by rw [c8]; rfl) (by decide) ?_
        exact t_195  h (lv_sub hl [] rfl) hP hD hS hCF
      · replace h := if_n c8 h
        by_cases c9 : (K5 1 3) = 103
        · replace h := if_p c9 h
          refine lv_tableIn (tgt := 195) hx hb dX1_takeCommand_12 (by rw [c9]; decide) (by rw [c9]; decide) (by rw [c9]; rfl) (by decide) ?_
          exact t_195  h (lv_sub hl [] rfl) hP hD hS hCF
        · replace h := if_n c9 h
          by_cases c10 : (K5 1 3) = 104
          · replace h := if_p c10 h
            refine lv_tableIn (tgt := 195) hx hb dX1_takeCommand_12 (by rw [c10]; decide) (by rw [c10]; decide) (by rw [c10]; rfl) (by decide) ?_
            exact t_195  h (lv_sub hl [] rfl) hP hD hS hCF
          · replace h := if_n c10 h
            by_cases c11 : (K5 1 3) = 105
            · replace h := if_p c11 h
              refine lv_tableIn (tgt := 195) hx hb dX1_takeCommand_12 (by rw [c11]; decide) (by rw [c11]; decide) (by rw [c11]; rfl) (by decide) ?_
              exact t_195  h (lv_sub hl [] rfl) hP hD hS hCF
            · replace h := if_n c11 h
              by_cases c12 : (K5 1 3) = 106
              · replace h := if_p c12 h
                refine lv_tableIn (tgt := 195) hx hb dX1_takeCommand_12 (by rw [c12]; decide) (by rw [c12]; decide) (by rw [c12]; rfl) (by decide) ?_
                exact t_195  h (lv_sub hl [] rfl) hP hD hS hCF
              · replace h := if_n c12 h
                by_cases c13 : (K5 1 3) = 107
                · replace h := if_p c13 h
                  refine lv_tableIn (tgt := 120) hx hb dX1_takeCommand_12 (by rw [c13]; decide) (by rw [c13]; decide) (by rw [c13]; rfl) (by decide) ?_
                  exact t_120  h (lv_sub hl [0] rfl) hP hD hS hCF
                · replace h := if_n c13 h
                  by_cases c14 : (K5 1 3) = 108
                  · replace h := if_p c14 h
                    refine lv_tableIn (tgt := 195) hx hb dX1_takeCommand_12 (by rw [c14]; decide) (by rw [c14]; decide) (by rw [c14]; rfl) (by decide) ?_
                    exact t_195  h (lv_sub hl [] rfl) hP hD hS hCF
                  · replace h := if_n c14 h
                    by_cases c15 : (K5 1 3) = 109
                    · replace h := if_p c15 h
                      refine lv_tableIn (tgt := 120) hx hb dX1_takeCommand_12 (by rw [c15]; decide) (by rw [c15]; decide) (by rw [c15]; rfl) (by decide) ?_
                      exact t_120  h (lv_sub hl [0] rfl) hP hD hS hCF
                    · replace h := if_n c15 h
                      by_cases c16 : (K5 1 3) = 110
                      · replace h := if_p c16 h
                        refine lv_tableIn (tgt := 195) hx hb dX1_takeCommand_12 (by rw [c16]; decide) (by rw [c16]; decide) (by rw [c16]; rfl) (by decide) ?_
                        exact t_195  h (lv_sub hl [] rfl) hP hD hS hCF
                      · replace h := if_n c16 h
                        by_cases c17 : (K5 1 3) = 111
                        · replace h := if_p c17 h
                          refine lv_tableIn (tgt := 195) hx hb dX1_takeCommand_12 (by rw [c17]; decide) (by rw [c17]; decide) (by rw [c17]; rfl) (by decide) ?_
                          exact t_195  h (lv_sub hl [] rfl) hP hD hS hCF
                        · replace h := if_n c17 h
                          by_cases c18 : (K5 1 3) = 112
                          · replace h := if_p c18 h
                            refine lv_tableIn (tgt := 180) hx hb dX1_takeCommand_12 (by rw [c18]; decide) (by rw [c18]; decide) (by rw [c18]; rfl) (by decide) ?_
                            refine lv_aload_n hx hb dX1_takeCommand_180 rfl (lv_at hl 0 rfl) ?_
                            refine lv_dup hx hb dX1_takeCommand_181 rfl ?_
                            refine va_get (D := (dC, dI)) (ci := 2) (v := .int (K5 1 2)) (C := RX1) (T := TX1) (N := 6) hx hb hts hwX1 hown hK hP 0 rfl rfl 1 (by decide) hf_18 (fun _ h9 => h9) rfl dX1_takeCommand_182 ?_
                            refine lv_iconst (v := 1) hx hb dX1_takeCommand_185 (by decide) ?_
                            refine lv_iadd hx hb dX1_takeCommand_186 ?_
                            obtain ⟨K19, eK19, h⟩ := ptF_some h
                            refine va_put (D := (dC, dI)) (ci := 2) (v := .int ((K5 1 2) + 1)) (ty := .int) (C := RX1) (T := TX1) (N := 6) hx hb hts hwX1 tyX1 tyX1_ok nmX1 hown hK hP hD hS 0 rfl rfl 1 (by decide) hf_18 (fun _ h9 => h9) rfl (by decide +kernel) rfl rfl (Nat.le_of_ble_eq_true rfl) dX1_takeCommand_187 (fun H locs hP hD hS => ?_)
                            have hP : va_P (dC, dI) vwCl (cmW cB ob sa sb mm K19 ++ R) H := by rw [eK19]; exact hP
                            have hD : va_D (aB base) (cmW cB ob sa sb mm K19 ++ R) := by rw [eK19]; exact hD
                            have hCF : CF mm K19 := by rw [eK19]; exact CF_pt hCF (by decide)
                            refine lv_aload_n hx hb dX1_takeCommand_190 rfl (lv_at hl 0 rfl) ?_
                            obtain ⟨v20, K21, hv20, h⟩ := bdE_some h
                            refine call_BVE (As := []) (rest := []) ⟨hx, hb, hml, hown, hts⟩ (tX1_takeNumber (l := l) (dC := dC) (dI := dI) (cB := cB) (ob := ob) (sa := sa) (sb := sb) (mm := mm) (base := base) (R := R) hv20 hCF) (cwV 0 hts gX1_takeCommand_X1_takeNumber rfl rfl rfl (by decide +kernel) ⟨Nat.le_of_ble_eq_true rfl, Nat.le_of_ble_eq_true rfl⟩) hK hP hD hS (Nat.le_trans hbs hS.1) (fun U hU hW => Env_step rfl rfl hE hS hU hW) 0 rfl rfl (by rfl) hl.1 rfl (Nat.le_of_ble_eq_true rfl) dX1_takeCommand_191 ⟨Nat.zero_le _, Nat.zero_le _⟩ (fun H locs ws9 hW9 hP hD _ hS => ?_)
                            obtain ⟨rfl, hCF⟩ := hW9
                            obtain ⟨hz, h⟩ := gd_some h
                            exact W.zret hx hb hr (zb_ok hz) (fun t ht _ => retC (w := (fun K => (cmW cB ob sa sb mm K ++ R))) (cf := fun K => CF mm K) h hCF hP hD hS ht) hS.2.2 dX1_takeCommand_194
                          · replace h := if_n c18 h
                            by_cases c22 : (K5 1 3) = 113
                            · replace h := if_p c22 h
                              refine lv_tableIn (tgt := 195) hx hb dX1_takeCommand_12 (by rw [c22]; decide) (by rw [c22]; decide) (by rw [c22]; rfl) (by decide) ?_
                              exact t_195  h (lv_sub hl [] rfl) hP hD hS hCF
                            · replace h := if_n c22 h
                              by_cases c23 : (K5 1 3) = 114
                              · replace h := if_p c23 h
                                refine lv_tableIn (tgt := 165) hx hb dX1_takeCommand_12 (by rw [c23]; decide) (by rw [c23]; decide) (by rw [c23]; rfl) (by decide) ?_
                                refine lv_aload_n hx hb dX1_takeCommand_165 rfl (lv_at hl 0 rfl) ?_
                                refine lv_dup hx hb dX1_takeCommand_166 rfl ?_
                                refine va_get (D := (dC, dI)) (ci := 2) (v := .int (K5 1 2)) (C := RX1) (T := TX1) (N := 6) hx hb hts hwX1 hown hK hP 0 rfl rfl 1 (by decide) hf_18 (fun _ h9 => h9) rfl dX1_takeCommand_167 ?_
                                refine lv_iconst (v := 1) hx hb dX1_takeCommand_170 (by decide) ?_
                                refine lv_iadd hx hb dX1_takeCommand_171 ?_
                                obtain ⟨K24, eK24, h⟩ := ptF_some h
                                refine va_put (D := (dC, dI)) (ci := 2) (v := .int ((K5 1 2) + 1)) (ty := .int) (C := RX1) (T := TX1) (N := 6) hx hb hts hwX1 tyX1 tyX1_ok nmX1 hown hK hP hD hS 0 rfl rfl 1 (by decide) hf_18 (fun _ h9 => h9) rfl (by decide +kernel) rfl rfl (Nat.le_of_ble_eq_true rfl) dX1_takeCommand_172 (fun H locs hP hD hS => ?_)
                                have hP : va_P (dC, dI) vwCl (cmW cB ob sa sb mm K24 ++ R) H := by rw [eK24]; exact hP
                                have hD : va_D (aB base) (cmW cB ob sa sb mm K24 ++ R) := by rw [eK24]; exact hD
                                have hCF : CF mm K24 := by rw [eK24]; exact CF_pt hCF (by decide)
                                refine lv_aload_n hx hb dX1_takeCommand_175 rfl (lv_at hl 0 rfl) ?_
                                obtain ⟨v25, K26, hv25, h⟩ := bdE_some h
                                refine call_BVE (As := []) (rest := []) ⟨hx, hb, hml, hown, hts⟩ (tX1_takeRoad (l := l) (dC := dC) (dI := dI) (cB := cB) (ob := ob) (sa := sa) (sb := sb) (mm := mm) (base := base) (R := R) hv25 hCF) (cwV 0 hts gX1_takeCommand_X1_takeRoad rfl rfl rfl (by decide +kernel) ⟨Nat.le_of_ble_eq_true rfl, Nat.le_of_ble_eq_true rfl⟩) hK hP hD hS (Nat.le_trans hbs hS.1) (fun U hU hW => Env_step rfl rfl hE hS hU hW) 0 rfl rfl (by rfl) hl.1 rfl (Nat.le_of_ble_eq_true rfl) dX1_takeCommand_176 ⟨Nat.zero_le _, Nat.zero_le _⟩ (fun H locs ws9 hW9 hP hD _ hS => ?_)
                                obtain ⟨rfl, hCF⟩ := hW9
                                obtain ⟨hz, h⟩ := gd_some h
                                exact W.zret hx hb hr (zb_ok hz) (fun t ht _ => retC (w := (fun K => (cmW cB ob sa sb mm K ++ R))) (cf := fun K => CF mm K) h hCF hP hD hS ht) hS.2.2 dX1_takeCommand_179
                              · replace h := if_n c23 h
                                by_cases c27 : (K5 1 3) = 115
                                · replace h := if_p c27 h
                                  refine lv_tableIn (tgt := 195) hx hb dX1_takeCommand_12 (by rw [c27]; decide) (by rw [c27]; decide) (by rw [c27]; rfl) (by decide) ?_
                                  exact t_195  h (lv_sub hl [] rfl) hP hD hS hCF
                                · replace h := if_n c27 h
                                  by_cases c28 : (K5 1 3) = 116
                                  · replace h := if_p c28 h
                                    refine lv_tableIn (tgt := 195) hx hb dX1_takeCommand_12 (by rw [c28]; decide) (by rw [c28]; decide) (by rw [c28]; rfl) (by decide) ?_
                                    exact t_195  h (lv_sub hl [] rfl) hP hD hS hCF
                                  · replace h := if_n c28 h
                                    by_cases c29 : (K5 1 3) = 117
                                    · replace h := if_p c29 h
                                      refine lv_tableIn (tgt := 195) hx hb dX1_takeCommand_12 (by rw [c29]; decide) (by rw [c29]; decide) (by rw [c29]; rfl) (by decide) ?_
                                      exact t_195  h (lv_sub hl [] rfl) hP hD hS hCF
                                    · replace h := if_n c29 h
                                      by_cases c30 : (K5 1 3) = 118
                                      · replace h := if_p c30 h
                                        refine lv_tableIn (tgt := 195) hx hb dX1_takeCommand_12 (by rw [c30]; decide) (by rw [c30]; decide) (by rw [c30]; rfl) (by decide) ?_
                                        exact t_195  h (lv_sub hl [] rfl) hP hD hS hCF
                                      · replace h := if_n c30 h
                                        by_cases c31 : (K5 1 3) = 119
                                        · replace h := if_p c31 h
                                          refine lv_tableIn (tgt := 135) hx hb dX1_takeCommand_12 (by rw [c31]; decide) (by rw [c31]; decide) (by rw [c31]; rfl) (by decide) ?_
                                          refine lv_aload_n hx hb dX1_takeCommand_135 rfl (lv_at hl 0 rfl) ?_
                                          refine lv_dup hx hb dX1_takeCommand_136 rfl ?_
                                          refine va_get (D := (dC, dI)) (ci := 2) (v := .int (K5 1 2)) (C := RX1) (T := TX1) (N := 6) hx hb hts hwX1 hown hK hP 0 rfl rfl 1 (by decide) hf_18 (fun _ h9 => h9) rfl dX1_takeCommand_137 ?_
                                          refine lv_iconst (v := 1) hx hb dX1_takeCommand_140 (by decide) ?_
                                          refine lv_iadd hx hb dX1_takeCommand_141 ?_
                                          obtain ⟨K32, eK32, h⟩ := ptF_some h
                                          refine va_put (D := (dC, dI)) (ci := 2) (v := .int ((K5 1 2) + 1)) (ty := .int) (C := RX1) (T := TX1) (N := 6) hx hb hts hwX1 tyX1 tyX1_ok nmX1 hown hK hP hD hS 0 rfl rfl 1 (by decide) hf_18 (fun _ h9 => h9) rfl (by decide +kernel) rfl rfl (Nat.le_of_ble_eq_true rfl) dX1_takeCommand_142 (fun H locs hP hD hS => ?_)
                                          have hP : va_P (dC, dI) vwCl (cmW cB ob sa sb mm K32 ++ R) H := by rw [eK32]; exact hP
                                          have hD : va_D (aB base) (cmW cB ob sa sb mm K32 ++ R) := by rw [eK32]; exact hD
                                          have hCF : CF mm K32 := by rw [eK32]; exact CF_pt hCF (by decide)
                                          refine lv_aload_n hx hb dX1_takeCommand_145 rfl (lv_at hl 0 rfl) ?_
                                          obtain ⟨v33, K34, hv33, h⟩ := bdE_some h
                                          refine call_BVE (As := []) (rest := []) ⟨hx, hb, hml, hown, hts⟩ (tX1_takeDigit (l := l) (dC := dC) (dI := dI) (cB := cB) (ob := ob) (sa := sa) (sb := sb) (mm := mm) (base := base) (R := R) hv33 hCF) (cwV 0 hts gX1_takeCommand_X1_takeDigit rfl rfl rfl (by decide +kernel) ⟨Nat.le_of_ble_eq_true rfl, Nat.le_of_ble_eq_true rfl⟩) hK hP hD hS (Nat.le_trans hbs hS.1) (fun U hU hW => Env_step rfl rfl hE hS hU hW) 0 rfl rfl (by rfl) hl.1 rfl (Nat.le_of_ble_eq_true rfl) dX1_takeCommand_146 ⟨Nat.zero_le _, Nat.zero_le _⟩ (fun H locs ws9 hW9 hP hD _ hS => ?_)
                                          obtain ⟨rfl, hCF⟩ := hW9
                                          refine lv_if_eq (tgt := 163) hx hb dX1_takeCommand_149 (by decide) (fun c35 => ?_) (fun c35 => ?_)
                                          · replace h := if_p c35 h
                                            exact t_163  h (lv_sub hl [] rfl) hP hD hS hCF
                                          · replace h := if_n c35 h
                                            refine lv_aload_n hx hb dX1_takeCommand_152 rfl (lv_at hl 0 rfl) ?_
                                            obtain ⟨v36, K37, hv36, h⟩ := bdE_some h
                                            refine call_BVE (As := []) (rest := []) ⟨hx, hb, hml, hown, hts⟩ (tX1_takeLetter (l := l) (dC := dC) (dI := dI) (cB := cB) (ob := ob) (sa := sa) (sb := sb) (mm := mm) (base := base) (R := R) hv36 hCF) (cwV 0 hts gX1_takeCommand_X1_takeLetter rfl rfl rfl (by decide +kernel) ⟨Nat.le_of_ble_eq_true rfl, Nat.le_of_ble_eq_true rfl⟩) hK hP hD hS (Nat.le_trans hbs hS.1) (fun U hU hW => Env_step rfl rfl hE hS hU hW) 0 rfl rfl (by rfl) hl.1 rfl (Nat.le_of_ble_eq_true rfl) dX1_takeCommand_153 ⟨Nat.zero_le _, Nat.zero_le _⟩ (fun H locs ws9 hW9 hP hD _ hS => ?_)
                                            obtain ⟨rfl, hCF⟩ := hW9
                                            refine lv_if_eq (tgt := 163) hx hb dX1_takeCommand_156 (by decide) (fun c38 => ?_) (fun c38 => ?_)
                                            · replace h := if_p c38 h
                                              exact t_163  h (lv_sub hl [] rfl) hP hD hS hCF
                                            · replace h := if_n c38 h
                                              refine lv_iconst (v := 1) hx hb dX1_takeCommand_159 (by decide) ?_
                                              refine lv_goto (tgt := 164) hx hb dX1_takeCommand_160 (by decide) ?_
                                              exact t_164  h (lv_sub hl [] rfl) hP hD hS hCF
                                        · replace h := if_n c31 h
                                          by_cases c39 : (K5 1 3) = 120
                                          · replace h := if_p c39 h
                                            refine lv_tableIn (tgt := 195) hx hb dX1_takeCommand_12 (by rw [c39]; decide) (by rw [c39]; decide) (by rw [c39]; rfl) (by decide) ?_
                                            exact t_195  h (lv_sub hl [] rfl) hP hD hS hCF
                                          · replace h := if_n c39 h
                                            by_cases c40 : (K5 1 3) = 121
                                            · replace h := if_p c40 h
                                              refine lv_tableIn (tgt := 195) hx hb dX1_takeCommand_12 (by rw [c40]; decide) (by rw [c40]; decide) (by rw [c40]; rfl) (by decide) ?_
                                              exact t_195  h (lv_sub hl [] rfl) hP hD hS hCF
                                            · replace h := if_n c40 h
                                              by_cases c41 : (K5 1 3) = 122
                                              · replace h := if_p c41 h
                                                refine lv_tableIn (tgt := 120) hx hb dX1_takeCommand_12 (by rw [c41]; decide) (by rw [c41]; decide) (by rw [c41]; rfl) (by decide) ?_
                                                exact t_120  h (lv_sub hl [0] rfl) hP hD hS hCF
                                              · replace h := if_n c41 h
                                                -- default
                                                have qc6 := i32_ne c6; rw [show (100 : Int32).toInt = 100 from by decide] at qc6
                                                have qc7 := i32_ne c7; rw [show (101 : Int32).toInt = 101 from by decide] at qc7
                                                have qc8 := i32_ne c8; rw [show (102 : Int32).toInt = 102 from by decide] at qc8
                                                have qc9 := i32_ne c9; rw [show (103 : Int32).toInt = 103 from by decide] at qc9
                                                have qc10 := i32_ne c10; rw [show (104 : Int32).toInt = 104 from by decide] at qc10
                                                have qc11 := i32_ne c11; rw [show (105 : Int32).toInt = 105 from by decide] at qc11
                                                have qc12 := i32_ne c12; rw [show (106 : Int32).toInt = 106 from by decide] at qc12
                                                have qc13 := i32_ne c13; rw [show (107 : Int32).toInt = 107 from by decide] at qc13
                                                have qc14 := i32_ne c14; rw [show (108 : Int32).toInt = 108 from by decide] at qc14
                                                have qc15 := i32_ne c15; rw [show (109 : Int32).toInt = 109 from by decide] at qc15
                                                have qc16 := i32_ne c16; rw [show (110 : Int32).toInt = 110 from by decide] at qc16
                                                have qc17 := i32_ne c17; rw [show (111 : Int32).toInt = 111 from by decide] at qc17
                                                have qc18 := i32_ne c18; rw [show (112 : Int32).toInt = 112 from by decide] at qc18
                                                have qc22 := i32_ne c22; rw [show (113 : Int32).toInt = 113 from by decide] at qc22
                                                have qc23 := i32_ne c23; rw [show (114 : Int32).toInt = 114 from by decide] at qc23
                                                have qc27 := i32_ne c27; rw [show (115 : Int32).toInt = 115 from by decide] at qc27
                                                have qc28 := i32_ne c28; rw [show (116 : Int32).toInt = 116 from by decide] at qc28
                                                have qc29 := i32_ne c29; rw [show (117 : Int32).toInt = 117 from by decide] at qc29
                                                have qc30 := i32_ne c30; rw [show (118 : Int32).toInt = 118 from by decide] at qc30
                                                have qc31 := i32_ne c31; rw [show (119 : Int32).toInt = 119 from by decide] at qc31
                                                have qc39 := i32_ne c39; rw [show (120 : Int32).toInt = 120 from by decide] at qc39
                                                have qc40 := i32_ne c40; rw [show (121 : Int32).toInt = 121 from by decide] at qc40
                                                have qc41 := i32_ne c41; rw [show (122 : Int32).toInt = 122 from by decide] at qc41
                                                refine lv_tableOut (tgt := 195) hx hb dX1_takeCommand_12 (by omega) (by decide) ?_
                                                exact t_195  h (lv_sub hl [] rfl) hP hD hS hCF
def fX1_check_53 (N : Nat)  (K : KT) (y0 : Int32) : Option (Int32 × KT) := some (y0, K)
def fX1_check_28 (N : Nat)  (K : KT) (x1 : Int32) : Option (Int32 × KT) := bdP (s_length K ) (fun v1 => (if (K 1 2) = v1 then fX1_check_53 N  K x1 else fX1_check_53 N  K (((-100)) - (K 1 2))))
def fX1_check_60 (N : Nat)  (K : KT)  : Option (Int32 × KT) := some (((-100)) - (K 1 2), K)
def fX1_check_6 (N : Nat)  : Nat → KT → Int32 → Option (Int32 × KT)
  | 0, _, _ => none
  | n + 1, K, x1 => (if 70 < x1 then fX1_check_60 N  K  else bdE (mX1_takeCommand N K ) (fun v4 K5 => (if v4 = 0 then fX1_check_60 N  K5  else bdE (mX1_takeSign N K5 59) (fun v7 K8 => (if v7 = 0 then fX1_check_28 N  K8 x1 else (fX1_check_6 N  n) K8 (x1 + 1))))))
def mX1_check (N : Nat) (K : KT)  : Option (Int32 × KT) := bdE (mX1_goToStart N K ) (fun v10 K11 => fX1_check_6 N  N K11 1)
def rmX1_check : Room := { frames := 10, cells := 0, slots := 0, locals := 300 }
set_option maxHeartbeats 4000000 in
set_option maxRecDepth 100000 in
theorem tX1_check {l : Launch} {dC : Nat → ClassId} {dI : Nat → Nat → Nat} {cB : ClassId} {ob sa sb mm base : Nat} {R : va_W} {N : Nat} {K : KT}  {rr : Int32} {KK : KT} (hf : mX1_check N K  = some (rr, KK)) (hCF : CF mm K) : Met l yX1_check wsX1_check rmX1_check (cBp (dC, dI) vwCl [(cB, .byte)] base (cmW cB ob sa sb mm K ++ R) [.ref ob]) (cBe (dC, dI) vwCl base (some (.int rr)) (fun ws => ws = (cmW cB ob sa sb mm KK ++ R) ∧ CF mm KK)) 0 0 (aB base) := by
  refine Met.ofW (cc := cX1_check) (maxL := 2) (ret := (some .int)) (by decide) rfl ?_
  intro p e s m args below meth c s₁ B hml hv
  obtain ⟨rfl, hP, hK, hD, hbs, hE⟩ := hv
  have hx := B.exec
  have hb := B.bytes
  have hr := B.returns
  have hts := atoms_spec (ws := wsX1_check) B.pre
  have hown : s.vm.findClass RX1 = some m.cls := findClass_of_methodNamed B.named
  have hlocks := B.notSynchronized
  have hwX1 : ∀ w ∈ u_ws RX1 TX1 6, w ∈ wsX1_check := by decide +kernel
  have hf_12 := hts (.fieldLink RX1 12 "CaravanLogs$Commands" "text" "Ljava/lang/StringBuilder;") (by decide +kernel)
  have hf_18 := hts (.fieldLink RX1 18 "CaravanLogs$Commands" "at" "I") (by decide +kernel)
  have t_53 : ∀ {K : KT} {y0 : Int32} {H : Heap} {locs : List Loc} {ls : Array Slot} (h : fX1_check_53 N  K y0 = some (rr, KK)) (hl : lv_has ls 2 []) (hP : va_P (dC, dI) vwCl (cmW cB ob sa sb mm K ++ R) H) (hD : va_D (aB base) (cmW cB ob sa sb mm K ++ R)) (hS : va_S (aB base) s.heap H locs) (hCF : CF mm K), W p l e (headSpec wsX1_check rmX1_check).room s m ([.ref ob] : List Value).toArray below meth c H locs 0 0 (MQ below (cBe (dC, dI) vwCl base (some (.int rr)) (fun ws => ws = (cmW cB ob sa sb mm KK ++ R) ∧ CF mm KK)) ([.ref ob] : List Value).toArray s 0 0 (aB base)) (F0 m 53 ls [.int y0]) := by
    intro  K y0 H locs ls h hl hP hD hS hCF
    unfold fX1_check_53 at h
    exact W.iret hx hb hr (fun t ht _ => retC (w := (fun K => (cmW cB ob sa sb mm K ++ R))) (cf := fun K => CF mm K) h hCF hP hD hS ht) hS.2.2 dX1_check_53
  have t_28 : ∀ {K : KT} {x1 : Int32} {H : Heap} {locs : List Loc} {ls : Array Slot} (h : fX1_check_28 N  K x1 = some (rr, KK)) (hl : lv_has ls 2 [(0, .ref ob), (1, .int x1)]) (hP : va_P (dC, dI) vwCl (cmW cB ob sa sb mm K ++ R) H) (hD : va_D (aB base) (cmW cB ob sa sb mm K ++ R)) (hS : va_S (aB base) s.heap H locs) (hCF : CF mm K), W p l e (headSpec wsX1_check rmX1_check).room s m ([.ref ob] : List Value).toArray below meth c H locs 0 0 (MQ below (cBe (dC, dI) vwCl base (some (.int rr)) (fun ws => ws = (cmW cB ob sa sb mm KK ++ R) ∧ CF mm KK)) ([.ref ob] : List Value).toArray s 0 0 (aB base)) (F0 m 28 ls []) := by
    intro  K x1 H locs ls h hl hP hD hS hCF
    unfold fX1_check_28 at h
    refine lv_aload_n hx hb dX1_check_28 rfl (lv_at hl 0 rfl) ?_
    refine va_get (D := (dC, dI)) (ci := 2) (v := .int (K 1 2)) (C := RX1) (T := TX1) (N := 6) hx hb hts hwX1 hown hK hP 0 rfl rfl 1 (by decide) hf_18 (fun _ h9 => h9) rfl dX1_check_29 ?_
    refine lv_aload_n hx hb dX1_check_32 rfl (lv_at hl 0 rfl) ?_
    refine va_get (D := (dC, dI)) (ci := 2) (v := .ref sa) (C := RX1) (T := TX1) (N := 6) hx hb hts hwX1 hown hK hP 0 rfl rfl 0 (by decide) hf_12 (fun _ h9 => h9) rfl dX1_check_33 ?_
    obtain ⟨v1, hv1, h⟩ := bdP_some h
    refine call_BVP (As := []) (rest := [.int (K 1 2)]) ⟨hx, hb, hml, hown, hts⟩ (tS_length (l := l) (dC := dC) (dI := dI) (cB := cB) (ob := sa) (sb := sb) (mm := mm) (base := base) hv1 hCF) (cwV 0 hts gX1_check_J4_length_8abf5 rfl rfl rfl (by decide +kernel) ⟨Nat.le_of_ble_eq_true rfl, Nat.le_of_ble_eq_true rfl⟩) hK (P_perm cm_sb hP) (D_perm cm_sb hD) (Nat.le_trans hbs hS.1) (fun U hU hW => Env_step rfl rfl hE hS hU hW) 0 rfl rfl (by rfl) hl.1 rfl (Nat.le_of_ble_eq_true rfl) dX1_check_36 ⟨Nat.zero_le _, Nat.zero_le _⟩ ?_
    refine lv_icmp_ne (tgt := 46) hx hb dX1_check_39 (by decide) (fun c2 => ?_) (fun c2 => ?_)
    · replace h := if_n c2 h
      refine lv_bipush (v := (-100)) hx hb dX1_check_46 (by decide) ?_
      refine lv_aload_n hx hb dX1_check_48 rfl (lv_at hl 0 rfl) ?_
      refine va_get (D := (dC, dI)) (ci := 2) (v := .int (K 1 2)) (C := RX1) (T := TX1) (N := 6) hx hb hts hwX1 hown hK hP 0 rfl rfl 1 (by decide) hf_18 (fun _ h9 => h9) rfl dX1_check_49 ?_
      refine lv_isub hx hb dX1_check_52 ?_
      exact t_53  h (lv_sub hl [] rfl) hP hD hS hCF
    · replace h := if_p c2 h
      refine lv_iload_n hx hb dX1_check_42 rfl (lv_at hl 1 rfl) ?_
      refine lv_goto (tgt := 53) hx hb dX1_check_43 (by decide) ?_
      exact t_53  h (lv_sub hl [] rfl) hP hD hS hCF
  have t_60 : ∀ {K : KT}  {H : Heap} {locs : List Loc} {ls : Array Slot} (h : fX1_check_60 N  K  = some (rr, KK)) (hl : lv_has ls 2 [(0, .ref ob)]) (hP : va_P (dC, dI) vwCl (cmW cB ob sa sb mm K ++ R) H) (hD : va_D (aB base) (cmW cB ob sa sb mm K ++ R)) (hS : va_S (aB base) s.heap H locs) (hCF : CF mm K), W p l e (headSpec wsX1_check rmX1_check).room s m ([.ref ob] : List Value).toArray below meth c H locs 0 0 (MQ below (cBe (dC, dI) vwCl base (some (.int rr)) (fun ws => ws = (cmW cB ob sa sb mm KK ++ R) ∧ CF mm KK)) ([.ref ob] : List Value).toArray s 0 0 (aB base)) (F0 m 60 ls []) := by
    intro  K H locs ls h hl hP hD hS hCF
    unfold fX1_check_60 at h
    refine lv_bipush (v := (-100)) hx hb dX1_check_60 (by decide) ?_
    refine lv_aload_n hx hb dX1_check_62 rfl (lv_at hl 0 rfl) ?_
    refine va_get (D := (dC, dI)) (ci := 2) (v := .int (K 1 2)) (C := RX1) (T := TX1) (N := 6) hx hb hts hwX1 hown hK hP 0 rfl rfl 1 (by decide) hf_18 (fun _ h9 => h9) rfl dX1_check_63 ?_
    refine lv_isub hx hb dX1_check_66 ?_
    exact W.iret hx hb hr (fun t ht _ => retC (w := (fun K => (cmW cB ob sa sb mm K ++ R))) (cf := fun K => CF mm K) h hCF hP hD hS ht) hS.2.2 dX1_check_67
  have t_6 : ∀ {n : Nat}, ∀ {K : KT} {x1 : Int32} {H : Heap} {locs : List Loc} {ls : Array Slot} (h : fX1_check_6 N  n K x1 = some (rr, KK)) (hl : lv_has ls 2 [(0, .ref ob), (1, .int x1)]) (hP : va_P (dC, dI) vwCl (cmW cB ob sa sb mm K ++ R) H) (hD : va_D (aB base) (cmW cB ob sa sb mm K ++ R)) (hS : va_S (aB base) s.heap H locs) (hCF : CF mm K), W p l e (headSpec wsX1_check rmX1_check).room s m ([.ref ob] : List Value).toArray below meth c H locs 0 0 (MQ below (cBe (dC, dI) vwCl base (some (.int rr)) (fun ws => ws = (cmW cB ob sa sb mm KK ++ R) ∧ CF mm KK)) ([.ref ob] : List Value).toArray s 0 0 (aB base)) (F0 m 6 ls []) := by
    intro  n
    induction n with
    | zero =>
      intro K x1 H locs ls h hl hP hD hS hCF
      unfold fX1_check_6 at h
      cases h
    | succ n ih =>
      intro K x1 H locs ls h hl hP hD hS hCF
      unfold fX1_check_6 at h
      refine lv_iload_n hx hb dX1_check_6 rfl (lv_at hl 1 rfl) ?_
      refine lv_bipush (v := 70) hx hb dX1_check_7 (by decide) ?_
      refine lv_icmp_gt (tgt := 60) hx hb dX1_check_9 (by decide) (fun c3 => ?_) (fun c3 => ?_)
      · replace h := if_p c3 h
        exact t_60  h (lv_sub hl [0] rfl) hP hD hS hCF
      · replace h := if_n c3 h
        refine lv_aload_n hx hb dX1_check_12 rfl (lv_at hl 0 rfl) ?_
        obtain ⟨v4, K5, hv4, h⟩ := bdE_some h
        refine call_BVE (As := []) (rest := []) ⟨hx, hb, hml, hown, hts⟩ (tX1_takeCommand (l := l) (dC := dC) (dI := dI) (cB := cB) (ob := ob) (sa := sa) (sb := sb) (mm := mm) (base := base) (R := R) hv4 hCF) (cwV 0 hts gX1_check_X1_takeCommand rfl rfl rfl (by decide +kernel) ⟨Nat.le_of_ble_eq_true rfl, Nat.le_of_ble_eq_true rfl⟩) hK hP hD hS (Nat.le_trans hbs hS.1) (fun U hU hW => Env_step rfl rfl hE hS hU hW) 0 rfl rfl (by rfl) hl.1 rfl (Nat.le_of_ble_eq_true rfl) dX1_check_13 ⟨Nat.zero_le _, Nat.zero_le _⟩ (fun H locs ws9 hW9 hP hD _ hS => ?_)
        obtain ⟨rfl, hCF⟩ := hW9
        refine lv_if_eq (tgt := 60) hx hb dX1_check_16 (by decide) (fun c6 => ?_) (fun c6 => ?_)
        · replace h := if_p c6 h
          exact t_60  h (lv_sub hl [0] rfl) hP hD hS hCF
        · replace h := if_n c6 h
          refine lv_aload_n hx hb dX1_check_19 rfl (lv_at hl 0 rfl) ?_
          refine lv_bipush (v := 59) hx hb dX1_check_20 (by decide) ?_
          obtain ⟨v7, K8, hv7, h⟩ := bdE_some h
          refine call_BVE (As := [.int 59]) (rest := []) ⟨hx, hb, hml, hown, hts⟩ (tX1_takeSign (l := l) (dC := dC) (dI := dI) (cB := cB) (ob := ob) (sa := sa) (sb := sb) (mm := mm) (base := base) (R := R) hv7 hCF) (cwV 1 hts gX1_check_X1_takeSign rfl rfl rfl (by decide +kernel) ⟨Nat.le_of_ble_eq_true rfl, Nat.le_of_ble_eq_true rfl⟩) hK hP hD hS (Nat.le_trans hbs hS.1) (fun U hU hW => Env_step rfl rfl hE hS hU hW) 0 rfl rfl (by rfl) hl.1 rfl (Nat.le_of_ble_eq_true rfl) dX1_check_22 ⟨Nat.zero_le _, Nat.zero_le _⟩ (fun H locs ws9 hW9 hP hD _ hS => ?_)
          obtain ⟨rfl, hCF⟩ := hW9
          refine lv_if_ne (tgt := 54) hx hb dX1_check_25 (by decide) (fun c9 => ?_) (fun c9 => ?_)
          · replace h := if_n c9 h
            refine lv_iinc (v := x1 + 1) (lv' := [(1, .int (x1 + 1)), (0, .ref ob)]) hx hb dX1_check_54 hl (k := 1) rfl rfl (by decide) rfl (fun ls hl => ?_)
            refine lv_goto (tgt := 6) hx hb dX1_check_57 (by decide) ?_
            exact ih h (lv_sub hl [1, 0] rfl) hP hD hS hCF
          · replace h := if_p c9 h
            exact t_28  h (lv_sub hl [0, 1] rfl) hP hD hS hCF
  have hS : va_S (aB base) s.heap s.heap [] := va_S.rf
  have hl := lv_entry ([.ref ob]) (n := 2) (Nat.le_of_ble_eq_true rfl)
  rw [lg_entry_eq]
  generalize (lg_sl ([.ref ob]) ++ List.replicate (2 - (lg_sl ([.ref ob])).length) Slot.unset).toArray = ls at hl ⊢
  have hl : lv_has ls 2 [(0, .ref ob)] := hl
  have h := hf
  unfold mX1_check at h
  refine lv_aload_n hx hb dX1_check_0 rfl (lv_at hl 0 rfl) ?_
  obtain ⟨v10, K11, hv10, h⟩ := bdE_some h
  refine call_BVE (As := []) (rest := []) ⟨hx, hb, hml, hown, hts⟩ (tX1_goToStart (l := l) (dC := dC) (dI := dI) (cB := cB) (ob := ob) (sa := sa) (sb := sb) (mm := mm) (base := base) (R := R) hv10 hCF) (cwV 0 hts gX1_check_X1_goToStart rfl rfl rfl (by decide +kernel) ⟨Nat.le_of_ble_eq_true rfl, Nat.le_of_ble_eq_true rfl⟩) hK hP hD hS (Nat.le_trans hbs hS.1) (fun U hU hW => Env_step rfl rfl hE hS hU hW) 0 rfl rfl (by rfl) hl.1 rfl (Nat.le_of_ble_eq_true rfl) dX1_check_1 ⟨Nat.zero_le _, Nat.zero_le _⟩ (fun H locs ws9 hW9 hP hD _ hS => ?_)
  obtain ⟨rfl, hCF⟩ := hW9
  refine lv_iconst (v := 1) hx hb dX1_check_4 (by decide) ?_
  refine lv_istore_n (lv' := [(1, .int 1), (0, .ref ob)]) hx hb dX1_check_5 rfl hl (by decide) rfl (fun ls hl => ?_)
  exact t_6  h (lv_sub hl [1, 0] rfl) hP hD hS hCF
