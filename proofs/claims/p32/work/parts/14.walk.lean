def fX0_campsAheadOf_21 (N : Nat) (K : KT) (k4 : Int32 → Int32 → Int32 → Option Int32) (x1 : Int32) (x2 : Int32) (x3 : Int32) : Option Int32 := k4 x1 x2 (x3 + 1)
def fX0_campsAheadOf_4 (N : Nat) (K : KT)  : Nat → Int32 → Int32 → Int32 → Option Int32
  | 0, _, _, _ => none
  | n + 1, x1, x2, x3 => (if 5 ≤ x3 then some x2 else bdP (mX0_isAhead N K x3 x1) (fun v2 => (if v2 = 0 then fX0_campsAheadOf_21 N K (fX0_campsAheadOf_4 N K  n) x1 x2 x3 else fX0_campsAheadOf_21 N K (fX0_campsAheadOf_4 N K  n) x1 (x2 + 1) x3)))
def mX0_campsAheadOf (N : Nat) (K : KT) (p0 : Int32) : Option Int32 := fX0_campsAheadOf_4 N K  N p0 0 0
def rmX0_campsAheadOf : Room := { frames := 4, cells := 0, slots := 0, locals := 108 }
set_option maxHeartbeats 4000000 in
set_option maxRecDepth 100000 in
theorem tX0_campsAheadOf {l : Launch} {dC : Nat → ClassId} {dI : Nat → Nat → Nat} {cI : ClassId} {ob : Nat} {q : Nat → Nat} {N : Nat} {K : KT} {p0 : Int32} {rr : Int32} (hf : mX0_campsAheadOf N K p0 = some rr) : Met l yX0_campsAheadOf wsX0_campsAheadOf rmX0_campsAheadOf (cP (dC, dI) vwCl [(cI, .int)] (cvW cI ob q K) [.ref ob, .int p0]) (cQp rr) 0 0 (fun _ => False) := by
  refine Met.ofW (cc := cX0_campsAheadOf) (maxL := 4) (ret := (some .int)) (by decide) rfl ?_
  intro p e s m args below meth c s₁ B hml hv
  obtain ⟨rfl, hP, hK⟩ := hv
  have hx := B.exec
  have hb := B.bytes
  have hr := B.returns
  have hts := atoms_spec (ws := wsX0_campsAheadOf) B.pre
  have hown : s.vm.findClass RX0 = some m.cls := findClass_of_methodNamed B.named
  have hlocks := B.notSynchronized
  have t_21 : ∀ {k4 : Int32 → Int32 → Int32 → Option Int32} (hk4 : ∀ {x1 : Int32} {x2 : Int32} {x3 : Int32} {ls : Array Slot} (h : k4 x1 x2 x3 = some rr) (hl : lv_has ls 4 [(0, .ref ob), (1, .int x1), (2, .int x2), (3, .int x3)]), W p l e (headSpec wsX0_campsAheadOf rmX0_campsAheadOf).room s m ([.ref ob, .int p0] : List Value).toArray below meth c s.heap [] 0 0 (MQ below (cQp rr) ([.ref ob, .int p0] : List Value).toArray s 0 0 (fun _ => False)) (F0 m 4 ls [])), ∀ {x1 : Int32} {x2 : Int32} {x3 : Int32} {ls : Array Slot} (h : fX0_campsAheadOf_21 N K k4 x1 x2 x3 = some rr) (hl : lv_has ls 4 [(0, .ref ob), (1, .int x1), (2, .int x2), (3, .int x3)]), W p l e (headSpec wsX0_campsAheadOf rmX0_campsAheadOf).room s m ([.ref ob, .int p0] : List Value).toArray below meth c s.heap [] 0 0 (MQ below (cQp rr) ([.ref ob, .int p0] : List Value).toArray s 0 0 (fun _ => False)) (F0 m 21 ls []) := by
    intro k4 hk4 x1 x2 x3 ls h hl
    unfold fX0_campsAheadOf_21 at h
    refine lv_iinc (v := x3 + 1) (lv' := [(3, .int (x3 + 1)), (0, .ref ob), (1, .int x1), (2, .int x2)]) hx hb dX0_campsAheadOf_21 hl (k := 3) rfl rfl (by decide) rfl (fun ls hl => ?_)
    refine lv_goto (tgt := 4) hx hb dX0_campsAheadOf_24 (by decide) ?_
    exact hk4 h (lv_sub hl [1, 2, 3, 0] rfl)
  have t_4 : ∀ {n : Nat}, ∀ {x1 : Int32} {x2 : Int32} {x3 : Int32} {ls : Array Slot} (h : fX0_campsAheadOf_4 N K  n x1 x2 x3 = some rr) (hl : lv_has ls 4 [(0, .ref ob), (1, .int x1), (2, .int x2), (3, .int x3)]), W p l e (headSpec wsX0_campsAheadOf rmX0_campsAheadOf).room s m ([.ref ob, .int p0] : List Value).toArray below meth c s.heap [] 0 0 (MQ below (cQp rr) ([.ref ob, .int p0] : List Value).toArray s 0 0 (fun _ => False)) (F0 m 4 ls []) := by
    intro  n
    induction n with
    | zero =>
      intro x1 x2 x3 ls h hl
      unfold fX0_campsAheadOf_4 at h
      cases h
    | succ n ih =>
      intro x1 x2 x3 ls h hl
      unfold fX0_campsAheadOf_4 at h
      refine lv_iload_n hx hb dX0_campsAheadOf_4 rfl (lv_at hl 3 rfl) ?_
      refine lv_iconst (v := 5) hx hb dX0_campsAheadOf_5 (by decide) ?_
      refine lv_icmp_ge (tgt := 27) hx hb dX0_campsAheadOf_6 (by decide) (fun c1 => ?_) (fun c1 => ?_)
      · replace h := if_p c1 h
        refine lv_iload_n hx hb dX0_campsAheadOf_27 rfl (lv_at hl 2 rfl) ?_
        exact W.iret hx hb hr (fun t ht _ => retP h ht) (fun _ h9 => absurd h9 List.not_mem_nil) dX0_campsAheadOf_28
      · replace h := if_n c1 h
        refine lv_aload_n hx hb dX0_campsAheadOf_9 rfl (lv_at hl 0 rfl) ?_
        refine lv_iload_n hx hb dX0_campsAheadOf_10 rfl (lv_at hl 3 rfl) ?_
        refine lv_iload_n hx hb dX0_campsAheadOf_11 rfl (lv_at hl 1 rfl) ?_
        obtain ⟨v2, hv2, h⟩ := bdP_some h
        refine call_VP (As := [.int x3, .int x1]) (rest := []) ⟨hx, hb, hml, hown, hts⟩ (tX0_isAhead (l := l) (dC := dC) (dI := dI) (cI := cI) (ob := ob) (q := q) hv2) (cwV 2 hts gX0_campsAheadOf_X0_isAhead rfl rfl rfl (by decide +kernel) ⟨Nat.le_of_ble_eq_true rfl, Nat.le_of_ble_eq_true rfl⟩) hK hP 0 rfl rfl (by rfl) hl.1 rfl (Nat.le_of_ble_eq_true rfl) dX0_campsAheadOf_12 ⟨Nat.zero_le _, Nat.zero_le _⟩ ?_
        refine lv_if_eq (tgt := 21) hx hb dX0_campsAheadOf_15 (by decide) (fun c3 => ?_) (fun c3 => ?_)
        · replace h := if_p c3 h
          exact t_21 @ih h (lv_sub hl [0, 1, 2, 3] rfl)
        · replace h := if_n c3 h
          refine lv_iinc (v := x2 + 1) (lv' := [(2, .int (x2 + 1)), (0, .ref ob), (1, .int x1), (3, .int x3)]) hx hb dX0_campsAheadOf_18 hl (k := 2) rfl rfl (by decide) rfl (fun ls hl => ?_)
          exact t_21 @ih h (lv_sub hl [1, 2, 0, 3] rfl)
  have hl := lv_entry ([.ref ob, .int p0]) (n := 4) (Nat.le_of_ble_eq_true rfl)
  rw [lg_entry_eq]
  generalize (lg_sl ([.ref ob, .int p0]) ++ List.replicate (4 - (lg_sl ([.ref ob, .int p0])).length) Slot.unset).toArray = ls at hl ⊢
  have hl : lv_has ls 4 [(0, .ref ob), (1, .int p0)] := hl
  have h := hf
  unfold mX0_campsAheadOf at h
  refine lv_iconst (v := 0) hx hb dX0_campsAheadOf_0 (by decide) ?_
  refine lv_istore_n (lv' := [(2, .int 0), (0, .ref ob), (1, .int p0)]) hx hb dX0_campsAheadOf_1 rfl hl (by decide) rfl (fun ls hl => ?_)
  refine lv_iconst (v := 0) hx hb dX0_campsAheadOf_2 (by decide) ?_
  refine lv_istore_n (lv' := [(3, .int 0), (2, .int 0), (0, .ref ob), (1, .int p0)]) hx hb dX0_campsAheadOf_3 rfl hl (by decide) rfl (fun ls hl => ?_)
  exact t_4  h (lv_sub hl [2, 3, 1, 0] rfl)
def fX0_areWellTogether_36 (N : Nat) (K : KT)   : Option Int32 := some 0
def fX0_areWellTogether_76 (N : Nat) (K : KT)  (y0 : Int32) : Option Int32 := gd (y0 = 0 ∨ y0 = 1) (some y0)
def fX0_areWellTogether_71 (N : Nat) (K : KT)   : Option Int32 := fX0_areWellTogether_76 N K  1
def mX0_areWellTogether (N : Nat) (K : KT) (p0 : Int32) (p1 : Int32) : Option Int32 := bdP (mX0_pagesAlike N K p0 p1) (fun v1 => rdA (K 6) 5 p0 (fun v2 => rdA (K 6) 5 p1 (fun v4 => (if v1 < ((if v4 < v2 then v4 else v2)) then fX0_areWellTogether_36 N K   else bdP (mX0_pagesAlikeByHalves N K p0 p1) (fun v7 => (if v1 = v7 then rdA (K 2) 5 p0 (fun v9 => (if v9 = 0 then fX0_areWellTogether_71 N K   else rdA (K 2) 5 p1 (fun v12 => (if v12 = 0 then fX0_areWellTogether_71 N K   else rdA (K 0) 5 p0 (fun v15 => rdA (K 0) 5 p1 (fun v17 => (if v15 = v17 then fX0_areWellTogether_76 N K  0 else fX0_areWellTogether_71 N K  ))))))) else fX0_areWellTogether_36 N K  ))))))
def rmX0_areWellTogether : Room := { frames := 3, cells := 0, slots := 0, locals := 87 }
set_option maxHeartbeats 4000000 in
set_option maxRecDepth 100000 in
theorem tX0_areWellTogether {l : Launch} {dC : Nat → ClassId} {dI : Nat → Nat → Nat} {cI : ClassId} {ob : Nat} {q : Nat → Nat} {N : Nat} {K : KT} {p0 : Int32} {p1 : Int32} {rr : Int32} (hf : mX0_areWellTogether N K p0 p1 = some rr) : Met l yX0_areWellTogether wsX0_areWellTogether rmX0_areWellTogether (cP (dC, dI) vwCl [(cI, .int)] (cvW cI ob q K) [.ref ob, .int p0, .int p1]) (cQp rr) 0 0 (fun _ => False) := by
  refine Met.ofW (cc := cX0_areWellTogether) (maxL := 4) (ret := (some .boolean)) (by decide) rfl ?_
  intro p e s m args below meth c s₁ B hml hv
  obtain ⟨rfl, hP, hK⟩ := hv
  have hx := B.exec
  have hb := B.bytes
  have hr := B.returns
  have hts := atoms_spec (ws := wsX0_areWellTogether) B.pre
  have hown : s.vm.findClass RX0 = some m.cls := findClass_of_methodNamed B.named
  have hlocks := B.notSynchronized
  have hwX0 : ∀ w ∈ u_ws RX0 TX0 16, w ∈ wsX0_areWellTogether := by decide +kernel
  have hf_9 := hts (.fieldLink RX0 9 "CaravanLogs$Caravan" "term" "[I") (by decide +kernel)
  have hf_18 := hts (.fieldLink RX0 18 "CaravanLogs$Caravan" "isCaptain" "[I") (by decide +kernel)
  have hf_30 := hts (.fieldLink RX0 30 "CaravanLogs$Caravan" "settled" "[I") (by decide +kernel)
  have t_36 : ∀  {ls : Array Slot} (h : fX0_areWellTogether_36 N K   = some rr) (hl : lv_has ls 4 []), W p l e (headSpec wsX0_areWellTogether rmX0_areWellTogether).room s m ([.ref ob, .int p0, .int p1] : List Value).toArray below meth c s.heap [] 0 0 (MQ below (cQp rr) ([.ref ob, .int p0, .int p1] : List Value).toArray s 0 0 (fun _ => False)) (F0 m 36 ls []) := by
    intro   ls h hl
    unfold fX0_areWellTogether_36 at h
    refine lv_iconst (v := 0) hx hb dX0_areWellTogether_36 (by decide) ?_
    exact W.zret hx hb hr (by decide) (fun t ht _ => retP h ht) (fun _ h9 => absurd h9 List.not_mem_nil) dX0_areWellTogether_37
  have t_76 : ∀ {y0 : Int32} {ls : Array Slot} (h : fX0_areWellTogether_76 N K  y0 = some rr) (hl : lv_has ls 4 []), W p l e (headSpec wsX0_areWellTogether rmX0_areWellTogether).room s m ([.ref ob, .int p0, .int p1] : List Value).toArray below meth c s.heap [] 0 0 (MQ below (cQp rr) ([.ref ob, .int p0, .int p1] : List Value).toArray s 0 0 (fun _ => False)) (F0 m 76 ls [.int y0]) := by
    intro  y0 ls h hl
    unfold fX0_areWellTogether_76 at h
    obtain ⟨hz, h⟩ := gd_some h
    exact W.zret hx hb hr (zb_ok hz) (fun t ht _ => retP h ht) (fun _ h9 => absurd h9 List.not_mem_nil) dX0_areWellTogether_76
  have t_71 : ∀  {ls : Array Slot} (h : fX0_areWellTogether_71 N K   = some rr) (hl : lv_has ls 4 []), W p l e (headSpec wsX0_areWellTogether rmX0_areWellTogether).room s m ([.ref ob, .int p0, .int p1] : List Value).toArray below meth c s.heap [] 0 0 (MQ below (cQp rr) ([.ref ob, .int p0, .int p1] : List Value).toArray s 0 0 (fun _ => False)) (F0 m 71 ls []) := by
    intro   ls h hl
    unfold fX0_areWellTogether_71 at h
    refine lv_iconst (v := 1) hx hb dX0_areWellTogether_71 (by decide) ?_
    refine lv_goto (tgt := 76) hx hb dX0_areWellTogether_72 (by decide) ?_
    exact t_76  h (lv_sub hl [] rfl)
  have hl := lv_entry ([.ref ob, .int p0, .int p1]) (n := 4) (Nat.le_of_ble_eq_true rfl)
  rw [lg_entry_eq]
  generalize (lg_sl ([.ref ob, .int p0, .int p1]) ++ List.replicate (4 - (lg_sl ([.ref ob, .int p0, .int p1])).length) Slot.unset).toArray = ls at hl ⊢
  have hl : lv_has ls 4 [(0, .ref ob), (1, .int p0), (2, .int p1)] := hl
  have h := hf
  unfold mX0_areWellTogether at h
  refine lv_aload_n hx hb dX0_areWellTogether_0 rfl (lv_at hl 0 rfl) ?_
  refine lv_iload_n hx hb dX0_areWellTogether_1 rfl (lv_at hl 1 rfl) ?_
  refine lv_iload_n hx hb dX0_areWellTogether_2 rfl (lv_at hl 2 rfl) ?_
  obtain ⟨v1, hv1, h⟩ := bdP_some h
  refine call_VP (As := [.int p0, .int p1]) (rest := []) ⟨hx, hb, hml, hown, hts⟩ (tX0_pagesAlike (l := l) (dC := dC) (dI := dI) (cI := cI) (ob := ob) (q := q) hv1) (cwV 2 hts gX0_areWellTogether_X0_pagesAlike rfl rfl rfl (by decide +kernel) ⟨Nat.le_of_ble_eq_true rfl, Nat.le_of_ble_eq_true rfl⟩) hK hP 0 rfl rfl (by rfl) hl.1 rfl (Nat.le_of_ble_eq_true rfl) dX0_areWellTogether_3 ⟨Nat.zero_le _, Nat.zero_le _⟩ ?_
  refine lv_istore_n (lv' := [(3, .int v1), (0, .ref ob), (1, .int p0), (2, .int p1)]) hx hb dX0_areWellTogether_6 rfl hl (by decide) rfl (fun ls hl => ?_)
  refine lv_iload_n hx hb dX0_areWellTogether_7 rfl (lv_at hl 0 rfl) ?_
  refine lv_aload_n hx hb dX0_areWellTogether_8 rfl (lv_at hl 1 rfl) ?_
  refine va_get (D := (dC, dI)) (ci := 1) (v := .ref (q 6)) (C := RX0) (T := TX0) (N := 16) hx hb hts hwX0 hown hK hP 0 rfl rfl 6 (by decide) hf_30 (fun _ h9 => h9) rfl dX0_areWellTogether_9 ?_
  refine lv_iload_n hx hb dX0_areWellTogether_12 rfl (lv_at hl 2 rfl) ?_
  obtain ⟨hi3, v2, ev2, h⟩ := rdA_some h
  refine k_iald hx hb hK hP 7 0 rfl rfl hi3 ev2 dX0_areWellTogether_13 ?_
  refine lv_aload_n hx hb dX0_areWellTogether_14 rfl (lv_at hl 1 rfl) ?_
  refine va_get (D := (dC, dI)) (ci := 1) (v := .ref (q 6)) (C := RX0) (T := TX0) (N := 16) hx hb hts hwX0 hown hK hP 0 rfl rfl 6 (by decide) hf_30 (fun _ h9 => h9) rfl dX0_areWellTogether_15 ?_
  refine lv_iload_n hx hb dX0_areWellTogether_18 rfl (lv_at hl 3 rfl) ?_
  obtain ⟨hi5, v4, ev4, h⟩ := rdA_some h
  refine k_iald hx hb hK hP 7 0 rfl rfl hi5 ev4 dX0_areWellTogether_19 ?_
  refine va_mmin hx hb (hml.trans hl.1.symm) hown (hts (.methodLink RX0 112 Lib.Math.min.name) (by decide +kernel)) (hts (.static Lib.Math.min.name) (by decide +kernel)) (hts (.initialized "java/lang/Math") (by decide +kernel)) (hts (.code Lib.Math.min.name Lib.Math.min.code 2 (some .int)) (by decide +kernel)) (Nat.le_of_ble_eq_true rfl) (Nat.le_of_ble_eq_true rfl) (Nat.zero_le _) (Nat.zero_le _) dX0_areWellTogether_20 ?_
  refine lv_icmp_lt (tgt := 36) hx hb dX0_areWellTogether_23 (by decide) (fun c6 => ?_) (fun c6 => ?_)
  · replace h := if_p c6 h
    exact t_36  h (lv_sub hl [] rfl)
  · replace h := if_n c6 h
    refine lv_iload_n hx hb dX0_areWellTogether_26 rfl (lv_at hl 0 rfl) ?_
    refine lv_aload_n hx hb dX0_areWellTogether_27 rfl (lv_at hl 1 rfl) ?_
    refine lv_iload_n hx hb dX0_areWellTogether_28 rfl (lv_at hl 2 rfl) ?_
    refine lv_iload_n hx hb dX0_areWellTogether_29 rfl (lv_at hl 3 rfl) ?_
    obtain ⟨v7, hv7, h⟩ := bdP_some h
    refine call_VP (As := [.int p0, .int p1]) (rest := [.int v1]) ⟨hx, hb, hml, hown, hts⟩ (tX0_pagesAlikeByHalves (l := l) (dC := dC) (dI := dI) (cI := cI) (ob := ob) (q := q) hv7) (cwV 2 hts gX0_areWellTogether_X0_pagesAlikeByHalves rfl rfl rfl (by decide +kernel) ⟨Nat.le_of_ble_eq_true rfl, Nat.le_of_ble_eq_true rfl⟩) hK hP 0 rfl rfl (by rfl) hl.1 rfl (Nat.le_of_ble_eq_true rfl) dX0_areWellTogether_30 ⟨Nat.zero_le _, Nat.zero_le _⟩ ?_
    refine lv_icmp_eq (tgt := 38) hx hb dX0_areWellTogether_33 (by decide) (fun c8 => ?_) (fun c8 => ?_)
    · replace h := if_p c8 h
      refine lv_aload_n hx hb dX0_areWellTogether_38 rfl (lv_at hl 1 rfl) ?_
      refine va_get (D := (dC, dI)) (ci := 1) (v := .ref (q 2)) (C := RX0) (T := TX0) (N := 16) hx hb hts hwX0 hown hK hP 0 rfl rfl 2 (by decide) hf_18 (fun _ h9 => h9) rfl dX0_areWellTogether_39 ?_
      refine lv_iload_n hx hb dX0_areWellTogether_42 rfl (lv_at hl 2 rfl) ?_
      obtain ⟨hi10, v9, ev9, h⟩ := rdA_some h
      refine k_iald hx hb hK hP 3 0 rfl rfl hi10 ev9 dX0_areWellTogether_43 ?_
      refine lv_if_eq (tgt := 71) hx hb dX0_areWellTogether_44 (by decide) (fun c11 => ?_) (fun c11 => ?_)
      · replace h := if_p c11 h
        exact t_71  h (lv_sub hl [] rfl)
      · replace h := if_n c11 h
        refine lv_aload_n hx hb dX0_areWellTogether_47 rfl (lv_at hl 1 rfl) ?_
        refine va_get (D := (dC, dI)) (ci := 1) (v := .ref (q 2)) (C := RX0) (T := TX0) (N := 16) hx hb hts hwX0 hown hK hP 0 rfl rfl 2 (by decide) hf_18 (fun _ h9 => h9) rfl dX0_areWellTogether_48 ?_
        refine lv_iload_n hx hb dX0_areWellTogether_51 rfl (lv_at hl 3 rfl) ?_
        obtain ⟨hi13, v12, ev12, h⟩ := rdA_some h
        refine k_iald hx hb hK hP 3 0 rfl rfl hi13 ev12 dX0_areWellTogether_52 ?_
        refine lv_if_eq (tgt := 71) hx hb dX0_areWellTogether_53 (by decide) (fun c14 => ?_) (fun c14 => ?_)
        · replace h := if_p c14 h
          exact t_71  h (lv_sub hl [] rfl)
        · replace h := if_n c14 h
          refine lv_aload_n hx hb dX0_areWellTogether_56 rfl (lv_at hl 1 rfl) ?_
          refine va_get (D := (dC, dI)) (ci := 1) (v := .ref (q 0)) (C := RX0) (T := TX0) (N := 16) hx hb hts hwX0 hown hK hP 0 rfl rfl 0 (by decide) hf_9 (fun _ h9 => h9) rfl dX0_areWellTogether_57 ?_
          refine lv_iload_n hx hb dX0_areWellTogether_60 rfl (lv_at hl 2 rfl) ?_
          obtain ⟨hi16, v15, ev15, h⟩ := rdA_some h
          refine k_iald hx hb hK hP 1 0 rfl rfl hi16 ev15 dX0_areWellTogether_61 ?_
          refine lv_aload_n hx hb dX0_areWellTogether_62 rfl (lv_at hl 1 rfl) ?_
          refine va_get (D := (dC, dI)) (ci := 1) (v := .ref (q 0)) (C := RX0) (T := TX0) (N := 16) hx hb hts hwX0 hown hK hP 0 rfl rfl 0 (by decide) hf_9 (fun _ h9 => h9) rfl dX0_areWellTogether_63 ?_
          refine lv_iload_n hx hb dX0_areWellTogether_66 rfl (lv_at hl 3 rfl) ?_
          obtain ⟨hi18, v17, ev17, h⟩ := rdA_some h
          refine k_iald hx hb hK hP 1 0 rfl rfl hi18 ev17 dX0_areWellTogether_67 ?_
          refine lv_icmp_eq (tgt := 75) hx hb dX0_areWellTogether_68 (by decide) (fun c19 => ?_) (fun c19 => ?_)
          · replace h := if_p c19 h
            refine lv_iconst (v := 0) hx hb dX0_areWellTogether_75 (by decide) ?_
            exact t_76  h (lv_sub hl [] rfl)
          · replace h := if_n c19 h
            exact t_71  h (lv_sub hl [] rfl)
    · replace h := if_n c8 h
      exact t_36  h (lv_sub hl [] rfl)
def fX0_isAllWell_48 (N : Nat) (K : KT) (k2 : Int32 → Option Int32) (x1 : Int32) : Option Int32 := k2 (x1 + 1)
def fX0_isAllWell_26 (N : Nat) (K : KT) (k2 : Int32 → Option Int32) : Nat → Int32 → Int32 → Option Int32
  | 0, _, _ => none
  | n + 1, x1, x2 => (if x1 ≤ x2 then fX0_isAllWell_48 N K k2 x1 else bdP (mX0_areWellTogether N K x1 x2) (fun v2 => (if v2 = 0 then some 0 else (fX0_isAllWell_26 N K k2 n) x1 (x2 + 1))))
def fX0_isAllWell_2 (N : Nat) (K : KT)  : Nat → Int32 → Option Int32
  | 0, _ => none
  | n + 1, x1 => (if 5 ≤ x1 then some 1 else rdA (K 6) 5 x1 (fun v5 => bdP (mX0_campsAlike N K x1 v5) (fun v7 => (if 3 ≤ v7 then fX0_isAllWell_26 N K (fX0_isAllWell_2 N K  n) N x1 0 else some 0))))
def mX0_isAllWell (N : Nat) (K : KT)  : Option Int32 := fX0_isAllWell_2 N K  N 0
def rmX0_isAllWell : Room := { frames := 4, cells := 0, slots := 0, locals := 110 }
set_option maxHeartbeats 4000000 in
set_option maxRecDepth 100000 in
theorem tX0_isAllWell {l : Launch} {dC : Nat → ClassId} {dI : Nat → Nat → Nat} {cI : ClassId} {ob : Nat} {q : Nat → Nat} {N : Nat} {K : KT}  {rr : Int32} (hf : mX0_isAllWell N K  = some rr) : Met l yX0_isAllWell wsX0_isAllWell rmX0_isAllWell (cP (dC, dI) vwCl [(cI, .int)] (cvW cI ob q K) [.ref ob]) (cQp rr) 0 0 (fun _ => False) := by
  refine Met.ofW (cc := cX0_isAllWell) (maxL := 3) (ret := (some .boolean)) (by decide) rfl ?_
  intro p e s m args below meth c s₁ B hml hv
  obtain ⟨rfl, hP, hK⟩ := hv
  have hx := B.exec
  have hb := B.bytes
  have hr := B.returns
  have hts := atoms_spec (ws := wsX0_isAllWell) B.pre
  have hown : s.vm.findClass RX0 = some m.cls := findClass_of_methodNamed B.named
  have hlocks := B.notSynchronized
  have hwX0 : ∀ w ∈ u_ws RX0 TX0 16, w ∈ wsX0_isAllWell := by decide +kernel
  have hf_30 := hts (.fieldLink RX0 30 "CaravanLogs$Caravan" "settled" "[I") (by decide +kernel)
  have t_48 : ∀ {k2 : Int32 → Option Int32} (hk2 : ∀ {x1 : Int32} {ls : Array Slot} (h : k2 x1 = some rr) (hl : lv_has ls 3 [(0, .ref ob), (1, .int x1)]), W p l e (headSpec wsX0_isAllWell rmX0_isAllWell).room s m ([.ref ob] : List Value).toArray below meth c s.heap [] 0 0 (MQ below (cQp rr) ([.ref ob] : List Value).toArray s 0 0 (fun _ => False)) (F0 m 2 ls [])), ∀ {x1 : Int32} {ls : Array Slot} (h : fX0_isAllWell_48 N K k2 x1 = some rr) (hl : lv_has ls 3 [(0, .ref ob), (1, .int x1)]), W p l e (headSpec wsX0_isAllWell rmX0_isAllWell).room s m ([.ref ob] : List Value).toArray below meth c s.heap [] 0 0 (MQ below (cQp rr) ([.ref ob] : List Value).toArray s 0 0 (fun _ => False)) (F0 m 48 ls []) := by
    intro k2 hk2 x1 ls h hl
    unfold fX0_isAllWell_48 at h
    refine lv_iinc (v := x1 + 1) (lv' := [(1, .int (x1 + 1)), (0, .ref ob)]) hx hb dX0_isAllWell_48 hl (k := 1) rfl rfl (by decide) rfl (fun ls hl => ?_)
    refine lv_goto (tgt := 2) hx hb dX0_isAllWell_51 (by decide) ?_
    exact hk2 h (lv_sub hl [1, 0] rfl)
  have t_26 : ∀ {k2 : Int32 → Option Int32} (hk2 : ∀ {x1 : Int32} {ls : Array Slot} (h : k2 x1 = some rr) (hl : lv_has ls 3 [(0, .ref ob), (1, .int x1)]), W p l e (headSpec wsX0_isAllWell rmX0_isAllWell).room s m ([.ref ob] : List Value).toArray below meth c s.heap [] 0 0 (MQ below (cQp rr) ([.ref ob] : List Value).toArray s 0 0 (fun _ => False)) (F0 m 2 ls [])), ∀ {n : Nat}, ∀ {x1 : Int32} {x2 : Int32} {ls : Array Slot} (h : fX0_isAllWell_26 N K k2 n x1 x2 = some rr) (hl : lv_has ls 3 [(0, .ref ob), (1, .int x1), (2, .int x2)]), W p l e (headSpec wsX0_isAllWell rmX0_isAllWell).room s m ([.ref ob] : List Value).toArray below meth c s.heap [] 0 0 (MQ below (cQp rr) ([.ref ob] : List Value).toArray s 0 0 (fun _ => False)) (F0 m 26 ls []) := by
    intro k2 hk2 n
    induction n with
    | zero =>
      intro x1 x2 ls h hl
      unfold fX0_isAllWell_26 at h
      cases h
    | succ n ih =>
      intro x1 x2 ls h hl
      unfold fX0_isAllWell_26 at h
      refine lv_iload_n hx hb dX0_isAllWell_26 rfl (lv_at hl 2 rfl) ?_
      refine lv_iload_n hx hb dX0_isAllWell_27 rfl (lv_at hl 1 rfl) ?_
      refine lv_icmp_ge (tgt := 48) hx hb dX0_isAllWell_28 (by decide) (fun c1 => ?_) (fun c1 => ?_)
      · replace h := if_p c1 h
        exact t_48 @hk2 h (lv_sub hl [0, 1] rfl)
      · replace h := if_n c1 h
        refine lv_aload_n hx hb dX0_isAllWell_31 rfl (lv_at hl 0 rfl) ?_
        refine lv_iload_n hx hb dX0_isAllWell_32 rfl (lv_at hl 1 rfl) ?_
        refine lv_iload_n hx hb dX0_isAllWell_33 rfl (lv_at hl 2 rfl) ?_
        obtain ⟨v2, hv2, h⟩ := bdP_some h
        refine call_VP (As := [.int x1, .int x2]) (rest := []) ⟨hx, hb, hml, hown, hts⟩ (tX0_areWellTogether (l := l) (dC := dC) (dI := dI) (cI := cI) (ob := ob) (q := q) hv2) (cwV 2 hts gX0_isAllWell_X0_areWellTogether rfl rfl rfl (by decide +kernel) ⟨Nat.le_of_ble_eq_true rfl, Nat.le_of_ble_eq_true rfl⟩) hK hP 0 rfl rfl (by rfl) hl.1 rfl (Nat.le_of_ble_eq_true rfl) dX0_isAllWell_34 ⟨Nat.zero_le _, Nat.zero_le _⟩ ?_
        refine lv_if_ne (tgt := 42) hx hb dX0_isAllWell_37 (by decide) (fun c3 => ?_) (fun c3 => ?_)
        · replace h := if_n c3 h
          refine lv_iinc (v := x2 + 1) (lv' := [(2, .int (x2 + 1)), (0, .ref ob), (1, .int x1)]) hx hb dX0_isAllWell_42 hl (k := 2) rfl rfl (by decide) rfl (fun ls hl => ?_)
          refine lv_goto (tgt := 26) hx hb dX0_isAllWell_45 (by decide) ?_
          exact ih h (lv_sub hl [1, 2, 0] rfl)
        · replace h := if_p c3 h
          refine lv_iconst (v := 0) hx hb dX0_isAllWell_40 (by decide) ?_
          exact W.zret hx hb hr (by decide) (fun t ht _ => retP h ht) (fun _ h9 => absurd h9 List.not_mem_nil) dX0_isAllWell_41
  have t_2 : ∀ {n : Nat}, ∀ {x1 : Int32} {ls : Array Slot} (h : fX0_isAllWell_2 N K  n x1 = some rr) (hl : lv_has ls 3 [(0, .ref ob), (1, .int x1)]), W p l e (headSpec wsX0_isAllWell rmX0_isAllWell).room s m ([.ref ob] : List Value).toArray below meth c s.heap [] 0 0 (MQ below (cQp rr) ([.ref ob] : List Value).toArray s 0 0 (fun _ => False)) (F0 m 2 ls []) := by
    intro  n
    induction n with
    | zero =>
      intro x1 ls h hl
      unfold fX0_isAllWell_2 at h
      cases h
    | succ n ih =>
      intro x1 ls h hl
      unfold fX0_isAllWell_2 at h
      refine lv_iload_n hx hb dX0_isAllWell_2 rfl (lv_at hl 1 rfl) ?_
      refine lv_iconst (v := 5) hx hb dX0_isAllWell_3 (by decide) ?_
      refine lv_icmp_ge (tgt := 54) hx hb dX0_isAllWell_4 (by decide) (fun c4 => ?_) (fun c4 => ?_)
      · replace h := if_p c4 h
        refine lv_iconst (v := 1) hx hb dX0_isAllWell_54 (by decide) ?_
        exact W.zret hx hb hr (by decide) (fun t ht _ => retP h ht) (fun _ h9 => absurd h9 List.not_mem_nil) dX0_isAllWell_55
      · replace h := if_n c4 h
        refine lv_aload_n hx hb dX0_isAllWell_7 rfl (lv_at hl 0 rfl) ?_
        refine lv_iload_n hx hb dX0_isAllWell_8 rfl (lv_at hl 1 rfl) ?_
        refine lv_aload_n hx hb dX0_isAllWell_9 rfl (lv_at hl 0 rfl) ?_
        refine va_get (D := (dC, dI)) (ci := 1) (v := .ref (q 6)) (C := RX0) (T := TX0) (N := 16) hx hb hts hwX0 hown hK hP 0 rfl rfl 6 (by decide) hf_30 (fun _ h9 => h9) rfl dX0_isAllWell_10 ?_
        refine lv_iload_n hx hb dX0_isAllWell_13 rfl (lv_at hl 1 rfl) ?_
        obtain ⟨hi6, v5, ev5, h⟩ := rdA_some h
        refine k_iald hx hb hK hP 7 0 rfl rfl hi6 ev5 dX0_isAllWell_14 ?_
        obtain ⟨v7, hv7, h⟩ := bdP_some h
        refine call_VP (As := [.int x1, .int v5]) (rest := []) ⟨hx, hb, hml, hown, hts⟩ (tX0_campsAlike (l := l) (dC := dC) (dI := dI) (cI := cI) (ob := ob) (q := q) hv7) (cwV 2 hts gX0_isAllWell_X0_campsAlike rfl rfl rfl (by decide +kernel) ⟨Nat.le_of_ble_eq_true rfl, Nat.le_of_ble_eq_true rfl⟩) hK hP 0 rfl rfl (by rfl) hl.1 rfl (Nat.le_of_ble_eq_true rfl) dX0_isAllWell_15 ⟨Nat.zero_le _, Nat.zero_le _⟩ ?_
        refine lv_iconst (v := 3) hx hb dX0_isAllWell_18 (by decide) ?_
        refine lv_icmp_ge (tgt := 24) hx hb dX0_isAllWell_19 (by decide) (fun c8 => ?_) (fun c8 => ?_)
        · replace h := if_p c8 h
          refine lv_iconst (v := 0) hx hb dX0_isAllWell_24 (by decide) ?_
          refine lv_istore_n (lv' := [(2, .int 0), (0, .ref ob), (1, .int x1)]) hx hb dX0_isAllWell_25 rfl hl (by decide) rfl (fun ls hl => ?_)
          exact t_26 @ih h (lv_sub hl [1, 2, 0] rfl)
        · replace h := if_n c8 h
          refine lv_iconst (v := 0) hx hb dX0_isAllWell_22 (by decide) ?_
          exact W.zret hx hb hr (by decide) (fun t ht _ => retP h ht) (fun _ h9 => absurd h9 List.not_mem_nil) dX0_isAllWell_23
  have hl := lv_entry ([.ref ob]) (n := 3) (Nat.le_of_ble_eq_true rfl)
  rw [lg_entry_eq]
  generalize (lg_sl ([.ref ob]) ++ List.replicate (3 - (lg_sl ([.ref ob])).length) Slot.unset).toArray = ls at hl ⊢
  have hl : lv_has ls 3 [(0, .ref ob)] := hl
  have h := hf
  unfold mX0_isAllWell at h
  refine lv_iconst (v := 0) hx hb dX0_isAllWell_0 (by decide) ?_
  refine lv_istore_n (lv' := [(1, .int 0), (0, .ref ob)]) hx hb dX0_isAllWell_1 rfl hl (by decide) rfl (fun ls hl => ?_)
  exact t_2  h (lv_sub hl [1, 0] rfl)
