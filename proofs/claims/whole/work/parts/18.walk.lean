def fX3_pageOf_24 (N : Nat) (K : KT)   : Option Int32 := some ((-1))
def fX3_pageOf_47 (N : Nat) (K : KT)  (y0 : Int32) : Option Int32 := some y0
def mX3_pageOf (N : Nat) (K : KT) (p0 : Int32) (p1 : Int32) (p2 : Int32) : Option Int32 := bdP (mX3_isCamp N p0) (fun v1 => (if v1 = 0 then fX3_pageOf_24 N K   else bdP (mX3_of N K p0 6) (fun v3 => bdP (mX3_in N p1 0 (v3 - 1)) (fun v4 => (if v4 = 0 then fX3_pageOf_24 N K   else bdP (mX3_in N p2 0 1) (fun v6 => (if v6 = 0 then fX3_pageOf_47 N K  ((-2)) else bdP (mX3_page N K p0 p1 p2) (fun v8 => fX3_pageOf_47 N K  v8))))))))
def rmX3_pageOf : Room := { frames := 3, cells := 0, slots := 0, locals := 85 }
set_option maxHeartbeats 4000000 in
set_option maxRecDepth 100000 in
theorem tX3_pageOf {l : Launch} {dC : Nat → ClassId} {dI : Nat → Nat → Nat} {cI : ClassId} {cC : ClassId} {ob : Nat} {q : Nat → Nat} {N : Nat} {K : KT} {p0 : Int32} {p1 : Int32} {p2 : Int32} {rr : Int32} (hf : mX3_pageOf N K p0 p1 p2 = some rr) : Met l yX3_pageOf wsX3_pageOf rmX3_pageOf (cP (dC, dI) vwCl [(cI, .int), (cC, .char)] (mdW cI cC ob q K) [.ref ob, .int p0, .int p1, .int p2]) (cQp rr) 0 0 (fun _ => False) := by
  refine Met.ofW (cc := cX3_pageOf) (maxL := 4) (ret := (some .int)) (by decide) rfl ?_
  intro p e s m args below meth c s₁ B hml hv
  obtain ⟨rfl, hP, hK⟩ := hv
  have hx := B.exec
  have hb := B.bytes
  have hr := B.returns
  have hts := atoms_spec (ws := wsX3_pageOf) B.pre
  have hown : s.vm.findClass RX3 = some m.cls := findClass_of_methodNamed B.named
  have hlocks := B.notSynchronized
  have t_24 : ∀  {ls : Array Slot} (h : fX3_pageOf_24 N K   = some rr) (hl : lv_has ls 4 []), W p l e (headSpec wsX3_pageOf rmX3_pageOf).room s m ([.ref ob, .int p0, .int p1, .int p2] : List Value).toArray below meth c s.heap [] 0 0 (MQ below (cQp rr) ([.ref ob, .int p0, .int p1, .int p2] : List Value).toArray s 0 0 (fun _ => False)) (F0 m 24 ls []) := by
    intro   ls h hl
    unfold fX3_pageOf_24 at h
    refine lv_iconst (v := (-1)) hx hb dX3_pageOf_24 (by decide) ?_
    exact W.iret hx hb hr (fun t ht _ => retP h ht) (fun _ h9 => absurd h9 List.not_mem_nil) dX3_pageOf_25
  have t_47 : ∀ {y0 : Int32} {ls : Array Slot} (h : fX3_pageOf_47 N K  y0 = some rr) (hl : lv_has ls 4 []), W p l e (headSpec wsX3_pageOf rmX3_pageOf).room s m ([.ref ob, .int p0, .int p1, .int p2] : List Value).toArray below meth c s.heap [] 0 0 (MQ below (cQp rr) ([.ref ob, .int p0, .int p1, .int p2] : List Value).toArray s 0 0 (fun _ => False)) (F0 m 47 ls [.int y0]) := by
    intro  y0 ls h hl
    unfold fX3_pageOf_47 at h
    exact W.iret hx hb hr (fun t ht _ => retP h ht) (fun _ h9 => absurd h9 List.not_mem_nil) dX3_pageOf_47
  have hl := lv_entry ([.ref ob, .int p0, .int p1, .int p2]) (n := 4) (Nat.le_of_ble_eq_true rfl)
  rw [lg_entry_eq]
  generalize (lg_sl ([.ref ob, .int p0, .int p1, .int p2]) ++ List.replicate (4 - (lg_sl ([.ref ob, .int p0, .int p1, .int p2])).length) Slot.unset).toArray = ls at hl ⊢
  have hl : lv_has ls 4 [(0, .ref ob), (1, .int p0), (2, .int p1), (3, .int p2)] := hl
  have h := hf
  unfold mX3_pageOf at h
  refine lv_iload_n hx hb dX3_pageOf_0 rfl (lv_at hl 1 rfl) ?_
  obtain ⟨v1, hv1, h⟩ := bdP_some h
  refine call_SP (As := [.int p0]) (rest := []) ⟨hx, hb, hml, hown, hts⟩ (tX3_isCamp (l := l) hv1) (va_cwS 1 hts gX3_pageOf_X3_isCamp rfl rfl rfl (by decide +kernel) ⟨Nat.le_of_ble_eq_true rfl, Nat.le_of_ble_eq_true rfl⟩) (by rfl) hl.1 rfl (Nat.le_of_ble_eq_true rfl) dX3_pageOf_1 ⟨Nat.zero_le _, Nat.zero_le _⟩ ?_
  refine lv_if_eq (tgt := 24) hx hb dX3_pageOf_4 (by decide) (fun c2 => ?_) (fun c2 => ?_)
  · replace h := if_p c2 h
    exact t_24  h (lv_sub hl [] rfl)
  · replace h := if_n c2 h
    refine lv_iload_n hx hb dX3_pageOf_7 rfl (lv_at hl 2 rfl) ?_
    refine lv_iconst (v := 0) hx hb dX3_pageOf_8 (by decide) ?_
    refine lv_aload_n hx hb dX3_pageOf_9 rfl (lv_at hl 0 rfl) ?_
    refine lv_iload_n hx hb dX3_pageOf_10 rfl (lv_at hl 1 rfl) ?_
    refine lv_bipush (v := 6) hx hb dX3_pageOf_11 (by decide) ?_
    obtain ⟨v3, hv3, h⟩ := bdP_some h
    refine call_VP (As := [.int p0, .int 6]) (rest := [.int 0, .int p1]) ⟨hx, hb, hml, hown, hts⟩ (tX3_of (l := l) (dC := dC) (dI := dI) (cI := cI) (cC := cC) (ob := ob) (q := q) hv3) (cwV 2 hts gX3_pageOf_X3_of rfl rfl rfl (by decide +kernel) ⟨Nat.le_of_ble_eq_true rfl, Nat.le_of_ble_eq_true rfl⟩) hK hP 0 rfl rfl (by rfl) hl.1 rfl (Nat.le_of_ble_eq_true rfl) dX3_pageOf_13 ⟨Nat.zero_le _, Nat.zero_le _⟩ ?_
    refine lv_iconst (v := 1) hx hb dX3_pageOf_16 (by decide) ?_
    refine lv_isub hx hb dX3_pageOf_17 ?_
    obtain ⟨v4, hv4, h⟩ := bdP_some h
    refine call_SP (As := [.int p1, .int 0, .int (v3 - 1)]) (rest := []) ⟨hx, hb, hml, hown, hts⟩ (tX3_in (l := l) hv4) (va_cwS 3 hts gX3_pageOf_X3_in rfl rfl rfl (by decide +kernel) ⟨Nat.le_of_ble_eq_true rfl, Nat.le_of_ble_eq_true rfl⟩) (by rfl) hl.1 rfl (Nat.le_of_ble_eq_true rfl) dX3_pageOf_18 ⟨Nat.zero_le _, Nat.zero_le _⟩ ?_
    refine lv_if_ne (tgt := 26) hx hb dX3_pageOf_21 (by decide) (fun c5 => ?_) (fun c5 => ?_)
    · replace h := if_n c5 h
      refine lv_iload_n hx hb dX3_pageOf_26 rfl (lv_at hl 3 rfl) ?_
      refine lv_iconst (v := 0) hx hb dX3_pageOf_27 (by decide) ?_
      refine lv_iconst (v := 1) hx hb dX3_pageOf_28 (by decide) ?_
      obtain ⟨v6, hv6, h⟩ := bdP_some h
      refine call_SP (As := [.int p2, .int 0, .int 1]) (rest := []) ⟨hx, hb, hml, hown, hts⟩ (tX3_in (l := l) hv6) (va_cwS 3 hts gX3_pageOf_X3_in rfl rfl rfl (by decide +kernel) ⟨Nat.le_of_ble_eq_true rfl, Nat.le_of_ble_eq_true rfl⟩) (by rfl) hl.1 rfl (Nat.le_of_ble_eq_true rfl) dX3_pageOf_29 ⟨Nat.zero_le _, Nat.zero_le _⟩ ?_
      refine lv_if_eq (tgt := 45) hx hb dX3_pageOf_32 (by decide) (fun c7 => ?_) (fun c7 => ?_)
      · replace h := if_p c7 h
        refine lv_bipush (v := (-2)) hx hb dX3_pageOf_45 (by decide) ?_
        exact t_47  h (lv_sub hl [] rfl)
      · replace h := if_n c7 h
        refine lv_aload_n hx hb dX3_pageOf_35 rfl (lv_at hl 0 rfl) ?_
        refine lv_iload_n hx hb dX3_pageOf_36 rfl (lv_at hl 1 rfl) ?_
        refine lv_iload_n hx hb dX3_pageOf_37 rfl (lv_at hl 2 rfl) ?_
        refine lv_iload_n hx hb dX3_pageOf_38 rfl (lv_at hl 3 rfl) ?_
        obtain ⟨v8, hv8, h⟩ := bdP_some h
        refine call_VP (As := [.int p0, .int p1, .int p2]) (rest := []) ⟨hx, hb, hml, hown, hts⟩ (tX3_page (l := l) (dC := dC) (dI := dI) (cI := cI) (cC := cC) (ob := ob) (q := q) hv8) (cwV 3 hts gX3_pageOf_X3_page rfl rfl rfl (by decide +kernel) ⟨Nat.le_of_ble_eq_true rfl, Nat.le_of_ble_eq_true rfl⟩) hK hP 0 rfl rfl (by rfl) hl.1 rfl (Nat.le_of_ble_eq_true rfl) dX3_pageOf_39 ⟨Nat.zero_le _, Nat.zero_le _⟩ ?_
        refine lv_goto (tgt := 47) hx hb dX3_pageOf_42 (by decide) ?_
        exact t_47  h (lv_sub hl [] rfl)
    · replace h := if_p c5 h
      exact t_24  h (lv_sub hl [] rfl)
def fX3_reaches_14 (N : Nat) (K : KT)   : Option Int32 := some ((-1))
def fX3_reaches_30 (N : Nat) (K : KT)  (y0 : Int32) : Option Int32 := some y0
def mX3_reaches (N : Nat) (K : KT) (p0 : Int32) (p1 : Int32) : Option Int32 := bdP (mX3_isCamp N p0) (fun v1 => (if v1 = 0 then fX3_reaches_14 N K   else bdP (mX3_isCamp N p1) (fun v3 => (if v3 = 0 then fX3_reaches_14 N K   else bdP (mX3_isReached N K p0 p1) (fun v5 => (if v5 = 0 then fX3_reaches_30 N K  0 else fX3_reaches_30 N K  1))))))
def rmX3_reaches : Room := { frames := 4, cells := 0, slots := 0, locals := 105 }
set_option maxHeartbeats 4000000 in
set_option maxRecDepth 100000 in
theorem tX3_reaches {l : Launch} {dC : Nat → ClassId} {dI : Nat → Nat → Nat} {cI : ClassId} {cC : ClassId} {ob : Nat} {q : Nat → Nat} {N : Nat} {K : KT} {p0 : Int32} {p1 : Int32} {rr : Int32} (hf : mX3_reaches N K p0 p1 = some rr) : Met l yX3_reaches wsX3_reaches rmX3_reaches (cP (dC, dI) vwCl [(cI, .int), (cC, .char)] (mdW cI cC ob q K) [.ref ob, .int p0, .int p1]) (cQp rr) 0 0 (fun _ => False) := by
  refine Met.ofW (cc := cX3_reaches) (maxL := 3) (ret := (some .int)) (by decide) rfl ?_
  intro p e s m args below meth c s₁ B hml hv
  obtain ⟨rfl, hP, hK⟩ := hv
  have hx := B.exec
  have hb := B.bytes
  have hr := B.returns
  have hts := atoms_spec (ws := wsX3_reaches) B.pre
  have hown : s.vm.findClass RX3 = some m.cls := findClass_of_methodNamed B.named
  have hlocks := B.notSynchronized
  have t_14 : ∀  {ls : Array Slot} (h : fX3_reaches_14 N K   = some rr) (hl : lv_has ls 3 []), W p l e (headSpec wsX3_reaches rmX3_reaches).room s m ([.ref ob, .int p0, .int p1] : List Value).toArray below meth c s.heap [] 0 0 (MQ below (cQp rr) ([.ref ob, .int p0, .int p1] : List Value).toArray s 0 0 (fun _ => False)) (F0 m 14 ls []) := by
    intro   ls h hl
    unfold fX3_reaches_14 at h
    refine lv_iconst (v := (-1)) hx hb dX3_reaches_14 (by decide) ?_
    exact W.iret hx hb hr (fun t ht _ => retP h ht) (fun _ h9 => absurd h9 List.not_mem_nil) dX3_reaches_15
  have t_30 : ∀ {y0 : Int32} {ls : Array Slot} (h : fX3_reaches_30 N K  y0 = some rr) (hl : lv_has ls 3 []), W p l e (headSpec wsX3_reaches rmX3_reaches).room s m ([.ref ob, .int p0, .int p1] : List Value).toArray below meth c s.heap [] 0 0 (MQ below (cQp rr) ([.ref ob, .int p0, .int p1] : List Value).toArray s 0 0 (fun _ => False)) (F0 m 30 ls [.int y0]) := by
    intro  y0 ls h hl
    unfold fX3_reaches_30 at h
    exact W.iret hx hb hr (fun t ht _ => retP h ht) (fun _ h9 => absurd h9 List.not_mem_nil) dX3_reaches_30
  have hl := lv_entry ([.ref ob, .int p0, .int p1]) (n := 3) (Nat.le_of_ble_eq_true rfl)
  rw [lg_entry_eq]
  generalize (lg_sl ([.ref ob, .int p0, .int p1]) ++ List.replicate (3 - (lg_sl ([.ref ob, .int p0, .int p1])).length) Slot.unset).toArray = ls at hl ⊢
  have hl : lv_has ls 3 [(0, .ref ob), (1, .int p0), (2, .int p1)] := hl
  have h := hf
  unfold mX3_reaches at h
  refine lv_iload_n hx hb dX3_reaches_0 rfl (lv_at hl 1 rfl) ?_
  obtain ⟨v1, hv1, h⟩ := bdP_some h
  refine call_SP (As := [.int p0]) (rest := []) ⟨hx, hb, hml, hown, hts⟩ (tX3_isCamp (l := l) hv1) (va_cwS 1 hts gX3_reaches_X3_isCamp rfl rfl rfl (by decide +kernel) ⟨Nat.le_of_ble_eq_true rfl, Nat.le_of_ble_eq_true rfl⟩) (by rfl) hl.1 rfl (Nat.le_of_ble_eq_true rfl) dX3_reaches_1 ⟨Nat.zero_le _, Nat.zero_le _⟩ ?_
  refine lv_if_eq (tgt := 14) hx hb dX3_reaches_4 (by decide) (fun c2 => ?_) (fun c2 => ?_)
  · replace h := if_p c2 h
    exact t_14  h (lv_sub hl [] rfl)
  · replace h := if_n c2 h
    refine lv_iload_n hx hb dX3_reaches_7 rfl (lv_at hl 2 rfl) ?_
    obtain ⟨v3, hv3, h⟩ := bdP_some h
    refine call_SP (As := [.int p1]) (rest := []) ⟨hx, hb, hml, hown, hts⟩ (tX3_isCamp (l := l) hv3) (va_cwS 1 hts gX3_reaches_X3_isCamp rfl rfl rfl (by decide +kernel) ⟨Nat.le_of_ble_eq_true rfl, Nat.le_of_ble_eq_true rfl⟩) (by rfl) hl.1 rfl (Nat.le_of_ble_eq_true rfl) dX3_reaches_8 ⟨Nat.zero_le _, Nat.zero_le _⟩ ?_
    refine lv_if_ne (tgt := 16) hx hb dX3_reaches_11 (by decide) (fun c4 => ?_) (fun c4 => ?_)
    · replace h := if_n c4 h
      refine lv_aload_n hx hb dX3_reaches_16 rfl (lv_at hl 0 rfl) ?_
      refine lv_iload_n hx hb dX3_reaches_17 rfl (lv_at hl 1 rfl) ?_
      refine lv_iload_n hx hb dX3_reaches_18 rfl (lv_at hl 2 rfl) ?_
      obtain ⟨v5, hv5, h⟩ := bdP_some h
      refine call_VP (As := [.int p0, .int p1]) (rest := []) ⟨hx, hb, hml, hown, hts⟩ (tX3_isReached (l := l) (dC := dC) (dI := dI) (cI := cI) (cC := cC) (ob := ob) (q := q) hv5) (cwV 2 hts gX3_reaches_X3_isReached rfl rfl rfl (by decide +kernel) ⟨Nat.le_of_ble_eq_true rfl, Nat.le_of_ble_eq_true rfl⟩) hK hP 0 rfl rfl (by rfl) hl.1 rfl (Nat.le_of_ble_eq_true rfl) dX3_reaches_19 ⟨Nat.zero_le _, Nat.zero_le _⟩ ?_
      refine lv_if_eq (tgt := 29) hx hb dX3_reaches_22 (by decide) (fun c6 => ?_) (fun c6 => ?_)
      · replace h := if_p c6 h
        refine lv_iconst (v := 0) hx hb dX3_reaches_29 (by decide) ?_
        exact t_30  h (lv_sub hl [] rfl)
      · replace h := if_n c6 h
        refine lv_iconst (v := 1) hx hb dX3_reaches_25 (by decide) ?_
        refine lv_goto (tgt := 30) hx hb dX3_reaches_26 (by decide) ?_
        exact t_30  h (lv_sub hl [] rfl)
    · replace h := if_p c4 h
      exact t_14  h (lv_sub hl [] rfl)
def fX3_matches_24 (N : Nat) (K : KT)  (y0 : Int32) : Option Int32 := some y0
def fX3_matches_23 (N : Nat) (K : KT)   : Option Int32 := fX3_matches_24 N K  ((-1))
def mX3_matches (N : Nat) (K : KT) (p0 : Int32) (p1 : Int32) : Option Int32 := bdP (mX3_isCamp N p0) (fun v1 => (if v1 = 0 then fX3_matches_23 N K   else bdP (mX3_isCamp N p1) (fun v3 => (if v3 = 0 then fX3_matches_23 N K   else bdP (mX3_alike N K p0 p1) (fun v5 => fX3_matches_24 N K  v5)))))
def rmX3_matches : Room := { frames := 5, cells := 0, slots := 0, locals := 131 }
set_option maxHeartbeats 4000000 in
set_option maxRecDepth 100000 in
theorem tX3_matches {l : Launch} {dC : Nat → ClassId} {dI : Nat → Nat → Nat} {cI : ClassId} {cC : ClassId} {ob : Nat} {q : Nat → Nat} {N : Nat} {K : KT} {p0 : Int32} {p1 : Int32} {rr : Int32} (hf : mX3_matches N K p0 p1 = some rr) : Met l yX3_matches wsX3_matches rmX3_matches (cP (dC, dI) vwCl [(cI, .int), (cC, .char)] (mdW cI cC ob q K) [.ref ob, .int p0, .int p1]) (cQp rr) 0 0 (fun _ => False) := by
  refine Met.ofW (cc := cX3_matches) (maxL := 3) (ret := (some .int)) (by decide) rfl ?_
  intro p e s m args below meth c s₁ B hml hv
  obtain ⟨rfl, hP, hK⟩ := hv
  have hx := B.exec
  have hb := B.bytes
  have hr := B.returns
  have hts := atoms_spec (ws := wsX3_matches) B.pre
  have hown : s.vm.findClass RX3 = some m.cls := findClass_of_methodNamed B.named
  have hlocks := B.notSynchronized
  have t_24 : ∀ {y0 : Int32} {ls : Array Slot} (h : fX3_matches_24 N K  y0 = some rr) (hl : lv_has ls 3 []), W p l e (headSpec wsX3_matches rmX3_matches).room s m ([.ref ob, .int p0, .int p1] : List Value).toArray below meth c s.heap [] 0 0 (MQ below (cQp rr) ([.ref ob, .int p0, .int p1] : List Value).toArray s 0 0 (fun _ => False)) (F0 m 24 ls [.int y0]) := by
    intro  y0 ls h hl
    unfold fX3_matches_24 at h
    exact W.iret hx hb hr (fun t ht _ => retP h ht) (fun _ h9 => absurd h9 List.not_mem_nil) dX3_matches_24
  have t_23 : ∀  {ls : Array Slot} (h : fX3_matches_23 N K   = some rr) (hl : lv_has ls 3 []), W p l e (headSpec wsX3_matches rmX3_matches).room s m ([.ref ob, .int p0, .int p1] : List Value).toArray below meth c s.heap [] 0 0 (MQ below (cQp rr) ([.ref ob, .int p0, .int p1] : List Value).toArray s 0 0 (fun _ => False)) (F0 m 23 ls []) := by
    intro   ls h hl
    unfold fX3_matches_23 at h
    refine lv_iconst (v := (-1)) hx hb dX3_matches_23 (by decide) ?_
    exact t_24  h (lv_sub hl [] rfl)
  have hl := lv_entry ([.ref ob, .int p0, .int p1]) (n := 3) (Nat.le_of_ble_eq_true rfl)
  rw [lg_entry_eq]
  generalize (lg_sl ([.ref ob, .int p0, .int p1]) ++ List.replicate (3 - (lg_sl ([.ref ob, .int p0, .int p1])).length) Slot.unset).toArray = ls at hl ⊢
  have hl : lv_has ls 3 [(0, .ref ob), (1, .int p0), (2, .int p1)] := hl
  have h := hf
  unfold mX3_matches at h
  refine lv_iload_n hx hb dX3_matches_0 rfl (lv_at hl 1 rfl) ?_
  obtain ⟨v1, hv1, h⟩ := bdP_some h
  refine call_SP (As := [.int p0]) (rest := []) ⟨hx, hb, hml, hown, hts⟩ (tX3_isCamp (l := l) hv1) (va_cwS 1 hts gX3_matches_X3_isCamp rfl rfl rfl (by decide +kernel) ⟨Nat.le_of_ble_eq_true rfl, Nat.le_of_ble_eq_true rfl⟩) (by rfl) hl.1 rfl (Nat.le_of_ble_eq_true rfl) dX3_matches_1 ⟨Nat.zero_le _, Nat.zero_le _⟩ ?_
  refine lv_if_eq (tgt := 23) hx hb dX3_matches_4 (by decide) (fun c2 => ?_) (fun c2 => ?_)
  · replace h := if_p c2 h
    exact t_23  h (lv_sub hl [] rfl)
  · replace h := if_n c2 h
    refine lv_iload_n hx hb dX3_matches_7 rfl (lv_at hl 2 rfl) ?_
    obtain ⟨v3, hv3, h⟩ := bdP_some h
    refine call_SP (As := [.int p1]) (rest := []) ⟨hx, hb, hml, hown, hts⟩ (tX3_isCamp (l := l) hv3) (va_cwS 1 hts gX3_matches_X3_isCamp rfl rfl rfl (by decide +kernel) ⟨Nat.le_of_ble_eq_true rfl, Nat.le_of_ble_eq_true rfl⟩) (by rfl) hl.1 rfl (Nat.le_of_ble_eq_true rfl) dX3_matches_8 ⟨Nat.zero_le _, Nat.zero_le _⟩ ?_
    refine lv_if_eq (tgt := 23) hx hb dX3_matches_11 (by decide) (fun c4 => ?_) (fun c4 => ?_)
    · replace h := if_p c4 h
      exact t_23  h (lv_sub hl [] rfl)
    · replace h := if_n c4 h
      refine lv_aload_n hx hb dX3_matches_14 rfl (lv_at hl 0 rfl) ?_
      refine lv_iload_n hx hb dX3_matches_15 rfl (lv_at hl 1 rfl) ?_
      refine lv_iload_n hx hb dX3_matches_16 rfl (lv_at hl 2 rfl) ?_
      obtain ⟨v5, hv5, h⟩ := bdP_some h
      refine call_VP (As := [.int p0, .int p1]) (rest := []) ⟨hx, hb, hml, hown, hts⟩ (tX3_alike (l := l) (dC := dC) (dI := dI) (cI := cI) (cC := cC) (ob := ob) (q := q) hv5) (cwV 2 hts gX3_matches_X3_alike rfl rfl rfl (by decide +kernel) ⟨Nat.le_of_ble_eq_true rfl, Nat.le_of_ble_eq_true rfl⟩) hK hP 0 rfl rfl (by rfl) hl.1 rfl (Nat.le_of_ble_eq_true rfl) dX3_matches_17 ⟨Nat.zero_le _, Nat.zero_le _⟩ ?_
      refine lv_goto (tgt := 24) hx hb dX3_matches_20 (by decide) ?_
      exact t_24  h (lv_sub hl [] rfl)
def mX3_matchesAgain (N : Nat) (K : KT) (p0 : Int32) (p1 : Int32) : Option Int32 := bdP (mX3_matches N K p0 p1) (fun v1 => some v1)
def rmX3_matchesAgain : Room := { frames := 6, cells := 0, slots := 0, locals := 153 }
set_option maxHeartbeats 4000000 in
set_option maxRecDepth 100000 in
theorem tX3_matchesAgain {l : Launch} {dC : Nat → ClassId} {dI : Nat → Nat → Nat} {cI : ClassId} {cC : ClassId} {ob : Nat} {q : Nat → Nat} {N : Nat} {K : KT} {p0 : Int32} {p1 : Int32} {rr : Int32} (hf : mX3_matchesAgain N K p0 p1 = some rr) : Met l yX3_matchesAgain wsX3_matchesAgain rmX3_matchesAgain (cP (dC, dI) vwCl [(cI, .int), (cC, .char)] (mdW cI cC ob q K) [.ref ob, .int p0, .int p1]) (cQp rr) 0 0 (fun _ => False) := by
  refine Met.ofW (cc := cX3_matchesAgain) (maxL := 3) (ret := (some .int)) (by decide) rfl ?_
  intro p e s m args below meth c s₁ B hml hv
  obtain ⟨rfl, hP, hK⟩ := hv
  have hx := B.exec
  have hb := B.bytes
  have hr := B.returns
  have hts := atoms_spec (ws := wsX3_matchesAgain) B.pre
  have hown : s.vm.findClass RX3 = some m.cls := findClass_of_methodNamed B.named
  have hlocks := B.notSynchronized
  have hl := lv_entry ([.ref ob, .int p0, .int p1]) (n := 3) (Nat.le_of_ble_eq_true rfl)
  rw [lg_entry_eq]
  generalize (lg_sl ([.ref ob, .int p0, .int p1]) ++ List.replicate (3 - (lg_sl ([.ref ob, .int p0, .int p1])).length) Slot.unset).toArray = ls at hl ⊢
  have hl : lv_has ls 3 [(0, .ref ob), (1, .int p0), (2, .int p1)] := hl
  have h := hf
  unfold mX3_matchesAgain at h
  refine lv_aload_n hx hb dX3_matchesAgain_0 rfl (lv_at hl 0 rfl) ?_
  refine lv_iload_n hx hb dX3_matchesAgain_1 rfl (lv_at hl 1 rfl) ?_
  refine lv_iload_n hx hb dX3_matchesAgain_2 rfl (lv_at hl 2 rfl) ?_
  obtain ⟨v1, hv1, h⟩ := bdP_some h
  refine call_VP (As := [.int p0, .int p1]) (rest := []) ⟨hx, hb, hml, hown, hts⟩ (tX3_matches (l := l) (dC := dC) (dI := dI) (cI := cI) (cC := cC) (ob := ob) (q := q) hv1) (cwV 2 hts gX3_matchesAgain_X3_matches rfl rfl rfl (by decide +kernel) ⟨Nat.le_of_ble_eq_true rfl, Nat.le_of_ble_eq_true rfl⟩) hK hP 0 rfl rfl (by rfl) hl.1 rfl (Nat.le_of_ble_eq_true rfl) dX3_matchesAgain_3 ⟨Nat.zero_le _, Nat.zero_le _⟩ ?_
  exact W.iret hx hb hr (fun t ht _ => retP h ht) (fun _ h9 => absurd h9 List.not_mem_nil) dX3_matchesAgain_6
def fX3_captain_41 (N : Nat) (K : KT) (k5 : Int32 → Int32 → Option Int32) (x1 : Int32) (x2 : Int32) : Option Int32 := k5 x1 (x2 + 1)
def fX3_captain_39 (N : Nat) (K : KT) (k5 : Int32 → Int32 → Option Int32) (x2 : Int32) : Option Int32 := fX3_captain_41 N K k5 x2 x2
def fX3_captain_5 (N : Nat) (K : KT)  : Nat → Int32 → Int32 → Option Int32
  | 0, _, _ => none
  | n + 1, x1, x2 => (if 5 ≤ x2 then some x1 else bdP (mX3_of N K x2 2) (fun v2 => (if v2 = 1 then (if x1 < 0 then fX3_captain_39 N K (fX3_captain_5 N K  n) x2 else bdP (mX3_of N K x2 0) (fun v5 => bdP (mX3_of N K x1 0) (fun v6 => (if v5 ≤ v6 then fX3_captain_41 N K (fX3_captain_5 N K  n) x1 x2 else fX3_captain_39 N K (fX3_captain_5 N K  n) x2)))) else fX3_captain_41 N K (fX3_captain_5 N K  n) x1 x2)))
def mX3_captain (N : Nat) (K : KT)  : Option Int32 := fX3_captain_5 N K  N ((-4)) 0
def rmX3_captain : Room := { frames := 2, cells := 0, slots := 0, locals := 62 }
set_option maxHeartbeats 4000000 in
set_option maxRecDepth 100000 in
theorem tX3_captain {l : Launch} {dC : Nat → ClassId} {dI : Nat → Nat → Nat} {cI : ClassId} {cC : ClassId} {ob : Nat} {q : Nat → Nat} {N : Nat} {K : KT}  {rr : Int32} (hf : mX3_captain N K  = some rr) : Met l yX3_captain wsX3_captain rmX3_captain (cP (dC, dI) vwCl [(cI, .int), (cC, .char)] (mdW cI cC ob q K) [.ref ob]) (cQp rr) 0 0 (fun _ => False) := by
  refine Met.ofW (cc := cX3_captain) (maxL := 3) (ret := (some .int)) (by decide) rfl ?_
  intro p e s m args below meth c s₁ B hml hv
  obtain ⟨rfl, hP, hK⟩ := hv
  have hx := B.exec
  have hb := B.bytes
  have hr := B.returns
  have hts := atoms_spec (ws := wsX3_captain) B.pre
  have hown : s.vm.findClass RX3 = some m.cls := findClass_of_methodNamed B.named
  have hlocks := B.notSynchronized
  have t_41 : ∀ {k5 : Int32 → Int32 → Option Int32} (hk5 : ∀ {x1 : Int32} {x2 : Int32} {ls : Array Slot} (h : k5 x1 x2 = some rr) (hl : lv_has ls 3 [(0, .ref ob), (1, .int x1), (2, .int x2)]), W p l e (headSpec wsX3_captain rmX3_captain).room s m ([.ref ob] : List Value).toArray below meth c s.heap [] 0 0 (MQ below (cQp rr) ([.ref ob] : List Value).toArray s 0 0 (fun _ => False)) (F0 m 5 ls [])), ∀ {x1 : Int32} {x2 : Int32} {ls : Array Slot} (h : fX3_captain_41 N K k5 x1 x2 = some rr) (hl : lv_has ls 3 [(0, .ref ob), (1, .int x1), (2, .int x2)]), W p l e (headSpec wsX3_captain rmX3_captain).room s m ([.ref ob] : List Value).toArray below meth c s.heap [] 0 0 (MQ below (cQp rr) ([.ref ob] : List Value).toArray s 0 0 (fun _ => False)) (F0 m 41 ls []) := by
    intro k5 hk5 x1 x2 ls h hl
    unfold fX3_captain_41 at h
    refine lv_iinc (v := x2 + 1) (lv' := [(2, .int (x2 + 1)), (0, .ref ob), (1, .int x1)]) hx hb dX3_captain_41 hl (k := 2) rfl rfl (by decide) rfl (fun ls hl => ?_)
    refine lv_goto (tgt := 5) hx hb dX3_captain_44 (by decide) ?_
    exact hk5 h (lv_sub hl [1, 2, 0] rfl)
  have t_39 : ∀ {k5 : Int32 → Int32 → Option Int32} (hk5 : ∀ {x1 : Int32} {x2 : Int32} {ls : Array Slot} (h : k5 x1 x2 = some rr) (hl : lv_has ls 3 [(0, .ref ob), (1, .int x1), (2, .int x2)]), W p l e (headSpec wsX3_captain rmX3_captain).room s m ([.ref ob] : List Value).toArray below meth c s.heap [] 0 0 (MQ below (cQp rr) ([.ref ob] : List Value).toArray s 0 0 (fun _ => False)) (F0 m 5 ls [])), ∀ {x2 : Int32} {ls : Array Slot} (h : fX3_captain_39 N K k5 x2 = some rr) (hl : lv_has ls 3 [(0, .ref ob), (2, .int x2)]), W p l e (headSpec wsX3_captain rmX3_captain).room s m ([.ref ob] : List Value).toArray below meth c s.heap [] 0 0 (MQ below (cQp rr) ([.ref ob] : List Value).toArray s 0 0 (fun _ => False)) (F0 m 39 ls []) := by
    intro k5 hk5 x2 ls h hl
    unfold fX3_captain_39 at h
    refine lv_iload_n hx hb dX3_captain_39 rfl (lv_at hl 1 rfl) ?_
    refine lv_istore_n (lv' := [(1, .int x2), (0, .ref ob), (2, .int x2)]) hx hb dX3_captain_40 rfl hl (by decide) rfl (fun ls hl => ?_)
    exact t_41 @hk5 h (lv_sub hl [1, 0, 2] rfl)
  have t_5 : ∀ {n : Nat}, ∀ {x1 : Int32} {x2 : Int32} {ls : Array Slot} (h : fX3_captain_5 N K  n x1 x2 = some rr) (hl : lv_has ls 3 [(0, .ref ob), (1, .int x1), (2, .int x2)]), W p l e (headSpec wsX3_captain rmX3_captain).room s m ([.ref ob] : List Value).toArray below meth c s.heap [] 0 0 (MQ below (cQp rr) ([.ref ob] : List Value).toArray s 0 0 (fun _ => False)) (F0 m 5 ls []) := by
    intro  n
    induction n with
    | zero =>
      intro x1 x2 ls h hl
      unfold fX3_captain_5 at h
      cases h
    | succ n ih =>
      intro x1 x2 ls h hl
      unfold fX3_captain_5 at h
      refine lv_iload_n hx hb dX3_captain_5 rfl (lv_at hl 2 rfl) ?_
      refine lv_iconst (v := 5) hx hb dX3_captain_6 (by decide) ?_
      refine lv_icmp_ge (tgt := 47) hx hb dX3_captain_7 (by decide) (fun c1 => ?_) (fun c1 => ?_)
      · replace h := if_p c1 h
        refine lv_iload_n hx hb dX3_captain_47 rfl (lv_at hl 1 rfl) ?_
        exact W.iret hx hb hr (fun t ht _ => retP h ht) (fun _ h9 => absurd h9 List.not_mem_nil) dX3_captain_48
      · replace h := if_n c1 h
        refine lv_aload_n hx hb dX3_captain_10 rfl (lv_at hl 0 rfl) ?_
        refine lv_iload_n hx hb dX3_captain_11 rfl (lv_at hl 2 rfl) ?_
        refine lv_iconst (v := 2) hx hb dX3_captain_12 (by decide) ?_
        obtain ⟨v2, hv2, h⟩ := bdP_some h
        refine call_VP (As := [.int x2, .int 2]) (rest := []) ⟨hx, hb, hml, hown, hts⟩ (tX3_of (l := l) (dC := dC) (dI := dI) (cI := cI) (cC := cC) (ob := ob) (q := q) hv2) (cwV 2 hts gX3_captain_X3_of rfl rfl rfl (by decide +kernel) ⟨Nat.le_of_ble_eq_true rfl, Nat.le_of_ble_eq_true rfl⟩) hK hP 0 rfl rfl (by rfl) hl.1 rfl (Nat.le_of_ble_eq_true rfl) dX3_captain_13 ⟨Nat.zero_le _, Nat.zero_le _⟩ ?_
        refine lv_iconst (v := 1) hx hb dX3_captain_16 (by decide) ?_
        refine lv_icmp_ne (tgt := 41) hx hb dX3_captain_17 (by decide) (fun c3 => ?_) (fun c3 => ?_)
        · replace h := if_n c3 h
          exact t_41 @ih h (lv_sub hl [0, 1, 2] rfl)
        · replace h := if_p c3 h
          refine lv_iload_n hx hb dX3_captain_20 rfl (lv_at hl 1 rfl) ?_
          refine lv_if_lt (tgt := 39) hx hb dX3_captain_21 (by decide) (fun c4 => ?_) (fun c4 => ?_)
          · replace h := if_p c4 h
            exact t_39 @ih h (lv_sub hl [0, 2] rfl)
          · replace h := if_n c4 h
            refine lv_aload_n hx hb dX3_captain_24 rfl (lv_at hl 0 rfl) ?_
            refine lv_iload_n hx hb dX3_captain_25 rfl (lv_at hl 2 rfl) ?_
            refine lv_iconst (v := 0) hx hb dX3_captain_26 (by decide) ?_
            obtain ⟨v5, hv5, h⟩ := bdP_some h
            refine call_VP (As := [.int x2, .int 0]) (rest := []) ⟨hx, hb, hml, hown, hts⟩ (tX3_of (l := l) (dC := dC) (dI := dI) (cI := cI) (cC := cC) (ob := ob) (q := q) hv5) (cwV 2 hts gX3_captain_X3_of rfl rfl rfl (by decide +kernel) ⟨Nat.le_of_ble_eq_true rfl, Nat.le_of_ble_eq_true rfl⟩) hK hP 0 rfl rfl (by rfl) hl.1 rfl (Nat.le_of_ble_eq_true rfl) dX3_captain_27 ⟨Nat.zero_le _, Nat.zero_le _⟩ ?_
            refine lv_aload_n hx hb dX3_captain_30 rfl (lv_at hl 0 rfl) ?_
            refine lv_iload_n hx hb dX3_captain_31 rfl (lv_at hl 1 rfl) ?_
            refine lv_iconst (v := 0) hx hb dX3_captain_32 (by decide) ?_
            obtain ⟨v6, hv6, h⟩ := bdP_some h
            refine call_VP (As := [.int x1, .int 0]) (rest := [.int v5]) ⟨hx, hb, hml, hown, hts⟩ (tX3_of (l := l) (dC := dC) (dI := dI) (cI := cI) (cC := cC) (ob := ob) (q := q) hv6) (cwV 2 hts gX3_captain_X3_of rfl rfl rfl (by decide +kernel) ⟨Nat.le_of_ble_eq_true rfl, Nat.le_of_ble_eq_true rfl⟩) hK hP 0 rfl rfl (by rfl) hl.1 rfl (Nat.le_of_ble_eq_true rfl) dX3_captain_33 ⟨Nat.zero_le _, Nat.zero_le _⟩ ?_
            refine lv_icmp_le (tgt := 41) hx hb dX3_captain_36 (by decide) (fun c7 => ?_) (fun c7 => ?_)
            · replace h := if_p c7 h
              exact t_41 @ih h (lv_sub hl [0, 1, 2] rfl)
            · replace h := if_n c7 h
              exact t_39 @ih h (lv_sub hl [0, 2] rfl)
  have hl := lv_entry ([.ref ob]) (n := 3) (Nat.le_of_ble_eq_true rfl)
  rw [lg_entry_eq]
  generalize (lg_sl ([.ref ob]) ++ List.replicate (3 - (lg_sl ([.ref ob])).length) Slot.unset).toArray = ls at hl ⊢
  have hl : lv_has ls 3 [(0, .ref ob)] := hl
  have h := hf
  unfold mX3_captain at h
  refine lv_bipush (v := (-4)) hx hb dX3_captain_0 (by decide) ?_
  refine lv_istore_n (lv' := [(1, .int ((-4))), (0, .ref ob)]) hx hb dX3_captain_2 rfl hl (by decide) rfl (fun ls hl => ?_)
  refine lv_iconst (v := 0) hx hb dX3_captain_3 (by decide) ?_
  refine lv_istore_n (lv' := [(2, .int 0), (1, .int ((-4))), (0, .ref ob)]) hx hb dX3_captain_4 rfl hl (by decide) rfl (fun ls hl => ?_)
  exact t_5  h (lv_sub hl [2, 1, 0] rfl)
def fX3_holders_24 (N : Nat) (K : KT)   : Option Int32 := some ((-1))
def fX3_holders_51 (N : Nat) (K : KT) (k31 : Int32 → Int32 → Int32 → Int32 → Option Int32) (x1 : Int32) (x2 : Int32) (x3 : Int32) (x4 : Int32) : Option Int32 := k31 x1 x2 x3 (x4 + 1)
def fX3_holders_31 (N : Nat) (K : KT)  : Nat → Int32 → Int32 → Int32 → Int32 → Option Int32
  | 0, _, _, _, _ => none
  | n + 1, x1, x2, x3, x4 => (if 5 ≤ x4 then some x3 else bdP (mX3_alike N K x1 x4) (fun v2 => (if v2 ≤ x2 then fX3_holders_51 N K (fX3_holders_31 N K  n) x1 x2 x3 x4 else fX3_holders_51 N K (fX3_holders_31 N K  n) x1 x2 (x3 + 1) x4)))
def mX3_holders (N : Nat) (K : KT) (p0 : Int32) (p1 : Int32) : Option Int32 := bdP (mX3_isCamp N p0) (fun v4 => (if v4 = 0 then fX3_holders_24 N K   else bdP (mX3_of N K p0 6) (fun v6 => bdP (mX3_in N p1 0 (v6 - 1)) (fun v7 => (if v7 = 0 then fX3_holders_24 N K   else fX3_holders_31 N K  N p0 p1 0 0)))))
def rmX3_holders : Room := { frames := 5, cells := 0, slots := 0, locals := 131 }
set_option maxHeartbeats 4000000 in
set_option maxRecDepth 100000 in
theorem tX3_holders {l : Launch} {dC : Nat → ClassId} {dI : Nat → Nat → Nat} {cI : ClassId} {cC : ClassId} {ob : Nat} {q : Nat → Nat} {N : Nat} {K : KT} {p0 : Int32} {p1 : Int32} {rr : Int32} (hf : mX3_holders N K p0 p1 = some rr) : Met l yX3_holders wsX3_holders rmX3_holders (cP (dC, dI) vwCl [(cI, .int), (cC, .char)] (mdW cI cC ob q K) [.ref ob, .int p0, .int p1]) (cQp rr) 0 0 (fun _ => False) := by
  refine Met.ofW (cc := cX3_holders) (maxL := 5) (ret := (some .int)) (by decide) rfl ?_
  intro p e s m args below meth c s₁ B hml hv
  obtain ⟨rfl, hP, hK⟩ := hv
  have hx := B.exec
  have hb := B.bytes
  have hr := B.returns
  have hts := atoms_spec (ws := wsX3_holders) B.pre
  have hown : s.vm.findClass RX3 = some m.cls := findClass_of_methodNamed B.named
  have hlocks := B.notSynchronized
  have t_24 : ∀  {ls : Array Slot} (h : fX3_holders_24 N K   = some rr) (hl : lv_has ls 5 []), W p l e (headSpec wsX3_holders rmX3_holders).room s m ([.ref ob, .int p0, .int p1] : List Value).toArray below meth c s.heap [] 0 0 (MQ below (cQp rr) ([.ref ob, .int p0, .int p1] : List Value).toArray s 0 0 (fun _ => False)) (F0 m 24 ls []) := by
    intro   ls h hl
    unfold fX3_holders_24 at h
    refine lv_iconst (v := (-1)) hx hb dX3_holders_24 (by decide) ?_
    exact W.iret hx hb hr (fun t ht _ => retP h ht) (fun _ h9 => absurd h9 List.not_mem_nil) dX3_holders_25
  have t_51 : ∀ {k31 : Int32 → Int32 → Int32 → Int32 → Option Int32} (hk31 : ∀ {x1 : Int32} {x2 : Int32} {x3 : Int32} {x4 : Int32} {ls : Array Slot} (h : k31 x1 x2 x3 x4 = some rr) (hl : lv_has ls 5 [(0, .ref ob), (1, .int x1), (2, .int x2), (3, .int x3), (4, .int x4)]), W p l e (headSpec wsX3_holders rmX3_holders).room s m ([.ref ob, .int p0, .int p1] : List Value).toArray below meth c s.heap [] 0 0 (MQ below (cQp rr) ([.ref ob, .int p0, .int p1] : List Value).toArray s 0 0 (fun _ => False)) (F0 m 31 ls [])), ∀ {x1 : Int32} {x2 : Int32} {x3 : Int32} {x4 : Int32} {ls : Array Slot} (h : fX3_holders_51 N K k31 x1 x2 x3 x4 = some rr) (hl : lv_has ls 5 [(0, .ref ob), (1, .int x1), (2, .int x2), (3, .int x3), (4, .int x4)]), W p l e (headSpec wsX3_holders rmX3_holders).room s m ([.ref ob, .int p0, .int p1] : List Value).toArray below meth c s.heap [] 0 0 (MQ below (cQp rr) ([.ref ob, .int p0, .int p1] : List Value).toArray s 0 0 (fun _ => False)) (F0 m 51 ls []) := by
    intro k31 hk31 x1 x2 x3 x4 ls h hl
    unfold fX3_holders_51 at h
    refine lv_iinc (v := x4 + 1) (lv' := [(4, .int (x4 + 1)), (0, .ref ob), (1, .int x1), (2, .int x2), (3, .int x3)]) hx hb dX3_holders_51 hl (k := 4) rfl rfl (by decide) rfl (fun ls hl => ?_)
    refine lv_goto (tgt := 31) hx hb dX3_holders_54 (by decide) ?_
    exact hk31 h (lv_sub hl [1, 2, 3, 4, 0] rfl)
  have t_31 : ∀ {n : Nat}, ∀ {x1 : Int32} {x2 : Int32} {x3 : Int32} {x4 : Int32} {ls : Array Slot} (h : fX3_holders_31 N K  n x1 x2 x3 x4 = some rr) (hl : lv_has ls 5 [(0, .ref ob), (1, .int x1), (2, .int x2), (3, .int x3), (4, .int x4)]), W p l e (headSpec wsX3_holders rmX3_holders).room s m ([.ref ob, .int p0, .int p1] : List Value).toArray below meth c s.heap [] 0 0 (MQ below (cQp rr) ([.ref ob, .int p0, .int p1] : List Value).toArray s 0 0 (fun _ => False)) (F0 m 31 ls []) := by
    intro  n
    induction n with
    | zero =>
      intro x1 x2 x3 x4 ls h hl
      unfold fX3_holders_31 at h
      cases h
    | succ n ih =>
      intro x1 x2 x3 x4 ls h hl
      unfold fX3_holders_31 at h
      refine lv_iload hx hb dX3_holders_31 (lv_at hl 4 rfl) ?_
      refine lv_iconst (v := 5) hx hb dX3_holders_33 (by decide) ?_
      refine lv_icmp_ge (tgt := 57) hx hb dX3_holders_34 (by decide) (fun c1 => ?_) (fun c1 => ?_)
      · replace h := if_p c1 h
        refine lv_iload_n hx hb dX3_holders_57 rfl (lv_at hl 3 rfl) ?_
        exact W.iret hx hb hr (fun t ht _ => retP h ht) (fun _ h9 => absurd h9 List.not_mem_nil) dX3_holders_58
      · replace h := if_n c1 h
        refine lv_aload_n hx hb dX3_holders_37 rfl (lv_at hl 0 rfl) ?_
        refine lv_iload_n hx hb dX3_holders_38 rfl (lv_at hl 1 rfl) ?_
        refine lv_iload hx hb dX3_holders_39 (lv_at hl 4 rfl) ?_
        obtain ⟨v2, hv2, h⟩ := bdP_some h
        refine call_VP (As := [.int x1, .int x4]) (rest := []) ⟨hx, hb, hml, hown, hts⟩ (tX3_alike (l := l) (dC := dC) (dI := dI) (cI := cI) (cC := cC) (ob := ob) (q := q) hv2) (cwV 2 hts gX3_holders_X3_alike rfl rfl rfl (by decide +kernel) ⟨Nat.le_of_ble_eq_true rfl, Nat.le_of_ble_eq_true rfl⟩) hK hP 0 rfl rfl (by rfl) hl.1 rfl (Nat.le_of_ble_eq_true rfl) dX3_holders_41 ⟨Nat.zero_le _, Nat.zero_le _⟩ ?_
        refine lv_iload_n hx hb dX3_holders_44 rfl (lv_at hl 2 rfl) ?_
        refine lv_icmp_le (tgt := 51) hx hb dX3_holders_45 (by decide) (fun c3 => ?_) (fun c3 => ?_)
        · replace h := if_p c3 h
          exact t_51 @ih h (lv_sub hl [0, 1, 2, 3, 4] rfl)
        · replace h := if_n c3 h
          refine lv_iinc (v := x3 + 1) (lv' := [(3, .int (x3 + 1)), (0, .ref ob), (1, .int x1), (2, .int x2), (4, .int x4)]) hx hb dX3_holders_48 hl (k := 3) rfl rfl (by decide) rfl (fun ls hl => ?_)
          exact t_51 @ih h (lv_sub hl [1, 2, 3, 0, 4] rfl)
  have hl := lv_entry ([.ref ob, .int p0, .int p1]) (n := 5) (Nat.le_of_ble_eq_true rfl)
  rw [lg_entry_eq]
  generalize (lg_sl ([.ref ob, .int p0, .int p1]) ++ List.replicate (5 - (lg_sl ([.ref ob, .int p0, .int p1])).length) Slot.unset).toArray = ls at hl ⊢
  have hl : lv_has ls 5 [(0, .ref ob), (1, .int p0), (2, .int p1)] := hl
  have h := hf
  unfold mX3_holders at h
  refine lv_iload_n hx hb dX3_holders_0 rfl (lv_at hl 1 rfl) ?_
  obtain ⟨v4, hv4, h⟩ := bdP_some h
  refine call_SP (As := [.int p0]) (rest := []) ⟨hx, hb, hml, hown, hts⟩ (tX3_isCamp (l := l) hv4) (va_cwS 1 hts gX3_holders_X3_isCamp rfl rfl rfl (by decide +kernel) ⟨Nat.le_of_ble_eq_true rfl, Nat.le_of_ble_eq_true rfl⟩) (by rfl) hl.1 rfl (Nat.le_of_ble_eq_true rfl) dX3_holders_1 ⟨Nat.zero_le _, Nat.zero_le _⟩ ?_
  refine lv_if_eq (tgt := 24) hx hb dX3_holders_4 (by decide) (fun c5 => ?_) (fun c5 => ?_)
  · replace h := if_p c5 h
    exact t_24  h (lv_sub hl [] rfl)
  · replace h := if_n c5 h
    refine lv_iload_n hx hb dX3_holders_7 rfl (lv_at hl 2 rfl) ?_
    refine lv_iconst (v := 0) hx hb dX3_holders_8 (by decide) ?_
    refine lv_aload_n hx hb dX3_holders_9 rfl (lv_at hl 0 rfl) ?_
    refine lv_iload_n hx hb dX3_holders_10 rfl (lv_at hl 1 rfl) ?_
    refine lv_bipush (v := 6) hx hb dX3_holders_11 (by decide) ?_
    obtain ⟨v6, hv6, h⟩ := bdP_some h
    refine call_VP (As := [.int p0, .int 6]) (rest := [.int 0, .int p1]) ⟨hx, hb, hml, hown, hts⟩ (tX3_of (l := l) (dC := dC) (dI := dI) (cI := cI) (cC := cC) (ob := ob) (q := q) hv6) (cwV 2 hts gX3_holders_X3_of rfl rfl rfl (by decide +kernel) ⟨Nat.le_of_ble_eq_true rfl, Nat.le_of_ble_eq_true rfl⟩) hK hP 0 rfl rfl (by rfl) hl.1 rfl (Nat.le_of_ble_eq_true rfl) dX3_holders_13 ⟨Nat.zero_le _, Nat.zero_le _⟩ ?_
    refine lv_iconst (v := 1) hx hb dX3_holders_16 (by decide) ?_
    refine lv_isub hx hb dX3_holders_17 ?_
    obtain ⟨v7, hv7, h⟩ := bdP_some h
    refine call_SP (As := [.int p1, .int 0, .int (v6 - 1)]) (rest := []) ⟨hx, hb, hml, hown, hts⟩ (tX3_in (l := l) hv7) (va_cwS 3 hts gX3_holders_X3_in rfl rfl rfl (by decide +kernel) ⟨Nat.le_of_ble_eq_true rfl, Nat.le_of_ble_eq_true rfl⟩) (by rfl) hl.1 rfl (Nat.le_of_ble_eq_true rfl) dX3_holders_18 ⟨Nat.zero_le _, Nat.zero_le _⟩ ?_
    refine lv_if_ne (tgt := 26) hx hb dX3_holders_21 (by decide) (fun c8 => ?_) (fun c8 => ?_)
    · replace h := if_n c8 h
      refine lv_iconst (v := 0) hx hb dX3_holders_26 (by decide) ?_
      refine lv_istore_n (lv' := [(3, .int 0), (0, .ref ob), (1, .int p0), (2, .int p1)]) hx hb dX3_holders_27 rfl hl (by decide) rfl (fun ls hl => ?_)
      refine lv_iconst (v := 0) hx hb dX3_holders_28 (by decide) ?_
      refine lv_istore (lv' := [(4, .int 0), (3, .int 0), (0, .ref ob), (1, .int p0), (2, .int p1)]) hx hb dX3_holders_29 hl (by decide) rfl (fun ls hl => ?_)
      exact t_31  h (lv_sub hl [2, 3, 4, 1, 0] rfl)
    · replace h := if_p c8 h
      exact t_24  h (lv_sub hl [] rfl)
def fX3_letters_37 (N : Nat) (K : KT) (k15 : Int32 → Int32 → Int32 → Option Int32) (x1 : Int32) (x2 : Int32) (x3 : Int32) : Option Int32 := k15 x1 x2 (x3 + 1)
def fX3_letters_74 (N : Nat) (K : KT) (k48 : Int32 → Int32 → Int32 → Int32 → Option Int32) (x1 : Int32) (x2 : Int32) (x3 : Int32) (x4 : Int32) : Option Int32 := k48 x1 x2 x3 (x4 + 1)
def fX3_letters_48 (N : Nat) (K : KT)  : Nat → Int32 → Int32 → Int32 → Int32 → Option Int32
  | 0, _, _, _, _ => none
  | n + 1, x1, x2, x3, x4 => bdP (mX3_of N K x2 5) (fun v1 => (if v1 ≤ x4 then some x3 else bdP (mX3_page N K x2 x4 1) (fun v3 => (if v3 = x1 then fX3_letters_74 N K (fX3_letters_48 N K  n) x1 x2 (x3 + 1) x4 else fX3_letters_74 N K (fX3_letters_48 N K  n) x1 x2 x3 x4))))
def fX3_letters_43 (N : Nat) (K : KT)  (x1 : Int32) (x2 : Int32) : Option Int32 := fX3_letters_48 N K  N x1 x2 0 0
def fX3_letters_15 (N : Nat) (K : KT)  : Nat → Int32 → Int32 → Int32 → Option Int32
  | 0, _, _, _ => none
  | n + 1, x1, x2, x3 => (if 5 ≤ x3 then fX3_letters_43 N K  x1 x2 else bdP (mX3_of N K x3 5) (fun v6 => bdP (mX3_of N K x2 5) (fun v7 => (if v6 ≤ v7 then fX3_letters_37 N K (fX3_letters_15 N K  n) x1 x2 x3 else fX3_letters_37 N K (fX3_letters_15 N K  n) x1 x3 x3))))
def mX3_letters (N : Nat) (K : KT) (p0 : Int32) : Option Int32 := bdP (mX3_in N p0 0 3) (fun v9 => (if v9 = 0 then some ((-1)) else fX3_letters_15 N K  N p0 0 1))
def rmX3_letters : Room := { frames := 3, cells := 0, slots := 0, locals := 85 }
set_option maxHeartbeats 4000000 in
set_option maxRecDepth 100000 in
theorem tX3_letters {l : Launch} {dC : Nat → ClassId} {dI : Nat → Nat → Nat} {cI : ClassId} {cC : ClassId} {ob : Nat} {q : Nat → Nat} {N : Nat} {K : KT} {p0 : Int32} {rr : Int32} (hf : mX3_letters N K p0 = some rr) : Met l yX3_letters wsX3_letters rmX3_letters (cP (dC, dI) vwCl [(cI, .int), (cC, .char)] (mdW cI cC ob q K) [.ref ob, .int p0]) (cQp rr) 0 0 (fun _ => False) := by
  refine Met.ofW (cc := cX3_letters) (maxL := 5) (ret := (some .int)) (by decide) rfl ?_
  intro p e s m args below meth c s₁ B hml hv
  obtain ⟨rfl, hP, hK⟩ := hv
  have hx := B.exec
  have hb := B.bytes
  have hr := B.returns
  have hts := atoms_spec (ws := wsX3_letters) B.pre
  have hown : s.vm.findClass RX3 = some m.cls := findClass_of_methodNamed B.named
  have hlocks := B.notSynchronized
  have t_37 : ∀ {k15 : Int32 → Int32 → Int32 → Option Int32} (hk15 : ∀ {x1 : Int32} {x2 : Int32} {x3 : Int32} {ls : Array Slot} (h : k15 x1 x2 x3 = some rr) (hl : lv_has ls 5 [(0, .ref ob), (1, .int x1), (2, .int x2), (3, .int x3)]), W p l e (headSpec wsX3_letters rmX3_letters).room s m ([.ref ob, .int p0] : List Value).toArray below meth c s.heap [] 0 0 (MQ below (cQp rr) ([.ref ob, .int p0] : List Value).toArray s 0 0 (fun _ => False)) (F0 m 15 ls [])), ∀ {x1 : Int32} {x2 : Int32} {x3 : Int32} {ls : Array Slot} (h : fX3_letters_37 N K k15 x1 x2 x3 = some rr) (hl : lv_has ls 5 [(0, .ref ob), (1, .int x1), (2, .int x2), (3, .int x3)]), W p l e (headSpec wsX3_letters rmX3_letters).room s m ([.ref ob, .int p0] : List Value).toArray below meth c s.heap [] 0 0 (MQ below (cQp rr) ([.ref ob, .int p0] : List Value).toArray s 0 0 (fun _ => False)) (F0 m 37 ls []) := by
    intro k15 hk15 x1 x2 x3 ls h hl
    unfold fX3_letters_37 at h
    refine lv_iinc (v := x3 + 1) (lv' := [(3, .int (x3 + 1)), (0, .ref ob), (1, .int x1), (2, .int x2)]) hx hb dX3_letters_37 hl (k := 3) rfl rfl (by decide) rfl (fun ls hl => ?_)
    refine lv_goto (tgt := 15) hx hb dX3_letters_40 (by decide) ?_
    exact hk15 h (lv_sub hl [1, 2, 3, 0] rfl)
  have t_74 : ∀ {k48 : Int32 → Int32 → Int32 → Int32 → Option Int32} (hk48 : ∀ {x1 : Int32} {x2 : Int32} {x3 : Int32} {x4 : Int32} {ls : Array Slot} (h : k48 x1 x2 x3 x4 = some rr) (hl : lv_has ls 5 [(0, .ref ob), (1, .int x1), (2, .int x2), (3, .int x3), (4, .int x4)]), W p l e (headSpec wsX3_letters rmX3_letters).room s m ([.ref ob, .int p0] : List Value).toArray below meth c s.heap [] 0 0 (MQ below (cQp rr) ([.ref ob, .int p0] : List Value).toArray s 0 0 (fun _ => False)) (F0 m 48 ls [])), ∀ {x1 : Int32} {x2 : Int32} {x3 : Int32} {x4 : Int32} {ls : Array Slot} (h : fX3_letters_74 N K k48 x1 x2 x3 x4 = some rr) (hl : lv_has ls 5 [(0, .ref ob), (1, .int x1), (2, .int x2), (3, .int x3), (4, .int x4)]), W p l e (headSpec wsX3_letters rmX3_letters).room s m ([.ref ob, .int p0] : List Value).toArray below meth c s.heap [] 0 0 (MQ below (cQp rr) ([.ref ob, .int p0] : List Value).toArray s 0 0 (fun _ => False)) (F0 m 74 ls []) := by
    intro k48 hk48 x1 x2 x3 x4 ls h hl
    unfold fX3_letters_74 at h
    refine lv_iinc (v := x4 + 1) (lv' := [(4, .int (x4 + 1)), (0, .ref ob), (1, .int x1), (2, .int x2), (3, .int x3)]) hx hb dX3_letters_74 hl (k := 4) rfl rfl (by decide) rfl (fun ls hl => ?_)
    refine lv_goto (tgt := 48) hx hb dX3_letters_77 (by decide) ?_
    exact hk48 h (lv_sub hl [1, 2, 3, 4, 0] rfl)
  have t_48 : ∀ {n : Nat}, ∀ {x1 : Int32} {x2 : Int32} {x3 : Int32} {x4 : Int32} {ls : Array Slot} (h : fX3_letters_48 N K  n x1 x2 x3 x4 = some rr) (hl : lv_has ls 5 [(0, .ref ob), (1, .int x1), (2, .int x2), (3, .int x3), (4, .int x4)]), W p l e (headSpec wsX3_letters rmX3_letters).room s m ([.ref ob, .int p0] : List Value).toArray below meth c s.heap [] 0 0 (MQ below (cQp rr) ([.ref ob, .int p0] : List Value).toArray s 0 0 (fun _ => False)) (F0 m 48 ls []) := by
    intro  n
    induction n with
    | zero =>
      intro x1 x2 x3 x4 ls h hl
      unfold fX3_letters_48 at h
      cases h
    | succ n ih =>
      intro x1 x2 x3 x4 ls h hl
      unfold fX3_letters_48 at h
      refine lv_iload hx hb dX3_letters_48 (lv_at hl 4 rfl) ?_
      refine lv_aload_n hx hb dX3_letters_50 rfl (lv_at hl 0 rfl) ?_
      refine lv_iload_n hx hb dX3_letters_51 rfl (lv_at hl 2 rfl) ?_
      refine lv_iconst (v := 5) hx hb dX3_letters_52 (by decide) ?_
      obtain ⟨v1, hv1, h⟩ := bdP_some h
      refine call_VP (As := [.int x2, .int 5]) (rest := [.int x4]) ⟨hx, hb, hml, hown, hts⟩ (tX3_of (l := l) (dC := dC) (dI := dI) (cI := cI) (cC := cC) (ob := ob) (q := q) hv1) (cwV 2 hts gX3_letters_X3_of rfl rfl rfl (by decide +kernel) ⟨Nat.le_of_ble_eq_true rfl, Nat.le_of_ble_eq_true rfl⟩) hK hP 0 rfl rfl (by rfl) hl.1 rfl (Nat.le_of_ble_eq_true rfl) dX3_letters_53 ⟨Nat.zero_le _, Nat.zero_le _⟩ ?_
      refine lv_icmp_ge (tgt := 80) hx hb dX3_letters_56 (by decide) (fun c2 => ?_) (fun c2 => ?_)
      · replace h := if_p c2 h
        refine lv_iload_n hx hb dX3_letters_80 rfl (lv_at hl 3 rfl) ?_
        exact W.iret hx hb hr (fun t ht _ => retP h ht) (fun _ h9 => absurd h9 List.not_mem_nil) dX3_letters_81
      · replace h := if_n c2 h
        refine lv_aload_n hx hb dX3_letters_59 rfl (lv_at hl 0 rfl) ?_
        refine lv_iload_n hx hb dX3_letters_60 rfl (lv_at hl 2 rfl) ?_
        refine lv_iload hx hb dX3_letters_61 (lv_at hl 4 rfl) ?_
        refine lv_iconst (v := 1) hx hb dX3_letters_63 (by decide) ?_
        obtain ⟨v3, hv3, h⟩ := bdP_some h
        refine call_VP (As := [.int x2, .int x4, .int 1]) (rest := []) ⟨hx, hb, hml, hown, hts⟩ (tX3_page (l := l) (dC := dC) (dI := dI) (cI := cI) (cC := cC) (ob := ob) (q := q) hv3) (cwV 3 hts gX3_letters_X3_page rfl rfl rfl (by decide +kernel) ⟨Nat.le_of_ble_eq_true rfl, Nat.le_of_ble_eq_true rfl⟩) hK hP 0 rfl rfl (by rfl) hl.1 rfl (Nat.le_of_ble_eq_true rfl) dX3_letters_64 ⟨Nat.zero_le _, Nat.zero_le _⟩ ?_
        refine lv_iload_n hx hb dX3_letters_67 rfl (lv_at hl 1 rfl) ?_
        refine lv_icmp_ne (tgt := 74) hx hb dX3_letters_68 (by decide) (fun c4 => ?_) (fun c4 => ?_)
        · replace h := if_n c4 h
          exact t_74 @ih h (lv_sub hl [0, 1, 2, 3, 4] rfl)
        · replace h := if_p c4 h
          refine lv_iinc (v := x3 + 1) (lv' := [(3, .int (x3 + 1)), (0, .ref ob), (1, .int x1), (2, .int x2), (4, .int x4)]) hx hb dX3_letters_71 hl (k := 3) rfl rfl (by decide) rfl (fun ls hl => ?_)
          exact t_74 @ih h (lv_sub hl [1, 2, 3, 0, 4] rfl)
  have t_43 : ∀ {x1 : Int32} {x2 : Int32} {ls : Array Slot} (h : fX3_letters_43 N K  x1 x2 = some rr) (hl : lv_has ls 5 [(0, .ref ob), (1, .int x1), (2, .int x2)]), W p l e (headSpec wsX3_letters rmX3_letters).room s m ([.ref ob, .int p0] : List Value).toArray below meth c s.heap [] 0 0 (MQ below (cQp rr) ([.ref ob, .int p0] : List Value).toArray s 0 0 (fun _ => False)) (F0 m 43 ls []) := by
    intro  x1 x2 ls h hl
    unfold fX3_letters_43 at h
    refine lv_iconst (v := 0) hx hb dX3_letters_43 (by decide) ?_
    refine lv_istore_n (lv' := [(3, .int 0), (0, .ref ob), (1, .int x1), (2, .int x2)]) hx hb dX3_letters_44 rfl hl (by decide) rfl (fun ls hl => ?_)
    refine lv_iconst (v := 0) hx hb dX3_letters_45 (by decide) ?_
    refine lv_istore (lv' := [(4, .int 0), (3, .int 0), (0, .ref ob), (1, .int x1), (2, .int x2)]) hx hb dX3_letters_46 hl (by decide) rfl (fun ls hl => ?_)
    exact t_48  h (lv_sub hl [2, 3, 4, 1, 0] rfl)
  have t_15 : ∀ {n : Nat}, ∀ {x1 : Int32} {x2 : Int32} {x3 : Int32} {ls : Array Slot} (h : fX3_letters_15 N K  n x1 x2 x3 = some rr) (hl : lv_has ls 5 [(0, .ref ob), (1, .int x1), (2, .int x2), (3, .int x3)]), W p l e (headSpec wsX3_letters rmX3_letters).room s m ([.ref ob, .int p0] : List Value).toArray below meth c s.heap [] 0 0 (MQ below (cQp rr) ([.ref ob, .int p0] : List Value).toArray s 0 0 (fun _ => False)) (F0 m 15 ls []) := by
    intro  n
    induction n with
    | zero =>
      intro x1 x2 x3 ls h hl
      unfold fX3_letters_15 at h
      cases h
    | succ n ih =>
      intro x1 x2 x3 ls h hl
      unfold fX3_letters_15 at h
      refine lv_iload_n hx hb dX3_letters_15 rfl (lv_at hl 3 rfl) ?_
      refine lv_iconst (v := 5) hx hb dX3_letters_16 (by decide) ?_
      refine lv_icmp_ge (tgt := 43) hx hb dX3_letters_17 (by decide) (fun c5 => ?_) (fun c5 => ?_)
      · replace h := if_p c5 h
        exact t_43  h (lv_sub hl [0, 1, 2] rfl)
      · replace h := if_n c5 h
        refine lv_aload_n hx hb dX3_letters_20 rfl (lv_at hl 0 rfl) ?_
        refine lv_iload_n hx hb dX3_letters_21 rfl (lv_at hl 3 rfl) ?_
        refine lv_iconst (v := 5) hx hb dX3_letters_22 (by decide) ?_
        obtain ⟨v6, hv6, h⟩ := bdP_some h
        refine call_VP (As := [.int x3, .int 5]) (rest := []) ⟨hx, hb, hml, hown, hts⟩ (tX3_of (l := l) (dC := dC) (dI := dI) (cI := cI) (cC := cC) (ob := ob) (q := q) hv6) (cwV 2 hts gX3_letters_X3_of rfl rfl rfl (by decide +kernel) ⟨Nat.le_of_ble_eq_true rfl, Nat.le_of_ble_eq_true rfl⟩) hK hP 0 rfl rfl (by rfl) hl.1 rfl (Nat.le_of_ble_eq_true rfl) dX3_letters_23 ⟨Nat.zero_le _, Nat.zero_le _⟩ ?_
        refine lv_aload_n hx hb dX3_letters_26 rfl (lv_at hl 0 rfl) ?_
        refine lv_iload_n hx hb dX3_letters_27 rfl (lv_at hl 2 rfl) ?_
        refine lv_iconst (v := 5) hx hb dX3_letters_28 (by decide) ?_
        obtain ⟨v7, hv7, h⟩ := bdP_some h
        refine call_VP (As := [.int x2, .int 5]) (rest := [.int v6]) ⟨hx, hb, hml, hown, hts⟩ (tX3_of (l := l) (dC := dC) (dI := dI) (cI := cI) (cC := cC) (ob := ob) (q := q) hv7) (cwV 2 hts gX3_letters_X3_of rfl rfl rfl (by decide +kernel) ⟨Nat.le_of_ble_eq_true rfl, Nat.le_of_ble_eq_true rfl⟩) hK hP 0 rfl rfl (by rfl) hl.1 rfl (Nat.le_of_ble_eq_true rfl) dX3_letters_29 ⟨Nat.zero_le _, Nat.zero_le _⟩ ?_
        refine lv_icmp_le (tgt := 37) hx hb dX3_letters_32 (by decide) (fun c8 => ?_) (fun c8 => ?_)
        · replace h := if_p c8 h
          exact t_37 @ih h (lv_sub hl [0, 1, 2, 3] rfl)
        · replace h := if_n c8 h
          refine lv_iload_n hx hb dX3_letters_35 rfl (lv_at hl 3 rfl) ?_
          refine lv_istore_n (lv' := [(2, .int x3), (0, .ref ob), (1, .int x1), (3, .int x3)]) hx hb dX3_letters_36 rfl hl (by decide) rfl (fun ls hl => ?_)
          exact t_37 @ih h (lv_sub hl [1, 2, 0, 3] rfl)
  have hl := lv_entry ([.ref ob, .int p0]) (n := 5) (Nat.le_of_ble_eq_true rfl)
  rw [lg_entry_eq]
  generalize (lg_sl ([.ref ob, .int p0]) ++ List.replicate (5 - (lg_sl ([.ref ob, .int p0])).length) Slot.unset).toArray = ls at hl ⊢
  have hl : lv_has ls 5 [(0, .ref ob), (1, .int p0)] := hl
  have h := hf
  unfold mX3_letters at h
  refine lv_iload_n hx hb dX3_letters_0 rfl (lv_at hl 1 rfl) ?_
  refine lv_iconst (v := 0) hx hb dX3_letters_1 (by decide) ?_
  refine lv_iconst (v := 3) hx hb dX3_letters_2 (by decide) ?_
  obtain ⟨v9, hv9, h⟩ := bdP_some h
  refine call_SP (As := [.int p0, .int 0, .int 3]) (rest := []) ⟨hx, hb, hml, hown, hts⟩ (tX3_in (l := l) hv9) (va_cwS 3 hts gX3_letters_X3_in rfl rfl rfl (by decide +kernel) ⟨Nat.le_of_ble_eq_true rfl, Nat.le_of_ble_eq_true rfl⟩) (by rfl) hl.1 rfl (Nat.le_of_ble_eq_true rfl) dX3_letters_3 ⟨Nat.zero_le _, Nat.zero_le _⟩ ?_
  refine lv_if_ne (tgt := 11) hx hb dX3_letters_6 (by decide) (fun c10 => ?_) (fun c10 => ?_)
  · replace h := if_n c10 h
    refine lv_iconst (v := 0) hx hb dX3_letters_11 (by decide) ?_
    refine lv_istore_n (lv' := [(2, .int 0), (0, .ref ob), (1, .int p0)]) hx hb dX3_letters_12 rfl hl (by decide) rfl (fun ls hl => ?_)
    refine lv_iconst (v := 1) hx hb dX3_letters_13 (by decide) ?_
    refine lv_istore_n (lv' := [(3, .int 1), (2, .int 0), (0, .ref ob), (1, .int p0)]) hx hb dX3_letters_14 rfl hl (by decide) rfl (fun ls hl => ?_)
    exact t_15  h (lv_sub hl [2, 3, 1, 0] rfl)
  · replace h := if_p c10 h
    refine lv_iconst (v := (-1)) hx hb dX3_letters_9 (by decide) ?_
    exact W.iret hx hb hr (fun t ht _ => retP h ht) (fun _ h9 => absurd h9 List.not_mem_nil) dX3_letters_10
def fX3_remembers_2 (N : Nat)  : Nat → KT → Int32 → Option (Int32 × KT)
  | 0, _, _ => none
  | n + 1, K, x1 => (if 186 ≤ x1 then some (0, K) else rdA (K 0) 186 x1 (fun v2 => wrA K 2 186 x1 v2 (fun K4 => (fX3_remembers_2 N  n) K4 (x1 + 1))))
def mX3_remembers (N : Nat) (K : KT)  : Option (Int32 × KT) := fX3_remembers_2 N  N K 0
def rmX3_remembers : Room := { frames := 1, cells := 0, slots := 0, locals := 40 }
set_option maxHeartbeats 4000000 in
set_option maxRecDepth 100000 in
theorem tX3_remembers {l : Launch} {dC : Nat → ClassId} {dI : Nat → Nat → Nat} {cI : ClassId} {cC : ClassId} {ob : Nat} {q : Nat → Nat} {N : Nat} {K : KT}  {rr : Int32} {KK : KT} (hf : mX3_remembers N K  = some (rr, KK)) : Met l yX3_remembers wsX3_remembers rmX3_remembers (cPe (dC, dI) vwCl [(cI, .int), (cC, .char)] (mdL ob q) (mdW cI cC ob q K) [.ref ob]) (cEv (dC, dI) vwCl (mdL ob q) (mdW cI cC ob q KK)) 0 0 (aL (mdL ob q)) := by
  refine Met.ofW (cc := cX3_remembers) (maxL := 2) (ret := none) (by decide) rfl ?_
  intro p e s m args below meth c s₁ B hml hv
  obtain ⟨rfl, hP, hK, hD⟩ := hv
  have hx := B.exec
  have hb := B.bytes
  have hr := B.returns
  have hts := atoms_spec (ws := wsX3_remembers) B.pre
  have hown : s.vm.findClass RX3 = some m.cls := findClass_of_methodNamed B.named
  have hlocks := B.notSynchronized
  have hwX3 : ∀ w ∈ u_ws RX3 TX3 17, w ∈ wsX3_remembers := by decide +kernel
  have hf_9 := hts (.fieldLink RX3 9 "CaravanLogsModel" "now" "[I") (by decide +kernel)
  have hf_16 := hts (.fieldLink RX3 16 "CaravanLogsModel" "thought" "[I") (by decide +kernel)
  have t_2 : ∀ {n : Nat}, ∀ {K : KT} {x1 : Int32} {H : Heap} {locs : List Loc} {ls : Array Slot} (h : fX3_remembers_2 N  n K x1 = some (rr, KK)) (hl : lv_has ls 2 [(0, .ref ob), (1, .int x1)]) (hP : va_P (dC, dI) vwCl (mdW cI cC ob q K) H) (hD : va_D (aL (mdL ob q)) (mdW cI cC ob q K)) (hS : va_S (aL (mdL ob q)) s.heap H locs), W p l e (headSpec wsX3_remembers rmX3_remembers).room s m ([.ref ob] : List Value).toArray below meth c H locs 0 0 (MQ below (cEv (dC, dI) vwCl (mdL ob q) (mdW cI cC ob q KK)) ([.ref ob] : List Value).toArray s 0 0 (aL (mdL ob q))) (F0 m 2 ls []) := by
    intro  n
    induction n with
    | zero =>
      intro K x1 H locs ls h hl hP hD hS
      unfold fX3_remembers_2 at h
      cases h
    | succ n ih =>
      intro K x1 H locs ls h hl hP hD hS
      unfold fX3_remembers_2 at h
      refine lv_iload_n hx hb dX3_remembers_2 rfl (lv_at hl 1 rfl) ?_
      refine lv_sipush (v := 186) hx hb dX3_remembers_3 (by decide) ?_
      refine lv_icmp_ge (tgt := 27) hx hb dX3_remembers_6 (by decide) (fun c1 => ?_) (fun c1 => ?_)
      · replace h := if_p c1 h
        exact W.vret hx hb hr (fun t ht _ => retEv (w := mdW cI cC ob q) h hP hD hS ht) hS.2.2 dX3_remembers_27
      · replace h := if_n c1 h
        refine lv_aload_n hx hb dX3_remembers_9 rfl (lv_at hl 0 rfl) ?_
        refine va_get (D := (dC, dI)) (ci := 4) (v := .ref (q 2)) (C := RX3) (T := TX3) (N := 17) hx hb hts hwX3 hown hK hP 0 rfl rfl 2 (by decide) hf_16 (fun _ h9 => h9) rfl dX3_remembers_10 ?_
        refine lv_iload_n hx hb dX3_remembers_13 rfl (lv_at hl 1 rfl) ?_
        refine lv_aload_n hx hb dX3_remembers_14 rfl (lv_at hl 0 rfl) ?_
        refine va_get (D := (dC, dI)) (ci := 4) (v := .ref (q 0)) (C := RX3) (T := TX3) (N := 17) hx hb hts hwX3 hown hK hP 0 rfl rfl 0 (by decide) hf_9 (fun _ h9 => h9) rfl dX3_remembers_15 ?_
        refine lv_iload_n hx hb dX3_remembers_18 rfl (lv_at hl 1 rfl) ?_
        obtain ⟨hi3, v2, ev2, h⟩ := rdA_some h
        refine k_iald hx hb hK hP 1 0 rfl rfl hi3 ev2 dX3_remembers_19 ?_
        obtain ⟨hi5, K4, eK4, h⟩ := wrA_some h
        refine va_iast hx hb hK hP hD hS 3 0 rfl rfl hi5 dX3_remembers_20 (fun H locs hP hD hS => ?_)
        have hP : va_P (dC, dI) vwCl (mdW cI cC ob q K4) H := by rw [eK4]; exact hP
        have hD : va_D (aL (mdL ob q)) (mdW cI cC ob q K4) := by rw [eK4]; exact hD
        refine lv_iinc (v := x1 + 1) (lv' := [(1, .int (x1 + 1)), (0, .ref ob)]) hx hb dX3_remembers_21 hl (k := 1) rfl rfl (by decide) rfl (fun ls hl => ?_)
        refine lv_goto (tgt := 2) hx hb dX3_remembers_24 (by decide) ?_
        exact ih h (lv_sub hl [1, 0] rfl) hP hD hS
  have hS : va_S (aL (mdL ob q)) s.heap s.heap [] := va_S.rf
  have hl := lv_entry ([.ref ob]) (n := 2) (Nat.le_of_ble_eq_true rfl)
  rw [lg_entry_eq]
  generalize (lg_sl ([.ref ob]) ++ List.replicate (2 - (lg_sl ([.ref ob])).length) Slot.unset).toArray = ls at hl ⊢
  have hl : lv_has ls 2 [(0, .ref ob)] := hl
  have h := hf
  unfold mX3_remembers at h
  refine lv_iconst (v := 0) hx hb dX3_remembers_0 (by decide) ?_
  refine lv_istore_n (lv' := [(1, .int 0), (0, .ref ob)]) hx hb dX3_remembers_1 rfl hl (by decide) rfl (fun ls hl => ?_)
  exact t_2  h (lv_sub hl [1, 0] rfl) hP hD hS
def fX3_forgets_2 (N : Nat)  : Nat → KT → Int32 → Option (Int32 × KT)
  | 0, _, _ => none
  | n + 1, K, x1 => (if 186 ≤ x1 then some (0, K) else rdA (K 2) 186 x1 (fun v2 => wrA K 0 186 x1 v2 (fun K4 => (fX3_forgets_2 N  n) K4 (x1 + 1))))
def mX3_forgets (N : Nat) (K : KT)  : Option (Int32 × KT) := fX3_forgets_2 N  N K 0
def rmX3_forgets : Room := { frames := 1, cells := 0, slots := 0, locals := 40 }
set_option maxHeartbeats 4000000 in
set_option maxRecDepth 100000 in
theorem tX3_forgets {l : Launch} {dC : Nat → ClassId} {dI : Nat → Nat → Nat} {cI : ClassId} {cC : ClassId} {ob : Nat} {q : Nat → Nat} {N : Nat} {K : KT}  {rr : Int32} {KK : KT} (hf : mX3_forgets N K  = some (rr, KK)) : Met l yX3_forgets wsX3_forgets rmX3_forgets (cPe (dC, dI) vwCl [(cI, .int), (cC, .char)] (mdL ob q) (mdW cI cC ob q K) [.ref ob]) (cEv (dC, dI) vwCl (mdL ob q) (mdW cI cC ob q KK)) 0 0 (aL (mdL ob q)) := by
  refine Met.ofW (cc := cX3_forgets) (maxL := 2) (ret := none) (by decide) rfl ?_
  intro p e s m args below meth c s₁ B hml hv
  obtain ⟨rfl, hP, hK, hD⟩ := hv
  have hx := B.exec
  have hb := B.bytes
  have hr := B.returns
  have hts := atoms_spec (ws := wsX3_forgets) B.pre
  have hown : s.vm.findClass RX3 = some m.cls := findClass_of_methodNamed B.named
  have hlocks := B.notSynchronized
  have hwX3 : ∀ w ∈ u_ws RX3 TX3 17, w ∈ wsX3_forgets := by decide +kernel
  have hf_9 := hts (.fieldLink RX3 9 "CaravanLogsModel" "now" "[I") (by decide +kernel)
  have hf_16 := hts (.fieldLink RX3 16 "CaravanLogsModel" "thought" "[I") (by decide +kernel)
  have t_2 : ∀ {n : Nat}, ∀ {K : KT} {x1 : Int32} {H : Heap} {locs : List Loc} {ls : Array Slot} (h : fX3_forgets_2 N  n K x1 = some (rr, KK)) (hl : lv_has ls 2 [(0, .ref ob), (1, .int x1)]) (hP : va_P (dC, dI) vwCl (mdW cI cC ob q K) H) (hD : va_D (aL (mdL ob q)) (mdW cI cC ob q K)) (hS : va_S (aL (mdL ob q)) s.heap H locs), W p l e (headSpec wsX3_forgets rmX3_forgets).room s m ([.ref ob] : List Value).toArray below meth c H locs 0 0 (MQ below (cEv (dC, dI) vwCl (mdL ob q) (mdW cI cC ob q KK)) ([.ref ob] : List Value).toArray s 0 0 (aL (mdL ob q))) (F0 m 2 ls []) := by
    intro  n
    induction n with
    | zero =>
      intro K x1 H locs ls h hl hP hD hS
      unfold fX3_forgets_2 at h
      cases h
    | succ n ih =>
      intro K x1 H locs ls h hl hP hD hS
      unfold fX3_forgets_2 at h
      refine lv_iload_n hx hb dX3_forgets_2 rfl (lv_at hl 1 rfl) ?_
      refine lv_sipush (v := 186) hx hb dX3_forgets_3 (by decide) ?_
      refine lv_icmp_ge (tgt := 27) hx hb dX3_forgets_6 (by decide) (fun c1 => ?_) (fun c1 => ?_)
      · replace h := if_p c1 h
        exact W.vret hx hb hr (fun t ht _ => retEv (w := mdW cI cC ob q) h hP hD hS ht) hS.2.2 dX3_forgets_27
      · replace h := if_n c1 h
        refine lv_aload_n hx hb dX3_forgets_9 rfl (lv_at hl 0 rfl) ?_
        refine va_get (D := (dC, dI)) (ci := 4) (v := .ref (q 0)) (C := RX3) (T := TX3) (N := 17) hx hb hts hwX3 hown hK hP 0 rfl rfl 0 (by decide) hf_9 (fun _ h9 => h9) rfl dX3_forgets_10 ?_
        refine lv_iload_n hx hb dX3_forgets_13 rfl (lv_at hl 1 rfl) ?_
        refine lv_aload_n hx hb dX3_forgets_14 rfl (lv_at hl 0 rfl) ?_
        refine va_get (D := (dC, dI)) (ci := 4) (v := .ref (q 2)) (C := RX3) (T := TX3) (N := 17) hx hb hts hwX3 hown hK hP 0 rfl rfl 2 (by decide) hf_16 (fun _ h9 => h9) rfl dX3_forgets_15 ?_
        refine lv_iload_n hx hb dX3_forgets_18 rfl (lv_at hl 1 rfl) ?_
        obtain ⟨hi3, v2, ev2, h⟩ := rdA_some h
        refine k_iald hx hb hK hP 3 0 rfl rfl hi3 ev2 dX3_forgets_19 ?_
        obtain ⟨hi5, K4, eK4, h⟩ := wrA_some h
        refine va_iast hx hb hK hP hD hS 1 0 rfl rfl hi5 dX3_forgets_20 (fun H locs hP hD hS => ?_)
        have hP : va_P (dC, dI) vwCl (mdW cI cC ob q K4) H := by rw [eK4]; exact hP
        have hD : va_D (aL (mdL ob q)) (mdW cI cC ob q K4) := by rw [eK4]; exact hD
        refine lv_iinc (v := x1 + 1) (lv' := [(1, .int (x1 + 1)), (0, .ref ob)]) hx hb dX3_forgets_21 hl (k := 1) rfl rfl (by decide) rfl (fun ls hl => ?_)
        refine lv_goto (tgt := 2) hx hb dX3_forgets_24 (by decide) ?_
        exact ih h (lv_sub hl [1, 0] rfl) hP hD hS
  have hS : va_S (aL (mdL ob q)) s.heap s.heap [] := va_S.rf
  have hl := lv_entry ([.ref ob]) (n := 2) (Nat.le_of_ble_eq_true rfl)
  rw [lg_entry_eq]
  generalize (lg_sl ([.ref ob]) ++ List.replicate (2 - (lg_sl ([.ref ob])).length) Slot.unset).toArray = ls at hl ⊢
  have hl : lv_has ls 2 [(0, .ref ob)] := hl
  have h := hf
  unfold mX3_forgets at h
  refine lv_iconst (v := 0) hx hb dX3_forgets_0 (by decide) ?_
  refine lv_istore_n (lv' := [(1, .int 0), (0, .ref ob)]) hx hb dX3_forgets_1 rfl hl (by decide) rfl (fun ls hl => ?_)
  exact t_2  h (lv_sub hl [1, 0] rfl) hP hD hS
def fX3_would_27 (N : Nat)  (K : KT)  : Option (Int32 × KT) := some ((-4), K)
def mX3_would (N : Nat) (K : KT) (p0 : Int32) : Option (Int32 × KT) := bdP (mX3_isCamp N p0) (fun v1 => (if v1 = 0 then some ((-1), K) else bdP (mX3_isAwake N K p0) (fun v3 => (if v3 = 0 then fX3_would_27 N  K  else bdP (mX3_of N K p0 2) (fun v5 => (if v5 = 1 then fX3_would_27 N  K  else bdE (mX3_remembers N K ) (fun v7 K8 => bdE (mX3_asks N K8 p0) (fun v9 K10 => bdE (mX3_forgets N K10 ) (fun v11 K12 => some (v9, K12))))))))))
def rmX3_would : Room := { frames := 6, cells := 0, slots := 0, locals := 152 }
set_option maxHeartbeats 4000000 in
set_option maxRecDepth 100000 in
theorem tX3_would {l : Launch} {dC : Nat → ClassId} {dI : Nat → Nat → Nat} {cI : ClassId} {cC : ClassId} {ob : Nat} {q : Nat → Nat} {N : Nat} {K : KT} {p0 : Int32} {rr : Int32} {KK : KT} (hf : mX3_would N K p0 = some (rr, KK)) : Met l yX3_would wsX3_would rmX3_would (cPe (dC, dI) vwCl [(cI, .int), (cC, .char)] (mdL ob q) (mdW cI cC ob q K) [.ref ob, .int p0]) (cE (dC, dI) vwCl (mdL ob q) rr (mdW cI cC ob q KK)) 0 0 (aL (mdL ob q)) := by
  refine Met.ofW (cc := cX3_would) (maxL := 3) (ret := (some .int)) (by decide) rfl ?_
  intro p e s m args below meth c s₁ B hml hv
  obtain ⟨rfl, hP, hK, hD⟩ := hv
  have hx := B.exec
  have hb := B.bytes
  have hr := B.returns
  have hts := atoms_spec (ws := wsX3_would) B.pre
  have hown : s.vm.findClass RX3 = some m.cls := findClass_of_methodNamed B.named
  have hlocks := B.notSynchronized
  have t_27 : ∀ {K : KT}  {H : Heap} {locs : List Loc} {ls : Array Slot} (h : fX3_would_27 N  K  = some (rr, KK)) (hl : lv_has ls 3 []) (hP : va_P (dC, dI) vwCl (mdW cI cC ob q K) H) (hD : va_D (aL (mdL ob q)) (mdW cI cC ob q K)) (hS : va_S (aL (mdL ob q)) s.heap H locs), W p l e (headSpec wsX3_would rmX3_would).room s m ([.ref ob, .int p0] : List Value).toArray below meth c H locs 0 0 (MQ below (cE (dC, dI) vwCl (mdL ob q) rr (mdW cI cC ob q KK)) ([.ref ob, .int p0] : List Value).toArray s 0 0 (aL (mdL ob q))) (F0 m 27 ls []) := by
    intro  K H locs ls h hl hP hD hS
    unfold fX3_would_27 at h
    refine lv_bipush (v := (-4)) hx hb dX3_would_27 (by decide) ?_
    exact W.iret hx hb hr (fun t ht _ => retE (w := mdW cI cC ob q) h hP hD hS ht) hS.2.2 dX3_would_29
  have hS : va_S (aL (mdL ob q)) s.heap s.heap [] := va_S.rf
  have hl := lv_entry ([.ref ob, .int p0]) (n := 3) (Nat.le_of_ble_eq_true rfl)
  rw [lg_entry_eq]
  generalize (lg_sl ([.ref ob, .int p0]) ++ List.replicate (3 - (lg_sl ([.ref ob, .int p0])).length) Slot.unset).toArray = ls at hl ⊢
  have hl : lv_has ls 3 [(0, .ref ob), (1, .int p0)] := hl
  have h := hf
  unfold mX3_would at h
  refine lv_iload_n hx hb dX3_would_0 rfl (lv_at hl 1 rfl) ?_
  obtain ⟨v1, hv1, h⟩ := bdP_some h
  refine call_SP (As := [.int p0]) (rest := []) ⟨hx, hb, hml, hown, hts⟩ (tX3_isCamp (l := l) hv1) (va_cwS 1 hts gX3_would_X3_isCamp rfl rfl rfl (by decide +kernel) ⟨Nat.le_of_ble_eq_true rfl, Nat.le_of_ble_eq_true rfl⟩) (by rfl) hl.1 rfl (Nat.le_of_ble_eq_true rfl) dX3_would_1 ⟨Nat.zero_le _, Nat.zero_le _⟩ ?_
  refine lv_if_ne (tgt := 9) hx hb dX3_would_4 (by decide) (fun c2 => ?_) (fun c2 => ?_)
  · replace h := if_n c2 h
    refine lv_aload_n hx hb dX3_would_9 rfl (lv_at hl 0 rfl) ?_
    refine lv_iload_n hx hb dX3_would_10 rfl (lv_at hl 1 rfl) ?_
    obtain ⟨v3, hv3, h⟩ := bdP_some h
    refine call_VP (As := [.int p0]) (rest := []) ⟨hx, hb, hml, hown, hts⟩ (tX3_isAwake (l := l) (dC := dC) (dI := dI) (cI := cI) (cC := cC) (ob := ob) (q := q) hv3) (cwV 1 hts gX3_would_X3_isAwake rfl rfl rfl (by decide +kernel) ⟨Nat.le_of_ble_eq_true rfl, Nat.le_of_ble_eq_true rfl⟩) hK hP 0 rfl rfl (by rfl) hl.1 rfl (Nat.le_of_ble_eq_true rfl) dX3_would_11 ⟨Nat.zero_le _, Nat.zero_le _⟩ ?_
    refine lv_if_eq (tgt := 27) hx hb dX3_would_14 (by decide) (fun c4 => ?_) (fun c4 => ?_)
    · replace h := if_p c4 h
      exact t_27  h (lv_sub hl [] rfl) hP hD hS
    · replace h := if_n c4 h
      refine lv_aload_n hx hb dX3_would_17 rfl (lv_at hl 0 rfl) ?_
      refine lv_iload_n hx hb dX3_would_18 rfl (lv_at hl 1 rfl) ?_
      refine lv_iconst (v := 2) hx hb dX3_would_19 (by decide) ?_
      obtain ⟨v5, hv5, h⟩ := bdP_some h
      refine call_VP (As := [.int p0, .int 2]) (rest := []) ⟨hx, hb, hml, hown, hts⟩ (tX3_of (l := l) (dC := dC) (dI := dI) (cI := cI) (cC := cC) (ob := ob) (q := q) hv5) (cwV 2 hts gX3_would_X3_of rfl rfl rfl (by decide +kernel) ⟨Nat.le_of_ble_eq_true rfl, Nat.le_of_ble_eq_true rfl⟩) hK hP 0 rfl rfl (by rfl) hl.1 rfl (Nat.le_of_ble_eq_true rfl) dX3_would_20 ⟨Nat.zero_le _, Nat.zero_le _⟩ ?_
      refine lv_iconst (v := 1) hx hb dX3_would_23 (by decide) ?_
      refine lv_icmp_ne (tgt := 30) hx hb dX3_would_24 (by decide) (fun c6 => ?_) (fun c6 => ?_)
      · replace h := if_n c6 h
        refine lv_aload_n hx hb dX3_would_30 rfl (lv_at hl 0 rfl) ?_
        obtain ⟨v7, K8, hv7, h⟩ := bdE_some h
        refine call_VEv (As := []) (rest := []) ⟨hx, hb, hml, hown, hts⟩ (tX3_remembers (l := l) (dC := dC) (dI := dI) (cI := cI) (cC := cC) (ob := ob) (q := q) hv7) (cwV 0 hts gX3_would_X3_remembers rfl rfl rfl (by decide +kernel) ⟨Nat.le_of_ble_eq_true rfl, Nat.le_of_ble_eq_true rfl⟩) hK hP hD hS (fun _ h9 => h9) 0 rfl rfl (by rfl) hl.1 rfl (Nat.le_of_ble_eq_true rfl) dX3_would_31 ⟨Nat.zero_le _, Nat.zero_le _⟩ (fun H locs hP hD _ hS => ?_)
        refine lv_aload_n hx hb dX3_would_34 rfl (lv_at hl 0 rfl) ?_
        refine lv_iload_n hx hb dX3_would_35 rfl (lv_at hl 1 rfl) ?_
        obtain ⟨v9, K10, hv9, h⟩ := bdE_some h
        refine call_VE (As := [.int p0]) (rest := []) ⟨hx, hb, hml, hown, hts⟩ (tX3_asks (l := l) (dC := dC) (dI := dI) (cI := cI) (cC := cC) (ob := ob) (q := q) hv9) (cwV 1 hts gX3_would_X3_asks rfl rfl rfl (by decide +kernel) ⟨Nat.le_of_ble_eq_true rfl, Nat.le_of_ble_eq_true rfl⟩) hK hP hD hS (fun _ h9 => h9) 0 rfl rfl (by rfl) hl.1 rfl (Nat.le_of_ble_eq_true rfl) dX3_would_36 ⟨Nat.zero_le _, Nat.zero_le _⟩ (fun H locs hP hD _ hS => ?_)
        refine lv_istore_n (lv' := [(2, .int v9), (0, .ref ob), (1, .int p0)]) hx hb dX3_would_39 rfl hl (by decide) rfl (fun ls hl => ?_)
        refine lv_aload_n hx hb dX3_would_40 rfl (lv_at hl 1 rfl) ?_
        obtain ⟨v11, K12, hv11, h⟩ := bdE_some h
        refine call_VEv (As := []) (rest := []) ⟨hx, hb, hml, hown, hts⟩ (tX3_forgets (l := l) (dC := dC) (dI := dI) (cI := cI) (cC := cC) (ob := ob) (q := q) hv11) (cwV 0 hts gX3_would_X3_forgets rfl rfl rfl (by decide +kernel) ⟨Nat.le_of_ble_eq_true rfl, Nat.le_of_ble_eq_true rfl⟩) hK hP hD hS (fun _ h9 => h9) 0 rfl rfl (by rfl) hl.1 rfl (Nat.le_of_ble_eq_true rfl) dX3_would_41 ⟨Nat.zero_le _, Nat.zero_le _⟩ (fun H locs hP hD _ hS => ?_)
        refine lv_iload_n hx hb dX3_would_44 rfl (lv_at hl 0 rfl) ?_
        exact W.iret hx hb hr (fun t ht _ => retE (w := mdW cI cC ob q) h hP hD hS ht) hS.2.2 dX3_would_45
      · replace h := if_p c6 h
        exact t_27  h (lv_sub hl [] rfl) hP hD hS
  · replace h := if_p c2 h
    refine lv_iconst (v := (-1)) hx hb dX3_would_7 (by decide) ?_
    exact W.iret hx hb hr (fun t ht _ => retE (w := mdW cI cC ob q) h hP hD hS ht) hS.2.2 dX3_would_8
def fX3_hasCaptain_28 (N : Nat) (K : KT) (k4 : Int32 → Int32 → Option Int32) (x1 : Int32) (x2 : Int32) : Option Int32 := k4 x1 (x2 + 1)
def fX3_hasCaptain_63 (N : Nat) (K : KT) (k36 : Int32 → Int32 → Option Int32) (x1 : Int32) (x2 : Int32) : Option Int32 := k36 x1 (x2 + 1)
def fX3_hasCaptain_36 (N : Nat) (K : KT)  : Nat → Int32 → Int32 → Option Int32
  | 0, _, _ => none
  | n + 1, x1, x2 => (if 5 ≤ x2 then some 0 else bdP (mX3_of N K x2 2) (fun v2 => (if v2 = 1 then bdP (mX3_of N K x2 0) (fun v4 => (if v4 = x1 then some 1 else fX3_hasCaptain_63 N K (fX3_hasCaptain_36 N K  n) x1 x2)) else fX3_hasCaptain_63 N K (fX3_hasCaptain_36 N K  n) x1 x2)))
def fX3_hasCaptain_34 (N : Nat) (K : KT)  (x1 : Int32) : Option Int32 := fX3_hasCaptain_36 N K  N x1 0
def fX3_hasCaptain_4 (N : Nat) (K : KT)  : Nat → Int32 → Int32 → Option Int32
  | 0, _, _ => none
  | n + 1, x1, x2 => (if 5 ≤ x2 then fX3_hasCaptain_34 N K  x1 else bdP (mX3_isAwake N K x2) (fun v7 => (if v7 = 0 then fX3_hasCaptain_28 N K (fX3_hasCaptain_4 N K  n) x1 x2 else bdP (mX3_of N K x2 0) (fun v9 => fX3_hasCaptain_28 N K (fX3_hasCaptain_4 N K  n) ((if x1 < v9 then v9 else x1)) x2))))
def mX3_hasCaptain (N : Nat) (K : KT)  : Option Int32 := fX3_hasCaptain_4 N K  N 0 0
def rmX3_hasCaptain : Room := { frames := 3, cells := 0, slots := 0, locals := 83 }
set_option maxHeartbeats 4000000 in
set_option maxRecDepth 100000 in
theorem tX3_hasCaptain {l : Launch} {dC : Nat → ClassId} {dI : Nat → Nat → Nat} {cI : ClassId} {cC : ClassId} {ob : Nat} {q : Nat → Nat} {N : Nat} {K : KT}  {rr : Int32} (hf : mX3_hasCaptain N K  = some rr) : Met l yX3_hasCaptain wsX3_hasCaptain rmX3_hasCaptain (cP (dC, dI) vwCl [(cI, .int), (cC, .char)] (mdW cI cC ob q K) [.ref ob]) (cQp rr) 0 0 (fun _ => False) := by
  refine Met.ofW (cc := cX3_hasCaptain) (maxL := 3) (ret := (some .boolean)) (by decide) rfl ?_
  intro p e s m args below meth c s₁ B hml hv
  obtain ⟨rfl, hP, hK⟩ := hv
  have hx := B.exec
  have hb := B.bytes
  have hr := B.returns
  have hts := atoms_spec (ws := wsX3_hasCaptain) B.pre
  have hown : s.vm.findClass RX3 = some m.cls := findClass_of_methodNamed B.named
  have hlocks := B.notSynchronized
  have t_28 : ∀ {k4 : Int32 → Int32 → Option Int32} (hk4 : ∀ {x1 : Int32} {x2 : Int32} {ls : Array Slot} (h : k4 x1 x2 = some rr) (hl : lv_has ls 3 [(0, .ref ob), (1, .int x1), (2, .int x2)]), W p l e (headSpec wsX3_hasCaptain rmX3_hasCaptain).room s m ([.ref ob] : List Value).toArray below meth c s.heap [] 0 0 (MQ below (cQp rr) ([.ref ob] : List Value).toArray s 0 0 (fun _ => False)) (F0 m 4 ls [])), ∀ {x1 : Int32} {x2 : Int32} {ls : Array Slot} (h : fX3_hasCaptain_28 N K k4 x1 x2 = some rr) (hl : lv_has ls 3 [(0, .ref ob), (1, .int x1), (2, .int x2)]), W p l e (headSpec wsX3_hasCaptain rmX3_hasCaptain).room s m ([.ref ob] : List Value).toArray below meth c s.heap [] 0 0 (MQ below (cQp rr) ([.ref ob] : List Value).toArray s 0 0 (fun _ => False)) (F0 m 28 ls []) := by
    intro k4 hk4 x1 x2 ls h hl
    unfold fX3_hasCaptain_28 at h
    refine lv_iinc (v := x2 + 1) (lv' := [(2, .int (x2 + 1)), (0, .ref ob), (1, .int x1)]) hx hb dX3_hasCaptain_28 hl (k := 2) rfl rfl (by decide) rfl (fun ls hl => ?_)
    refine lv_goto (tgt := 4) hx hb dX3_hasCaptain_31 (by decide) ?_
    exact hk4 h (lv_sub hl [1, 2, 0] rfl)
  have t_63 : ∀ {k36 : Int32 → Int32 → Option Int32} (hk36 : ∀ {x1 : Int32} {x2 : Int32} {ls : Array Slot} (h : k36 x1 x2 = some rr) (hl : lv_has ls 3 [(0, .ref ob), (1, .int x1), (2, .int x2)]), W p l e (headSpec wsX3_hasCaptain rmX3_hasCaptain).room s m ([.ref ob] : List Value).toArray below meth c s.heap [] 0 0 (MQ below (cQp rr) ([.ref ob] : List Value).toArray s 0 0 (fun _ => False)) (F0 m 36 ls [])), ∀ {x1 : Int32} {x2 : Int32} {ls : Array Slot} (h : fX3_hasCaptain_63 N K k36 x1 x2 = some rr) (hl : lv_has ls 3 [(0, .ref ob), (1, .int x1), (2, .int x2)]), W p l e (headSpec wsX3_hasCaptain rmX3_hasCaptain).room s m ([.ref ob] : List Value).toArray below meth c s.heap [] 0 0 (MQ below (cQp rr) ([.ref ob] : List Value).toArray s 0 0 (fun _ => False)) (F0 m 63 ls []) := by
    intro k36 hk36 x1 x2 ls h hl
    unfold fX3_hasCaptain_63 at h
    refine lv_iinc (v := x2 + 1) (lv' := [(2, .int (x2 + 1)), (0, .ref ob), (1, .int x1)]) hx hb dX3_hasCaptain_63 hl (k := 2) rfl rfl (by decide) rfl (fun ls hl => ?_)
    refine lv_goto (tgt := 36) hx hb dX3_hasCaptain_66 (by decide) ?_
    exact hk36 h (lv_sub hl [1, 2, 0] rfl)
  have t_36 : ∀ {n : Nat}, ∀ {x1 : Int32} {x2 : Int32} {ls : Array Slot} (h : fX3_hasCaptain_36 N K  n x1 x2 = some rr) (hl : lv_has ls 3 [(0, .ref ob), (1, .int x1), (2, .int x2)]), W p l e (headSpec wsX3_hasCaptain rmX3_hasCaptain).room s m ([.ref ob] : List Value).toArray below meth c s.heap [] 0 0 (MQ below (cQp rr) ([.ref ob] : List Value).toArray s 0 0 (fun _ => False)) (F0 m 36 ls []) := by
    intro  n
    induction n with
    | zero =>
      intro x1 x2 ls h hl
      unfold fX3_hasCaptain_36 at h
      cases h
    | succ n ih =>
      intro x1 x2 ls h hl
      unfold fX3_hasCaptain_36 at h
      refine lv_iload_n hx hb dX3_hasCaptain_36 rfl (lv_at hl 2 rfl) ?_
      refine lv_iconst (v := 5) hx hb dX3_hasCaptain_37 (by decide) ?_
      refine lv_icmp_ge (tgt := 69) hx hb dX3_hasCaptain_38 (by decide) (fun c1 => ?_) (fun c1 => ?_)
      · replace h := if_p c1 h
        refine lv_iconst (v := 0) hx hb dX3_hasCaptain_69 (by decide) ?_
        exact W.zret hx hb hr (by decide) (fun t ht _ => retP h ht) (fun _ h9 => absurd h9 List.not_mem_nil) dX3_hasCaptain_70
      · replace h := if_n c1 h
        refine lv_aload_n hx hb dX3_hasCaptain_41 rfl (lv_at hl 0 rfl) ?_
        refine lv_iload_n hx hb dX3_hasCaptain_42 rfl (lv_at hl 2 rfl) ?_
        refine lv_iconst (v := 2) hx hb dX3_hasCaptain_43 (by decide) ?_
        obtain ⟨v2, hv2, h⟩ := bdP_some h
        refine call_VP (As := [.int x2, .int 2]) (rest := []) ⟨hx, hb, hml, hown, hts⟩ (tX3_of (l := l) (dC := dC) (dI := dI) (cI := cI) (cC := cC) (ob := ob) (q := q) hv2) (cwV 2 hts gX3_hasCaptain_X3_of rfl rfl rfl (by decide +kernel) ⟨Nat.le_of_ble_eq_true rfl, Nat.le_of_ble_eq_true rfl⟩) hK hP 0 rfl rfl (by rfl) hl.1 rfl (Nat.le_of_ble_eq_true rfl) dX3_hasCaptain_44 ⟨Nat.zero_le _, Nat.zero_le _⟩ ?_
        refine lv_iconst (v := 1) hx hb dX3_hasCaptain_47 (by decide) ?_
        refine lv_icmp_ne (tgt := 63) hx hb dX3_hasCaptain_48 (by decide) (fun c3 => ?_) (fun c3 => ?_)
        · replace h := if_n c3 h
          exact t_63 @ih h (lv_sub hl [0, 1, 2] rfl)
        · replace h := if_p c3 h
          refine lv_aload_n hx hb dX3_hasCaptain_51 rfl (lv_at hl 0 rfl) ?_
          refine lv_iload_n hx hb dX3_hasCaptain_52 rfl (lv_at hl 2 rfl) ?_
          refine lv_iconst (v := 0) hx hb dX3_hasCaptain_53 (by decide) ?_
          obtain ⟨v4, hv4, h⟩ := bdP_some h
          refine call_VP (As := [.int x2, .int 0]) (rest := []) ⟨hx, hb, hml, hown, hts⟩ (tX3_of (l := l) (dC := dC) (dI := dI) (cI := cI) (cC := cC) (ob := ob) (q := q) hv4) (cwV 2 hts gX3_hasCaptain_X3_of rfl rfl rfl (by decide +kernel) ⟨Nat.le_of_ble_eq_true rfl, Nat.le_of_ble_eq_true rfl⟩) hK hP 0 rfl rfl (by rfl) hl.1 rfl (Nat.le_of_ble_eq_true rfl) dX3_hasCaptain_54 ⟨Nat.zero_le _, Nat.zero_le _⟩ ?_
          refine lv_iload_n hx hb dX3_hasCaptain_57 rfl (lv_at hl 1 rfl) ?_
          refine lv_icmp_ne (tgt := 63) hx hb dX3_hasCaptain_58 (by decide) (fun c5 => ?_) (fun c5 => ?_)
          · replace h := if_n c5 h
            exact t_63 @ih h (lv_sub hl [0, 1, 2] rfl)
          · replace h := if_p c5 h
            refine lv_iconst (v := 1) hx hb dX3_hasCaptain_61 (by decide) ?_
            exact W.zret hx hb hr (by decide) (fun t ht _ => retP h ht) (fun _ h9 => absurd h9 List.not_mem_nil) dX3_hasCaptain_62
  have t_34 : ∀ {x1 : Int32} {ls : Array Slot} (h : fX3_hasCaptain_34 N K  x1 = some rr) (hl : lv_has ls 3 [(0, .ref ob), (1, .int x1)]), W p l e (headSpec wsX3_hasCaptain rmX3_hasCaptain).room s m ([.ref ob] : List Value).toArray below meth c s.heap [] 0 0 (MQ below (cQp rr) ([.ref ob] : List Value).toArray s 0 0 (fun _ => False)) (F0 m 34 ls []) := by
    intro  x1 ls h hl
    unfold fX3_hasCaptain_34 at h
    refine lv_iconst (v := 0) hx hb dX3_hasCaptain_34 (by decide) ?_
    refine lv_istore_n (lv' := [(2, .int 0), (0, .ref ob), (1, .int x1)]) hx hb dX3_hasCaptain_35 rfl hl (by decide) rfl (fun ls hl => ?_)
    exact t_36  h (lv_sub hl [1, 2, 0] rfl)
  have t_4 : ∀ {n : Nat}, ∀ {x1 : Int32} {x2 : Int32} {ls : Array Slot} (h : fX3_hasCaptain_4 N K  n x1 x2 = some rr) (hl : lv_has ls 3 [(0, .ref ob), (1, .int x1), (2, .int x2)]), W p l e (headSpec wsX3_hasCaptain rmX3_hasCaptain).room s m ([.ref ob] : List Value).toArray below meth c s.heap [] 0 0 (MQ below (cQp rr) ([.ref ob] : List Value).toArray s 0 0 (fun _ => False)) (F0 m 4 ls []) := by
    intro  n
    induction n with
    | zero =>
      intro x1 x2 ls h hl
      unfold fX3_hasCaptain_4 at h
      cases h
    | succ n ih =>
      intro x1 x2 ls h hl
      unfold fX3_hasCaptain_4 at h
      refine lv_iload_n hx hb dX3_hasCaptain_4 rfl (lv_at hl 2 rfl) ?_
      refine lv_iconst (v := 5) hx hb dX3_hasCaptain_5 (by decide) ?_
      refine lv_icmp_ge (tgt := 34) hx hb dX3_hasCaptain_6 (by decide) (fun c6 => ?_) (fun c6 => ?_)
      · replace h := if_p c6 h
        exact t_34  h (lv_sub hl [0, 1] rfl)
      · replace h := if_n c6 h
        refine lv_aload_n hx hb dX3_hasCaptain_9 rfl (lv_at hl 0 rfl) ?_
        refine lv_iload_n hx hb dX3_hasCaptain_10 rfl (lv_at hl 2 rfl) ?_
        obtain ⟨v7, hv7, h⟩ := bdP_some h
        refine call_VP (As := [.int x2]) (rest := []) ⟨hx, hb, hml, hown, hts⟩ (tX3_isAwake (l := l) (dC := dC) (dI := dI) (cI := cI) (cC := cC) (ob := ob) (q := q) hv7) (cwV 1 hts gX3_hasCaptain_X3_isAwake rfl rfl rfl (by decide +kernel) ⟨Nat.le_of_ble_eq_true rfl, Nat.le_of_ble_eq_true rfl⟩) hK hP 0 rfl rfl (by rfl) hl.1 rfl (Nat.le_of_ble_eq_true rfl) dX3_hasCaptain_11 ⟨Nat.zero_le _, Nat.zero_le _⟩ ?_
        refine lv_if_eq (tgt := 28) hx hb dX3_hasCaptain_14 (by decide) (fun c8 => ?_) (fun c8 => ?_)
        · replace h := if_p c8 h
          exact t_28 @ih h (lv_sub hl [0, 1, 2] rfl)
        · replace h := if_n c8 h
          refine lv_iload_n hx hb dX3_hasCaptain_17 rfl (lv_at hl 1 rfl) ?_
          refine lv_aload_n hx hb dX3_hasCaptain_18 rfl (lv_at hl 0 rfl) ?_
          refine lv_iload_n hx hb dX3_hasCaptain_19 rfl (lv_at hl 2 rfl) ?_
          refine lv_iconst (v := 0) hx hb dX3_hasCaptain_20 (by decide) ?_
          obtain ⟨v9, hv9, h⟩ := bdP_some h
          refine call_VP (As := [.int x2, .int 0]) (rest := [.int x1]) ⟨hx, hb, hml, hown, hts⟩ (tX3_of (l := l) (dC := dC) (dI := dI) (cI := cI) (cC := cC) (ob := ob) (q := q) hv9) (cwV 2 hts gX3_hasCaptain_X3_of rfl rfl rfl (by decide +kernel) ⟨Nat.le_of_ble_eq_true rfl, Nat.le_of_ble_eq_true rfl⟩) hK hP 0 rfl rfl (by rfl) hl.1 rfl (Nat.le_of_ble_eq_true rfl) dX3_hasCaptain_21 ⟨Nat.zero_le _, Nat.zero_le _⟩ ?_
          refine va_mmax hx hb (hml.trans hl.1.symm) hown (hts (.methodLink RX3 61 Lib.Math.max.name) (by decide +kernel)) (hts (.static Lib.Math.max.name) (by decide +kernel)) (hts (.initialized "java/lang/Math") (by decide +kernel)) (hts (.code Lib.Math.max.name Lib.Math.max.code 2 (some .int)) (by decide +kernel)) (Nat.le_of_ble_eq_true rfl) (Nat.le_of_ble_eq_true rfl) (Nat.zero_le _) (Nat.zero_le _) dX3_hasCaptain_24 ?_
          refine lv_istore_n (lv' := [(1, .int ((if x1 < v9 then v9 else x1))), (0, .ref ob), (2, .int x2)]) hx hb dX3_hasCaptain_27 rfl hl (by decide) rfl (fun ls hl => ?_)
          exact t_28 @ih h (lv_sub hl [1, 0, 2] rfl)
  have hl := lv_entry ([.ref ob]) (n := 3) (Nat.le_of_ble_eq_true rfl)
  rw [lg_entry_eq]
  generalize (lg_sl ([.ref ob]) ++ List.replicate (3 - (lg_sl ([.ref ob])).length) Slot.unset).toArray = ls at hl ⊢
  have hl : lv_has ls 3 [(0, .ref ob)] := hl
  have h := hf
  unfold mX3_hasCaptain at h
  refine lv_iconst (v := 0) hx hb dX3_hasCaptain_0 (by decide) ?_
  refine lv_istore_n (lv' := [(1, .int 0), (0, .ref ob)]) hx hb dX3_hasCaptain_1 rfl hl (by decide) rfl (fun ls hl => ?_)
  refine lv_iconst (v := 0) hx hb dX3_hasCaptain_2 (by decide) ?_
  refine lv_istore_n (lv' := [(2, .int 0), (1, .int 0), (0, .ref ob)]) hx hb dX3_hasCaptain_3 rfl hl (by decide) rfl (fun ls hl => ?_)
  exact t_4  h (lv_sub hl [2, 1, 0] rfl)
def fX3_captainIn_45 (N : Nat)  (K : KT) (y0 : Int32) : Option (Int32 × KT) := some (y0, K)
def fX3_captainIn_29 (N : Nat)  (K : KT) (x1 : Int32) : Option (Int32 × KT) := bdE (mX3_forgets N K ) (fun v1 K2 => (if x1 ≤ 60 then fX3_captainIn_45 N  K2 x1 else fX3_captainIn_45 N  K2 ((-4))))
def fX3_captainIn_6 (N : Nat)  : Nat → KT → Int32 → Option (Int32 × KT)
  | 0, _, _ => none
  | n + 1, K, x1 => bdP (mX3_hasCaptain N K ) (fun v4 => (if v4 = 0 then (if 61 ≤ x1 then fX3_captainIn_29 N  K x1 else bdE (mX3_hour N K ) (fun v7 K8 => (fX3_captainIn_6 N  n) K8 (x1 + 1))) else fX3_captainIn_29 N  K x1))
def mX3_captainIn (N : Nat) (K : KT)  : Option (Int32 × KT) := bdE (mX3_remembers N K ) (fun v9 K10 => fX3_captainIn_6 N  N K10 0)
def rmX3_captainIn : Room := { frames := 8, cells := 0, slots := 0, locals := 201 }
set_option maxHeartbeats 4000000 in
set_option maxRecDepth 100000 in
theorem tX3_captainIn {l : Launch} {dC : Nat → ClassId} {dI : Nat → Nat → Nat} {cI : ClassId} {cC : ClassId} {ob : Nat} {q : Nat → Nat} {N : Nat} {K : KT}  {rr : Int32} {KK : KT} (hf : mX3_captainIn N K  = some (rr, KK)) : Met l yX3_captainIn wsX3_captainIn rmX3_captainIn (cPe (dC, dI) vwCl [(cI, .int), (cC, .char)] (mdL ob q) (mdW cI cC ob q K) [.ref ob]) (cE (dC, dI) vwCl (mdL ob q) rr (mdW cI cC ob q KK)) 0 0 (aL (mdL ob q)) := by
  refine Met.ofW (cc := cX3_captainIn) (maxL := 2) (ret := (some .int)) (by decide) rfl ?_
  intro p e s m args below meth c s₁ B hml hv
  obtain ⟨rfl, hP, hK, hD⟩ := hv
  have hx := B.exec
  have hb := B.bytes
  have hr := B.returns
  have hts := atoms_spec (ws := wsX3_captainIn) B.pre
  have hown : s.vm.findClass RX3 = some m.cls := findClass_of_methodNamed B.named
  have hlocks := B.notSynchronized
  have t_45 : ∀ {K : KT} {y0 : Int32} {H : Heap} {locs : List Loc} {ls : Array Slot} (h : fX3_captainIn_45 N  K y0 = some (rr, KK)) (hl : lv_has ls 2 []) (hP : va_P (dC, dI) vwCl (mdW cI cC ob q K) H) (hD : va_D (aL (mdL ob q)) (mdW cI cC ob q K)) (hS : va_S (aL (mdL ob q)) s.heap H locs), W p l e (headSpec wsX3_captainIn rmX3_captainIn).room s m ([.ref ob] : List Value).toArray below meth c H locs 0 0 (MQ below (cE (dC, dI) vwCl (mdL ob q) rr (mdW cI cC ob q KK)) ([.ref ob] : List Value).toArray s 0 0 (aL (mdL ob q))) (F0 m 45 ls [.int y0]) := by
    intro  K y0 H locs ls h hl hP hD hS
    unfold fX3_captainIn_45 at h
    exact W.iret hx hb hr (fun t ht _ => retE (w := mdW cI cC ob q) h hP hD hS ht) hS.2.2 dX3_captainIn_45
  have t_29 : ∀ {K : KT} {x1 : Int32} {H : Heap} {locs : List Loc} {ls : Array Slot} (h : fX3_captainIn_29 N  K x1 = some (rr, KK)) (hl : lv_has ls 2 [(0, .ref ob), (1, .int x1)]) (hP : va_P (dC, dI) vwCl (mdW cI cC ob q K) H) (hD : va_D (aL (mdL ob q)) (mdW cI cC ob q K)) (hS : va_S (aL (mdL ob q)) s.heap H locs), W p l e (headSpec wsX3_captainIn rmX3_captainIn).room s m ([.ref ob] : List Value).toArray below meth c H locs 0 0 (MQ below (cE (dC, dI) vwCl (mdL ob q) rr (mdW cI cC ob q KK)) ([.ref ob] : List Value).toArray s 0 0 (aL (mdL ob q))) (F0 m 29 ls []) := by
    intro  K x1 H locs ls h hl hP hD hS
    unfold fX3_captainIn_29 at h
    refine lv_aload_n hx hb dX3_captainIn_29 rfl (lv_at hl 0 rfl) ?_
    obtain ⟨v1, K2, hv1, h⟩ := bdE_some h
    refine call_VEv (As := []) (rest := []) ⟨hx, hb, hml, hown, hts⟩ (tX3_forgets (l := l) (dC := dC) (dI := dI) (cI := cI) (cC := cC) (ob := ob) (q := q) hv1) (cwV 0 hts gX3_captainIn_X3_forgets rfl rfl rfl (by decide +kernel) ⟨Nat.le_of_ble_eq_true rfl, Nat.le_of_ble_eq_true rfl⟩) hK hP hD hS (fun _ h9 => h9) 0 rfl rfl (by rfl) hl.1 rfl (Nat.le_of_ble_eq_true rfl) dX3_captainIn_30 ⟨Nat.zero_le _, Nat.zero_le _⟩ (fun H locs hP hD _ hS => ?_)
    refine lv_iload_n hx hb dX3_captainIn_33 rfl (lv_at hl 1 rfl) ?_
    refine lv_bipush (v := 60) hx hb dX3_captainIn_34 (by decide) ?_
    refine lv_icmp_le (tgt := 44) hx hb dX3_captainIn_36 (by decide) (fun c3 => ?_) (fun c3 => ?_)
    · replace h := if_p c3 h
      refine lv_iload_n hx hb dX3_captainIn_44 rfl (lv_at hl 1 rfl) ?_
      exact t_45  h (lv_sub hl [] rfl) hP hD hS
    · replace h := if_n c3 h
      refine lv_bipush (v := (-4)) hx hb dX3_captainIn_39 (by decide) ?_
      refine lv_goto (tgt := 45) hx hb dX3_captainIn_41 (by decide) ?_
      exact t_45  h (lv_sub hl [] rfl) hP hD hS
  have t_6 : ∀ {n : Nat}, ∀ {K : KT} {x1 : Int32} {H : Heap} {locs : List Loc} {ls : Array Slot} (h : fX3_captainIn_6 N  n K x1 = some (rr, KK)) (hl : lv_has ls 2 [(0, .ref ob), (1, .int x1)]) (hP : va_P (dC, dI) vwCl (mdW cI cC ob q K) H) (hD : va_D (aL (mdL ob q)) (mdW cI cC ob q K)) (hS : va_S (aL (mdL ob q)) s.heap H locs), W p l e (headSpec wsX3_captainIn rmX3_captainIn).room s m ([.ref ob] : List Value).toArray below meth c H locs 0 0 (MQ below (cE (dC, dI) vwCl (mdL ob q) rr (mdW cI cC ob q KK)) ([.ref ob] : List Value).toArray s 0 0 (aL (mdL ob q))) (F0 m 6 ls []) := by
    intro  n
    induction n with
    | zero =>
      intro K x1 H locs ls h hl hP hD hS
      unfold fX3_captainIn_6 at h
      cases h
    | succ n ih =>
      intro K x1 H locs ls h hl hP hD hS
      unfold fX3_captainIn_6 at h
      refine lv_aload_n hx hb dX3_captainIn_6 rfl (lv_at hl 0 rfl) ?_
      obtain ⟨v4, hv4, h⟩ := bdP_some h
      refine call_VP (As := []) (rest := []) ⟨hx, hb, hml, hown, hts⟩ (tX3_hasCaptain (l := l) (dC := dC) (dI := dI) (cI := cI) (cC := cC) (ob := ob) (q := q) hv4) (cwV 0 hts gX3_captainIn_X3_hasCaptain rfl rfl rfl (by decide +kernel) ⟨Nat.le_of_ble_eq_true rfl, Nat.le_of_ble_eq_true rfl⟩) hK hP 0 rfl rfl (by rfl) hl.1 rfl (Nat.le_of_ble_eq_true rfl) dX3_captainIn_7 ⟨Nat.zero_le _, Nat.zero_le _⟩ ?_
      refine lv_if_ne (tgt := 29) hx hb dX3_captainIn_10 (by decide) (fun c5 => ?_) (fun c5 => ?_)
      · replace h := if_n c5 h
        exact t_29  h (lv_sub hl [0, 1] rfl) hP hD hS
      · replace h := if_p c5 h
        refine lv_iload_n hx hb dX3_captainIn_13 rfl (lv_at hl 1 rfl) ?_
        refine lv_bipush (v := 61) hx hb dX3_captainIn_14 (by decide) ?_
        refine lv_icmp_ge (tgt := 29) hx hb dX3_captainIn_16 (by decide) (fun c6 => ?_) (fun c6 => ?_)
        · replace h := if_p c6 h
          exact t_29  h (lv_sub hl [0, 1] rfl) hP hD hS
        · replace h := if_n c6 h
          refine lv_aload_n hx hb dX3_captainIn_19 rfl (lv_at hl 0 rfl) ?_
          obtain ⟨v7, K8, hv7, h⟩ := bdE_some h
          refine call_VEv (As := []) (rest := []) ⟨hx, hb, hml, hown, hts⟩ (tX3_hour (l := l) (dC := dC) (dI := dI) (cI := cI) (cC := cC) (ob := ob) (q := q) hv7) (cwV 0 hts gX3_captainIn_X3_hour rfl rfl rfl (by decide +kernel) ⟨Nat.le_of_ble_eq_true rfl, Nat.le_of_ble_eq_true rfl⟩) hK hP hD hS (fun _ h9 => h9) 0 rfl rfl (by rfl) hl.1 rfl (Nat.le_of_ble_eq_true rfl) dX3_captainIn_20 ⟨Nat.zero_le _, Nat.zero_le _⟩ (fun H locs hP hD _ hS => ?_)
          refine lv_iinc (v := x1 + 1) (lv' := [(1, .int (x1 + 1)), (0, .ref ob)]) hx hb dX3_captainIn_23 hl (k := 1) rfl rfl (by decide) rfl (fun ls hl => ?_)
          refine lv_goto (tgt := 6) hx hb dX3_captainIn_26 (by decide) ?_
          exact ih h (lv_sub hl [1, 0] rfl) hP hD hS
  have hS : va_S (aL (mdL ob q)) s.heap s.heap [] := va_S.rf
  have hl := lv_entry ([.ref ob]) (n := 2) (Nat.le_of_ble_eq_true rfl)
  rw [lg_entry_eq]
  generalize (lg_sl ([.ref ob]) ++ List.replicate (2 - (lg_sl ([.ref ob])).length) Slot.unset).toArray = ls at hl ⊢
  have hl : lv_has ls 2 [(0, .ref ob)] := hl
  have h := hf
  unfold mX3_captainIn at h
  refine lv_aload_n hx hb dX3_captainIn_0 rfl (lv_at hl 0 rfl) ?_
  obtain ⟨v9, K10, hv9, h⟩ := bdE_some h
  refine call_VEv (As := []) (rest := []) ⟨hx, hb, hml, hown, hts⟩ (tX3_remembers (l := l) (dC := dC) (dI := dI) (cI := cI) (cC := cC) (ob := ob) (q := q) hv9) (cwV 0 hts gX3_captainIn_X3_remembers rfl rfl rfl (by decide +kernel) ⟨Nat.le_of_ble_eq_true rfl, Nat.le_of_ble_eq_true rfl⟩) hK hP hD hS (fun _ h9 => h9) 0 rfl rfl (by rfl) hl.1 rfl (Nat.le_of_ble_eq_true rfl) dX3_captainIn_1 ⟨Nat.zero_le _, Nat.zero_le _⟩ (fun H locs hP hD _ hS => ?_)
  refine lv_iconst (v := 0) hx hb dX3_captainIn_4 (by decide) ?_
  refine lv_istore_n (lv' := [(1, .int 0), (0, .ref ob)]) hx hb dX3_captainIn_5 rfl hl (by decide) rfl (fun ls hl => ?_)
  exact t_6  h (lv_sub hl [1, 0] rfl) hP hD hS
