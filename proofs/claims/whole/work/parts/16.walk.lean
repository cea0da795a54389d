def fX3_isAsFar_42 (N : Nat) (K : KT)  (y0 : Int32) : Option Int32 := gd (y0 = 0 ∨ y0 = 1) (some y0)
def fX3_isAsFar_37 (N : Nat) (K : KT)   : Option Int32 := fX3_isAsFar_42 N K  1
def fX3_isAsFar_41 (N : Nat) (K : KT)   : Option Int32 := fX3_isAsFar_42 N K  0
def mX3_isAsFar (N : Nat) (K : KT) (p0 : Int32) (p1 : Int32) : Option Int32 := bdP (mX3_lastTerm N K p0) (fun v1 => bdP (mX3_lastTerm N K p1) (fun v2 => (if 0 < (v1 - v2) then fX3_isAsFar_37 N K   else (if (v1 - v2) = 0 then bdP (mX3_of N K p0 6) (fun v5 => bdP (mX3_of N K p1 6) (fun v6 => (if v5 < v6 then fX3_isAsFar_41 N K   else fX3_isAsFar_37 N K  ))) else fX3_isAsFar_41 N K  ))))
def rmX3_isAsFar : Room := { frames := 4, cells := 0, slots := 0, locals := 106 }
set_option maxHeartbeats 4000000 in
set_option maxRecDepth 100000 in
theorem tX3_isAsFar {l : Launch} {dC : Nat → ClassId} {dI : Nat → Nat → Nat} {cI : ClassId} {cC : ClassId} {ob : Nat} {q : Nat → Nat} {N : Nat} {K : KT} {p0 : Int32} {p1 : Int32} {rr : Int32} (hf : mX3_isAsFar N K p0 p1 = some rr) : Met l yX3_isAsFar wsX3_isAsFar rmX3_isAsFar (cP (dC, dI) vwCl [(cI, .int), (cC, .char)] (mdW cI cC ob q K) [.ref ob, .int p0, .int p1]) (cQp rr) 0 0 (fun _ => False) := by
  refine Met.ofW (cc := cX3_isAsFar) (maxL := 4) (ret := (some .boolean)) (by decide) rfl ?_
  intro p e s m args below meth c s₁ B hml hv
  obtain ⟨rfl, hP, hK⟩ := hv
  have hx := B.exec
  have hb := B.bytes
  have hr := B.returns
  have hts := atoms_spec (ws := wsX3_isAsFar) B.pre
  have hown : s.vm.findClass RX3 = some m.cls := findClass_of_methodNamed B.named
  have hlocks := B.notSynchronized
  have t_42 : ∀ {y0 : Int32} {ls : Array Slot} (h : fX3_isAsFar_42 N K  y0 = some rr) (hl : lv_has ls 4 []), W p l e (headSpec wsX3_isAsFar rmX3_isAsFar).room s m ([.ref ob, .int p0, .int p1] : List Value).toArray below meth c s.heap [] 0 0 (MQ below (cQp rr) ([.ref ob, .int p0, .int p1] : List Value).toArray s 0 0 (fun _ => False)) (F0 m 42 ls [.int y0]) := by
    intro  y0 ls h hl
    unfold fX3_isAsFar_42 at h
    obtain ⟨hz, h⟩ := gd_some h
    exact W.zret hx hb hr (zb_ok hz) (fun t ht _ => retP h ht) (fun _ h9 => absurd h9 List.not_mem_nil) dX3_isAsFar_42
  have t_37 : ∀  {ls : Array Slot} (h : fX3_isAsFar_37 N K   = some rr) (hl : lv_has ls 4 []), W p l e (headSpec wsX3_isAsFar rmX3_isAsFar).room s m ([.ref ob, .int p0, .int p1] : List Value).toArray below meth c s.heap [] 0 0 (MQ below (cQp rr) ([.ref ob, .int p0, .int p1] : List Value).toArray s 0 0 (fun _ => False)) (F0 m 37 ls []) := by
    intro   ls h hl
    unfold fX3_isAsFar_37 at h
    refine lv_iconst (v := 1) hx hb dX3_isAsFar_37 (by decide) ?_
    refine lv_goto (tgt := 42) hx hb dX3_isAsFar_38 (by decide) ?_
    exact t_42  h (lv_sub hl [] rfl)
  have t_41 : ∀  {ls : Array Slot} (h : fX3_isAsFar_41 N K   = some rr) (hl : lv_has ls 4 []), W p l e (headSpec wsX3_isAsFar rmX3_isAsFar).room s m ([.ref ob, .int p0, .int p1] : List Value).toArray below meth c s.heap [] 0 0 (MQ below (cQp rr) ([.ref ob, .int p0, .int p1] : List Value).toArray s 0 0 (fun _ => False)) (F0 m 41 ls []) := by
    intro   ls h hl
    unfold fX3_isAsFar_41 at h
    refine lv_iconst (v := 0) hx hb dX3_isAsFar_41 (by decide) ?_
    exact t_42  h (lv_sub hl [] rfl)
  have hl := lv_entry ([.ref ob, .int p0, .int p1]) (n := 4) (Nat.le_of_ble_eq_true rfl)
  rw [lg_entry_eq]
  generalize (lg_sl ([.ref ob, .int p0, .int p1]) ++ List.replicate (4 - (lg_sl ([.ref ob, .int p0, .int p1])).length) Slot.unset).toArray = ls at hl ⊢
  have hl : lv_has ls 4 [(0, .ref ob), (1, .int p0), (2, .int p1)] := hl
  have h := hf
  unfold mX3_isAsFar at h
  refine lv_aload_n hx hb dX3_isAsFar_0 rfl (lv_at hl 0 rfl) ?_
  refine lv_iload_n hx hb dX3_isAsFar_1 rfl (lv_at hl 1 rfl) ?_
  obtain ⟨v1, hv1, h⟩ := bdP_some h
  refine call_VP (As := [.int p0]) (rest := []) ⟨hx, hb, hml, hown, hts⟩ (tX3_lastTerm (l := l) (dC := dC) (dI := dI) (cI := cI) (cC := cC) (ob := ob) (q := q) hv1) (cwV 1 hts gX3_isAsFar_X3_lastTerm rfl rfl rfl (by decide +kernel) ⟨Nat.le_of_ble_eq_true rfl, Nat.le_of_ble_eq_true rfl⟩) hK hP 0 rfl rfl (by rfl) hl.1 rfl (Nat.le_of_ble_eq_true rfl) dX3_isAsFar_2 ⟨Nat.zero_le _, Nat.zero_le _⟩ ?_
  refine lv_aload_n hx hb dX3_isAsFar_5 rfl (lv_at hl 0 rfl) ?_
  refine lv_iload_n hx hb dX3_isAsFar_6 rfl (lv_at hl 2 rfl) ?_
  obtain ⟨v2, hv2, h⟩ := bdP_some h
  refine call_VP (As := [.int p1]) (rest := [.int v1]) ⟨hx, hb, hml, hown, hts⟩ (tX3_lastTerm (l := l) (dC := dC) (dI := dI) (cI := cI) (cC := cC) (ob := ob) (q := q) hv2) (cwV 1 hts gX3_isAsFar_X3_lastTerm rfl rfl rfl (by decide +kernel) ⟨Nat.le_of_ble_eq_true rfl, Nat.le_of_ble_eq_true rfl⟩) hK hP 0 rfl rfl (by rfl) hl.1 rfl (Nat.le_of_ble_eq_true rfl) dX3_isAsFar_7 ⟨Nat.zero_le _, Nat.zero_le _⟩ ?_
  refine lv_isub hx hb dX3_isAsFar_10 ?_
  refine lv_istore_n (lv' := [(3, .int (v1 - v2)), (0, .ref ob), (1, .int p0), (2, .int p1)]) hx hb dX3_isAsFar_11 rfl hl (by decide) rfl (fun ls hl => ?_)
  refine lv_iload_n hx hb dX3_isAsFar_12 rfl (lv_at hl 0 rfl) ?_
  refine lv_if_gt (tgt := 37) hx hb dX3_isAsFar_13 (by decide) (fun c3 => ?_) (fun c3 => ?_)
  · replace h := if_p c3 h
    exact t_37  h (lv_sub hl [] rfl)
  · replace h := if_n c3 h
    refine lv_iload_n hx hb dX3_isAsFar_16 rfl (lv_at hl 0 rfl) ?_
    refine lv_if_ne (tgt := 41) hx hb dX3_isAsFar_17 (by decide) (fun c4 => ?_) (fun c4 => ?_)
    · replace h := if_n c4 h
      exact t_41  h (lv_sub hl [] rfl)
    · replace h := if_p c4 h
      refine lv_aload_n hx hb dX3_isAsFar_20 rfl (lv_at hl 1 rfl) ?_
      refine lv_iload_n hx hb dX3_isAsFar_21 rfl (lv_at hl 2 rfl) ?_
      refine lv_bipush (v := 6) hx hb dX3_isAsFar_22 (by decide) ?_
      obtain ⟨v5, hv5, h⟩ := bdP_some h
      refine call_VP (As := [.int p0, .int 6]) (rest := []) ⟨hx, hb, hml, hown, hts⟩ (tX3_of (l := l) (dC := dC) (dI := dI) (cI := cI) (cC := cC) (ob := ob) (q := q) hv5) (cwV 2 hts gX3_isAsFar_X3_of rfl rfl rfl (by decide +kernel) ⟨Nat.le_of_ble_eq_true rfl, Nat.le_of_ble_eq_true rfl⟩) hK hP 0 rfl rfl (by rfl) hl.1 rfl (Nat.le_of_ble_eq_true rfl) dX3_isAsFar_24 ⟨Nat.zero_le _, Nat.zero_le _⟩ ?_
      refine lv_aload_n hx hb dX3_isAsFar_27 rfl (lv_at hl 1 rfl) ?_
      refine lv_iload_n hx hb dX3_isAsFar_28 rfl (lv_at hl 3 rfl) ?_
      refine lv_bipush (v := 6) hx hb dX3_isAsFar_29 (by decide) ?_
      obtain ⟨v6, hv6, h⟩ := bdP_some h
      refine call_VP (As := [.int p1, .int 6]) (rest := [.int v5]) ⟨hx, hb, hml, hown, hts⟩ (tX3_of (l := l) (dC := dC) (dI := dI) (cI := cI) (cC := cC) (ob := ob) (q := q) hv6) (cwV 2 hts gX3_isAsFar_X3_of rfl rfl rfl (by decide +kernel) ⟨Nat.le_of_ble_eq_true rfl, Nat.le_of_ble_eq_true rfl⟩) hK hP 0 rfl rfl (by rfl) hl.1 rfl (Nat.le_of_ble_eq_true rfl) dX3_isAsFar_31 ⟨Nat.zero_le _, Nat.zero_le _⟩ ?_
      refine lv_icmp_lt (tgt := 41) hx hb dX3_isAsFar_34 (by decide) (fun c7 => ?_) (fun c7 => ?_)
      · replace h := if_p c7 h
        exact t_41  h (lv_sub hl [] rfl)
      · replace h := if_n c7 h
        exact t_37  h (lv_sub hl [] rfl)
def fX3_isLike_39 (N : Nat) (K : KT)  (y0 : Int32) : Option Int32 := gd (y0 = 0 ∨ y0 = 1) (some y0)
def fX3_isLike_38 (N : Nat) (K : KT)   : Option Int32 := fX3_isLike_39 N K  0
def mX3_isLike (N : Nat) (K : KT) (p0 : Int32) (p1 : Int32) (p2 : Int32) : Option Int32 := bdP (mX3_page N K p0 p2 0) (fun v1 => bdP (mX3_page N K p1 p2 0) (fun v2 => (if v1 = v2 then bdP (mX3_page N K p0 p2 1) (fun v4 => bdP (mX3_page N K p1 p2 1) (fun v5 => (if v4 = v5 then fX3_isLike_39 N K  1 else fX3_isLike_38 N K  ))) else fX3_isLike_38 N K  )))
def rmX3_isLike : Room := { frames := 3, cells := 0, slots := 0, locals := 85 }
set_option maxHeartbeats 4000000 in
set_option maxRecDepth 100000 in
theorem tX3_isLike {l : Launch} {dC : Nat → ClassId} {dI : Nat → Nat → Nat} {cI : ClassId} {cC : ClassId} {ob : Nat} {q : Nat → Nat} {N : Nat} {K : KT} {p0 : Int32} {p1 : Int32} {p2 : Int32} {rr : Int32} (hf : mX3_isLike N K p0 p1 p2 = some rr) : Met l yX3_isLike wsX3_isLike rmX3_isLike (cP (dC, dI) vwCl [(cI, .int), (cC, .char)] (mdW cI cC ob q K) [.ref ob, .int p0, .int p1, .int p2]) (cQp rr) 0 0 (fun _ => False) := by
  refine Met.ofW (cc := cX3_isLike) (maxL := 4) (ret := (some .boolean)) (by decide) rfl ?_
  intro p e s m args below meth c s₁ B hml hv
  obtain ⟨rfl, hP, hK⟩ := hv
  have hx := B.exec
  have hb := B.bytes
  have hr := B.returns
  have hts := atoms_spec (ws := wsX3_isLike) B.pre
  have hown : s.vm.findClass RX3 = some m.cls := findClass_of_methodNamed B.named
  have hlocks := B.notSynchronized
  have t_39 : ∀ {y0 : Int32} {ls : Array Slot} (h : fX3_isLike_39 N K  y0 = some rr) (hl : lv_has ls 4 []), W p l e (headSpec wsX3_isLike rmX3_isLike).room s m ([.ref ob, .int p0, .int p1, .int p2] : List Value).toArray below meth c s.heap [] 0 0 (MQ below (cQp rr) ([.ref ob, .int p0, .int p1, .int p2] : List Value).toArray s 0 0 (fun _ => False)) (F0 m 39 ls [.int y0]) := by
    intro  y0 ls h hl
    unfold fX3_isLike_39 at h
    obtain ⟨hz, h⟩ := gd_some h
    exact W.zret hx hb hr (zb_ok hz) (fun t ht _ => retP h ht) (fun _ h9 => absurd h9 List.not_mem_nil) dX3_isLike_39
  have t_38 : ∀  {ls : Array Slot} (h : fX3_isLike_38 N K   = some rr) (hl : lv_has ls 4 []), W p l e (headSpec wsX3_isLike rmX3_isLike).room s m ([.ref ob, .int p0, .int p1, .int p2] : List Value).toArray below meth c s.heap [] 0 0 (MQ below (cQp rr) ([.ref ob, .int p0, .int p1, .int p2] : List Value).toArray s 0 0 (fun _ => False)) (F0 m 38 ls []) := by
    intro   ls h hl
    unfold fX3_isLike_38 at h
    refine lv_iconst (v := 0) hx hb dX3_isLike_38 (by decide) ?_
    exact t_39  h (lv_sub hl [] rfl)
  have hl := lv_entry ([.ref ob, .int p0, .int p1, .int p2]) (n := 4) (Nat.le_of_ble_eq_true rfl)
  rw [lg_entry_eq]
  generalize (lg_sl ([.ref ob, .int p0, .int p1, .int p2]) ++ List.replicate (4 - (lg_sl ([.ref ob, .int p0, .int p1, .int p2])).length) Slot.unset).toArray = ls at hl ⊢
  have hl : lv_has ls 4 [(0, .ref ob), (1, .int p0), (2, .int p1), (3, .int p2)] := hl
  have h := hf
  unfold mX3_isLike at h
  refine lv_aload_n hx hb dX3_isLike_0 rfl (lv_at hl 0 rfl) ?_
  refine lv_iload_n hx hb dX3_isLike_1 rfl (lv_at hl 1 rfl) ?_
  refine lv_iload_n hx hb dX3_isLike_2 rfl (lv_at hl 3 rfl) ?_
  refine lv_iconst (v := 0) hx hb dX3_isLike_3 (by decide) ?_
  obtain ⟨v1, hv1, h⟩ := bdP_some h
  refine call_VP (As := [.int p0, .int p2, .int 0]) (rest := []) ⟨hx, hb, hml, hown, hts⟩ (tX3_page (l := l) (dC := dC) (dI := dI) (cI := cI) (cC := cC) (ob := ob) (q := q) hv1) (cwV 3 hts gX3_isLike_X3_page rfl rfl rfl (by decide +kernel) ⟨Nat.le_of_ble_eq_true rfl, Nat.le_of_ble_eq_true rfl⟩) hK hP 0 rfl rfl (by rfl) hl.1 rfl (Nat.le_of_ble_eq_true rfl) dX3_isLike_4 ⟨Nat.zero_le _, Nat.zero_le _⟩ ?_
  refine lv_aload_n hx hb dX3_isLike_7 rfl (lv_at hl 0 rfl) ?_
  refine lv_iload_n hx hb dX3_isLike_8 rfl (lv_at hl 2 rfl) ?_
  refine lv_iload_n hx hb dX3_isLike_9 rfl (lv_at hl 3 rfl) ?_
  refine lv_iconst (v := 0) hx hb dX3_isLike_10 (by decide) ?_
  obtain ⟨v2, hv2, h⟩ := bdP_some h
  refine call_VP (As := [.int p1, .int p2, .int 0]) (rest := [.int v1]) ⟨hx, hb, hml, hown, hts⟩ (tX3_page (l := l) (dC := dC) (dI := dI) (cI := cI) (cC := cC) (ob := ob) (q := q) hv2) (cwV 3 hts gX3_isLike_X3_page rfl rfl rfl (by decide +kernel) ⟨Nat.le_of_ble_eq_true rfl, Nat.le_of_ble_eq_true rfl⟩) hK hP 0 rfl rfl (by rfl) hl.1 rfl (Nat.le_of_ble_eq_true rfl) dX3_isLike_11 ⟨Nat.zero_le _, Nat.zero_le _⟩ ?_
  refine lv_icmp_ne (tgt := 38) hx hb dX3_isLike_14 (by decide) (fun c3 => ?_) (fun c3 => ?_)
  · replace h := if_n c3 h
    exact t_38  h (lv_sub hl [] rfl)
  · replace h := if_p c3 h
    refine lv_aload_n hx hb dX3_isLike_17 rfl (lv_at hl 0 rfl) ?_
    refine lv_iload_n hx hb dX3_isLike_18 rfl (lv_at hl 1 rfl) ?_
    refine lv_iload_n hx hb dX3_isLike_19 rfl (lv_at hl 3 rfl) ?_
    refine lv_iconst (v := 1) hx hb dX3_isLike_20 (by decide) ?_
    obtain ⟨v4, hv4, h⟩ := bdP_some h
    refine call_VP (As := [.int p0, .int p2, .int 1]) (rest := []) ⟨hx, hb, hml, hown, hts⟩ (tX3_page (l := l) (dC := dC) (dI := dI) (cI := cI) (cC := cC) (ob := ob) (q := q) hv4) (cwV 3 hts gX3_isLike_X3_page rfl rfl rfl (by decide +kernel) ⟨Nat.le_of_ble_eq_true rfl, Nat.le_of_ble_eq_true rfl⟩) hK hP 0 rfl rfl (by rfl) hl.1 rfl (Nat.le_of_ble_eq_true rfl) dX3_isLike_21 ⟨Nat.zero_le _, Nat.zero_le _⟩ ?_
    refine lv_aload_n hx hb dX3_isLike_24 rfl (lv_at hl 0 rfl) ?_
    refine lv_iload_n hx hb dX3_isLike_25 rfl (lv_at hl 2 rfl) ?_
    refine lv_iload_n hx hb dX3_isLike_26 rfl (lv_at hl 3 rfl) ?_
    refine lv_iconst (v := 1) hx hb dX3_isLike_27 (by decide) ?_
    obtain ⟨v5, hv5, h⟩ := bdP_some h
    refine call_VP (As := [.int p1, .int p2, .int 1]) (rest := [.int v4]) ⟨hx, hb, hml, hown, hts⟩ (tX3_page (l := l) (dC := dC) (dI := dI) (cI := cI) (cC := cC) (ob := ob) (q := q) hv5) (cwV 3 hts gX3_isLike_X3_page rfl rfl rfl (by decide +kernel) ⟨Nat.le_of_ble_eq_true rfl, Nat.le_of_ble_eq_true rfl⟩) hK hP 0 rfl rfl (by rfl) hl.1 rfl (Nat.le_of_ble_eq_true rfl) dX3_isLike_28 ⟨Nat.zero_le _, Nat.zero_le _⟩ ?_
    refine lv_icmp_ne (tgt := 38) hx hb dX3_isLike_31 (by decide) (fun c6 => ?_) (fun c6 => ?_)
    · replace h := if_n c6 h
      exact t_38  h (lv_sub hl [] rfl)
    · replace h := if_p c6 h
      refine lv_iconst (v := 1) hx hb dX3_isLike_34 (by decide) ?_
      refine lv_goto (tgt := 39) hx hb dX3_isLike_35 (by decide) ?_
      exact t_39  h (lv_sub hl [] rfl)
def fX3_alike_40 (N : Nat) (K : KT)  (x3 : Int32) : Option Int32 := some x3
def fX3_alike_2 (N : Nat) (K : KT)  : Nat → Int32 → Int32 → Int32 → Option Int32
  | 0, _, _, _ => none
  | n + 1, x1, x2, x3 => bdP (mX3_of N K x1 6) (fun v1 => (if v1 ≤ x3 then fX3_alike_40 N K  x3 else bdP (mX3_of N K x2 6) (fun v3 => (if v3 ≤ x3 then fX3_alike_40 N K  x3 else bdP (mX3_isLike N K x1 x2 x3) (fun v5 => (if v5 = 0 then fX3_alike_40 N K  x3 else (fX3_alike_2 N K  n) x1 x2 (x3 + 1)))))))
def mX3_alike (N : Nat) (K : KT) (p0 : Int32) (p1 : Int32) : Option Int32 := fX3_alike_2 N K  N p0 p1 0
def rmX3_alike : Room := { frames := 4, cells := 0, slots := 0, locals := 108 }
set_option maxHeartbeats 4000000 in
set_option maxRecDepth 100000 in
theorem tX3_alike {l : Launch} {dC : Nat → ClassId} {dI : Nat → Nat → Nat} {cI : ClassId} {cC : ClassId} {ob : Nat} {q : Nat → Nat} {N : Nat} {K : KT} {p0 : Int32} {p1 : Int32} {rr : Int32} (hf : mX3_alike N K p0 p1 = some rr) : Met l yX3_alike wsX3_alike rmX3_alike (cP (dC, dI) vwCl [(cI, .int), (cC, .char)] (mdW cI cC ob q K) [.ref ob, .int p0, .int p1]) (cQp rr) 0 0 (fun _ => False) := by
  refine Met.ofW (cc := cX3_alike) (maxL := 4) (ret := (some .int)) (by decide) rfl ?_
  intro p e s m args below meth c s₁ B hml hv
  obtain ⟨rfl, hP, hK⟩ := hv
  have hx := B.exec
  have hb := B.bytes
  have hr := B.returns
  have hts := atoms_spec (ws := wsX3_alike) B.pre
  have hown : s.vm.findClass RX3 = some m.cls := findClass_of_methodNamed B.named
  have hlocks := B.notSynchronized
  have t_40 : ∀ {x3 : Int32} {ls : Array Slot} (h : fX3_alike_40 N K  x3 = some rr) (hl : lv_has ls 4 [(3, .int x3)]), W p l e (headSpec wsX3_alike rmX3_alike).room s m ([.ref ob, .int p0, .int p1] : List Value).toArray below meth c s.heap [] 0 0 (MQ below (cQp rr) ([.ref ob, .int p0, .int p1] : List Value).toArray s 0 0 (fun _ => False)) (F0 m 40 ls []) := by
    intro  x3 ls h hl
    unfold fX3_alike_40 at h
    refine lv_iload_n hx hb dX3_alike_40 rfl (lv_at hl 0 rfl) ?_
    exact W.iret hx hb hr (fun t ht _ => retP h ht) (fun _ h9 => absurd h9 List.not_mem_nil) dX3_alike_41
  have t_2 : ∀ {n : Nat}, ∀ {x1 : Int32} {x2 : Int32} {x3 : Int32} {ls : Array Slot} (h : fX3_alike_2 N K  n x1 x2 x3 = some rr) (hl : lv_has ls 4 [(0, .ref ob), (1, .int x1), (2, .int x2), (3, .int x3)]), W p l e (headSpec wsX3_alike rmX3_alike).room s m ([.ref ob, .int p0, .int p1] : List Value).toArray below meth c s.heap [] 0 0 (MQ below (cQp rr) ([.ref ob, .int p0, .int p1] : List Value).toArray s 0 0 (fun _ => False)) (F0 m 2 ls []) := by
    intro  n
    induction n with
    | zero =>
      intro x1 x2 x3 ls h hl
      unfold fX3_alike_2 at h
      cases h
    | succ n ih =>
      intro x1 x2 x3 ls h hl
      unfold fX3_alike_2 at h
      refine lv_iload_n hx hb dX3_alike_2 rfl (lv_at hl 3 rfl) ?_
      refine lv_aload_n hx hb dX3_alike_3 rfl (lv_at hl 0 rfl) ?_
      refine lv_iload_n hx hb dX3_alike_4 rfl (lv_at hl 1 rfl) ?_
      refine lv_bipush (v := 6) hx hb dX3_alike_5 (by decide) ?_
      obtain ⟨v1, hv1, h⟩ := bdP_some h
      refine call_VP (As := [.int x1, .int 6]) (rest := [.int x3]) ⟨hx, hb, hml, hown, hts⟩ (tX3_of (l := l) (dC := dC) (dI := dI) (cI := cI) (cC := cC) (ob := ob) (q := q) hv1) (cwV 2 hts gX3_alike_X3_of rfl rfl rfl (by decide +kernel) ⟨Nat.le_of_ble_eq_true rfl, Nat.le_of_ble_eq_true rfl⟩) hK hP 0 rfl rfl (by rfl) hl.1 rfl (Nat.le_of_ble_eq_true rfl) dX3_alike_7 ⟨Nat.zero_le _, Nat.zero_le _⟩ ?_
      refine lv_icmp_ge (tgt := 40) hx hb dX3_alike_10 (by decide) (fun c2 => ?_) (fun c2 => ?_)
      · replace h := if_p c2 h
        exact t_40  h (lv_sub hl [3] rfl)
      · replace h := if_n c2 h
        refine lv_iload_n hx hb dX3_alike_13 rfl (lv_at hl 3 rfl) ?_
        refine lv_aload_n hx hb dX3_alike_14 rfl (lv_at hl 0 rfl) ?_
        refine lv_iload_n hx hb dX3_alike_15 rfl (lv_at hl 2 rfl) ?_
        refine lv_bipush (v := 6) hx hb dX3_alike_16 (by decide) ?_
        obtain ⟨v3, hv3, h⟩ := bdP_some h
        refine call_VP (As := [.int x2, .int 6]) (rest := [.int x3]) ⟨hx, hb, hml, hown, hts⟩ (tX3_of (l := l) (dC := dC) (dI := dI) (cI := cI) (cC := cC) (ob := ob) (q := q) hv3) (cwV 2 hts gX3_alike_X3_of rfl rfl rfl (by decide +kernel) ⟨Nat.le_of_ble_eq_true rfl, Nat.le_of_ble_eq_true rfl⟩) hK hP 0 rfl rfl (by rfl) hl.1 rfl (Nat.le_of_ble_eq_true rfl) dX3_alike_18 ⟨Nat.zero_le _, Nat.zero_le _⟩ ?_
        refine lv_icmp_ge (tgt := 40) hx hb dX3_alike_21 (by decide) (fun c4 => ?_) (fun c4 => ?_)
        · replace h := if_p c4 h
          exact t_40  h (lv_sub hl [3] rfl)
        · replace h := if_n c4 h
          refine lv_aload_n hx hb dX3_alike_24 rfl (lv_at hl 0 rfl) ?_
          refine lv_iload_n hx hb dX3_alike_25 rfl (lv_at hl 1 rfl) ?_
          refine lv_iload_n hx hb dX3_alike_26 rfl (lv_at hl 2 rfl) ?_
          refine lv_iload_n hx hb dX3_alike_27 rfl (lv_at hl 3 rfl) ?_
          obtain ⟨v5, hv5, h⟩ := bdP_some h
          refine call_VP (As := [.int x1, .int x2, .int x3]) (rest := []) ⟨hx, hb, hml, hown, hts⟩ (tX3_isLike (l := l) (dC := dC) (dI := dI) (cI := cI) (cC := cC) (ob := ob) (q := q) hv5) (cwV 3 hts gX3_alike_X3_isLike rfl rfl rfl (by decide +kernel) ⟨Nat.le_of_ble_eq_true rfl, Nat.le_of_ble_eq_true rfl⟩) hK hP 0 rfl rfl (by rfl) hl.1 rfl (Nat.le_of_ble_eq_true rfl) dX3_alike_28 ⟨Nat.zero_le _, Nat.zero_le _⟩ ?_
          refine lv_if_eq (tgt := 40) hx hb dX3_alike_31 (by decide) (fun c6 => ?_) (fun c6 => ?_)
          · replace h := if_p c6 h
            exact t_40  h (lv_sub hl [3] rfl)
          · replace h := if_n c6 h
            refine lv_iinc (v := x3 + 1) (lv' := [(3, .int (x3 + 1)), (0, .ref ob), (1, .int x1), (2, .int x2)]) hx hb dX3_alike_34 hl (k := 3) rfl rfl (by decide) rfl (fun ls hl => ?_)
            refine lv_goto (tgt := 2) hx hb dX3_alike_37 (by decide) ?_
            exact ih h (lv_sub hl [1, 2, 3, 0] rfl)
  have hl := lv_entry ([.ref ob, .int p0, .int p1]) (n := 4) (Nat.le_of_ble_eq_true rfl)
  rw [lg_entry_eq]
  generalize (lg_sl ([.ref ob, .int p0, .int p1]) ++ List.replicate (4 - (lg_sl ([.ref ob, .int p0, .int p1])).length) Slot.unset).toArray = ls at hl ⊢
  have hl : lv_has ls 4 [(0, .ref ob), (1, .int p0), (2, .int p1)] := hl
  have h := hf
  unfold mX3_alike at h
  refine lv_iconst (v := 0) hx hb dX3_alike_0 (by decide) ?_
  refine lv_istore_n (lv' := [(3, .int 0), (0, .ref ob), (1, .int p0), (2, .int p1)]) hx hb dX3_alike_1 rfl hl (by decide) rfl (fun ls hl => ?_)
  exact t_2  h (lv_sub hl [1, 2, 3, 0] rfl)
def mX3_tellsNoVote (N : Nat) (K : KT) (p0 : Int32) (p1 : Int32) : Option (Int32 × KT) := bdE (mX3_sets N K p0 0 p1) (fun v1 K2 => bdE (mX3_sets N K2 p0 1 0) (fun v3 K4 => some (0, K4)))
def rmX3_tellsNoVote : Room := { frames := 2, cells := 0, slots := 0, locals := 63 }
set_option maxHeartbeats 4000000 in
set_option maxRecDepth 100000 in
theorem tX3_tellsNoVote {l : Launch} {dC : Nat → ClassId} {dI : Nat → Nat → Nat} {cI : ClassId} {cC : ClassId} {ob : Nat} {q : Nat → Nat} {N : Nat} {K : KT} {p0 : Int32} {p1 : Int32} {rr : Int32} {KK : KT} (hf : mX3_tellsNoVote N K p0 p1 = some (rr, KK)) : Met l yX3_tellsNoVote wsX3_tellsNoVote rmX3_tellsNoVote (cPe (dC, dI) vwCl [(cI, .int), (cC, .char)] (mdL ob q) (mdW cI cC ob q K) [.ref ob, .int p0, .int p1]) (cEv (dC, dI) vwCl (mdL ob q) (mdW cI cC ob q KK)) 0 0 (aL (mdL ob q)) := by
  refine Met.ofW (cc := cX3_tellsNoVote) (maxL := 3) (ret := none) (by decide) rfl ?_
  intro p e s m args below meth c s₁ B hml hv
  obtain ⟨rfl, hP, hK, hD⟩ := hv
  have hx := B.exec
  have hb := B.bytes
  have hr := B.returns
  have hts := atoms_spec (ws := wsX3_tellsNoVote) B.pre
  have hown : s.vm.findClass RX3 = some m.cls := findClass_of_methodNamed B.named
  have hlocks := B.notSynchronized
  have hS : va_S (aL (mdL ob q)) s.heap s.heap [] := va_S.rf
  have hl := lv_entry ([.ref ob, .int p0, .int p1]) (n := 3) (Nat.le_of_ble_eq_true rfl)
  rw [lg_entry_eq]
  generalize (lg_sl ([.ref ob, .int p0, .int p1]) ++ List.replicate (3 - (lg_sl ([.ref ob, .int p0, .int p1])).length) Slot.unset).toArray = ls at hl ⊢
  have hl : lv_has ls 3 [(0, .ref ob), (1, .int p0), (2, .int p1)] := hl
  have h := hf
  unfold mX3_tellsNoVote at h
  refine lv_aload_n hx hb dX3_tellsNoVote_0 rfl (lv_at hl 0 rfl) ?_
  refine lv_iload_n hx hb dX3_tellsNoVote_1 rfl (lv_at hl 1 rfl) ?_
  refine lv_iconst (v := 0) hx hb dX3_tellsNoVote_2 (by decide) ?_
  refine lv_iload_n hx hb dX3_tellsNoVote_3 rfl (lv_at hl 2 rfl) ?_
  obtain ⟨v1, K2, hv1, h⟩ := bdE_some h
  refine call_VEv (As := [.int p0, .int 0, .int p1]) (rest := []) ⟨hx, hb, hml, hown, hts⟩ (tX3_sets (l := l) (dC := dC) (dI := dI) (cI := cI) (cC := cC) (ob := ob) (q := q) hv1) (cwV 3 hts gX3_tellsNoVote_X3_sets rfl rfl rfl (by decide +kernel) ⟨Nat.le_of_ble_eq_true rfl, Nat.le_of_ble_eq_true rfl⟩) hK hP hD hS (fun _ h9 => h9) 0 rfl rfl (by rfl) hl.1 rfl (Nat.le_of_ble_eq_true rfl) dX3_tellsNoVote_4 ⟨Nat.zero_le _, Nat.zero_le _⟩ (fun H locs hP hD _ hS => ?_)
  refine lv_aload_n hx hb dX3_tellsNoVote_7 rfl (lv_at hl 0 rfl) ?_
  refine lv_iload_n hx hb dX3_tellsNoVote_8 rfl (lv_at hl 1 rfl) ?_
  refine lv_iconst (v := 1) hx hb dX3_tellsNoVote_9 (by decide) ?_
  refine lv_iconst (v := 0) hx hb dX3_tellsNoVote_10 (by decide) ?_
  obtain ⟨v3, K4, hv3, h⟩ := bdE_some h
  refine call_VEv (As := [.int p0, .int 1, .int 0]) (rest := []) ⟨hx, hb, hml, hown, hts⟩ (tX3_sets (l := l) (dC := dC) (dI := dI) (cI := cI) (cC := cC) (ob := ob) (q := q) hv3) (cwV 3 hts gX3_tellsNoVote_X3_sets rfl rfl rfl (by decide +kernel) ⟨Nat.le_of_ble_eq_true rfl, Nat.le_of_ble_eq_true rfl⟩) hK hP hD hS (fun _ h9 => h9) 0 rfl rfl (by rfl) hl.1 rfl (Nat.le_of_ble_eq_true rfl) dX3_tellsNoVote_11 ⟨Nat.zero_le _, Nat.zero_le _⟩ (fun H locs hP hD _ hS => ?_)
  exact W.vret hx hb hr (fun t ht _ => retEv (w := mdW cI cC ob q) h hP hD hS ht) hS.2.2 dX3_tellsNoVote_14
def fX3_asks_76 (N : Nat)  (K : KT) (x1 : Int32) (x3 : Int32) : Option (Int32 × KT) := bdP (mX3_of N K x3 0) (fun v1 => bdE (mX3_tellsNoVote N K x1 v1) (fun v2 K3 => some (0, K3)))
def fX3_asks_162 (N : Nat) (k44 : KT → Int32 → Int32 → Int32 → Option (Int32 × KT)) (K : KT) (x1 : Int32) (x2 : Int32) (x3 : Int32) : Option (Int32 × KT) := k44 K x1 x2 (x3 + 1)
def fX3_asks_122 (N : Nat) (k44 : KT → Int32 → Int32 → Int32 → Option (Int32 × KT)) (K : KT) (x1 : Int32) (x2 : Int32) (x3 : Int32) : Option (Int32 × KT) := bdP (mX3_of N K x3 1) (fun v4 => (if 0 < v4 then fX3_asks_162 N k44 K x1 x2 x3 else bdP (mX3_isAsFar N K x1 x3) (fun v6 => (if v6 = 0 then fX3_asks_162 N k44 K x1 x2 x3 else bdE (mX3_sets N K x3 1 (x1 + 1)) (fun v8 K9 => bdE (mX3_sets N K9 x3 4 0) (fun v10 K11 => fX3_asks_162 N k44 K11 x1 (x2 + 1) x3))))))
def fX3_asks_190 (N : Nat)  (K : KT) (x2 : Int32) : Option (Int32 × KT) := some (x2, K)
def fX3_asks_168 (N : Nat)  (K : KT) (x1 : Int32) (x2 : Int32) : Option (Int32 × KT) := (if x2 < 3 then fX3_asks_190 N  K x2 else bdE (mX3_sets N K x1 2 1) (fun v13 K14 => rdA (K14 0) 186 1 (fun v15 => wrA K14 0 186 1 (v15 + 1) (fun K17 => fX3_asks_190 N  K17 x2))))
def fX3_asks_44 (N : Nat)  : Nat → KT → Int32 → Int32 → Int32 → Option (Int32 × KT)
  | 0, _, _, _, _ => none
  | n + 1, K, x1, x2, x3 => (if 5 ≤ x3 then fX3_asks_168 N  K x1 x2 else bdP (mX3_isReached N K x1 x3) (fun v20 => (if v20 = 0 then fX3_asks_162 N (fX3_asks_44 N  n) K x1 x2 x3 else bdP (mX3_of N K x3 0) (fun v22 => bdP (mX3_of N K x1 0) (fun v23 => (if v22 ≤ v23 then bdP (mX3_of N K x3 0) (fun v25 => bdP (mX3_of N K x1 0) (fun v26 => (if v26 ≤ v25 then fX3_asks_122 N (fX3_asks_44 N  n) K x1 x2 x3 else bdP (mX3_of N K x1 0) (fun v28 => bdE (mX3_tellsNoVote N K x3 v28) (fun v29 K30 => bdE (mX3_sets N K30 x3 2 0) (fun v31 K32 => fX3_asks_122 N (fX3_asks_44 N  n) K32 x1 x2 x3)))))) else fX3_asks_76 N  K x1 x3))))))
def mX3_asks (N : Nat) (K : KT) (p0 : Int32) : Option (Int32 × KT) := bdP (mX3_of N K p0 0) (fun v33 => bdE (mX3_sets N K p0 0 (v33 + 1)) (fun v34 K35 => bdE (mX3_sets N K35 p0 1 (p0 + 1)) (fun v36 K37 => bdE (mX3_sets N K37 p0 4 0) (fun v38 K39 => rdA (K39 0) 186 0 (fun v40 => wrA K39 0 186 0 (v40 + 1) (fun K42 => fX3_asks_44 N  N K42 p0 1 0))))))
def rmX3_asks : Room := { frames := 5, cells := 0, slots := 0, locals := 129 }
set_option maxHeartbeats 4000000 in
set_option maxRecDepth 100000 in
theorem tX3_asks {l : Launch} {dC : Nat → ClassId} {dI : Nat → Nat → Nat} {cI : ClassId} {cC : ClassId} {ob : Nat} {q : Nat → Nat} {N : Nat} {K : KT} {p0 : Int32} {rr : Int32} {KK : KT} (hf : mX3_asks N K p0 = some (rr, KK)) : Met l yX3_asks wsX3_asks rmX3_asks (cPe (dC, dI) vwCl [(cI, .int), (cC, .char)] (mdL ob q) (mdW cI cC ob q K) [.ref ob, .int p0]) (cE (dC, dI) vwCl (mdL ob q) rr (mdW cI cC ob q KK)) 0 0 (aL (mdL ob q)) := by
  refine Met.ofW (cc := cX3_asks) (maxL := 4) (ret := (some .int)) (by decide) rfl ?_
  intro p e s m args below meth c s₁ B hml hv
  obtain ⟨rfl, hP, hK, hD⟩ := hv
  have hx := B.exec
  have hb := B.bytes
  have hr := B.returns
  have hts := atoms_spec (ws := wsX3_asks) B.pre
  have hown : s.vm.findClass RX3 = some m.cls := findClass_of_methodNamed B.named
  have hlocks := B.notSynchronized
  have hwX3 : ∀ w ∈ u_ws RX3 TX3 17, w ∈ wsX3_asks := by decide +kernel
  have hf_9 := hts (.fieldLink RX3 9 "CaravanLogsModel" "now" "[I") (by decide +kernel)
  have t_76 : ∀ {K : KT} {x1 : Int32} {x3 : Int32} {H : Heap} {locs : List Loc} {ls : Array Slot} (h : fX3_asks_76 N  K x1 x3 = some (rr, KK)) (hl : lv_has ls 4 [(0, .ref ob), (1, .int x1), (3, .int x3)]) (hP : va_P (dC, dI) vwCl (mdW cI cC ob q K) H) (hD : va_D (aL (mdL ob q)) (mdW cI cC ob q K)) (hS : va_S (aL (mdL ob q)) s.heap H locs), W p l e (headSpec wsX3_asks rmX3_asks).room s m ([.ref ob, .int p0] : List Value).toArray below meth c H locs 0 0 (MQ below (cE (dC, dI) vwCl (mdL ob q) rr (mdW cI cC ob q KK)) ([.ref ob, .int p0] : List Value).toArray s 0 0 (aL (mdL ob q))) (F0 m 76 ls []) := by
    intro  K x1 x3 H locs ls h hl hP hD hS
    unfold fX3_asks_76 at h
    refine lv_aload_n hx hb dX3_asks_76 rfl (lv_at hl 0 rfl) ?_
    refine lv_iload_n hx hb dX3_asks_77 rfl (lv_at hl 1 rfl) ?_
    refine lv_aload_n hx hb dX3_asks_78 rfl (lv_at hl 0 rfl) ?_
    refine lv_iload_n hx hb dX3_asks_79 rfl (lv_at hl 2 rfl) ?_
    refine lv_iconst (v := 0) hx hb dX3_asks_80 (by decide) ?_
    obtain ⟨v1, hv1, h⟩ := bdP_some h
    refine call_VP (As := [.int x3, .int 0]) (rest := [.int x1, .ref ob]) ⟨hx, hb, hml, hown, hts⟩ (tX3_of (l := l) (dC := dC) (dI := dI) (cI := cI) (cC := cC) (ob := ob) (q := q) hv1) (cwV 2 hts gX3_asks_X3_of rfl rfl rfl (by decide +kernel) ⟨Nat.le_of_ble_eq_true rfl, Nat.le_of_ble_eq_true rfl⟩) hK hP 0 rfl rfl (by rfl) hl.1 rfl (Nat.le_of_ble_eq_true rfl) dX3_asks_81 ⟨Nat.zero_le _, Nat.zero_le _⟩ ?_
    obtain ⟨v2, K3, hv2, h⟩ := bdE_some h
    refine call_VEv (As := [.int x1, .int v1]) (rest := []) ⟨hx, hb, hml, hown, hts⟩ (tX3_tellsNoVote (l := l) (dC := dC) (dI := dI) (cI := cI) (cC := cC) (ob := ob) (q := q) hv2) (cwV 2 hts gX3_asks_X3_tellsNoVote rfl rfl rfl (by decide +kernel) ⟨Nat.le_of_ble_eq_true rfl, Nat.le_of_ble_eq_true rfl⟩) hK hP hD hS (fun _ h9 => h9) 0 rfl rfl (by rfl) hl.1 rfl (Nat.le_of_ble_eq_true rfl) dX3_asks_84 ⟨Nat.zero_le _, Nat.zero_le _⟩ (fun H locs hP hD _ hS => ?_)
    refine lv_iconst (v := 0) hx hb dX3_asks_87 (by decide) ?_
    exact W.iret hx hb hr (fun t ht _ => retE (w := mdW cI cC ob q) h hP hD hS ht) hS.2.2 dX3_asks_88
  have t_162 : ∀ {k44 : KT → Int32 → Int32 → Int32 → Option (Int32 × KT)} (hk44 : ∀ {K : KT} {x1 : Int32} {x2 : Int32} {x3 : Int32} {H : Heap} {locs : List Loc} {ls : Array Slot} (h : k44 K x1 x2 x3 = some (rr, KK)) (hl : lv_has ls 4 [(0, .ref ob), (1, .int x1), (2, .int x2), (3, .int x3)]) (hP : va_P (dC, dI) vwCl (mdW cI cC ob q K) H) (hD : va_D (aL (mdL ob q)) (mdW cI cC ob q K)) (hS : va_S (aL (mdL ob q)) s.heap H locs), W p l e (headSpec wsX3_asks rmX3_asks).room s m ([.ref ob, .int p0] : List Value).toArray below meth c H locs 0 0 (MQ below (cE (dC, dI) vwCl (mdL ob q) rr (mdW cI cC ob q KK)) ([.ref ob, .int p0] : List Value).toArray s 0 0 (aL (mdL ob q))) (F0 m 44 ls [])), ∀ {K : KT} {x1 : Int32} {x2 : Int32} {x3 : Int32} {H : Heap} {locs : List Loc} {ls : Array Slot} (h : fX3_asks_162 N k44 K x1 x2 x3 = some (rr, KK)) (hl : lv_has ls 4 [(0, .ref ob), (1, .int x1), (2, .int x2), (3, .int x3)]) (hP : va_P (dC, dI) vwCl (mdW cI cC ob q K) H) (hD : va_D (aL (mdL ob q)) (mdW cI cC ob q K)) (hS : va_S (aL (mdL ob q)) s.heap H locs), W p l e (headSpec wsX3_asks rmX3_asks).room s m ([.ref ob, .int p0] : List Value).toArray below meth c H locs 0 0 (MQ below (cE (dC, dI) vwCl (mdL ob q) rr (mdW cI cC ob q KK)) ([.ref ob, .int p0] : List Value).toArray s 0 0 (aL (mdL ob q))) (F0 m 162 ls []) := by
    intro k44 hk44 K x1 x2 x3 H locs ls h hl hP hD hS
    unfold fX3_asks_162 at h
    refine lv_iinc (v := x3 + 1) (lv' := [(3, .int (x3 + 1)), (0, .ref ob), (1, .int x1), (2, .int x2)]) hx hb dX3_asks_162 hl (k := 3) rfl rfl (by decide) rfl (fun ls hl => ?_)
    refine lv_goto (tgt := 44) hx hb dX3_asks_165 (by decide) ?_
    exact hk44 h (lv_sub hl [1, 2, 3, 0] rfl) hP hD hS
  have t_122 : ∀ {k44 : KT → Int32 → Int32 → Int32 → Option (Int32 × KT)} (hk44 : ∀ {K : KT} {x1 : Int32} {x2 : Int32} {x3 : Int32} {H : Heap} {locs : List Loc} {ls : Array Slot} (h : k44 K x1 x2 x3 = some (rr, KK)) (hl : lv_has ls 4 [(0, .ref ob), (1, .int x1), (2, .int x2), (3, .int x3)]) (hP : va_P (dC, dI) vwCl (mdW cI cC ob q K) H) (hD : va_D (aL (mdL ob q)) (mdW cI cC ob q K)) (hS : va_S (aL (mdL ob q)) s.heap H locs), W p l e (headSpec wsX3_asks rmX3_asks).room s m ([.ref ob, .int p0] : List Value).toArray below meth c H locs 0 0 (MQ below (cE (dC, dI) vwCl (mdL ob q) rr (mdW cI cC ob q KK)) ([.ref ob, .int p0] : List Value).toArray s 0 0 (aL (mdL ob q))) (F0 m 44 ls [])), ∀ {K : KT} {x1 : Int32} {x2 : Int32} {x3 : Int32} {H : Heap} {locs : List Loc} {ls : Array Slot} (h : fX3_asks_122 N k44 K x1 x2 x3 = some (rr, KK)) (hl : lv_has ls 4 [(0, .ref ob), (1, .int x1), (2, .int x2), (3, .int x3)]) (hP : va_P (dC, dI) vwCl (mdW cI cC ob q K) H) (hD : va_D (aL (mdL ob q)) (mdW cI cC ob q K)) (hS : va_S (aL (mdL ob q)) s.heap H locs), W p l e (headSpec wsX3_asks rmX3_asks).room s m ([.ref ob, .int p0] : List Value).toArray below meth c H locs 0 0 (MQ below (cE (dC, dI) vwCl (mdL ob q) rr (mdW cI cC ob q KK)) ([.ref ob, .int p0] : List Value).toArray s 0 0 (aL (mdL ob q))) (F0 m 122 ls []) := by
    intro k44 hk44 K x1 x2 x3 H locs ls h hl hP hD hS
    unfold fX3_asks_122 at h
    refine lv_aload_n hx hb dX3_asks_122 rfl (lv_at hl 0 rfl) ?_
    refine lv_iload_n hx hb dX3_asks_123 rfl (lv_at hl 3 rfl) ?_
    refine lv_iconst (v := 1) hx hb dX3_asks_124 (by decide) ?_
    obtain ⟨v4, hv4, h⟩ := bdP_some h
    refine call_VP (As := [.int x3, .int 1]) (rest := []) ⟨hx, hb, hml, hown, hts⟩ (tX3_of (l := l) (dC := dC) (dI := dI) (cI := cI) (cC := cC) (ob := ob) (q := q) hv4) (cwV 2 hts gX3_asks_X3_of rfl rfl rfl (by decide +kernel) ⟨Nat.le_of_ble_eq_true rfl, Nat.le_of_ble_eq_true rfl⟩) hK hP 0 rfl rfl (by rfl) hl.1 rfl (Nat.le_of_ble_eq_true rfl) dX3_asks_125 ⟨Nat.zero_le _, Nat.zero_le _⟩ ?_
    refine lv_if_gt (tgt := 162) hx hb dX3_asks_128 (by decide) (fun c5 => ?_) (fun c5 => ?_)
    · replace h := if_p c5 h
      exact t_162 @hk44 h (lv_sub hl [0, 1, 2, 3] rfl) hP hD hS
    · replace h := if_n c5 h
      refine lv_aload_n hx hb dX3_asks_131 rfl (lv_at hl 0 rfl) ?_
      refine lv_iload_n hx hb dX3_asks_132 rfl (lv_at hl 1 rfl) ?_
      refine lv_iload_n hx hb dX3_asks_133 rfl (lv_at hl 3 rfl) ?_
      obtain ⟨v6, hv6, h⟩ := bdP_some h
      refine call_VP (As := [.int x1, .int x3]) (rest := []) ⟨hx, hb, hml, hown, hts⟩ (tX3_isAsFar (l := l) (dC := dC) (dI := dI) (cI := cI) (cC := cC) (ob := ob) (q := q) hv6) (cwV 2 hts gX3_asks_X3_isAsFar rfl rfl rfl (by decide +kernel) ⟨Nat.le_of_ble_eq_true rfl, Nat.le_of_ble_eq_true rfl⟩) hK hP 0 rfl rfl (by rfl) hl.1 rfl (Nat.le_of_ble_eq_true rfl) dX3_asks_134 ⟨Nat.zero_le _, Nat.zero_le _⟩ ?_
      refine lv_if_ne (tgt := 143) hx hb dX3_asks_137 (by decide) (fun c7 => ?_) (fun c7 => ?_)
      · replace h := if_n c7 h
        refine lv_aload_n hx hb dX3_asks_143 rfl (lv_at hl 0 rfl) ?_
        refine lv_iload_n hx hb dX3_asks_144 rfl (lv_at hl 3 rfl) ?_
        refine lv_iconst (v := 1) hx hb dX3_asks_145 (by decide) ?_
        refine lv_iload_n hx hb dX3_asks_146 rfl (lv_at hl 1 rfl) ?_
        refine lv_iconst (v := 1) hx hb dX3_asks_147 (by decide) ?_
        refine lv_iadd hx hb dX3_asks_148 ?_
        obtain ⟨v8, K9, hv8, h⟩ := bdE_some h
        refine call_VEv (As := [.int x3, .int 1, .int (x1 + 1)]) (rest := []) ⟨hx, hb, hml, hown, hts⟩ (tX3_sets (l := l) (dC := dC) (dI := dI) (cI := cI) (cC := cC) (ob := ob) (q := q) hv8) (cwV 3 hts gX3_asks_X3_sets rfl rfl rfl (by decide +kernel) ⟨Nat.le_of_ble_eq_true rfl, Nat.le_of_ble_eq_true rfl⟩) hK hP hD hS (fun _ h9 => h9) 0 rfl rfl (by rfl) hl.1 rfl (Nat.le_of_ble_eq_true rfl) dX3_asks_149 ⟨Nat.zero_le _, Nat.zero_le _⟩ (fun H locs hP hD _ hS => ?_)
        refine lv_aload_n hx hb dX3_asks_152 rfl (lv_at hl 0 rfl) ?_
        refine lv_iload_n hx hb dX3_asks_153 rfl (lv_at hl 3 rfl) ?_
        refine lv_iconst (v := 4) hx hb dX3_asks_154 (by decide) ?_
        refine lv_iconst (v := 0) hx hb dX3_asks_155 (by decide) ?_
        obtain ⟨v10, K11, hv10, h⟩ := bdE_some h
        refine call_VEv (As := [.int x3, .int 4, .int 0]) (rest := []) ⟨hx, hb, hml, hown, hts⟩ (tX3_sets (l := l) (dC := dC) (dI := dI) (cI := cI) (cC := cC) (ob := ob) (q := q) hv10) (cwV 3 hts gX3_asks_X3_sets rfl rfl rfl (by decide +kernel) ⟨Nat.le_of_ble_eq_true rfl, Nat.le_of_ble_eq_true rfl⟩) hK hP hD hS (fun _ h9 => h9) 0 rfl rfl (by rfl) hl.1 rfl (Nat.le_of_ble_eq_true rfl) dX3_asks_156 ⟨Nat.zero_le _, Nat.zero_le _⟩ (fun H locs hP hD _ hS => ?_)
        refine lv_iinc (v := x2 + 1) (lv' := [(2, .int (x2 + 1)), (0, .ref ob), (1, .int x1), (3, .int x3)]) hx hb dX3_asks_159 hl (k := 2) rfl rfl (by decide) rfl (fun ls hl => ?_)
        exact t_162 @hk44 h (lv_sub hl [1, 2, 0, 3] rfl) hP hD hS
      · replace h := if_p c7 h
        refine lv_goto (tgt := 162) hx hb dX3_asks_140 (by decide) ?_
        exact t_162 @hk44 h (lv_sub hl [0, 1, 2, 3] rfl) hP hD hS
  have t_190 : ∀ {K : KT} {x2 : Int32} {H : Heap} {locs : List Loc} {ls : Array Slot} (h : fX3_asks_190 N  K x2 = some (rr, KK)) (hl : lv_has ls 4 [(2, .int x2)]) (hP : va_P (dC, dI) vwCl (mdW cI cC ob q K) H) (hD : va_D (aL (mdL ob q)) (mdW cI cC ob q K)) (hS : va_S (aL (mdL ob q)) s.heap H locs), W p l e (headSpec wsX3_asks rmX3_asks).room s m ([.ref ob, .int p0] : List Value).toArray below meth c H locs 0 0 (MQ below (cE (dC, dI) vwCl (mdL ob q) rr (mdW cI cC ob q KK)) ([.ref ob, .int p0] : List Value).toArray s 0 0 (aL (mdL ob q))) (F0 m 190 ls []) := by
    intro  K x2 H locs ls h hl hP hD hS
    unfold fX3_asks_190 at h
    refine lv_iload_n hx hb dX3_asks_190 rfl (lv_at hl 0 rfl) ?_
    exact W.iret hx hb hr (fun t ht _ => retE (w := mdW cI cC ob q) h hP hD hS ht) hS.2.2 dX3_asks_191
  have t_168 : ∀ {K : KT} {x1 : Int32} {x2 : Int32} {H : Heap} {locs : List Loc} {ls : Array Slot} (h : fX3_asks_168 N  K x1 x2 = some (rr, KK)) (hl : lv_has ls 4 [(0, .ref ob), (1, .int x1), (2, .int x2)]) (hP : va_P (dC, dI) vwCl (mdW cI cC ob q K) H) (hD : va_D (aL (mdL ob q)) (mdW cI cC ob q K)) (hS : va_S (aL (mdL ob q)) s.heap H locs), W p l e (headSpec wsX3_asks rmX3_asks).room s m ([.ref ob, .int p0] : List Value).toArray below meth c H locs 0 0 (MQ below (cE (dC, dI) vwCl (mdL ob q) rr (mdW cI cC ob q KK)) ([.ref ob, .int p0] : List Value).toArray s 0 0 (aL (mdL ob q))) (F0 m 168 ls []) := by
    intro  K x1 x2 H locs ls h hl hP hD hS
    unfold fX3_asks_168 at h
    refine lv_iload_n hx hb dX3_asks_168 rfl (lv_at hl 2 rfl) ?_
    refine lv_iconst (v := 3) hx hb dX3_asks_169 (by decide) ?_
    refine lv_icmp_lt (tgt := 190) hx hb dX3_asks_170 (by decide) (fun c12 => ?_) (fun c12 => ?_)
    · replace h := if_p c12 h
      exact t_190  h (lv_sub hl [2] rfl) hP hD hS
    · replace h := if_n c12 h
      refine lv_aload_n hx hb dX3_asks_173 rfl (lv_at hl 0 rfl) ?_
      refine lv_iload_n hx hb dX3_asks_174 rfl (lv_at hl 1 rfl) ?_
      refine lv_iconst (v := 2) hx hb dX3_asks_175 (by decide) ?_
      refine lv_iconst (v := 1) hx hb dX3_asks_176 (by decide) ?_
      obtain ⟨v13, K14, hv13, h⟩ := bdE_some h
      refine call_VEv (As := [.int x1, .int 2, .int 1]) (rest := []) ⟨hx, hb, hml, hown, hts⟩ (tX3_sets (l := l) (dC := dC) (dI := dI) (cI := cI) (cC := cC) (ob := ob) (q := q) hv13) (cwV 3 hts gX3_asks_X3_sets rfl rfl rfl (by decide +kernel) ⟨Nat.le_of_ble_eq_true rfl, Nat.le_of_ble_eq_true rfl⟩) hK hP hD hS (fun _ h9 => h9) 0 rfl rfl (by rfl) hl.1 rfl (Nat.le_of_ble_eq_true rfl) dX3_asks_177 ⟨Nat.zero_le _, Nat.zero_le _⟩ (fun H locs hP hD _ hS => ?_)
      refine lv_aload_n hx hb dX3_asks_180 rfl (lv_at hl 0 rfl) ?_
      refine va_get (D := (dC, dI)) (ci := 4) (v := .ref (q 0)) (C := RX3) (T := TX3) (N := 17) hx hb hts hwX3 hown hK hP 0 rfl rfl 0 (by decide) hf_9 (fun _ h9 => h9) rfl dX3_asks_181 ?_
      refine lv_iconst (v := 1) hx hb dX3_asks_184 (by decide) ?_
      refine lv_dup2_11 hx hb dX3_asks_185 rfl rfl ?_
      obtain ⟨hi16, v15, ev15, h⟩ := rdA_some h
      refine k_iald hx hb hK hP 1 0 rfl rfl hi16 ev15 dX3_asks_186 ?_
      refine lv_iconst (v := 1) hx hb dX3_asks_187 (by decide) ?_
      refine lv_iadd hx hb dX3_asks_188 ?_
      obtain ⟨hi18, K17, eK17, h⟩ := wrA_some h
      refine va_iast hx hb hK hP hD hS 1 0 rfl rfl hi18 dX3_asks_189 (fun H locs hP hD hS => ?_)
      have hP : va_P (dC, dI) vwCl (mdW cI cC ob q K17) H := by rw [eK17]; exact hP
      have hD : va_D (aL (mdL ob q)) (mdW cI cC ob q K17) := by rw [eK17]; exact hD
      exact t_190  h (lv_sub hl [2] rfl) hP hD hS
  have t_44 : ∀ {n : Nat}, ∀ {K : KT} {x1 : Int32} {x2 : Int32} {x3 : Int32} {H : Heap} {locs : List Loc} {ls : Array Slot} (h : fX3_asks_44 N  n K x1 x2 x3 = some (rr, KK)) (hl : lv_has ls 4 [(0, .ref ob), (1, .int x1), (2, .int x2), (3, .int x3)]) (hP : va_P (dC, dI) vwCl (mdW cI cC ob q K) H) (hD : va_D (aL (mdL ob q)) (mdW cI cC ob q K)) (hS : va_S (aL (mdL ob q)) s.heap H locs), W p l e (headSpec wsX3_asks rmX3_asks).room s m ([.ref ob, .int p0] : List Value).toArray below meth c H locs 0 0 (MQ below (cE (dC, dI) vwCl (mdL ob q) rr (mdW cI cC ob q KK)) ([.ref ob, .int p0] : List Value).toArray s 0 0 (aL (mdL ob q))) (F0 m 44 ls []) := by
    intro  n
    induction n with
    | zero =>
      intro K x1 x2 x3 H locs ls h hl hP hD hS
      unfold fX3_asks_44 at h
      cases h
    | succ n ih =>
      intro K x1 x2 x3 H locs ls h hl hP hD hS
      unfold fX3_asks_44 at h
      refine lv_iload_n hx hb dX3_asks_44 rfl (lv_at hl 3 rfl) ?_
      refine lv_iconst (v := 5) hx hb dX3_asks_45 (by decide) ?_
      refine lv_icmp_ge (tgt := 168) hx hb dX3_asks_46 (by decide) (fun c19 => ?_) (fun c19 => ?_)
      · replace h := if_p c19 h
        exact t_168  h (lv_sub hl [0, 1, 2] rfl) hP hD hS
      · replace h := if_n c19 h
        refine lv_aload_n hx hb dX3_asks_49 rfl (lv_at hl 0 rfl) ?_
        refine lv_iload_n hx hb dX3_asks_50 rfl (lv_at hl 1 rfl) ?_
        refine lv_iload_n hx hb dX3_asks_51 rfl (lv_at hl 3 rfl) ?_
        obtain ⟨v20, hv20, h⟩ := bdP_some h
        refine call_VP (As := [.int x1, .int x3]) (rest := []) ⟨hx, hb, hml, hown, hts⟩ (tX3_isReached (l := l) (dC := dC) (dI := dI) (cI := cI) (cC := cC) (ob := ob) (q := q) hv20) (cwV 2 hts gX3_asks_X3_isReached rfl rfl rfl (by decide +kernel) ⟨Nat.le_of_ble_eq_true rfl, Nat.le_of_ble_eq_true rfl⟩) hK hP 0 rfl rfl (by rfl) hl.1 rfl (Nat.le_of_ble_eq_true rfl) dX3_asks_52 ⟨Nat.zero_le _, Nat.zero_le _⟩ ?_
        refine lv_if_ne (tgt := 61) hx hb dX3_asks_55 (by decide) (fun c21 => ?_) (fun c21 => ?_)
        · replace h := if_n c21 h
          refine lv_aload_n hx hb dX3_asks_61 rfl (lv_at hl 0 rfl) ?_
          refine lv_iload_n hx hb dX3_asks_62 rfl (lv_at hl 3 rfl) ?_
          refine lv_iconst (v := 0) hx hb dX3_asks_63 (by decide) ?_
          obtain ⟨v22, hv22, h⟩ := bdP_some h
          refine call_VP (As := [.int x3, .int 0]) (rest := []) ⟨hx, hb, hml, hown, hts⟩ (tX3_of (l := l) (dC := dC) (dI := dI) (cI := cI) (cC := cC) (ob := ob) (q := q) hv22) (cwV 2 hts gX3_asks_X3_of rfl rfl rfl (by decide +kernel) ⟨Nat.le_of_ble_eq_true rfl, Nat.le_of_ble_eq_true rfl⟩) hK hP 0 rfl rfl (by rfl) hl.1 rfl (Nat.le_of_ble_eq_true rfl) dX3_asks_64 ⟨Nat.zero_le _, Nat.zero_le _⟩ ?_
          refine lv_aload_n hx hb dX3_asks_67 rfl (lv_at hl 0 rfl) ?_
          refine lv_iload_n hx hb dX3_asks_68 rfl (lv_at hl 1 rfl) ?_
          refine lv_iconst (v := 0) hx hb dX3_asks_69 (by decide) ?_
          obtain ⟨v23, hv23, h⟩ := bdP_some h
          refine call_VP (As := [.int x1, .int 0]) (rest := [.int v22]) ⟨hx, hb, hml, hown, hts⟩ (tX3_of (l := l) (dC := dC) (dI := dI) (cI := cI) (cC := cC) (ob := ob) (q := q) hv23) (cwV 2 hts gX3_asks_X3_of rfl rfl rfl (by decide +kernel) ⟨Nat.le_of_ble_eq_true rfl, Nat.le_of_ble_eq_true rfl⟩) hK hP 0 rfl rfl (by rfl) hl.1 rfl (Nat.le_of_ble_eq_true rfl) dX3_asks_70 ⟨Nat.zero_le _, Nat.zero_le _⟩ ?_
          refine lv_icmp_le (tgt := 89) hx hb dX3_asks_73 (by decide) (fun c24 => ?_) (fun c24 => ?_)
          · replace h := if_p c24 h
            refine lv_aload_n hx hb dX3_asks_89 rfl (lv_at hl 0 rfl) ?_
            refine lv_iload_n hx hb dX3_asks_90 rfl (lv_at hl 3 rfl) ?_
            refine lv_iconst (v := 0) hx hb dX3_asks_91 (by decide) ?_
            obtain ⟨v25, hv25, h⟩ := bdP_some h
            refine call_VP (As := [.int x3, .int 0]) (rest := []) ⟨hx, hb, hml, hown, hts⟩ (tX3_of (l := l) (dC := dC) (dI := dI) (cI := cI) (cC := cC) (ob := ob) (q := q) hv25) (cwV 2 hts gX3_asks_X3_of rfl rfl rfl (by decide +kernel) ⟨Nat.le_of_ble_eq_true rfl, Nat.le_of_ble_eq_true rfl⟩) hK hP 0 rfl rfl (by rfl) hl.1 rfl (Nat.le_of_ble_eq_true rfl) dX3_asks_92 ⟨Nat.zero_le _, Nat.zero_le _⟩ ?_
            refine lv_aload_n hx hb dX3_asks_95 rfl (lv_at hl 0 rfl) ?_
            refine lv_iload_n hx hb dX3_asks_96 rfl (lv_at hl 1 rfl) ?_
            refine lv_iconst (v := 0) hx hb dX3_asks_97 (by decide) ?_
            obtain ⟨v26, hv26, h⟩ := bdP_some h
            refine call_VP (As := [.int x1, .int 0]) (rest := [.int v25]) ⟨hx, hb, hml, hown, hts⟩ (tX3_of (l := l) (dC := dC) (dI := dI) (cI := cI) (cC := cC) (ob := ob) (q := q) hv26) (cwV 2 hts gX3_asks_X3_of rfl rfl rfl (by decide +kernel) ⟨Nat.le_of_ble_eq_true rfl, Nat.le_of_ble_eq_true rfl⟩) hK hP 0 rfl rfl (by rfl) hl.1 rfl (Nat.le_of_ble_eq_true rfl) dX3_asks_98 ⟨Nat.zero_le _, Nat.zero_le _⟩ ?_
            refine lv_icmp_ge (tgt := 122) hx hb dX3_asks_101 (by decide) (fun c27 => ?_) (fun c27 => ?_)
            · replace h := if_p c27 h
              exact t_122 @ih h (lv_sub hl [0, 1, 2, 3] rfl) hP hD hS
            · replace h := if_n c27 h
              refine lv_aload_n hx hb dX3_asks_104 rfl (lv_at hl 0 rfl) ?_
              refine lv_iload_n hx hb dX3_asks_105 rfl (lv_at hl 3 rfl) ?_
              refine lv_aload_n hx hb dX3_asks_106 rfl (lv_at hl 0 rfl) ?_
              refine lv_iload_n hx hb dX3_asks_107 rfl (lv_at hl 1 rfl) ?_
              refine lv_iconst (v := 0) hx hb dX3_asks_108 (by decide) ?_
              obtain ⟨v28, hv28, h⟩ := bdP_some h
              refine call_VP (As := [.int x1, .int 0]) (rest := [.int x3, .ref ob]) ⟨hx, hb, hml, hown, hts⟩ (tX3_of (l := l) (dC := dC) (dI := dI) (cI := cI) (cC := cC) (ob := ob) (q := q) hv28) (cwV 2 hts gX3_asks_X3_of rfl rfl rfl (by decide +kernel) ⟨Nat.le_of_ble_eq_true rfl, Nat.le_of_ble_eq_true rfl⟩) hK hP 0 rfl rfl (by rfl) hl.1 rfl (Nat.le_of_ble_eq_true rfl) dX3_asks_109 ⟨Nat.zero_le _, Nat.zero_le _⟩ ?_
              obtain ⟨v29, K30, hv29, h⟩ := bdE_some h
              refine call_VEv (As := [.int x3, .int v28]) (rest := []) ⟨hx, hb, hml, hown, hts⟩ (tX3_tellsNoVote (l := l) (dC := dC) (dI := dI) (cI := cI) (cC := cC) (ob := ob) (q := q) hv29) (cwV 2 hts gX3_asks_X3_tellsNoVote rfl rfl rfl (by decide +kernel) ⟨Nat.le_of_ble_eq_true rfl, Nat.le_of_ble_eq_true rfl⟩) hK hP hD hS (fun _ h9 => h9) 0 rfl rfl (by rfl) hl.1 rfl (Nat.le_of_ble_eq_true rfl) dX3_asks_112 ⟨Nat.zero_le _, Nat.zero_le _⟩ (fun H locs hP hD _ hS => ?_)
              refine lv_aload_n hx hb dX3_asks_115 rfl (lv_at hl 0 rfl) ?_
              refine lv_iload_n hx hb dX3_asks_116 rfl (lv_at hl 3 rfl) ?_
              refine lv_iconst (v := 2) hx hb dX3_asks_117 (by decide) ?_
              refine lv_iconst (v := 0) hx hb dX3_asks_118 (by decide) ?_
              obtain ⟨v31, K32, hv31, h⟩ := bdE_some h
              refine call_VEv (As := [.int x3, .int 2, .int 0]) (rest := []) ⟨hx, hb, hml, hown, hts⟩ (tX3_sets (l := l) (dC := dC) (dI := dI) (cI := cI) (cC := cC) (ob := ob) (q := q) hv31) (cwV 3 hts gX3_asks_X3_sets rfl rfl rfl (by decide +kernel) ⟨Nat.le_of_ble_eq_true rfl, Nat.le_of_ble_eq_true rfl⟩) hK hP hD hS (fun _ h9 => h9) 0 rfl rfl (by rfl) hl.1 rfl (Nat.le_of_ble_eq_true rfl) dX3_asks_119 ⟨Nat.zero_le _, Nat.zero_le _⟩ (fun H locs hP hD _ hS => ?_)
              exact t_122 @ih h (lv_sub hl [0, 1, 2, 3] rfl) hP hD hS
          · replace h := if_n c24 h
            exact t_76  h (lv_sub hl [0, 1, 3] rfl) hP hD hS
        · replace h := if_p c21 h
          refine lv_goto (tgt := 162) hx hb dX3_asks_58 (by decide) ?_
          exact t_162 @ih h (lv_sub hl [0, 1, 2, 3] rfl) hP hD hS
  have hS : va_S (aL (mdL ob q)) s.heap s.heap [] := va_S.rf
  have hl := lv_entry ([.ref ob, .int p0]) (n := 4) (Nat.le_of_ble_eq_true rfl)
  rw [lg_entry_eq]
  generalize (lg_sl ([.ref ob, .int p0]) ++ List.replicate (4 - (lg_sl ([.ref ob, .int p0])).length) Slot.unset).toArray = ls at hl ⊢
  have hl : lv_has ls 4 [(0, .ref ob), (1, .int p0)] := hl
  have h := hf
  unfold mX3_asks at h
  refine lv_aload_n hx hb dX3_asks_0 rfl (lv_at hl 0 rfl) ?_
  refine lv_iload_n hx hb dX3_asks_1 rfl (lv_at hl 1 rfl) ?_
  refine lv_iconst (v := 0) hx hb dX3_asks_2 (by decide) ?_
  refine lv_aload_n hx hb dX3_asks_3 rfl (lv_at hl 0 rfl) ?_
  refine lv_iload_n hx hb dX3_asks_4 rfl (lv_at hl 1 rfl) ?_
  refine lv_iconst (v := 0) hx hb dX3_asks_5 (by decide) ?_
  obtain ⟨v33, hv33, h⟩ := bdP_some h
  refine call_VP (As := [.int p0, .int 0]) (rest := [.int 0, .int p0, .ref ob]) ⟨hx, hb, hml, hown, hts⟩ (tX3_of (l := l) (dC := dC) (dI := dI) (cI := cI) (cC := cC) (ob := ob) (q := q) hv33) (cwV 2 hts gX3_asks_X3_of rfl rfl rfl (by decide +kernel) ⟨Nat.le_of_ble_eq_true rfl, Nat.le_of_ble_eq_true rfl⟩) hK hP 0 rfl rfl (by rfl) hl.1 rfl (Nat.le_of_ble_eq_true rfl) dX3_asks_6 ⟨Nat.zero_le _, Nat.zero_le _⟩ ?_
  refine lv_iconst (v := 1) hx hb dX3_asks_9 (by decide) ?_
  refine lv_iadd hx hb dX3_asks_10 ?_
  obtain ⟨v34, K35, hv34, h⟩ := bdE_some h
  refine call_VEv (As := [.int p0, .int 0, .int (v33 + 1)]) (rest := []) ⟨hx, hb, hml, hown, hts⟩ (tX3_sets (l := l) (dC := dC) (dI := dI) (cI := cI) (cC := cC) (ob := ob) (q := q) hv34) (cwV 3 hts gX3_asks_X3_sets rfl rfl rfl (by decide +kernel) ⟨Nat.le_of_ble_eq_true rfl, Nat.le_of_ble_eq_true rfl⟩) hK hP hD hS (fun _ h9 => h9) 0 rfl rfl (by rfl) hl.1 rfl (Nat.le_of_ble_eq_true rfl) dX3_asks_11 ⟨Nat.zero_le _, Nat.zero_le _⟩ (fun H locs hP hD _ hS => ?_)
  refine lv_aload_n hx hb dX3_asks_14 rfl (lv_at hl 0 rfl) ?_
  refine lv_iload_n hx hb dX3_asks_15 rfl (lv_at hl 1 rfl) ?_
  refine lv_iconst (v := 1) hx hb dX3_asks_16 (by decide) ?_
  refine lv_iload_n hx hb dX3_asks_17 rfl (lv_at hl 1 rfl) ?_
  refine lv_iconst (v := 1) hx hb dX3_asks_18 (by decide) ?_
  refine lv_iadd hx hb dX3_asks_19 ?_
  obtain ⟨v36, K37, hv36, h⟩ := bdE_some h
  refine call_VEv (As := [.int p0, .int 1, .int (p0 + 1)]) (rest := []) ⟨hx, hb, hml, hown, hts⟩ (tX3_sets (l := l) (dC := dC) (dI := dI) (cI := cI) (cC := cC) (ob := ob) (q := q) hv36) (cwV 3 hts gX3_asks_X3_sets rfl rfl rfl (by decide +kernel) ⟨Nat.le_of_ble_eq_true rfl, Nat.le_of_ble_eq_true rfl⟩) hK hP hD hS (fun _ h9 => h9) 0 rfl rfl (by rfl) hl.1 rfl (Nat.le_of_ble_eq_true rfl) dX3_asks_20 ⟨Nat.zero_le _, Nat.zero_le _⟩ (fun H locs hP hD _ hS => ?_)
  refine lv_aload_n hx hb dX3_asks_23 rfl (lv_at hl 0 rfl) ?_
  refine lv_iload_n hx hb dX3_asks_24 rfl (lv_at hl 1 rfl) ?_
  refine lv_iconst (v := 4) hx hb dX3_asks_25 (by decide) ?_
  refine lv_iconst (v := 0) hx hb dX3_asks_26 (by decide) ?_
  obtain ⟨v38, K39, hv38, h⟩ := bdE_some h
  refine call_VEv (As := [.int p0, .int 4, .int 0]) (rest := []) ⟨hx, hb, hml, hown, hts⟩ (tX3_sets (l := l) (dC := dC) (dI := dI) (cI := cI) (cC := cC) (ob := ob) (q := q) hv38) (cwV 3 hts gX3_asks_X3_sets rfl rfl rfl (by decide +kernel) ⟨Nat.le_of_ble_eq_true rfl, Nat.le_of_ble_eq_true rfl⟩) hK hP hD hS (fun _ h9 => h9) 0 rfl rfl (by rfl) hl.1 rfl (Nat.le_of_ble_eq_true rfl) dX3_asks_27 ⟨Nat.zero_le _, Nat.zero_le _⟩ (fun H locs hP hD _ hS => ?_)
  refine lv_aload_n hx hb dX3_asks_30 rfl (lv_at hl 0 rfl) ?_
  refine va_get (D := (dC, dI)) (ci := 4) (v := .ref (q 0)) (C := RX3) (T := TX3) (N := 17) hx hb hts hwX3 hown hK hP 0 rfl rfl 0 (by decide) hf_9 (fun _ h9 => h9) rfl dX3_asks_31 ?_
  refine lv_iconst (v := 0) hx hb dX3_asks_34 (by decide) ?_
  refine lv_dup2_11 hx hb dX3_asks_35 rfl rfl ?_
  obtain ⟨hi41, v40, ev40, h⟩ := rdA_some h
  refine k_iald hx hb hK hP 1 0 rfl rfl hi41 ev40 dX3_asks_36 ?_
  refine lv_iconst (v := 1) hx hb dX3_asks_37 (by decide) ?_
  refine lv_iadd hx hb dX3_asks_38 ?_
  obtain ⟨hi43, K42, eK42, h⟩ := wrA_some h
  refine va_iast hx hb hK hP hD hS 1 0 rfl rfl hi43 dX3_asks_39 (fun H locs hP hD hS => ?_)
  have hP : va_P (dC, dI) vwCl (mdW cI cC ob q K42) H := by rw [eK42]; exact hP
  have hD : va_D (aL (mdL ob q)) (mdW cI cC ob q K42) := by rw [eK42]; exact hD
  refine lv_iconst (v := 1) hx hb dX3_asks_40 (by decide) ?_
  refine lv_istore_n (lv' := [(2, .int 1), (0, .ref ob), (1, .int p0)]) hx hb dX3_asks_41 rfl hl (by decide) rfl (fun ls hl => ?_)
  refine lv_iconst (v := 0) hx hb dX3_asks_42 (by decide) ?_
  refine lv_istore_n (lv' := [(3, .int 0), (2, .int 1), (0, .ref ob), (1, .int p0)]) hx hb dX3_asks_43 rfl hl (by decide) rfl (fun ls hl => ?_)
  exact t_44  h (lv_sub hl [2, 3, 1, 0] rfl) hP hD hS
def mX3_dusks (N : Nat) (K : KT) (p0 : Int32) : Option (Int32 × KT) := bdP (mX3_isCamp N p0) (fun v1 => (if v1 = 0 then some ((-1), K) else bdP (mX3_isAwake N K p0) (fun v3 => (if v3 = 0 then bdE (mX3_refuses N K 1 p0) (fun v12 K13 => some (v12, K13)) else bdP (mX3_of N K p0 2) (fun v5 => (if v5 = 1 then bdP (mX3_of N K p0 0) (fun v9 => bdE (mX3_refuses N K 2 v9) (fun v10 K11 => some (v10, K11))) else bdE (mX3_asks N K p0) (fun v7 K8 => some (v7, K8))))))))
def rmX3_dusks : Room := { frames := 6, cells := 0, slots := 0, locals := 152 }
set_option maxHeartbeats 4000000 in
set_option maxRecDepth 100000 in
theorem tX3_dusks {l : Launch} {dC : Nat → ClassId} {dI : Nat → Nat → Nat} {cI : ClassId} {cC : ClassId} {ob : Nat} {q : Nat → Nat} {N : Nat} {K : KT} {p0 : Int32} {rr : Int32} {KK : KT} (hf : mX3_dusks N K p0 = some (rr, KK)) : Met l yX3_dusks wsX3_dusks rmX3_dusks (cPe (dC, dI) vwCl [(cI, .int), (cC, .char)] (mdL ob q) (mdW cI cC ob q K) [.ref ob, .int p0]) (cE (dC, dI) vwCl (mdL ob q) rr (mdW cI cC ob q KK)) 0 0 (aL (mdL ob q)) := by
  refine Met.ofW (cc := cX3_dusks) (maxL := 2) (ret := (some .int)) (by decide) rfl ?_
  intro p e s m args below meth c s₁ B hml hv
  obtain ⟨rfl, hP, hK, hD⟩ := hv
  have hx := B.exec
  have hb := B.bytes
  have hr := B.returns
  have hts := atoms_spec (ws := wsX3_dusks) B.pre
  have hown : s.vm.findClass RX3 = some m.cls := findClass_of_methodNamed B.named
  have hlocks := B.notSynchronized
  have hS : va_S (aL (mdL ob q)) s.heap s.heap [] := va_S.rf
  have hl := lv_entry ([.ref ob, .int p0]) (n := 2) (Nat.le_of_ble_eq_true rfl)
  rw [lg_entry_eq]
  generalize (lg_sl ([.ref ob, .int p0]) ++ List.replicate (2 - (lg_sl ([.ref ob, .int p0])).length) Slot.unset).toArray = ls at hl ⊢
  have hl : lv_has ls 2 [(0, .ref ob), (1, .int p0)] := hl
  have h := hf
  unfold mX3_dusks at h
  refine lv_iload_n hx hb dX3_dusks_0 rfl (lv_at hl 1 rfl) ?_
  obtain ⟨v1, hv1, h⟩ := bdP_some h
  refine call_SP (As := [.int p0]) (rest := []) ⟨hx, hb, hml, hown, hts⟩ (tX3_isCamp (l := l) hv1) (va_cwS 1 hts gX3_dusks_X3_isCamp rfl rfl rfl (by decide +kernel) ⟨Nat.le_of_ble_eq_true rfl, Nat.le_of_ble_eq_true rfl⟩) (by rfl) hl.1 rfl (Nat.le_of_ble_eq_true rfl) dX3_dusks_1 ⟨Nat.zero_le _, Nat.zero_le _⟩ ?_
  refine lv_if_ne (tgt := 9) hx hb dX3_dusks_4 (by decide) (fun c2 => ?_) (fun c2 => ?_)
  · replace h := if_n c2 h
    refine lv_aload_n hx hb dX3_dusks_9 rfl (lv_at hl 0 rfl) ?_
    refine lv_iload_n hx hb dX3_dusks_10 rfl (lv_at hl 1 rfl) ?_
    obtain ⟨v3, hv3, h⟩ := bdP_some h
    refine call_VP (As := [.int p0]) (rest := []) ⟨hx, hb, hml, hown, hts⟩ (tX3_isAwake (l := l) (dC := dC) (dI := dI) (cI := cI) (cC := cC) (ob := ob) (q := q) hv3) (cwV 1 hts gX3_dusks_X3_isAwake rfl rfl rfl (by decide +kernel) ⟨Nat.le_of_ble_eq_true rfl, Nat.le_of_ble_eq_true rfl⟩) hK hP 0 rfl rfl (by rfl) hl.1 rfl (Nat.le_of_ble_eq_true rfl) dX3_dusks_11 ⟨Nat.zero_le _, Nat.zero_le _⟩ ?_
    refine lv_if_ne (tgt := 24) hx hb dX3_dusks_14 (by decide) (fun c4 => ?_) (fun c4 => ?_)
    · replace h := if_n c4 h
      refine lv_aload_n hx hb dX3_dusks_24 rfl (lv_at hl 0 rfl) ?_
      refine lv_iload_n hx hb dX3_dusks_25 rfl (lv_at hl 1 rfl) ?_
      refine lv_iconst (v := 2) hx hb dX3_dusks_26 (by decide) ?_
      obtain ⟨v5, hv5, h⟩ := bdP_some h
      refine call_VP (As := [.int p0, .int 2]) (rest := []) ⟨hx, hb, hml, hown, hts⟩ (tX3_of (l := l) (dC := dC) (dI := dI) (cI := cI) (cC := cC) (ob := ob) (q := q) hv5) (cwV 2 hts gX3_dusks_X3_of rfl rfl rfl (by decide +kernel) ⟨Nat.le_of_ble_eq_true rfl, Nat.le_of_ble_eq_true rfl⟩) hK hP 0 rfl rfl (by rfl) hl.1 rfl (Nat.le_of_ble_eq_true rfl) dX3_dusks_27 ⟨Nat.zero_le _, Nat.zero_le _⟩ ?_
      refine lv_iconst (v := 1) hx hb dX3_dusks_30 (by decide) ?_
      refine lv_icmp_ne (tgt := 46) hx hb dX3_dusks_31 (by decide) (fun c6 => ?_) (fun c6 => ?_)
      · replace h := if_n c6 h
        refine lv_aload_n hx hb dX3_dusks_46 rfl (lv_at hl 0 rfl) ?_
        refine lv_iload_n hx hb dX3_dusks_47 rfl (lv_at hl 1 rfl) ?_
        obtain ⟨v7, K8, hv7, h⟩ := bdE_some h
        refine call_VE (As := [.int p0]) (rest := []) ⟨hx, hb, hml, hown, hts⟩ (tX3_asks (l := l) (dC := dC) (dI := dI) (cI := cI) (cC := cC) (ob := ob) (q := q) hv7) (cwV 1 hts gX3_dusks_X3_asks rfl rfl rfl (by decide +kernel) ⟨Nat.le_of_ble_eq_true rfl, Nat.le_of_ble_eq_true rfl⟩) hK hP hD hS (fun _ h9 => h9) 0 rfl rfl (by rfl) hl.1 rfl (Nat.le_of_ble_eq_true rfl) dX3_dusks_48 ⟨Nat.zero_le _, Nat.zero_le _⟩ (fun H locs hP hD _ hS => ?_)
        exact W.iret hx hb hr (fun t ht _ => retE (w := mdW cI cC ob q) h hP hD hS ht) hS.2.2 dX3_dusks_51
      · replace h := if_p c6 h
        refine lv_aload_n hx hb dX3_dusks_34 rfl (lv_at hl 0 rfl) ?_
        refine lv_iconst (v := 2) hx hb dX3_dusks_35 (by decide) ?_
        refine lv_aload_n hx hb dX3_dusks_36 rfl (lv_at hl 0 rfl) ?_
        refine lv_iload_n hx hb dX3_dusks_37 rfl (lv_at hl 1 rfl) ?_
        refine lv_iconst (v := 0) hx hb dX3_dusks_38 (by decide) ?_
        obtain ⟨v9, hv9, h⟩ := bdP_some h
        refine call_VP (As := [.int p0, .int 0]) (rest := [.int 2, .ref ob]) ⟨hx, hb, hml, hown, hts⟩ (tX3_of (l := l) (dC := dC) (dI := dI) (cI := cI) (cC := cC) (ob := ob) (q := q) hv9) (cwV 2 hts gX3_dusks_X3_of rfl rfl rfl (by decide +kernel) ⟨Nat.le_of_ble_eq_true rfl, Nat.le_of_ble_eq_true rfl⟩) hK hP 0 rfl rfl (by rfl) hl.1 rfl (Nat.le_of_ble_eq_true rfl) dX3_dusks_39 ⟨Nat.zero_le _, Nat.zero_le _⟩ ?_
        obtain ⟨v10, K11, hv10, h⟩ := bdE_some h
        refine call_VE (As := [.int 2, .int v9]) (rest := []) ⟨hx, hb, hml, hown, hts⟩ (tX3_refuses (l := l) (dC := dC) (dI := dI) (cI := cI) (cC := cC) (ob := ob) (q := q) hv10) (cwV 2 hts gX3_dusks_X3_refuses rfl rfl rfl (by decide +kernel) ⟨Nat.le_of_ble_eq_true rfl, Nat.le_of_ble_eq_true rfl⟩) hK hP hD hS (fun _ h9 => h9) 0 rfl rfl (by rfl) hl.1 rfl (Nat.le_of_ble_eq_true rfl) dX3_dusks_42 ⟨Nat.zero_le _, Nat.zero_le _⟩ (fun H locs hP hD _ hS => ?_)
        exact W.iret hx hb hr (fun t ht _ => retE (w := mdW cI cC ob q) h hP hD hS ht) hS.2.2 dX3_dusks_45
    · replace h := if_p c4 h
      refine lv_aload_n hx hb dX3_dusks_17 rfl (lv_at hl 0 rfl) ?_
      refine lv_iconst (v := 1) hx hb dX3_dusks_18 (by decide) ?_
      refine lv_iload_n hx hb dX3_dusks_19 rfl (lv_at hl 1 rfl) ?_
      obtain ⟨v12, K13, hv12, h⟩ := bdE_some h
      refine call_VE (As := [.int 1, .int p0]) (rest := []) ⟨hx, hb, hml, hown, hts⟩ (tX3_refuses (l := l) (dC := dC) (dI := dI) (cI := cI) (cC := cC) (ob := ob) (q := q) hv12) (cwV 2 hts gX3_dusks_X3_refuses rfl rfl rfl (by decide +kernel) ⟨Nat.le_of_ble_eq_true rfl, Nat.le_of_ble_eq_true rfl⟩) hK hP hD hS (fun _ h9 => h9) 0 rfl rfl (by rfl) hl.1 rfl (Nat.le_of_ble_eq_true rfl) dX3_dusks_20 ⟨Nat.zero_le _, Nat.zero_le _⟩ (fun H locs hP hD _ hS => ?_)
      exact W.iret hx hb hr (fun t ht _ => retE (w := mdW cI cC ob q) h hP hD hS ht) hS.2.2 dX3_dusks_23
  · replace h := if_p c2 h
    refine lv_iconst (v := (-1)) hx hb dX3_dusks_7 (by decide) ?_
    exact W.iret hx hb hr (fun t ht _ => retE (w := mdW cI cC ob q) h hP hD hS ht) hS.2.2 dX3_dusks_8
def mX3_dusk (N : Nat) (K : KT) (p0 : Int32) : Option (Int32 × KT) := bdE (mX3_tries N K ) (fun v1 K2 => bdE (mX3_dusks N K2 p0) (fun v3 K4 => bdE (mX3_ends N K4 v3) (fun v5 K6 => some (v5, K6))))
def rmX3_dusk : Room := { frames := 7, cells := 0, slots := 0, locals := 173 }
set_option maxHeartbeats 4000000 in
set_option maxRecDepth 100000 in
theorem tX3_dusk {l : Launch} {dC : Nat → ClassId} {dI : Nat → Nat → Nat} {cI : ClassId} {cC : ClassId} {ob : Nat} {q : Nat → Nat} {N : Nat} {K : KT} {p0 : Int32} {rr : Int32} {KK : KT} (hf : mX3_dusk N K p0 = some (rr, KK)) : Met l yX3_dusk wsX3_dusk rmX3_dusk (cPe (dC, dI) vwCl [(cI, .int), (cC, .char)] (mdL ob q) (mdW cI cC ob q K) [.ref ob, .int p0]) (cE (dC, dI) vwCl (mdL ob q) rr (mdW cI cC ob q KK)) 0 0 (aL (mdL ob q)) := by
  refine Met.ofW (cc := cX3_dusk) (maxL := 2) (ret := (some .int)) (by decide) rfl ?_
  intro p e s m args below meth c s₁ B hml hv
  obtain ⟨rfl, hP, hK, hD⟩ := hv
  have hx := B.exec
  have hb := B.bytes
  have hr := B.returns
  have hts := atoms_spec (ws := wsX3_dusk) B.pre
  have hown : s.vm.findClass RX3 = some m.cls := findClass_of_methodNamed B.named
  have hlocks := B.notSynchronized
  have hS : va_S (aL (mdL ob q)) s.heap s.heap [] := va_S.rf
  have hl := lv_entry ([.ref ob, .int p0]) (n := 2) (Nat.le_of_ble_eq_true rfl)
  rw [lg_entry_eq]
  generalize (lg_sl ([.ref ob, .int p0]) ++ List.replicate (2 - (lg_sl ([.ref ob, .int p0])).length) Slot.unset).toArray = ls at hl ⊢
  have hl : lv_has ls 2 [(0, .ref ob), (1, .int p0)] := hl
  have h := hf
  unfold mX3_dusk at h
  refine lv_aload_n hx hb dX3_dusk_0 rfl (lv_at hl 0 rfl) ?_
  obtain ⟨v1, K2, hv1, h⟩ := bdE_some h
  refine call_VEv (As := []) (rest := []) ⟨hx, hb, hml, hown, hts⟩ (tX3_tries (l := l) (dC := dC) (dI := dI) (cI := cI) (cC := cC) (ob := ob) (q := q) hv1) (cwV 0 hts gX3_dusk_X3_tries rfl rfl rfl (by decide +kernel) ⟨Nat.le_of_ble_eq_true rfl, Nat.le_of_ble_eq_true rfl⟩) hK hP hD hS (fun _ h9 => h9) 0 rfl rfl (by rfl) hl.1 rfl (Nat.le_of_ble_eq_true rfl) dX3_dusk_1 ⟨Nat.zero_le _, Nat.zero_le _⟩ (fun H locs hP hD _ hS => ?_)
  refine lv_aload_n hx hb dX3_dusk_4 rfl (lv_at hl 0 rfl) ?_
  refine lv_aload_n hx hb dX3_dusk_5 rfl (lv_at hl 0 rfl) ?_
  refine lv_iload_n hx hb dX3_dusk_6 rfl (lv_at hl 1 rfl) ?_
  obtain ⟨v3, K4, hv3, h⟩ := bdE_some h
  refine call_VE (As := [.int p0]) (rest := [.ref ob]) ⟨hx, hb, hml, hown, hts⟩ (tX3_dusks (l := l) (dC := dC) (dI := dI) (cI := cI) (cC := cC) (ob := ob) (q := q) hv3) (cwV 1 hts gX3_dusk_X3_dusks rfl rfl rfl (by decide +kernel) ⟨Nat.le_of_ble_eq_true rfl, Nat.le_of_ble_eq_true rfl⟩) hK hP hD hS (fun _ h9 => h9) 0 rfl rfl (by rfl) hl.1 rfl (Nat.le_of_ble_eq_true rfl) dX3_dusk_7 ⟨Nat.zero_le _, Nat.zero_le _⟩ (fun H locs hP hD _ hS => ?_)
  obtain ⟨v5, K6, hv5, h⟩ := bdE_some h
  refine call_VE (As := [.int v3]) (rest := []) ⟨hx, hb, hml, hown, hts⟩ (tX3_ends (l := l) (dC := dC) (dI := dI) (cI := cI) (cC := cC) (ob := ob) (q := q) hv5) (cwV 1 hts gX3_dusk_X3_ends rfl rfl rfl (by decide +kernel) ⟨Nat.le_of_ble_eq_true rfl, Nat.le_of_ble_eq_true rfl⟩) hK hP hD hS (fun _ h9 => h9) 0 rfl rfl (by rfl) hl.1 rfl (Nat.le_of_ble_eq_true rfl) dX3_dusk_10 ⟨Nat.zero_le _, Nat.zero_le _⟩ (fun H locs hP hD _ hS => ?_)
  exact W.iret hx hb hr (fun t ht _ => retE (w := mdW cI cC ob q) h hP hD hS ht) hS.2.2 dX3_dusk_13
def fX3_lacks_40 (N : Nat)  (K : KT) (y0 : Int32) : Option (Int32 × KT) := some (y0, K)
def mX3_lacks (N : Nat) (K : KT) (p0 : Int32) : Option (Int32 × KT) := bdP (mX3_isAwake N K p0) (fun v1 => (if v1 = 0 then bdE (mX3_refuses N K 1 p0) (fun v8 K9 => some (v8, K9)) else bdP (mX3_of N K p0 2) (fun v3 => (if v3 = 1 then fX3_lacks_40 N  K 0 else bdP (mX3_of N K p0 0) (fun v5 => bdE (mX3_refuses N K 2 v5) (fun v6 K7 => fX3_lacks_40 N  K7 v6))))))
def rmX3_lacks : Room := { frames := 3, cells := 0, slots := 0, locals := 83 }
set_option maxHeartbeats 4000000 in
set_option maxRecDepth 100000 in
theorem tX3_lacks {l : Launch} {dC : Nat → ClassId} {dI : Nat → Nat → Nat} {cI : ClassId} {cC : ClassId} {ob : Nat} {q : Nat → Nat} {N : Nat} {K : KT} {p0 : Int32} {rr : Int32} {KK : KT} (hf : mX3_lacks N K p0 = some (rr, KK)) : Met l yX3_lacks wsX3_lacks rmX3_lacks (cPe (dC, dI) vwCl [(cI, .int), (cC, .char)] (mdL ob q) (mdW cI cC ob q K) [.ref ob, .int p0]) (cE (dC, dI) vwCl (mdL ob q) rr (mdW cI cC ob q KK)) 0 0 (aL (mdL ob q)) := by
  refine Met.ofW (cc := cX3_lacks) (maxL := 2) (ret := (some .int)) (by decide) rfl ?_
  intro p e s m args below meth c s₁ B hml hv
  obtain ⟨rfl, hP, hK, hD⟩ := hv
  have hx := B.exec
  have hb := B.bytes
  have hr := B.returns
  have hts := atoms_spec (ws := wsX3_lacks) B.pre
  have hown : s.vm.findClass RX3 = some m.cls := findClass_of_methodNamed B.named
  have hlocks := B.notSynchronized
  have t_40 : ∀ {K : KT} {y0 : Int32} {H : Heap} {locs : List Loc} {ls : Array Slot} (h : fX3_lacks_40 N  K y0 = some (rr, KK)) (hl : lv_has ls 2 []) (hP : va_P (dC, dI) vwCl (mdW cI cC ob q K) H) (hD : va_D (aL (mdL ob q)) (mdW cI cC ob q K)) (hS : va_S (aL (mdL ob q)) s.heap H locs), W p l e (headSpec wsX3_lacks rmX3_lacks).room s m ([.ref ob, .int p0] : List Value).toArray below meth c H locs 0 0 (MQ below (cE (dC, dI) vwCl (mdL ob q) rr (mdW cI cC ob q KK)) ([.ref ob, .int p0] : List Value).toArray s 0 0 (aL (mdL ob q))) (F0 m 40 ls [.int y0]) := by
    intro  K y0 H locs ls h hl hP hD hS
    unfold fX3_lacks_40 at h
    exact W.iret hx hb hr (fun t ht _ => retE (w := mdW cI cC ob q) h hP hD hS ht) hS.2.2 dX3_lacks_40
  have hS : va_S (aL (mdL ob q)) s.heap s.heap [] := va_S.rf
  have hl := lv_entry ([.ref ob, .int p0]) (n := 2) (Nat.le_of_ble_eq_true rfl)
  rw [lg_entry_eq]
  generalize (lg_sl ([.ref ob, .int p0]) ++ List.replicate (2 - (lg_sl ([.ref ob, .int p0])).length) Slot.unset).toArray = ls at hl ⊢
  have hl : lv_has ls 2 [(0, .ref ob), (1, .int p0)] := hl
  have h := hf
  unfold mX3_lacks at h
  refine lv_aload_n hx hb dX3_lacks_0 rfl (lv_at hl 0 rfl) ?_
  refine lv_iload_n hx hb dX3_lacks_1 rfl (lv_at hl 1 rfl) ?_
  obtain ⟨v1, hv1, h⟩ := bdP_some h
  refine call_VP (As := [.int p0]) (rest := []) ⟨hx, hb, hml, hown, hts⟩ (tX3_isAwake (l := l) (dC := dC) (dI := dI) (cI := cI) (cC := cC) (ob := ob) (q := q) hv1) (cwV 1 hts gX3_lacks_X3_isAwake rfl rfl rfl (by decide +kernel) ⟨Nat.le_of_ble_eq_true rfl, Nat.le_of_ble_eq_true rfl⟩) hK hP 0 rfl rfl (by rfl) hl.1 rfl (Nat.le_of_ble_eq_true rfl) dX3_lacks_2 ⟨Nat.zero_le _, Nat.zero_le _⟩ ?_
  refine lv_if_ne (tgt := 15) hx hb dX3_lacks_5 (by decide) (fun c2 => ?_) (fun c2 => ?_)
  · replace h := if_n c2 h
    refine lv_aload_n hx hb dX3_lacks_15 rfl (lv_at hl 0 rfl) ?_
    refine lv_iload_n hx hb dX3_lacks_16 rfl (lv_at hl 1 rfl) ?_
    refine lv_iconst (v := 2) hx hb dX3_lacks_17 (by decide) ?_
    obtain ⟨v3, hv3, h⟩ := bdP_some h
    refine call_VP (As := [.int p0, .int 2]) (rest := []) ⟨hx, hb, hml, hown, hts⟩ (tX3_of (l := l) (dC := dC) (dI := dI) (cI := cI) (cC := cC) (ob := ob) (q := q) hv3) (cwV 2 hts gX3_lacks_X3_of rfl rfl rfl (by decide +kernel) ⟨Nat.le_of_ble_eq_true rfl, Nat.le_of_ble_eq_true rfl⟩) hK hP 0 rfl rfl (by rfl) hl.1 rfl (Nat.le_of_ble_eq_true rfl) dX3_lacks_18 ⟨Nat.zero_le _, Nat.zero_le _⟩ ?_
    refine lv_iconst (v := 1) hx hb dX3_lacks_21 (by decide) ?_
    refine lv_icmp_ne (tgt := 29) hx hb dX3_lacks_22 (by decide) (fun c4 => ?_) (fun c4 => ?_)
    · replace h := if_n c4 h
      refine lv_aload_n hx hb dX3_lacks_29 rfl (lv_at hl 0 rfl) ?_
      refine lv_iconst (v := 2) hx hb dX3_lacks_30 (by decide) ?_
      refine lv_aload_n hx hb dX3_lacks_31 rfl (lv_at hl 0 rfl) ?_
      refine lv_iload_n hx hb dX3_lacks_32 rfl (lv_at hl 1 rfl) ?_
      refine lv_iconst (v := 0) hx hb dX3_lacks_33 (by decide) ?_
      obtain ⟨v5, hv5, h⟩ := bdP_some h
      refine call_VP (As := [.int p0, .int 0]) (rest := [.int 2, .ref ob]) ⟨hx, hb, hml, hown, hts⟩ (tX3_of (l := l) (dC := dC) (dI := dI) (cI := cI) (cC := cC) (ob := ob) (q := q) hv5) (cwV 2 hts gX3_lacks_X3_of rfl rfl rfl (by decide +kernel) ⟨Nat.le_of_ble_eq_true rfl, Nat.le_of_ble_eq_true rfl⟩) hK hP 0 rfl rfl (by rfl) hl.1 rfl (Nat.le_of_ble_eq_true rfl) dX3_lacks_34 ⟨Nat.zero_le _, Nat.zero_le _⟩ ?_
      obtain ⟨v6, K7, hv6, h⟩ := bdE_some h
      refine call_VE (As := [.int 2, .int v5]) (rest := []) ⟨hx, hb, hml, hown, hts⟩ (tX3_refuses (l := l) (dC := dC) (dI := dI) (cI := cI) (cC := cC) (ob := ob) (q := q) hv6) (cwV 2 hts gX3_lacks_X3_refuses rfl rfl rfl (by decide +kernel) ⟨Nat.le_of_ble_eq_true rfl, Nat.le_of_ble_eq_true rfl⟩) hK hP hD hS (fun _ h9 => h9) 0 rfl rfl (by rfl) hl.1 rfl (Nat.le_of_ble_eq_true rfl) dX3_lacks_37 ⟨Nat.zero_le _, Nat.zero_le _⟩ (fun H locs hP hD _ hS => ?_)
      exact t_40  h (lv_sub hl [] rfl) hP hD hS
    · replace h := if_p c4 h
      refine lv_iconst (v := 0) hx hb dX3_lacks_25 (by decide) ?_
      refine lv_goto (tgt := 40) hx hb dX3_lacks_26 (by decide) ?_
      exact t_40  h (lv_sub hl [] rfl) hP hD hS
  · replace h := if_p c2 h
    refine lv_aload_n hx hb dX3_lacks_8 rfl (lv_at hl 0 rfl) ?_
    refine lv_iconst (v := 1) hx hb dX3_lacks_9 (by decide) ?_
    refine lv_iload_n hx hb dX3_lacks_10 rfl (lv_at hl 1 rfl) ?_
    obtain ⟨v8, K9, hv8, h⟩ := bdE_some h
    refine call_VE (As := [.int 1, .int p0]) (rest := []) ⟨hx, hb, hml, hown, hts⟩ (tX3_refuses (l := l) (dC := dC) (dI := dI) (cI := cI) (cC := cC) (ob := ob) (q := q) hv8) (cwV 2 hts gX3_lacks_X3_refuses rfl rfl rfl (by decide +kernel) ⟨Nat.le_of_ble_eq_true rfl, Nat.le_of_ble_eq_true rfl⟩) hK hP hD hS (fun _ h9 => h9) 0 rfl rfl (by rfl) hl.1 rfl (Nat.le_of_ble_eq_true rfl) dX3_lacks_11 ⟨Nat.zero_le _, Nat.zero_le _⟩ (fun H locs hP hD _ hS => ?_)
    exact W.iret hx hb hr (fun t ht _ => retE (w := mdW cI cC ob q) h hP hD hS ht) hS.2.2 dX3_lacks_14
def fX3_writes_16 (N : Nat)  (K : KT)  : Option (Int32 × KT) := some ((-1), K)
def mX3_writes (N : Nat) (K : KT) (p0 : Int32) (p1 : Int32) : Option (Int32 × KT) := bdP (mX3_isCamp N p0) (fun v1 => (if v1 = 0 then fX3_writes_16 N  K  else bdP (mX3_in N p1 0 3) (fun v3 => (if v3 = 0 then fX3_writes_16 N  K  else bdE (mX3_lacks N K p0) (fun v5 K6 => (if 0 ≤ v5 then bdP (mX3_of N K6 p0 6) (fun v8 => (if v8 = 12 then bdE (mX3_refuses N K6 3 12) (fun v21 K22 => some (v21, K22)) else bdP (mX3_of N K6 p0 0) (fun v10 => bdE (mX3_sets N K6 p0 (7 + (2 * v8)) v10) (fun v11 K12 => bdE (mX3_sets N K12 p0 ((7 + (2 * v8)) + 1) p1) (fun v13 K14 => bdE (mX3_sets N K14 p0 6 (v8 + 1)) (fun v15 K16 => rdA (K16 0) 186 2 (fun v17 => wrA K16 0 186 2 (v17 + 1) (fun K19 => some (v8 + 1, K19))))))))) else some ((-3), K6)))))))
def rmX3_writes : Room := { frames := 4, cells := 0, slots := 0, locals := 104 }
set_option maxHeartbeats 4000000 in
set_option maxRecDepth 100000 in
theorem tX3_writes {l : Launch} {dC : Nat → ClassId} {dI : Nat → Nat → Nat} {cI : ClassId} {cC : ClassId} {ob : Nat} {q : Nat → Nat} {N : Nat} {K : KT} {p0 : Int32} {p1 : Int32} {rr : Int32} {KK : KT} (hf : mX3_writes N K p0 p1 = some (rr, KK)) : Met l yX3_writes wsX3_writes rmX3_writes (cPe (dC, dI) vwCl [(cI, .int), (cC, .char)] (mdL ob q) (mdW cI cC ob q K) [.ref ob, .int p0, .int p1]) (cE (dC, dI) vwCl (mdL ob q) rr (mdW cI cC ob q KK)) 0 0 (aL (mdL ob q)) := by
  refine Met.ofW (cc := cX3_writes) (maxL := 4) (ret := (some .int)) (by decide) rfl ?_
  intro p e s m args below meth c s₁ B hml hv
  obtain ⟨rfl, hP, hK, hD⟩ := hv
  have hx := B.exec
  have hb := B.bytes
  have hr := B.returns
  have hts := atoms_spec (ws := wsX3_writes) B.pre
  have hown : s.vm.findClass RX3 = some m.cls := findClass_of_methodNamed B.named
  have hlocks := B.notSynchronized
  have hwX3 : ∀ w ∈ u_ws RX3 TX3 17, w ∈ wsX3_writes := by decide +kernel
  have hf_9 := hts (.fieldLink RX3 9 "CaravanLogsModel" "now" "[I") (by decide +kernel)
  have t_16 : ∀ {K : KT}  {H : Heap} {locs : List Loc} {ls : Array Slot} (h : fX3_writes_16 N  K  = some (rr, KK)) (hl : lv_has ls 4 []) (hP : va_P (dC, dI) vwCl (mdW cI cC ob q K) H) (hD : va_D (aL (mdL ob q)) (mdW cI cC ob q K)) (hS : va_S (aL (mdL ob q)) s.heap H locs), W p l e (headSpec wsX3_writes rmX3_writes).room s m ([.ref ob, .int p0, .int p1] : List Value).toArray below meth c H locs 0 0 (MQ below (cE (dC, dI) vwCl (mdL ob q) rr (mdW cI cC ob q KK)) ([.ref ob, .int p0, .int p1] : List Value).toArray s 0 0 (aL (mdL ob q))) (F0 m 16 ls []) := by
    intro  K H locs ls h hl hP hD hS
    unfold fX3_writes_16 at h
    refine lv_iconst (v := (-1)) hx hb dX3_writes_16 (by decide) ?_
    exact W.iret hx hb hr (fun t ht _ => retE (w := mdW cI cC ob q) h hP hD hS ht) hS.2.2 dX3_writes_17
  have hS : va_S (aL (mdL ob q)) s.heap s.heap [] := va_S.rf
  have hl := lv_entry ([.ref ob, .int p0, .int p1]) (n := 4) (Nat.le_of_ble_eq_true rfl)
  rw [lg_entry_eq]
  generalize (lg_sl ([.ref ob, .int p0, .int p1]) ++ List.replicate (4 - (lg_sl ([.ref ob, .int p0, .int p1])).length) Slot.unset).toArray = ls at hl ⊢
  have hl : lv_has ls 4 [(0, .ref ob), (1, .int p0), (2, .int p1)] := hl
  have h := hf
  unfold mX3_writes at h
  refine lv_iload_n hx hb dX3_writes_0 rfl (lv_at hl 1 rfl) ?_
  obtain ⟨v1, hv1, h⟩ := bdP_some h
  refine call_SP (As := [.int p0]) (rest := []) ⟨hx, hb, hml, hown, hts⟩ (tX3_isCamp (l := l) hv1) (va_cwS 1 hts gX3_writes_X3_isCamp rfl rfl rfl (by decide +kernel) ⟨Nat.le_of_ble_eq_true rfl, Nat.le_of_ble_eq_true rfl⟩) (by rfl) hl.1 rfl (Nat.le_of_ble_eq_true rfl) dX3_writes_1 ⟨Nat.zero_le _, Nat.zero_le _⟩ ?_
  refine lv_if_eq (tgt := 16) hx hb dX3_writes_4 (by decide) (fun c2 => ?_) (fun c2 => ?_)
  · replace h := if_p c2 h
    exact t_16  h (lv_sub hl [] rfl) hP hD hS
  · replace h := if_n c2 h
    refine lv_iload_n hx hb dX3_writes_7 rfl (lv_at hl 2 rfl) ?_
    refine lv_iconst (v := 0) hx hb dX3_writes_8 (by decide) ?_
    refine lv_iconst (v := 3) hx hb dX3_writes_9 (by decide) ?_
    obtain ⟨v3, hv3, h⟩ := bdP_some h
    refine call_SP (As := [.int p1, .int 0, .int 3]) (rest := []) ⟨hx, hb, hml, hown, hts⟩ (tX3_in (l := l) hv3) (va_cwS 3 hts gX3_writes_X3_in rfl rfl rfl (by decide +kernel) ⟨Nat.le_of_ble_eq_true rfl, Nat.le_of_ble_eq_true rfl⟩) (by rfl) hl.1 rfl (Nat.le_of_ble_eq_true rfl) dX3_writes_10 ⟨Nat.zero_le _, Nat.zero_le _⟩ ?_
    refine lv_if_ne (tgt := 18) hx hb dX3_writes_13 (by decide) (fun c4 => ?_) (fun c4 => ?_)
    · replace h := if_n c4 h
      refine lv_aload_n hx hb dX3_writes_18 rfl (lv_at hl 0 rfl) ?_
      refine lv_iload_n hx hb dX3_writes_19 rfl (lv_at hl 1 rfl) ?_
      obtain ⟨v5, K6, hv5, h⟩ := bdE_some h
      refine call_VE (As := [.int p0]) (rest := []) ⟨hx, hb, hml, hown, hts⟩ (tX3_lacks (l := l) (dC := dC) (dI := dI) (cI := cI) (cC := cC) (ob := ob) (q := q) hv5) (cwV 1 hts gX3_writes_X3_lacks rfl rfl rfl (by decide +kernel) ⟨Nat.le_of_ble_eq_true rfl, Nat.le_of_ble_eq_true rfl⟩) hK hP hD hS (fun _ h9 => h9) 0 rfl rfl (by rfl) hl.1 rfl (Nat.le_of_ble_eq_true rfl) dX3_writes_20 ⟨Nat.zero_le _, Nat.zero_le _⟩ (fun H locs hP hD _ hS => ?_)
      refine lv_if_ge (tgt := 29) hx hb dX3_writes_23 (by decide) (fun c7 => ?_) (fun c7 => ?_)
      · replace h := if_p c7 h
        refine lv_aload_n hx hb dX3_writes_29 rfl (lv_at hl 0 rfl) ?_
        refine lv_iload_n hx hb dX3_writes_30 rfl (lv_at hl 1 rfl) ?_
        refine lv_bipush (v := 6) hx hb dX3_writes_31 (by decide) ?_
        obtain ⟨v8, hv8, h⟩ := bdP_some h
        refine call_VP (As := [.int p0, .int 6]) (rest := []) ⟨hx, hb, hml, hown, hts⟩ (tX3_of (l := l) (dC := dC) (dI := dI) (cI := cI) (cC := cC) (ob := ob) (q := q) hv8) (cwV 2 hts gX3_writes_X3_of rfl rfl rfl (by decide +kernel) ⟨Nat.le_of_ble_eq_true rfl, Nat.le_of_ble_eq_true rfl⟩) hK hP 0 rfl rfl (by rfl) hl.1 rfl (Nat.le_of_ble_eq_true rfl) dX3_writes_33 ⟨Nat.zero_le _, Nat.zero_le _⟩ ?_
        refine lv_istore_n (lv' := [(3, .int v8), (0, .ref ob), (1, .int p0), (2, .int p1)]) hx hb dX3_writes_36 rfl hl (by decide) rfl (fun ls hl => ?_)
        refine lv_iload_n hx hb dX3_writes_37 rfl (lv_at hl 0 rfl) ?_
        refine lv_bipush (v := 12) hx hb dX3_writes_38 (by decide) ?_
        refine lv_icmp_ne (tgt := 51) hx hb dX3_writes_40 (by decide) (fun c9 => ?_) (fun c9 => ?_)
        · replace h := if_n c9 h
          refine lv_aload_n hx hb dX3_writes_51 rfl (lv_at hl 1 rfl) ?_
          refine lv_iload_n hx hb dX3_writes_52 rfl (lv_at hl 2 rfl) ?_
          refine lv_bipush (v := 7) hx hb dX3_writes_53 (by decide) ?_
          refine lv_iconst (v := 2) hx hb dX3_writes_55 (by decide) ?_
          refine lv_iload_n hx hb dX3_writes_56 rfl (lv_at hl 0 rfl) ?_
          refine lv_imul hx hb dX3_writes_57 ?_
          refine lv_iadd hx hb dX3_writes_58 ?_
          refine lv_aload_n hx hb dX3_writes_59 rfl (lv_at hl 1 rfl) ?_
          refine lv_iload_n hx hb dX3_writes_60 rfl (lv_at hl 2 rfl) ?_
          refine lv_iconst (v := 0) hx hb dX3_writes_61 (by decide) ?_
          obtain ⟨v10, hv10, h⟩ := bdP_some h
          refine call_VP (As := [.int p0, .int 0]) (rest := [.int (7 + (2 * v8)), .int p0, .ref ob]) ⟨hx, hb, hml, hown, hts⟩ (tX3_of (l := l) (dC := dC) (dI := dI) (cI := cI) (cC := cC) (ob := ob) (q := q) hv10) (cwV 2 hts gX3_writes_X3_of rfl rfl rfl (by decide +kernel) ⟨Nat.le_of_ble_eq_true rfl, Nat.le_of_ble_eq_true rfl⟩) hK hP 0 rfl rfl (by rfl) hl.1 rfl (Nat.le_of_ble_eq_true rfl) dX3_writes_62 ⟨Nat.zero_le _, Nat.zero_le _⟩ ?_
          obtain ⟨v11, K12, hv11, h⟩ := bdE_some h
          refine call_VEv (As := [.int p0, .int (7 + (2 * v8)), .int v10]) (rest := []) ⟨hx, hb, hml, hown, hts⟩ (tX3_sets (l := l) (dC := dC) (dI := dI) (cI := cI) (cC := cC) (ob := ob) (q := q) hv11) (cwV 3 hts gX3_writes_X3_sets rfl rfl rfl (by decide +kernel) ⟨Nat.le_of_ble_eq_true rfl, Nat.le_of_ble_eq_true rfl⟩) hK hP hD hS (fun _ h9 => h9) 0 rfl rfl (by rfl) hl.1 rfl (Nat.le_of_ble_eq_true rfl) dX3_writes_65 ⟨Nat.zero_le _, Nat.zero_le _⟩ (fun H locs hP hD _ hS => ?_)
          refine lv_aload_n hx hb dX3_writes_68 rfl (lv_at hl 1 rfl) ?_
          refine lv_iload_n hx hb dX3_writes_69 rfl (lv_at hl 2 rfl) ?_
          refine lv_bipush (v := 7) hx hb dX3_writes_70 (by decide) ?_
          refine lv_iconst (v := 2) hx hb dX3_writes_72 (by decide) ?_
          refine lv_iload_n hx hb dX3_writes_73 rfl (lv_at hl 0 rfl) ?_
          refine lv_imul hx hb dX3_writes_74 ?_
          refine lv_iadd hx hb dX3_writes_75 ?_
          refine lv_iconst (v := 1) hx hb dX3_writes_76 (by decide) ?_
          refine lv_iadd hx hb dX3_writes_77 ?_
          refine lv_iload_n hx hb dX3_writes_78 rfl (lv_at hl 3 rfl) ?_
          obtain ⟨v13, K14, hv13, h⟩ := bdE_some h
          refine call_VEv (As := [.int p0, .int ((7 + (2 * v8)) + 1), .int p1]) (rest := []) ⟨hx, hb, hml, hown, hts⟩ (tX3_sets (l := l) (dC := dC) (dI := dI) (cI := cI) (cC := cC) (ob := ob) (q := q) hv13) (cwV 3 hts gX3_writes_X3_sets rfl rfl rfl (by decide +kernel) ⟨Nat.le_of_ble_eq_true rfl, Nat.le_of_ble_eq_true rfl⟩) hK hP hD hS (fun _ h9 => h9) 0 rfl rfl (by rfl) hl.1 rfl (Nat.le_of_ble_eq_true rfl) dX3_writes_79 ⟨Nat.zero_le _, Nat.zero_le _⟩ (fun H locs hP hD _ hS => ?_)
          refine lv_aload_n hx hb dX3_writes_82 rfl (lv_at hl 1 rfl) ?_
          refine lv_iload_n hx hb dX3_writes_83 rfl (lv_at hl 2 rfl) ?_
          refine lv_bipush (v := 6) hx hb dX3_writes_84 (by decide) ?_
          refine lv_iload_n hx hb dX3_writes_86 rfl (lv_at hl 0 rfl) ?_
          refine lv_iconst (v := 1) hx hb dX3_writes_87 (by decide) ?_
          refine lv_iadd hx hb dX3_writes_88 ?_
          obtain ⟨v15, K16, hv15, h⟩ := bdE_some h
          refine call_VEv (As := [.int p0, .int 6, .int (v8 + 1)]) (rest := []) ⟨hx, hb, hml, hown, hts⟩ (tX3_sets (l := l) (dC := dC) (dI := dI) (cI := cI) (cC := cC) (ob := ob) (q := q) hv15) (cwV 3 hts gX3_writes_X3_sets rfl rfl rfl (by decide +kernel) ⟨Nat.le_of_ble_eq_true rfl, Nat.le_of_ble_eq_true rfl⟩) hK hP hD hS (fun _ h9 => h9) 0 rfl rfl (by rfl) hl.1 rfl (Nat.le_of_ble_eq_true rfl) dX3_writes_89 ⟨Nat.zero_le _, Nat.zero_le _⟩ (fun H locs hP hD _ hS => ?_)
          refine lv_aload_n hx hb dX3_writes_92 rfl (lv_at hl 1 rfl) ?_
          refine va_get (D := (dC, dI)) (ci := 4) (v := .ref (q 0)) (C := RX3) (T := TX3) (N := 17) hx hb hts hwX3 hown hK hP 0 rfl rfl 0 (by decide) hf_9 (fun _ h9 => h9) rfl dX3_writes_93 ?_
          refine lv_iconst (v := 2) hx hb dX3_writes_96 (by decide) ?_
          refine lv_dup2_11 hx hb dX3_writes_97 rfl rfl ?_
          obtain ⟨hi18, v17, ev17, h⟩ := rdA_some h
          refine k_iald hx hb hK hP 1 0 rfl rfl hi18 ev17 dX3_writes_98 ?_
          refine lv_iconst (v := 1) hx hb dX3_writes_99 (by decide) ?_
          refine lv_iadd hx hb dX3_writes_100 ?_
          obtain ⟨hi20, K19, eK19, h⟩ := wrA_some h
          refine va_iast hx hb hK hP hD hS 1 0 rfl rfl hi20 dX3_writes_101 (fun H locs hP hD hS => ?_)
          have hP : va_P (dC, dI) vwCl (mdW cI cC ob q K19) H := by rw [eK19]; exact hP
          have hD : va_D (aL (mdL ob q)) (mdW cI cC ob q K19) := by rw [eK19]; exact hD
          refine lv_iload_n hx hb dX3_writes_102 rfl (lv_at hl 0 rfl) ?_
          refine lv_iconst (v := 1) hx hb dX3_writes_103 (by decide) ?_
          refine lv_iadd hx hb dX3_writes_104 ?_
          exact W.iret hx hb hr (fun t ht _ => retE (w := mdW cI cC ob q) h hP hD hS ht) hS.2.2 dX3_writes_105
        · replace h := if_p c9 h
          refine lv_aload_n hx hb dX3_writes_43 rfl (lv_at hl 1 rfl) ?_
          refine lv_iconst (v := 3) hx hb dX3_writes_44 (by decide) ?_
          refine lv_bipush (v := 12) hx hb dX3_writes_45 (by decide) ?_
          obtain ⟨v21, K22, hv21, h⟩ := bdE_some h
          refine call_VE (As := [.int 3, .int 12]) (rest := []) ⟨hx, hb, hml, hown, hts⟩ (tX3_refuses (l := l) (dC := dC) (dI := dI) (cI := cI) (cC := cC) (ob := ob) (q := q) hv21) (cwV 2 hts gX3_writes_X3_refuses rfl rfl rfl (by decide +kernel) ⟨Nat.le_of_ble_eq_true rfl, Nat.le_of_ble_eq_true rfl⟩) hK hP hD hS (fun _ h9 => h9) 0 rfl rfl (by rfl) hl.1 rfl (Nat.le_of_ble_eq_true rfl) dX3_writes_47 ⟨Nat.zero_le _, Nat.zero_le _⟩ (fun H locs hP hD _ hS => ?_)
          exact W.iret hx hb hr (fun t ht _ => retE (w := mdW cI cC ob q) h hP hD hS ht) hS.2.2 dX3_writes_50
      · replace h := if_n c7 h
        refine lv_bipush (v := (-3)) hx hb dX3_writes_26 (by decide) ?_
        exact W.iret hx hb hr (fun t ht _ => retE (w := mdW cI cC ob q) h hP hD hS ht) hS.2.2 dX3_writes_28
    · replace h := if_p c4 h
      exact t_16  h (lv_sub hl [] rfl) hP hD hS
def mX3_write (N : Nat) (K : KT) (p0 : Int32) (p1 : Int32) : Option (Int32 × KT) := bdE (mX3_tries N K ) (fun v1 K2 => bdE (mX3_writes N K2 p0 p1) (fun v3 K4 => bdE (mX3_ends N K4 v3) (fun v5 K6 => some (v5, K6))))
def rmX3_write : Room := { frames := 5, cells := 0, slots := 0, locals := 127 }
set_option maxHeartbeats 4000000 in
set_option maxRecDepth 100000 in
theorem tX3_write {l : Launch} {dC : Nat → ClassId} {dI : Nat → Nat → Nat} {cI : ClassId} {cC : ClassId} {ob : Nat} {q : Nat → Nat} {N : Nat} {K : KT} {p0 : Int32} {p1 : Int32} {rr : Int32} {KK : KT} (hf : mX3_write N K p0 p1 = some (rr, KK)) : Met l yX3_write wsX3_write rmX3_write (cPe (dC, dI) vwCl [(cI, .int), (cC, .char)] (mdL ob q) (mdW cI cC ob q K) [.ref ob, .int p0, .int p1]) (cE (dC, dI) vwCl (mdL ob q) rr (mdW cI cC ob q KK)) 0 0 (aL (mdL ob q)) := by
  refine Met.ofW (cc := cX3_write) (maxL := 3) (ret := (some .int)) (by decide) rfl ?_
  intro p e s m args below meth c s₁ B hml hv
  obtain ⟨rfl, hP, hK, hD⟩ := hv
  have hx := B.exec
  have hb := B.bytes
  have hr := B.returns
  have hts := atoms_spec (ws := wsX3_write) B.pre
  have hown : s.vm.findClass RX3 = some m.cls := findClass_of_methodNamed B.named
  have hlocks := B.notSynchronized
  have hS : va_S (aL (mdL ob q)) s.heap s.heap [] := va_S.rf
  have hl := lv_entry ([.ref ob, .int p0, .int p1]) (n := 3) (Nat.le_of_ble_eq_true rfl)
  rw [lg_entry_eq]
  generalize (lg_sl ([.ref ob, .int p0, .int p1]) ++ List.replicate (3 - (lg_sl ([.ref ob, .int p0, .int p1])).length) Slot.unset).toArray = ls at hl ⊢
  have hl : lv_has ls 3 [(0, .ref ob), (1, .int p0), (2, .int p1)] := hl
  have h := hf
  unfold mX3_write at h
  refine lv_aload_n hx hb dX3_write_0 rfl (lv_at hl 0 rfl) ?_
  obtain ⟨v1, K2, hv1, h⟩ := bdE_some h
  refine call_VEv (As := []) (rest := []) ⟨hx, hb, hml, hown, hts⟩ (tX3_tries (l := l) (dC := dC) (dI := dI) (cI := cI) (cC := cC) (ob := ob) (q := q) hv1) (cwV 0 hts gX3_write_X3_tries rfl rfl rfl (by decide +kernel) ⟨Nat.le_of_ble_eq_true rfl, Nat.le_of_ble_eq_true rfl⟩) hK hP hD hS (fun _ h9 => h9) 0 rfl rfl (by rfl) hl.1 rfl (Nat.le_of_ble_eq_true rfl) dX3_write_1 ⟨Nat.zero_le _, Nat.zero_le _⟩ (fun H locs hP hD _ hS => ?_)
  refine lv_aload_n hx hb dX3_write_4 rfl (lv_at hl 0 rfl) ?_
  refine lv_aload_n hx hb dX3_write_5 rfl (lv_at hl 0 rfl) ?_
  refine lv_iload_n hx hb dX3_write_6 rfl (lv_at hl 1 rfl) ?_
  refine lv_iload_n hx hb dX3_write_7 rfl (lv_at hl 2 rfl) ?_
  obtain ⟨v3, K4, hv3, h⟩ := bdE_some h
  refine call_VE (As := [.int p0, .int p1]) (rest := [.ref ob]) ⟨hx, hb, hml, hown, hts⟩ (tX3_writes (l := l) (dC := dC) (dI := dI) (cI := cI) (cC := cC) (ob := ob) (q := q) hv3) (cwV 2 hts gX3_write_X3_writes rfl rfl rfl (by decide +kernel) ⟨Nat.le_of_ble_eq_true rfl, Nat.le_of_ble_eq_true rfl⟩) hK hP hD hS (fun _ h9 => h9) 0 rfl rfl (by rfl) hl.1 rfl (Nat.le_of_ble_eq_true rfl) dX3_write_8 ⟨Nat.zero_le _, Nat.zero_le _⟩ (fun H locs hP hD _ hS => ?_)
  obtain ⟨v5, K6, hv5, h⟩ := bdE_some h
  refine call_VE (As := [.int v3]) (rest := []) ⟨hx, hb, hml, hown, hts⟩ (tX3_ends (l := l) (dC := dC) (dI := dI) (cI := cI) (cC := cC) (ob := ob) (q := q) hv5) (cwV 1 hts gX3_write_X3_ends rfl rfl rfl (by decide +kernel) ⟨Nat.le_of_ble_eq_true rfl, Nat.le_of_ble_eq_true rfl⟩) hK hP hD hS (fun _ h9 => h9) 0 rfl rfl (by rfl) hl.1 rfl (Nat.le_of_ble_eq_true rfl) dX3_write_11 ⟨Nat.zero_le _, Nat.zero_le _⟩ (fun H locs hP hD _ hS => ?_)
  exact W.iret hx hb hr (fun t ht _ => retE (w := mdW cI cC ob q) h hP hD hS ht) hS.2.2 dX3_write_14
def fX3_copies_64 (N : Nat)  : Nat → KT → Int32 → Int32 → Int32 → Option (Int32 × KT)
  | 0, _, _, _, _ => none
  | n + 1, K, x1, x2, x4 => bdP (mX3_of N K x1 6) (fun v1 => (if v1 ≤ x4 then some (0, K) else bdP (mX3_page N K x1 x4 0) (fun v3 => bdE (mX3_sets N K x2 (7 + (2 * x4)) v3) (fun v4 K5 => bdP (mX3_page N K5 x1 x4 1) (fun v6 => bdE (mX3_sets N K5 x2 ((7 + (2 * x4)) + 1) v6) (fun v7 K8 => bdE (mX3_sets N K8 x2 6 (x4 + 1)) (fun v9 K10 => (fX3_copies_64 N  n) K10 x1 x2 (x4 + 1))))))))
def fX3_copies_55 (N : Nat)  (K : KT) (x1 : Int32) (x2 : Int32) : Option (Int32 × KT) := bdP (mX3_of N K x2 6) (fun v11 => fX3_copies_64 N  N K x1 x2 v11)
def mX3_copies (N : Nat) (K : KT) (p0 : Int32) (p1 : Int32) : Option (Int32 × KT) := bdP (mX3_alike N K p0 p1) (fun v12 => bdP (mX3_of N K p1 6) (fun v13 => (if v13 ≤ v12 then fX3_copies_55 N  K p0 p1 else bdP (mX3_of N K p0 6) (fun v15 => (if v15 ≤ v12 then fX3_copies_55 N  K p0 p1 else rdA (K 0) 186 3 (fun v17 => bdP (mX3_of N K p1 6) (fun v19 => wrA K 0 186 3 (v17 + (v19 - v12)) (fun K20 => bdE (mX3_sets N K20 p1 6 v12) (fun v22 K23 => fX3_copies_55 N  K23 p0 p1)))))))))
def rmX3_copies : Room := { frames := 5, cells := 0, slots := 0, locals := 131 }
set_option maxHeartbeats 4000000 in
set_option maxRecDepth 100000 in
theorem tX3_copies {l : Launch} {dC : Nat → ClassId} {dI : Nat → Nat → Nat} {cI : ClassId} {cC : ClassId} {ob : Nat} {q : Nat → Nat} {N : Nat} {K : KT} {p0 : Int32} {p1 : Int32} {rr : Int32} {KK : KT} (hf : mX3_copies N K p0 p1 = some (rr, KK)) : Met l yX3_copies wsX3_copies rmX3_copies (cPe (dC, dI) vwCl [(cI, .int), (cC, .char)] (mdL ob q) (mdW cI cC ob q K) [.ref ob, .int p0, .int p1]) (cEv (dC, dI) vwCl (mdL ob q) (mdW cI cC ob q KK)) 0 0 (aL (mdL ob q)) := by
  refine Met.ofW (cc := cX3_copies) (maxL := 5) (ret := none) (by decide) rfl ?_
  intro p e s m args below meth c s₁ B hml hv
  obtain ⟨rfl, hP, hK, hD⟩ := hv
  have hx := B.exec
  have hb := B.bytes
  have hr := B.returns
  have hts := atoms_spec (ws := wsX3_copies) B.pre
  have hown : s.vm.findClass RX3 = some m.cls := findClass_of_methodNamed B.named
  have hlocks := B.notSynchronized
  have hwX3 : ∀ w ∈ u_ws RX3 TX3 17, w ∈ wsX3_copies := by decide +kernel
  have hf_9 := hts (.fieldLink RX3 9 "CaravanLogsModel" "now" "[I") (by decide +kernel)
  have t_64 : ∀ {n : Nat}, ∀ {K : KT} {x1 : Int32} {x2 : Int32} {x4 : Int32} {H : Heap} {locs : List Loc} {ls : Array Slot} (h : fX3_copies_64 N  n K x1 x2 x4 = some (rr, KK)) (hl : lv_has ls 5 [(0, .ref ob), (1, .int x1), (2, .int x2), (4, .int x4)]) (hP : va_P (dC, dI) vwCl (mdW cI cC ob q K) H) (hD : va_D (aL (mdL ob q)) (mdW cI cC ob q K)) (hS : va_S (aL (mdL ob q)) s.heap H locs), W p l e (headSpec wsX3_copies rmX3_copies).room s m ([.ref ob, .int p0, .int p1] : List Value).toArray below meth c H locs 0 0 (MQ below (cEv (dC, dI) vwCl (mdL ob q) (mdW cI cC ob q KK)) ([.ref ob, .int p0, .int p1] : List Value).toArray s 0 0 (aL (mdL ob q))) (F0 m 64 ls []) := by
    intro  n
    induction n with
    | zero =>
      intro K x1 x2 x4 H locs ls h hl hP hD hS
      unfold fX3_copies_64 at h
      cases h
    | succ n ih =>
      intro K x1 x2 x4 H locs ls h hl hP hD hS
      unfold fX3_copies_64 at h
      refine lv_iload hx hb dX3_copies_64 (lv_at hl 3 rfl) ?_
      refine lv_aload_n hx hb dX3_copies_66 rfl (lv_at hl 0 rfl) ?_
      refine lv_iload_n hx hb dX3_copies_67 rfl (lv_at hl 1 rfl) ?_
      refine lv_bipush (v := 6) hx hb dX3_copies_68 (by decide) ?_
      obtain ⟨v1, hv1, h⟩ := bdP_some h
      refine call_VP (As := [.int x1, .int 6]) (rest := [.int x4]) ⟨hx, hb, hml, hown, hts⟩ (tX3_of (l := l) (dC := dC) (dI := dI) (cI := cI) (cC := cC) (ob := ob) (q := q) hv1) (cwV 2 hts gX3_copies_X3_of rfl rfl rfl (by decide +kernel) ⟨Nat.le_of_ble_eq_true rfl, Nat.le_of_ble_eq_true rfl⟩) hK hP 0 rfl rfl (by rfl) hl.1 rfl (Nat.le_of_ble_eq_true rfl) dX3_copies_70 ⟨Nat.zero_le _, Nat.zero_le _⟩ ?_
      refine lv_icmp_ge (tgt := 135) hx hb dX3_copies_73 (by decide) (fun c2 => ?_) (fun c2 => ?_)
      · replace h := if_p c2 h
        exact W.vret hx hb hr (fun t ht _ => retEv (w := mdW cI cC ob q) h hP hD hS ht) hS.2.2 dX3_copies_135
      · replace h := if_n c2 h
        refine lv_aload_n hx hb dX3_copies_76 rfl (lv_at hl 0 rfl) ?_
        refine lv_iload_n hx hb dX3_copies_77 rfl (lv_at hl 2 rfl) ?_
        refine lv_bipush (v := 7) hx hb dX3_copies_78 (by decide) ?_
        refine lv_iconst (v := 2) hx hb dX3_copies_80 (by decide) ?_
        refine lv_iload hx hb dX3_copies_81 (lv_at hl 3 rfl) ?_
        refine lv_imul hx hb dX3_copies_83 ?_
        refine lv_iadd hx hb dX3_copies_84 ?_
        refine lv_aload_n hx hb dX3_copies_85 rfl (lv_at hl 0 rfl) ?_
        refine lv_iload_n hx hb dX3_copies_86 rfl (lv_at hl 1 rfl) ?_
        refine lv_iload hx hb dX3_copies_87 (lv_at hl 3 rfl) ?_
        refine lv_iconst (v := 0) hx hb dX3_copies_89 (by decide) ?_
        obtain ⟨v3, hv3, h⟩ := bdP_some h
        refine call_VP (As := [.int x1, .int x4, .int 0]) (rest := [.int (7 + (2 * x4)), .int x2, .ref ob]) ⟨hx, hb, hml, hown, hts⟩ (tX3_page (l := l) (dC := dC) (dI := dI) (cI := cI) (cC := cC) (ob := ob) (q := q) hv3) (cwV 3 hts gX3_copies_X3_page rfl rfl rfl (by decide +kernel) ⟨Nat.le_of_ble_eq_true rfl, Nat.le_of_ble_eq_true rfl⟩) hK hP 0 rfl rfl (by rfl) hl.1 rfl (Nat.le_of_ble_eq_true rfl) dX3_copies_90 ⟨Nat.zero_le _, Nat.zero_le _⟩ ?_
        obtain ⟨v4, K5, hv4, h⟩ := bdE_some h
        refine call_VEv (As := [.int x2, .int (7 + (2 * x4)), .int v3]) (rest := []) ⟨hx, hb, hml, hown, hts⟩ (tX3_sets (l := l) (dC := dC) (dI := dI) (cI := cI) (cC := cC) (ob := ob) (q := q) hv4) (cwV 3 hts gX3_copies_X3_sets rfl rfl rfl (by decide +kernel) ⟨Nat.le_of_ble_eq_true rfl, Nat.le_of_ble_eq_true rfl⟩) hK hP hD hS (fun _ h9 => h9) 0 rfl rfl (by rfl) hl.1 rfl (Nat.le_of_ble_eq_true rfl) dX3_copies_93 ⟨Nat.zero_le _, Nat.zero_le _⟩ (fun H locs hP hD _ hS => ?_)
        refine lv_aload_n hx hb dX3_copies_96 rfl (lv_at hl 0 rfl) ?_
        refine lv_iload_n hx hb dX3_copies_97 rfl (lv_at hl 2 rfl) ?_
        refine lv_bipush (v := 7) hx hb dX3_copies_98 (by decide) ?_
        refine lv_iconst (v := 2) hx hb dX3_copies_100 (by decide) ?_
        refine lv_iload hx hb dX3_copies_101 (lv_at hl 3 rfl) ?_
        refine lv_imul hx hb dX3_copies_103 ?_
        refine lv_iadd hx hb dX3_copies_104 ?_
        refine lv_iconst (v := 1) hx hb dX3_copies_105 (by decide) ?_
        refine lv_iadd hx hb dX3_copies_106 ?_
        refine lv_aload_n hx hb dX3_copies_107 rfl (lv_at hl 0 rfl) ?_
        refine lv_iload_n hx hb dX3_copies_108 rfl (lv_at hl 1 rfl) ?_
        refine lv_iload hx hb dX3_copies_109 (lv_at hl 3 rfl) ?_
        refine lv_iconst (v := 1) hx hb dX3_copies_111 (by decide) ?_
        obtain ⟨v6, hv6, h⟩ := bdP_some h
        refine call_VP (As := [.int x1, .int x4, .int 1]) (rest := [.int ((7 + (2 * x4)) + 1), .int x2, .ref ob]) ⟨hx, hb, hml, hown, hts⟩ (tX3_page (l := l) (dC := dC) (dI := dI) (cI := cI) (cC := cC) (ob := ob) (q := q) hv6) (cwV 3 hts gX3_copies_X3_page rfl rfl rfl (by decide +kernel) ⟨Nat.le_of_ble_eq_true rfl, Nat.le_of_ble_eq_true rfl⟩) hK hP 0 rfl rfl (by rfl) hl.1 rfl (Nat.le_of_ble_eq_true rfl) dX3_copies_112 ⟨Nat.zero_le _, Nat.zero_le _⟩ ?_
        obtain ⟨v7, K8, hv7, h⟩ := bdE_some h
        refine call_VEv (As := [.int x2, .int ((7 + (2 * x4)) + 1), .int v6]) (rest := []) ⟨hx, hb, hml, hown, hts⟩ (tX3_sets (l := l) (dC := dC) (dI := dI) (cI := cI) (cC := cC) (ob := ob) (q := q) hv7) (cwV 3 hts gX3_copies_X3_sets rfl rfl rfl (by decide +kernel) ⟨Nat.le_of_ble_eq_true rfl, Nat.le_of_ble_eq_true rfl⟩) hK hP hD hS (fun _ h9 => h9) 0 rfl rfl (by rfl) hl.1 rfl (Nat.le_of_ble_eq_true rfl) dX3_copies_115 ⟨Nat.zero_le _, Nat.zero_le _⟩ (fun H locs hP hD _ hS => ?_)
        refine lv_aload_n hx hb dX3_copies_118 rfl (lv_at hl 0 rfl) ?_
        refine lv_iload_n hx hb dX3_copies_119 rfl (lv_at hl 2 rfl) ?_
        refine lv_bipush (v := 6) hx hb dX3_copies_120 (by decide) ?_
        refine lv_iload hx hb dX3_copies_122 (lv_at hl 3 rfl) ?_
        refine lv_iconst (v := 1) hx hb dX3_copies_124 (by decide) ?_
        refine lv_iadd hx hb dX3_copies_125 ?_
        obtain ⟨v9, K10, hv9, h⟩ := bdE_some h
        refine call_VEv (As := [.int x2, .int 6, .int (x4 + 1)]) (rest := []) ⟨hx, hb, hml, hown, hts⟩ (tX3_sets (l := l) (dC := dC) (dI := dI) (cI := cI) (cC := cC) (ob := ob) (q := q) hv9) (cwV 3 hts gX3_copies_X3_sets rfl rfl rfl (by decide +kernel) ⟨Nat.le_of_ble_eq_true rfl, Nat.le_of_ble_eq_true rfl⟩) hK hP hD hS (fun _ h9 => h9) 0 rfl rfl (by rfl) hl.1 rfl (Nat.le_of_ble_eq_true rfl) dX3_copies_126 ⟨Nat.zero_le _, Nat.zero_le _⟩ (fun H locs hP hD _ hS => ?_)
        refine lv_iinc (v := x4 + 1) (lv' := [(4, .int (x4 + 1)), (0, .ref ob), (1, .int x1), (2, .int x2)]) hx hb dX3_copies_129 hl (k := 3) rfl rfl (by decide) rfl (fun ls hl => ?_)
        refine lv_goto (tgt := 64) hx hb dX3_copies_132 (by decide) ?_
        exact ih h (lv_sub hl [1, 2, 3, 0] rfl) hP hD hS
  have t_55 : ∀ {K : KT} {x1 : Int32} {x2 : Int32} {H : Heap} {locs : List Loc} {ls : Array Slot} (h : fX3_copies_55 N  K x1 x2 = some (rr, KK)) (hl : lv_has ls 5 [(0, .ref ob), (1, .int x1), (2, .int x2)]) (hP : va_P (dC, dI) vwCl (mdW cI cC ob q K) H) (hD : va_D (aL (mdL ob q)) (mdW cI cC ob q K)) (hS : va_S (aL (mdL ob q)) s.heap H locs), W p l e (headSpec wsX3_copies rmX3_copies).room s m ([.ref ob, .int p0, .int p1] : List Value).toArray below meth c H locs 0 0 (MQ below (cEv (dC, dI) vwCl (mdL ob q) (mdW cI cC ob q KK)) ([.ref ob, .int p0, .int p1] : List Value).toArray s 0 0 (aL (mdL ob q))) (F0 m 55 ls []) := by
    intro  K x1 x2 H locs ls h hl hP hD hS
    unfold fX3_copies_55 at h
    refine lv_aload_n hx hb dX3_copies_55 rfl (lv_at hl 0 rfl) ?_
    refine lv_iload_n hx hb dX3_copies_56 rfl (lv_at hl 2 rfl) ?_
    refine lv_bipush (v := 6) hx hb dX3_copies_57 (by decide) ?_
    obtain ⟨v11, hv11, h⟩ := bdP_some h
    refine call_VP (As := [.int x2, .int 6]) (rest := []) ⟨hx, hb, hml, hown, hts⟩ (tX3_of (l := l) (dC := dC) (dI := dI) (cI := cI) (cC := cC) (ob := ob) (q := q) hv11) (cwV 2 hts gX3_copies_X3_of rfl rfl rfl (by decide +kernel) ⟨Nat.le_of_ble_eq_true rfl, Nat.le_of_ble_eq_true rfl⟩) hK hP 0 rfl rfl (by rfl) hl.1 rfl (Nat.le_of_ble_eq_true rfl) dX3_copies_59 ⟨Nat.zero_le _, Nat.zero_le _⟩ ?_
    refine lv_istore (lv' := [(4, .int v11), (0, .ref ob), (1, .int x1), (2, .int x2)]) hx hb dX3_copies_62 hl (by decide) rfl (fun ls hl => ?_)
    exact t_64  h (lv_sub hl [1, 2, 3, 0] rfl) hP hD hS
  have hS : va_S (aL (mdL ob q)) s.heap s.heap [] := va_S.rf
  have hl := lv_entry ([.ref ob, .int p0, .int p1]) (n := 5) (Nat.le_of_ble_eq_true rfl)
  rw [lg_entry_eq]
  generalize (lg_sl ([.ref ob, .int p0, .int p1]) ++ List.replicate (5 - (lg_sl ([.ref ob, .int p0, .int p1])).length) Slot.unset).toArray = ls at hl ⊢
  have hl : lv_has ls 5 [(0, .ref ob), (1, .int p0), (2, .int p1)] := hl
  have h := hf
  unfold mX3_copies at h
  refine lv_aload_n hx hb dX3_copies_0 rfl (lv_at hl 0 rfl) ?_
  refine lv_iload_n hx hb dX3_copies_1 rfl (lv_at hl 1 rfl) ?_
  refine lv_iload_n hx hb dX3_copies_2 rfl (lv_at hl 2 rfl) ?_
  obtain ⟨v12, hv12, h⟩ := bdP_some h
  refine call_VP (As := [.int p0, .int p1]) (rest := []) ⟨hx, hb, hml, hown, hts⟩ (tX3_alike (l := l) (dC := dC) (dI := dI) (cI := cI) (cC := cC) (ob := ob) (q := q) hv12) (cwV 2 hts gX3_copies_X3_alike rfl rfl rfl (by decide +kernel) ⟨Nat.le_of_ble_eq_true rfl, Nat.le_of_ble_eq_true rfl⟩) hK hP 0 rfl rfl (by rfl) hl.1 rfl (Nat.le_of_ble_eq_true rfl) dX3_copies_3 ⟨Nat.zero_le _, Nat.zero_le _⟩ ?_
  refine lv_istore_n (lv' := [(3, .int v12), (0, .ref ob), (1, .int p0), (2, .int p1)]) hx hb dX3_copies_6 rfl hl (by decide) rfl (fun ls hl => ?_)
  refine lv_iload_n hx hb dX3_copies_7 rfl (lv_at hl 0 rfl) ?_
  refine lv_aload_n hx hb dX3_copies_8 rfl (lv_at hl 1 rfl) ?_
  refine lv_iload_n hx hb dX3_copies_9 rfl (lv_at hl 3 rfl) ?_
  refine lv_bipush (v := 6) hx hb dX3_copies_10 (by decide) ?_
  obtain ⟨v13, hv13, h⟩ := bdP_some h
  refine call_VP (As := [.int p1, .int 6]) (rest := [.int v12]) ⟨hx, hb, hml, hown, hts⟩ (tX3_of (l := l) (dC := dC) (dI := dI) (cI := cI) (cC := cC) (ob := ob) (q := q) hv13) (cwV 2 hts gX3_copies_X3_of rfl rfl rfl (by decide +kernel) ⟨Nat.le_of_ble_eq_true rfl, Nat.le_of_ble_eq_true rfl⟩) hK hP 0 rfl rfl (by rfl) hl.1 rfl (Nat.le_of_ble_eq_true rfl) dX3_copies_12 ⟨Nat.zero_le _, Nat.zero_le _⟩ ?_
  refine lv_icmp_ge (tgt := 55) hx hb dX3_copies_15 (by decide) (fun c14 => ?_) (fun c14 => ?_)
  · replace h := if_p c14 h
    exact t_55  h (lv_sub hl [1, 2, 3] rfl) hP hD hS
  · replace h := if_n c14 h
    refine lv_iload_n hx hb dX3_copies_18 rfl (lv_at hl 0 rfl) ?_
    refine lv_aload_n hx hb dX3_copies_19 rfl (lv_at hl 1 rfl) ?_
    refine lv_iload_n hx hb dX3_copies_20 rfl (lv_at hl 2 rfl) ?_
    refine lv_bipush (v := 6) hx hb dX3_copies_21 (by decide) ?_
    obtain ⟨v15, hv15, h⟩ := bdP_some h
    refine call_VP (As := [.int p0, .int 6]) (rest := [.int v12]) ⟨hx, hb, hml, hown, hts⟩ (tX3_of (l := l) (dC := dC) (dI := dI) (cI := cI) (cC := cC) (ob := ob) (q := q) hv15) (cwV 2 hts gX3_copies_X3_of rfl rfl rfl (by decide +kernel) ⟨Nat.le_of_ble_eq_true rfl, Nat.le_of_ble_eq_true rfl⟩) hK hP 0 rfl rfl (by rfl) hl.1 rfl (Nat.le_of_ble_eq_true rfl) dX3_copies_23 ⟨Nat.zero_le _, Nat.zero_le _⟩ ?_
    refine lv_icmp_ge (tgt := 55) hx hb dX3_copies_26 (by decide) (fun c16 => ?_) (fun c16 => ?_)
    · replace h := if_p c16 h
      exact t_55  h (lv_sub hl [1, 2, 3] rfl) hP hD hS
    · replace h := if_n c16 h
      refine lv_aload_n hx hb dX3_copies_29 rfl (lv_at hl 1 rfl) ?_
      refine va_get (D := (dC, dI)) (ci := 4) (v := .ref (q 0)) (C := RX3) (T := TX3) (N := 17) hx hb hts hwX3 hown hK hP 0 rfl rfl 0 (by decide) hf_9 (fun _ h9 => h9) rfl dX3_copies_30 ?_
      refine lv_iconst (v := 3) hx hb dX3_copies_33 (by decide) ?_
      refine lv_dup2_11 hx hb dX3_copies_34 rfl rfl ?_
      obtain ⟨hi18, v17, ev17, h⟩ := rdA_some h
      refine k_iald hx hb hK hP 1 0 rfl rfl hi18 ev17 dX3_copies_35 ?_
      refine lv_aload_n hx hb dX3_copies_36 rfl (lv_at hl 1 rfl) ?_
      refine lv_iload_n hx hb dX3_copies_37 rfl (lv_at hl 3 rfl) ?_
      refine lv_bipush (v := 6) hx hb dX3_copies_38 (by decide) ?_
      obtain ⟨v19, hv19, h⟩ := bdP_some h
      refine call_VP (As := [.int p1, .int 6]) (rest := [.int v17, .int 3, .ref (q 0)]) ⟨hx, hb, hml, hown, hts⟩ (tX3_of (l := l) (dC := dC) (dI := dI) (cI := cI) (cC := cC) (ob := ob) (q := q) hv19) (cwV 2 hts gX3_copies_X3_of rfl rfl rfl (by decide +kernel) ⟨Nat.le_of_ble_eq_true rfl, Nat.le_of_ble_eq_true rfl⟩) hK hP 0 rfl rfl (by rfl) hl.1 rfl (Nat.le_of_ble_eq_true rfl) dX3_copies_40 ⟨Nat.zero_le _, Nat.zero_le _⟩ ?_
      refine lv_iload_n hx hb dX3_copies_43 rfl (lv_at hl 0 rfl) ?_
      refine lv_isub hx hb dX3_copies_44 ?_
      refine lv_iadd hx hb dX3_copies_45 ?_
      obtain ⟨hi21, K20, eK20, h⟩ := wrA_some h
      refine va_iast hx hb hK hP hD hS 1 0 rfl rfl hi21 dX3_copies_46 (fun H locs hP hD hS => ?_)
      have hP : va_P (dC, dI) vwCl (mdW cI cC ob q K20) H := by rw [eK20]; exact hP
      have hD : va_D (aL (mdL ob q)) (mdW cI cC ob q K20) := by rw [eK20]; exact hD
      refine lv_aload_n hx hb dX3_copies_47 rfl (lv_at hl 1 rfl) ?_
      refine lv_iload_n hx hb dX3_copies_48 rfl (lv_at hl 3 rfl) ?_
      refine lv_bipush (v := 6) hx hb dX3_copies_49 (by decide) ?_
      refine lv_iload_n hx hb dX3_copies_51 rfl (lv_at hl 0 rfl) ?_
      obtain ⟨v22, K23, hv22, h⟩ := bdE_some h
      refine call_VEv (As := [.int p1, .int 6, .int v12]) (rest := []) ⟨hx, hb, hml, hown, hts⟩ (tX3_sets (l := l) (dC := dC) (dI := dI) (cI := cI) (cC := cC) (ob := ob) (q := q) hv22) (cwV 3 hts gX3_copies_X3_sets rfl rfl rfl (by decide +kernel) ⟨Nat.le_of_ble_eq_true rfl, Nat.le_of_ble_eq_true rfl⟩) hK hP hD hS (fun _ h9 => h9) 0 rfl rfl (by rfl) hl.1 rfl (Nat.le_of_ble_eq_true rfl) dX3_copies_52 ⟨Nat.zero_le _, Nat.zero_le _⟩ (fun H locs hP hD _ hS => ?_)
      exact t_55  h (lv_sub hl [1, 2, 3] rfl) hP hD hS
def fX3_goes_46 (N : Nat)  (K : KT) (x1 : Int32) (x3 : Int32) : Option (Int32 × KT) := bdP (mX3_of N K x3 0) (fun v1 => bdE (mX3_tellsNoVote N K x1 v1) (fun v2 K3 => bdE (mX3_sets N K3 x1 2 0) (fun v4 K5 => bdP (mX3_of N K5 x1 5) (fun v6 => some (v6, K5)))))
def fX3_goes_123 (N : Nat) (k14 : KT → Int32 → Int32 → Int32 → Option (Int32 × KT)) (K : KT) (x1 : Int32) (x2 : Int32) (x3 : Int32) : Option (Int32 × KT) := k14 K x1 x2 (x3 + 1)
def fX3_goes_97 (N : Nat) (k14 : KT → Int32 → Int32 → Int32 → Option (Int32 × KT)) (K : KT) (x1 : Int32) (x2 : Int32) (x3 : Int32) : Option (Int32 × KT) := bdE (mX3_sets N K x3 2 0) (fun v7 K8 => bdE (mX3_sets N K8 x3 4 0) (fun v9 K10 => bdE (mX3_copies N K10 x1 x3) (fun v11 K12 => fX3_goes_123 N k14 K12 x1 (x2 ||| (1 <<< (x3 &&& 31))) x3)))
def fX3_goes_183 (N : Nat) (k137 : KT → Int32 → Int32 → Int32 → Option (Int32 × KT)) (k153 : KT → Int32 → Int32 → Int32 → Int32 → Int32 → Option (Int32 × KT)) (K : KT) (x1 : Int32) (x2 : Int32) (x3 : Int32) (x4 : Int32) (x5 : Int32) : Option (Int32 × KT) := k153 K x1 x2 x3 x4 (x5 + 1)
def fX3_goes_223 (N : Nat) (k137 : KT → Int32 → Int32 → Int32 → Option (Int32 × KT)) (K : KT) (x1 : Int32) (x2 : Int32) (x3 : Int32) : Option (Int32 × KT) := k137 K x1 x2 (x3 + (-1))
def fX3_goes_189 (N : Nat) (k137 : KT → Int32 → Int32 → Int32 → Option (Int32 × KT)) (K : KT) (x1 : Int32) (x2 : Int32) (x3 : Int32) (x4 : Int32) : Option (Int32 × KT) := (if x4 < 3 then fX3_goes_223 N k137 K x1 x2 x3 else bdP (mX3_page N K x1 (x3 - 1) 0) (fun v14 => bdP (mX3_of N K x1 0) (fun v15 => (if v14 = v15 then bdE (mX3_sets N K x1 5 x3) (fun v17 K18 => fX3_goes_223 N k137 K18 x1 x2 x3) else fX3_goes_223 N k137 K x1 x2 x3))))
def fX3_goes_153 (N : Nat) (k137 : KT → Int32 → Int32 → Int32 → Option (Int32 × KT)) : Nat → KT → Int32 → Int32 → Int32 → Int32 → Int32 → Option (Int32 × KT)
  | 0, _, _, _, _, _, _ => none
  | n + 1, K, x1, x2, x3, x4, x5 => (if 5 ≤ x5 then fX3_goes_189 N k137 K x1 x2 x3 x4 else (if ((x2 >>> (x5 &&& 31)) &&& 1) = 1 then bdP (mX3_alike N K x1 x5) (fun v21 => (if v21 < x3 then fX3_goes_183 N k137 (fX3_goes_153 N k137 n) K x1 x2 x3 x4 x5 else fX3_goes_183 N k137 (fX3_goes_153 N k137 n) K x1 x2 x3 (x4 + 1) x5)) else fX3_goes_183 N k137 (fX3_goes_153 N k137 n) K x1 x2 x3 x4 x5))
def fX3_goes_266 (N : Nat) (k231 : KT → Int32 → Int32 → Int32 → Option (Int32 × KT)) (K : KT) (x1 : Int32) (x2 : Int32) (x3 : Int32) : Option (Int32 × KT) := k231 K x1 x2 (x3 + 1)
def fX3_goes_272 (N : Nat)  (K : KT) (x1 : Int32) : Option (Int32 × KT) := bdP (mX3_of N K x1 5) (fun v23 => some (v23, K))
def fX3_goes_231 (N : Nat)  : Nat → KT → Int32 → Int32 → Int32 → Option (Int32 × KT)
  | 0, _, _, _, _ => none
  | n + 1, K, x1, x2, x3 => (if 5 ≤ x3 then fX3_goes_272 N  K x1 else (if ((x2 >>> (x3 &&& 31)) &&& 1) = 1 then bdP (mX3_of N K x3 5) (fun v26 => bdP (mX3_of N K x1 5) (fun v27 => bdE (mX3_sets N K x3 5 ((if v26 < v27 then v27 else v26))) (fun v28 K29 => fX3_goes_266 N (fX3_goes_231 N  n) K29 x1 x2 x3))) else fX3_goes_266 N (fX3_goes_231 N  n) K x1 x2 x3))
def fX3_goes_229 (N : Nat)  (K : KT) (x1 : Int32) (x2 : Int32) : Option (Int32 × KT) := fX3_goes_231 N  N K x1 x2 0
def fX3_goes_137 (N : Nat)  : Nat → KT → Int32 → Int32 → Int32 → Option (Int32 × KT)
  | 0, _, _, _, _ => none
  | n + 1, K, x1, x2, x3 => bdP (mX3_of N K x1 5) (fun v30 => (if x3 ≤ v30 then fX3_goes_229 N  K x1 x2 else fX3_goes_153 N (fX3_goes_137 N  n) N K x1 x2 x3 1 0))
def fX3_goes_129 (N : Nat)  (K : KT) (x1 : Int32) (x2 : Int32) : Option (Int32 × KT) := bdP (mX3_of N K x1 6) (fun v32 => fX3_goes_137 N  N K x1 x2 v32)
def fX3_goes_14 (N : Nat)  : Nat → KT → Int32 → Int32 → Int32 → Option (Int32 × KT)
  | 0, _, _, _, _ => none
  | n + 1, K, x1, x2, x3 => (if 5 ≤ x3 then fX3_goes_129 N  K x1 x2 else bdP (mX3_isReached N K x1 x3) (fun v34 => (if v34 = 0 then fX3_goes_123 N (fX3_goes_14 N  n) K x1 x2 x3 else bdP (mX3_of N K x3 0) (fun v36 => bdP (mX3_of N K x1 0) (fun v37 => (if v36 ≤ v37 then bdP (mX3_of N K x3 0) (fun v39 => bdP (mX3_of N K x1 0) (fun v40 => (if v40 ≤ v39 then fX3_goes_97 N (fX3_goes_14 N  n) K x1 x2 x3 else bdP (mX3_of N K x1 0) (fun v42 => bdE (mX3_tellsNoVote N K x3 v42) (fun v43 K44 => fX3_goes_97 N (fX3_goes_14 N  n) K44 x1 x2 x3))))) else fX3_goes_46 N  K x1 x3))))))
def mX3_goes (N : Nat) (K : KT) (p0 : Int32) : Option (Int32 × KT) := rdA (K 0) 186 4 (fun v45 => wrA K 0 186 4 (v45 + 1) (fun K47 => fX3_goes_14 N  N K47 p0 0 0))
def rmX3_goes : Room := { frames := 6, cells := 0, slots := 0, locals := 155 }
set_option maxHeartbeats 4000000 in
set_option maxRecDepth 100000 in
theorem tX3_goes {l : Launch} {dC : Nat → ClassId} {dI : Nat → Nat → Nat} {cI : ClassId} {cC : ClassId} {ob : Nat} {q : Nat → Nat} {N : Nat} {K : KT} {p0 : Int32} {rr : Int32} {KK : KT} (hf : mX3_goes N K p0 = some (rr, KK)) : Met l yX3_goes wsX3_goes rmX3_goes (cPe (dC, dI) vwCl [(cI, .int), (cC, .char)] (mdL ob q) (mdW cI cC ob q K) [.ref ob, .int p0]) (cE (dC, dI) vwCl (mdL ob q) rr (mdW cI cC ob q KK)) 0 0 (aL (mdL ob q)) := by
  refine Met.ofW (cc := cX3_goes) (maxL := 6) (ret := (some .int)) (by decide) rfl ?_
  intro p e s m args below meth c s₁ B hml hv
  obtain ⟨rfl, hP, hK, hD⟩ := hv
  have hx := B.exec
  have hb := B.bytes
  have hr := B.returns
  have hts := atoms_spec (ws := wsX3_goes) B.pre
  have hown : s.vm.findClass RX3 = some m.cls := findClass_of_methodNamed B.named
  have hlocks := B.notSynchronized
  have hwX3 : ∀ w ∈ u_ws RX3 TX3 17, w ∈ wsX3_goes := by decide +kernel
  have hf_9 := hts (.fieldLink RX3 9 "CaravanLogsModel" "now" "[I") (by decide +kernel)
  have t_46 : ∀ {K : KT} {x1 : Int32} {x3 : Int32} {H : Heap} {locs : List Loc} {ls : Array Slot} (h : fX3_goes_46 N  K x1 x3 = some (rr, KK)) (hl : lv_has ls 6 [(0, .ref ob), (1, .int x1), (3, .int x3)]) (hP : va_P (dC, dI) vwCl (mdW cI cC ob q K) H) (hD : va_D (aL (mdL ob q)) (mdW cI cC ob q K)) (hS : va_S (aL (mdL ob q)) s.heap H locs), W p l e (headSpec wsX3_goes rmX3_goes).room s m ([.ref ob, .int p0] : List Value).toArray below meth c H locs 0 0 (MQ below (cE (dC, dI) vwCl (mdL ob q) rr (mdW cI cC ob q KK)) ([.ref ob, .int p0] : List Value).toArray s 0 0 (aL (mdL ob q))) (F0 m 46 ls []) := by
    intro  K x1 x3 H locs ls h hl hP hD hS
    unfold fX3_goes_46 at h
    refine lv_aload_n hx hb dX3_goes_46 rfl (lv_at hl 0 rfl) ?_
    refine lv_iload_n hx hb dX3_goes_47 rfl (lv_at hl 1 rfl) ?_
    refine lv_aload_n hx hb dX3_goes_48 rfl (lv_at hl 0 rfl) ?_
    refine lv_iload_n hx hb dX3_goes_49 rfl (lv_at hl 2 rfl) ?_
    refine lv_iconst (v := 0) hx hb dX3_goes_50 (by decide) ?_
    obtain ⟨v1, hv1, h⟩ := bdP_some h
    refine call_VP (As := [.int x3, .int 0]) (rest := [.int x1, .ref ob]) ⟨hx, hb, hml, hown, hts⟩ (tX3_of (l := l) (dC := dC) (dI := dI) (cI := cI) (cC := cC) (ob := ob) (q := q) hv1) (cwV 2 hts gX3_goes_X3_of rfl rfl rfl (by decide +kernel) ⟨Nat.le_of_ble_eq_true rfl, Nat.le_of_ble_eq_true rfl⟩) hK hP 0 rfl rfl (by rfl) hl.1 rfl (Nat.le_of_ble_eq_true rfl) dX3_goes_51 ⟨Nat.zero_le _, Nat.zero_le _⟩ ?_
    obtain ⟨v2, K3, hv2, h⟩ := bdE_some h
    refine call_VEv (As := [.int x1, .int v1]) (rest := []) ⟨hx, hb, hml, hown, hts⟩ (tX3_tellsNoVote (l := l) (dC := dC) (dI := dI) (cI := cI) (cC := cC) (ob := ob) (q := q) hv2) (cwV 2 hts gX3_goes_X3_tellsNoVote rfl rfl rfl (by decide +kernel) ⟨Nat.le_of_ble_eq_true rfl, Nat.le_of_ble_eq_true rfl⟩) hK hP hD hS (fun _ h9 => h9) 0 rfl rfl (by rfl) hl.1 rfl (Nat.le_of_ble_eq_true rfl) dX3_goes_54 ⟨Nat.zero_le _, Nat.zero_le _⟩ (fun H locs hP hD _ hS => ?_)
    refine lv_aload_n hx hb dX3_goes_57 rfl (lv_at hl 0 rfl) ?_
    refine lv_iload_n hx hb dX3_goes_58 rfl (lv_at hl 1 rfl) ?_
    refine lv_iconst (v := 2) hx hb dX3_goes_59 (by decide) ?_
    refine lv_iconst (v := 0) hx hb dX3_goes_60 (by decide) ?_
    obtain ⟨v4, K5, hv4, h⟩ := bdE_some h
    refine call_VEv (As := [.int x1, .int 2, .int 0]) (rest := []) ⟨hx, hb, hml, hown, hts⟩ (tX3_sets (l := l) (dC := dC) (dI := dI) (cI := cI) (cC := cC) (ob := ob) (q := q) hv4) (cwV 3 hts gX3_goes_X3_sets rfl rfl rfl (by decide +kernel) ⟨Nat.le_of_ble_eq_true rfl, Nat.le_of_ble_eq_true rfl⟩) hK hP hD hS (fun _ h9 => h9) 0 rfl rfl (by rfl) hl.1 rfl (Nat.le_of_ble_eq_true rfl) dX3_goes_61 ⟨Nat.zero_le _, Nat.zero_le _⟩ (fun H locs hP hD _ hS => ?_)
    refine lv_aload_n hx hb dX3_goes_64 rfl (lv_at hl 0 rfl) ?_
    refine lv_iload_n hx hb dX3_goes_65 rfl (lv_at hl 1 rfl) ?_
    refine lv_iconst (v := 5) hx hb dX3_goes_66 (by decide) ?_
    obtain ⟨v6, hv6, h⟩ := bdP_some h
    refine call_VP (As := [.int x1, .int 5]) (rest := []) ⟨hx, hb, hml, hown, hts⟩ (tX3_of (l := l) (dC := dC) (dI := dI) (cI := cI) (cC := cC) (ob := ob) (q := q) hv6) (cwV 2 hts gX3_goes_X3_of rfl rfl rfl (by decide +kernel) ⟨Nat.le_of_ble_eq_true rfl, Nat.le_of_ble_eq_true rfl⟩) hK hP 0 rfl rfl (by rfl) hl.1 rfl (Nat.le_of_ble_eq_true rfl) dX3_goes_67 ⟨Nat.zero_le _, Nat.zero_le _⟩ ?_
    exact W.iret hx hb hr (fun t ht _ => retE (w := mdW cI cC ob q) h hP hD hS ht) hS.2.2 dX3_goes_70
  have t_123 : ∀ {k14 : KT → Int32 → Int32 → Int32 → Option (Int32 × KT)} (hk14 : ∀ {K : KT} {x1 : Int32} {x2 : Int32} {x3 : Int32} {H : Heap} {locs : List Loc} {ls : Array Slot} (h : k14 K x1 x2 x3 = some (rr, KK)) (hl : lv_has ls 6 [(0, .ref ob), (1, .int x1), (2, .int x2), (3, .int x3)]) (hP : va_P (dC, dI) vwCl (mdW cI cC ob q K) H) (hD : va_D (aL (mdL ob q)) (mdW cI cC ob q K)) (hS : va_S (aL (mdL ob q)) s.heap H locs), W p l e (headSpec wsX3_goes rmX3_goes).room s m ([.ref ob, .int p0] : List Value).toArray below meth c H locs 0 0 (MQ below (cE (dC, dI) vwCl (mdL ob q) rr (mdW cI cC ob q KK)) ([.ref ob, .int p0] : List Value).toArray s 0 0 (aL (mdL ob q))) (F0 m 14 ls [])), ∀ {K : KT} {x1 : Int32} {x2 : Int32} {x3 : Int32} {H : Heap} {locs : List Loc} {ls : Array Slot} (h : fX3_goes_123 N k14 K x1 x2 x3 = some (rr, KK)) (hl : lv_has ls 6 [(0, .ref ob), (1, .int x1), (2, .int x2), (3, .int x3)]) (hP : va_P (dC, dI) vwCl (mdW cI cC ob q K) H) (hD : va_D (aL (mdL ob q)) (mdW cI cC ob q K)) (hS : va_S (aL (mdL ob q)) s.heap H locs), W p l e (headSpec wsX3_goes rmX3_goes).room s m ([.ref ob, .int p0] : List Value).toArray below meth c H locs 0 0 (MQ below (cE (dC, dI) vwCl (mdL ob q) rr (mdW cI cC ob q KK)) ([.ref ob, .int p0] : List Value).toArray s 0 0 (aL (mdL ob q))) (F0 m 123 ls []) := by
    intro k14 hk14 K x1 x2 x3 H locs ls h hl hP hD hS
    unfold fX3_goes_123 at h
    refine lv_iinc (v := x3 + 1) (lv' := [(3, .int (x3 + 1)), (0, .ref ob), (1, .int x1), (2, .int x2)]) hx hb dX3_goes_123 hl (k := 3) rfl rfl (by decide) rfl (fun ls hl => ?_)
    refine lv_goto (tgt := 14) hx hb dX3_goes_126 (by decide) ?_
    exact hk14 h (lv_sub hl [1, 2, 3, 0] rfl) hP hD hS
  have t_97 : ∀ {k14 : KT → Int32 → Int32 → Int32 → Option (Int32 × KT)} (hk14 : ∀ {K : KT} {x1 : Int32} {x2 : Int32} {x3 : Int32} {H : Heap} {locs : List Loc} {ls : Array Slot} (h : k14 K x1 x2 x3 = some (rr, KK)) (hl : lv_has ls 6 [(0, .ref ob), (1, .int x1), (2, .int x2), (3, .int x3)]) (hP : va_P (dC, dI) vwCl (mdW cI cC ob q K) H) (hD : va_D (aL (mdL ob q)) (mdW cI cC ob q K)) (hS : va_S (aL (mdL ob q)) s.heap H locs), W p l e (headSpec wsX3_goes rmX3_goes).room s m ([.ref ob, .int p0] : List Value).toArray below meth c H locs 0 0 (MQ below (cE (dC, dI) vwCl (mdL ob q) rr (mdW cI cC ob q KK)) ([.ref ob, .int p0] : List Value).toArray s 0 0 (aL (mdL ob q))) (F0 m 14 ls [])), ∀ {K : KT} {x1 : Int32} {x2 : Int32} {x3 : Int32} {H : Heap} {locs : List Loc} {ls : Array Slot} (h : fX3_goes_97 N k14 K x1 x2 x3 = some (rr, KK)) (hl : lv_has ls 6 [(0, .ref ob), (1, .int x1), (2, .int x2), (3, .int x3)]) (hP : va_P (dC, dI) vwCl (mdW cI cC ob q K) H) (hD : va_D (aL (mdL ob q)) (mdW cI cC ob q K)) (hS : va_S (aL (mdL ob q)) s.heap H locs), W p l e (headSpec wsX3_goes rmX3_goes).room s m ([.ref ob, .int p0] : List Value).toArray below meth c H locs 0 0 (MQ below (cE (dC, dI) vwCl (mdL ob q) rr (mdW cI cC ob q KK)) ([.ref ob, .int p0] : List Value).toArray s 0 0 (aL (mdL ob q))) (F0 m 97 ls []) := by
    intro k14 hk14 K x1 x2 x3 H locs ls h hl hP hD hS
    unfold fX3_goes_97 at h
    refine lv_aload_n hx hb dX3_goes_97 rfl (lv_at hl 0 rfl) ?_
    refine lv_iload_n hx hb dX3_goes_98 rfl (lv_at hl 3 rfl) ?_
    refine lv_iconst (v := 2) hx hb dX3_goes_99 (by decide) ?_
    refine lv_iconst (v := 0) hx hb dX3_goes_100 (by decide) ?_
    obtain ⟨v7, K8, hv7, h⟩ := bdE_some h
    refine call_VEv (As := [.int x3, .int 2, .int 0]) (rest := []) ⟨hx, hb, hml, hown, hts⟩ (tX3_sets (l := l) (dC := dC) (dI := dI) (cI := cI) (cC := cC) (ob := ob) (q := q) hv7) (cwV 3 hts gX3_goes_X3_sets rfl rfl rfl (by decide +kernel) ⟨Nat.le_of_ble_eq_true rfl, Nat.le_of_ble_eq_true rfl⟩) hK hP hD hS (fun _ h9 => h9) 0 rfl rfl (by rfl) hl.1 rfl (Nat.le_of_ble_eq_true rfl) dX3_goes_101 ⟨Nat.zero_le _, Nat.zero_le _⟩ (fun H locs hP hD _ hS => ?_)
    refine lv_aload_n hx hb dX3_goes_104 rfl (lv_at hl 0 rfl) ?_
    refine lv_iload_n hx hb dX3_goes_105 rfl (lv_at hl 3 rfl) ?_
    refine lv_iconst (v := 4) hx hb dX3_goes_106 (by decide) ?_
    refine lv_iconst (v := 0) hx hb dX3_goes_107 (by decide) ?_
    obtain ⟨v9, K10, hv9, h⟩ := bdE_some h
    refine call_VEv (As := [.int x3, .int 4, .int 0]) (rest := []) ⟨hx, hb, hml, hown, hts⟩ (tX3_sets (l := l) (dC := dC) (dI := dI) (cI := cI) (cC := cC) (ob := ob) (q := q) hv9) (cwV 3 hts gX3_goes_X3_sets rfl rfl rfl (by decide +kernel) ⟨Nat.le_of_ble_eq_true rfl, Nat.le_of_ble_eq_true rfl⟩) hK hP hD hS (fun _ h9 => h9) 0 rfl rfl (by rfl) hl.1 rfl (Nat.le_of_ble_eq_true rfl) dX3_goes_108 ⟨Nat.zero_le _, Nat.zero_le _⟩ (fun H locs hP hD _ hS => ?_)
    refine lv_aload_n hx hb dX3_goes_111 rfl (lv_at hl 0 rfl) ?_
    refine lv_iload_n hx hb dX3_goes_112 rfl (lv_at hl 1 rfl) ?_
    refine lv_iload_n hx hb dX3_goes_113 rfl (lv_at hl 3 rfl) ?_
    obtain ⟨v11, K12, hv11, h⟩ := bdE_some h
    refine call_VEv (As := [.int x1, .int x3]) (rest := []) ⟨hx, hb, hml, hown, hts⟩ (tX3_copies (l := l) (dC := dC) (dI := dI) (cI := cI) (cC := cC) (ob := ob) (q := q) hv11) (cwV 2 hts gX3_goes_X3_copies rfl rfl rfl (by decide +kernel) ⟨Nat.le_of_ble_eq_true rfl, Nat.le_of_ble_eq_true rfl⟩) hK hP hD hS (fun _ h9 => h9) 0 rfl rfl (by rfl) hl.1 rfl (Nat.le_of_ble_eq_true rfl) dX3_goes_114 ⟨Nat.zero_le _, Nat.zero_le _⟩ (fun H locs hP hD _ hS => ?_)
    refine lv_iload_n hx hb dX3_goes_117 rfl (lv_at hl 2 rfl) ?_
    refine lv_iconst (v := 1) hx hb dX3_goes_118 (by decide) ?_
    refine lv_iload_n hx hb dX3_goes_119 rfl (lv_at hl 3 rfl) ?_
    refine lv_ishl hx hb dX3_goes_120 ?_
    refine lv_ior hx hb dX3_goes_121 ?_
    refine lv_istore_n (lv' := [(2, .int (x2 ||| (1 <<< (x3 &&& 31)))), (0, .ref ob), (1, .int x1), (3, .int x3)]) hx hb dX3_goes_122 rfl hl (by decide) rfl (fun ls hl => ?_)
    exact t_123 @hk14 h (lv_sub hl [1, 2, 0, 3] rfl) hP hD hS
  have t_183 : ∀ {k137 : KT → Int32 → Int32 → Int32 → Option (Int32 × KT)} (hk137 : ∀ {K : KT} {x1 : Int32} {x2 : Int32} {x3 : Int32} {H : Heap} {locs : List Loc} {ls : Array Slot} (h : k137 K x1 x2 x3 = some (rr, KK)) (hl : lv_has ls 6 [(0, .ref ob), (1, .int x1), (2, .int x2), (3, .int x3)]) (hP : va_P (dC, dI) vwCl (mdW cI cC ob q K) H) (hD : va_D (aL (mdL ob q)) (mdW cI cC ob q K)) (hS : va_S (aL (mdL ob q)) s.heap H locs), W p l e (headSpec wsX3_goes rmX3_goes).room s m ([.ref ob, .int p0] : List Value).toArray below meth c H locs 0 0 (MQ below (cE (dC, dI) vwCl (mdL ob q) rr (mdW cI cC ob q KK)) ([.ref ob, .int p0] : List Value).toArray s 0 0 (aL (mdL ob q))) (F0 m 137 ls [])) {k153 : KT → Int32 → Int32 → Int32 → Int32 → Int32 → Option (Int32 × KT)} (hk153 : ∀ {K : KT} {x1 : Int32} {x2 : Int32} {x3 : Int32} {x4 : Int32} {x5 : Int32} {H : Heap} {locs : List Loc} {ls : Array Slot} (h : k153 K x1 x2 x3 x4 x5 = some (rr, KK)) (hl : lv_has ls 6 [(0, .ref ob), (1, .int x1), (2, .int x2), (3, .int x3), (4, .int x4), (5, .int x5)]) (hP : va_P (dC, dI) vwCl (mdW cI cC ob q K) H) (hD : va_D (aL (mdL ob q)) (mdW cI cC ob q K)) (hS : va_S (aL (mdL ob q)) s.heap H locs), W p l e (headSpec wsX3_goes rmX3_goes).room s m ([.ref ob, .int p0] : List Value).toArray below meth c H locs 0 0 (MQ below (cE (dC, dI) vwCl (mdL ob q) rr (mdW cI cC ob q KK)) ([.ref ob, .int p0] : List Value).toArray s 0 0 (aL (mdL ob q))) (F0 m 153 ls [])), ∀ {K : KT} {x1 : Int32} {x2 : Int32} {x3 : Int32} {x4 : Int32} {x5 : Int32} {H : Heap} {locs : List Loc} {ls : Array Slot} (h : fX3_goes_183 N k137 k153 K x1 x2 x3 x4 x5 = some (rr, KK)) (hl : lv_has ls 6 [(0, .ref ob), (1, .int x1), (2, .int x2), (3, .int x3), (4, .int x4), (5, .int x5)]) (hP : va_P (dC, dI) vwCl (mdW cI cC ob q K) H) (hD : va_D (aL (mdL ob q)) (mdW cI cC ob q K)) (hS : va_S (aL (mdL ob q)) s.heap H locs), W p l e (headSpec wsX3_goes rmX3_goes).room s m ([.ref ob, .int p0] : List Value).toArray below meth c H locs 0 0 (MQ below (cE (dC, dI) vwCl (mdL ob q) rr (mdW cI cC ob q KK)) ([.ref ob, .int p0] : List Value).toArray s 0 0 (aL (mdL ob q))) (F0 m 183 ls []) := by
    intro k137 hk137 k153 hk153 K x1 x2 x3 x4 x5 H locs ls h hl hP hD hS
    unfold fX3_goes_183 at h
    refine lv_iinc (v := x5 + 1) (lv' := [(5, .int (x5 + 1)), (0, .ref ob), (1, .int x1), (2, .int x2), (3, .int x3), (4, .int x4)]) hx hb dX3_goes_183 hl (k := 5) rfl rfl (by decide) rfl (fun ls hl => ?_)
    refine lv_goto (tgt := 153) hx hb dX3_goes_186 (by decide) ?_
    exact hk153 h (lv_sub hl [1, 2, 3, 4, 5, 0] rfl) hP hD hS
  have t_223 : ∀ {k137 : KT → Int32 → Int32 → Int32 → Option (Int32 × KT)} (hk137 : ∀ {K : KT} {x1 : Int32} {x2 : Int32} {x3 : Int32} {H : Heap} {locs : List Loc} {ls : Array Slot} (h : k137 K x1 x2 x3 = some (rr, KK)) (hl : lv_has ls 6 [(0, .ref ob), (1, .int x1), (2, .int x2), (3, .int x3)]) (hP : va_P (dC, dI) vwCl (mdW cI cC ob q K) H) (hD : va_D (aL (mdL ob q)) (mdW cI cC ob q K)) (hS : va_S (aL (mdL ob q)) s.heap H locs), W p l e (headSpec wsX3_goes rmX3_goes).room s m ([.ref ob, .int p0] : List Value).toArray below meth c H locs 0 0 (MQ below (cE (dC, dI) vwCl (mdL ob q) rr (mdW cI cC ob q KK)) ([.ref ob, .int p0] : List Value).toArray s 0 0 (aL (mdL ob q))) (F0 m 137 ls [])), ∀ {K : KT} {x1 : Int32} {x2 : Int32} {x3 : Int32} {H : Heap} {locs : List Loc} {ls : Array Slot} (h : fX3_goes_223 N k137 K x1 x2 x3 = some (rr, KK)) (hl : lv_has ls 6 [(0, .ref ob), (1, .int x1), (2, .int x2), (3, .int x3)]) (hP : va_P (dC, dI) vwCl (mdW cI cC ob q K) H) (hD : va_D (aL (mdL ob q)) (mdW cI cC ob q K)) (hS : va_S (aL (mdL ob q)) s.heap H locs), W p l e (headSpec wsX3_goes rmX3_goes).room s m ([.ref ob, .int p0] : List Value).toArray below meth c H locs 0 0 (MQ below (cE (dC, dI) vwCl (mdL ob q) rr (mdW cI cC ob q KK)) ([.ref ob, .int p0] : List Value).toArray s 0 0 (aL (mdL ob q))) (F0 m 223 ls []) := by
    intro k137 hk137 K x1 x2 x3 H locs ls h hl hP hD hS
    unfold fX3_goes_223 at h
    refine lv_iinc (v := x3 + (-1)) (lv' := [(3, .int (x3 + (-1))), (0, .ref ob), (1, .int x1), (2, .int x2)]) hx hb dX3_goes_223 hl (k := 3) rfl rfl (by decide) rfl (fun ls hl => ?_)
    refine lv_goto (tgt := 137) hx hb dX3_goes_226 (by decide) ?_
    exact hk137 h (lv_sub hl [1, 2, 3, 0] rfl) hP hD hS
  have t_189 : ∀ {k137 : KT → Int32 → Int32 → Int32 → Option (Int32 × KT)} (hk137 : ∀ {K : KT} {x1 : Int32} {x2 : Int32} {x3 : Int32} {H : Heap} {locs : List Loc} {ls : Array Slot} (h : k137 K x1 x2 x3 = some (rr, KK)) (hl : lv_has ls 6 [(0, .ref ob), (1, .int x1), (2, .int x2), (3, .int x3)]) (hP : va_P (dC, dI) vwCl (mdW cI cC ob q K) H) (hD : va_D (aL (mdL ob q)) (mdW cI cC ob q K)) (hS : va_S (aL (mdL ob q)) s.heap H locs), W p l e (headSpec wsX3_goes rmX3_goes).room s m ([.ref ob, .int p0] : List Value).toArray below meth c H locs 0 0 (MQ below (cE (dC, dI) vwCl (mdL ob q) rr (mdW cI cC ob q KK)) ([.ref ob, .int p0] : List Value).toArray s 0 0 (aL (mdL ob q))) (F0 m 137 ls [])), ∀ {K : KT} {x1 : Int32} {x2 : Int32} {x3 : Int32} {x4 : Int32} {H : Heap} {locs : List Loc} {ls : Array Slot} (h : fX3_goes_189 N k137 K x1 x2 x3 x4 = some (rr, KK)) (hl : lv_has ls 6 [(0, .ref ob), (1, .int x1), (2, .int x2), (3, .int x3), (4, .int x4)]) (hP : va_P (dC, dI) vwCl (mdW cI cC ob q K) H) (hD : va_D (aL (mdL ob q)) (mdW cI cC ob q K)) (hS : va_S (aL (mdL ob q)) s.heap H locs), W p l e (headSpec wsX3_goes rmX3_goes).room s m ([.ref ob, .int p0] : List Value).toArray below meth c H locs 0 0 (MQ below (cE (dC, dI) vwCl (mdL ob q) rr (mdW cI cC ob q KK)) ([.ref ob, .int p0] : List Value).toArray s 0 0 (aL (mdL ob q))) (F0 m 189 ls []) := by
    intro k137 hk137 K x1 x2 x3 x4 H locs ls h hl hP hD hS
    unfold fX3_goes_189 at h
    refine lv_iload hx hb dX3_goes_189 (lv_at hl 4 rfl) ?_
    refine lv_iconst (v := 3) hx hb dX3_goes_191 (by decide) ?_
    refine lv_icmp_lt (tgt := 223) hx hb dX3_goes_192 (by decide) (fun c13 => ?_) (fun c13 => ?_)
    · replace h := if_p c13 h
      exact t_223 @hk137 h (lv_sub hl [0, 1, 2, 3] rfl) hP hD hS
    · replace h := if_n c13 h
      refine lv_aload_n hx hb dX3_goes_195 rfl (lv_at hl 0 rfl) ?_
      refine lv_iload_n hx hb dX3_goes_196 rfl (lv_at hl 1 rfl) ?_
      refine lv_iload_n hx hb dX3_goes_197 rfl (lv_at hl 3 rfl) ?_
      refine lv_iconst (v := 1) hx hb dX3_goes_198 (by decide) ?_
      refine lv_isub hx hb dX3_goes_199 ?_
      refine lv_iconst (v := 0) hx hb dX3_goes_200 (by decide) ?_
      obtain ⟨v14, hv14, h⟩ := bdP_some h
      refine call_VP (As := [.int x1, .int (x3 - 1), .int 0]) (rest := []) ⟨hx, hb, hml, hown, hts⟩ (tX3_page (l := l) (dC := dC) (dI := dI) (cI := cI) (cC := cC) (ob := ob) (q := q) hv14) (cwV 3 hts gX3_goes_X3_page rfl rfl rfl (by decide +kernel) ⟨Nat.le_of_ble_eq_true rfl, Nat.le_of_ble_eq_true rfl⟩) hK hP 0 rfl rfl (by rfl) hl.1 rfl (Nat.le_of_ble_eq_true rfl) dX3_goes_201 ⟨Nat.zero_le _, Nat.zero_le _⟩ ?_
      refine lv_aload_n hx hb dX3_goes_204 rfl (lv_at hl 0 rfl) ?_
      refine lv_iload_n hx hb dX3_goes_205 rfl (lv_at hl 1 rfl) ?_
      refine lv_iconst (v := 0) hx hb dX3_goes_206 (by decide) ?_
      obtain ⟨v15, hv15, h⟩ := bdP_some h
      refine call_VP (As := [.int x1, .int 0]) (rest := [.int v14]) ⟨hx, hb, hml, hown, hts⟩ (tX3_of (l := l) (dC := dC) (dI := dI) (cI := cI) (cC := cC) (ob := ob) (q := q) hv15) (cwV 2 hts gX3_goes_X3_of rfl rfl rfl (by decide +kernel) ⟨Nat.le_of_ble_eq_true rfl, Nat.le_of_ble_eq_true rfl⟩) hK hP 0 rfl rfl (by rfl) hl.1 rfl (Nat.le_of_ble_eq_true rfl) dX3_goes_207 ⟨Nat.zero_le _, Nat.zero_le _⟩ ?_
      refine lv_icmp_eq (tgt := 216) hx hb dX3_goes_210 (by decide) (fun c16 => ?_) (fun c16 => ?_)
      · replace h := if_p c16 h
        refine lv_aload_n hx hb dX3_goes_216 rfl (lv_at hl 0 rfl) ?_
        refine lv_iload_n hx hb dX3_goes_217 rfl (lv_at hl 1 rfl) ?_
        refine lv_iconst (v := 5) hx hb dX3_goes_218 (by decide) ?_
        refine lv_iload_n hx hb dX3_goes_219 rfl (lv_at hl 3 rfl) ?_
        obtain ⟨v17, K18, hv17, h⟩ := bdE_some h
        refine call_VEv (As := [.int x1, .int 5, .int x3]) (rest := []) ⟨hx, hb, hml, hown, hts⟩ (tX3_sets (l := l) (dC := dC) (dI := dI) (cI := cI) (cC := cC) (ob := ob) (q := q) hv17) (cwV 3 hts gX3_goes_X3_sets rfl rfl rfl (by decide +kernel) ⟨Nat.le_of_ble_eq_true rfl, Nat.le_of_ble_eq_true rfl⟩) hK hP hD hS (fun _ h9 => h9) 0 rfl rfl (by rfl) hl.1 rfl (Nat.le_of_ble_eq_true rfl) dX3_goes_220 ⟨Nat.zero_le _, Nat.zero_le _⟩ (fun H locs hP hD _ hS => ?_)
        exact t_223 @hk137 h (lv_sub hl [0, 1, 2, 3] rfl) hP hD hS
      · replace h := if_n c16 h
        refine lv_goto (tgt := 223) hx hb dX3_goes_213 (by decide) ?_
        exact t_223 @hk137 h (lv_sub hl [0, 1, 2, 3] rfl) hP hD hS
  have t_153 : ∀ {k137 : KT → Int32 → Int32 → Int32 → Option (Int32 × KT)} (hk137 : ∀ {K : KT} {x1 : Int32} {x2 : Int32} {x3 : Int32} {H : Heap} {locs : List Loc} {ls : Array Slot} (h : k137 K x1 x2 x3 = some (rr, KK)) (hl : lv_has ls 6 [(0, .ref ob), (1, .int x1), (2, .int x2), (3, .int x3)]) (hP : va_P (dC, dI) vwCl (mdW cI cC ob q K) H) (hD : va_D (aL (mdL ob q)) (mdW cI cC ob q K)) (hS : va_S (aL (mdL ob q)) s.heap H locs), W p l e (headSpec wsX3_goes rmX3_goes).room s m ([.ref ob, .int p0] : List Value).toArray below meth c H locs 0 0 (MQ below (cE (dC, dI) vwCl (mdL ob q) rr (mdW cI cC ob q KK)) ([.ref ob, .int p0] : List Value).toArray s 0 0 (aL (mdL ob q))) (F0 m 137 ls [])), ∀ {n : Nat}, ∀ {K : KT} {x1 : Int32} {x2 : Int32} {x3 : Int32} {x4 : Int32} {x5 : Int32} {H : Heap} {locs : List Loc} {ls : Array Slot} (h : fX3_goes_153 N k137 n K x1 x2 x3 x4 x5 = some (rr, KK)) (hl : lv_has ls 6 [(0, .ref ob), (1, .int x1), (2, .int x2), (3, .int x3), (4, .int x4), (5, .int x5)]) (hP : va_P (dC, dI) vwCl (mdW cI cC ob q K) H) (hD : va_D (aL (mdL ob q)) (mdW cI cC ob q K)) (hS : va_S (aL (mdL ob q)) s.heap H locs), W p l e (headSpec wsX3_goes rmX3_goes).room s m ([.ref ob, .int p0] : List Value).toArray below meth c H locs 0 0 (MQ below (cE (dC, dI) vwCl (mdL ob q) rr (mdW cI cC ob q KK)) ([.ref ob, .int p0] : List Value).toArray s 0 0 (aL (mdL ob q))) (F0 m 153 ls []) := by
    intro k137 hk137 n
    induction n with
    | zero =>
      intro K x1 x2 x3 x4 x5 H locs ls h hl hP hD hS
      unfold fX3_goes_153 at h
      cases h
    | succ n ih =>
      intro K x1 x2 x3 x4 x5 H locs ls h hl hP hD hS
      unfold fX3_goes_153 at h
      refine lv_iload hx hb dX3_goes_153 (lv_at hl 5 rfl) ?_
      refine lv_iconst (v := 5) hx hb dX3_goes_155 (by decide) ?_
      refine lv_icmp_ge (tgt := 189) hx hb dX3_goes_156 (by decide) (fun c19 => ?_) (fun c19 => ?_)
      · replace h := if_p c19 h
        exact t_189 @hk137 h (lv_sub hl [0, 1, 2, 3, 4] rfl) hP hD hS
      · replace h := if_n c19 h
        refine lv_iload_n hx hb dX3_goes_159 rfl (lv_at hl 2 rfl) ?_
        refine lv_iload hx hb dX3_goes_160 (lv_at hl 5 rfl) ?_
        refine lv_ishr hx hb dX3_goes_162 ?_
        refine lv_iconst (v := 1) hx hb dX3_goes_163 (by decide) ?_
        refine lv_iand hx hb dX3_goes_164 ?_
        refine lv_iconst (v := 1) hx hb dX3_goes_165 (by decide) ?_
        refine lv_icmp_ne (tgt := 183) hx hb dX3_goes_166 (by decide) (fun c20 => ?_) (fun c20 => ?_)
        · replace h := if_n c20 h
          exact t_183 @hk137 @ih h (lv_sub hl [0, 1, 2, 3, 4, 5] rfl) hP hD hS
        · replace h := if_p c20 h
          refine lv_aload_n hx hb dX3_goes_169 rfl (lv_at hl 0 rfl) ?_
          refine lv_iload_n hx hb dX3_goes_170 rfl (lv_at hl 1 rfl) ?_
          refine lv_iload hx hb dX3_goes_171 (lv_at hl 5 rfl) ?_
          obtain ⟨v21, hv21, h⟩ := bdP_some h
          refine call_VP (As := [.int x1, .int x5]) (rest := []) ⟨hx, hb, hml, hown, hts⟩ (tX3_alike (l := l) (dC := dC) (dI := dI) (cI := cI) (cC := cC) (ob := ob) (q := q) hv21) (cwV 2 hts gX3_goes_X3_alike rfl rfl rfl (by decide +kernel) ⟨Nat.le_of_ble_eq_true rfl, Nat.le_of_ble_eq_true rfl⟩) hK hP 0 rfl rfl (by rfl) hl.1 rfl (Nat.le_of_ble_eq_true rfl) dX3_goes_173 ⟨Nat.zero_le _, Nat.zero_le _⟩ ?_
          refine lv_iload_n hx hb dX3_goes_176 rfl (lv_at hl 3 rfl) ?_
          refine lv_icmp_lt (tgt := 183) hx hb dX3_goes_177 (by decide) (fun c22 => ?_) (fun c22 => ?_)
          · replace h := if_p c22 h
            exact t_183 @hk137 @ih h (lv_sub hl [0, 1, 2, 3, 4, 5] rfl) hP hD hS
          · replace h := if_n c22 h
            refine lv_iinc (v := x4 + 1) (lv' := [(4, .int (x4 + 1)), (0, .ref ob), (1, .int x1), (2, .int x2), (3, .int x3), (5, .int x5)]) hx hb dX3_goes_180 hl (k := 4) rfl rfl (by decide) rfl (fun ls hl => ?_)
            exact t_183 @hk137 @ih h (lv_sub hl [1, 2, 3, 4, 0, 5] rfl) hP hD hS
  have t_266 : ∀ {k231 : KT → Int32 → Int32 → Int32 → Option (Int32 × KT)} (hk231 : ∀ {K : KT} {x1 : Int32} {x2 : Int32} {x3 : Int32} {H : Heap} {locs : List Loc} {ls : Array Slot} (h : k231 K x1 x2 x3 = some (rr, KK)) (hl : lv_has ls 6 [(0, .ref ob), (1, .int x1), (2, .int x2), (3, .int x3)]) (hP : va_P (dC, dI) vwCl (mdW cI cC ob q K) H) (hD : va_D (aL (mdL ob q)) (mdW cI cC ob q K)) (hS : va_S (aL (mdL ob q)) s.heap H locs), W p l e (headSpec wsX3_goes rmX3_goes).room s m ([.ref ob, .int p0] : List Value).toArray below meth c H locs 0 0 (MQ below (cE (dC, dI) vwCl (mdL ob q) rr (mdW cI cC ob q KK)) ([.ref ob, .int p0] : List Value).toArray s 0 0 (aL (mdL ob q))) (F0 m 231 ls [])), ∀ {K : KT} {x1 : Int32} {x2 : Int32} {x3 : Int32} {H : Heap} {locs : List Loc} {ls : Array Slot} (h : fX3_goes_266 N k231 K x1 x2 x3 = some (rr, KK)) (hl : lv_has ls 6 [(0, .ref ob), (1, .int x1), (2, .int x2), (3, .int x3)]) (hP : va_P (dC, dI) vwCl (mdW cI cC ob q K) H) (hD : va_D (aL (mdL ob q)) (mdW cI cC ob q K)) (hS : va_S (aL (mdL ob q)) s.heap H locs), W p l e (headSpec wsX3_goes rmX3_goes).room s m ([.ref ob, .int p0] : List Value).toArray below meth c H locs 0 0 (MQ below (cE (dC, dI) vwCl (mdL ob q) rr (mdW cI cC ob q KK)) ([.ref ob, .int p0] : List Value).toArray s 0 0 (aL (mdL ob q))) (F0 m 266 ls []) := by
    intro k231 hk231 K x1 x2 x3 H locs ls h hl hP hD hS
    unfold fX3_goes_266 at h
    refine lv_iinc (v := x3 + 1) (lv' := [(3, .int (x3 + 1)), (0, .ref ob), (1, .int x1), (2, .int x2)]) hx hb dX3_goes_266 hl (k := 3) rfl rfl (by decide) rfl (fun ls hl => ?_)
    refine lv_goto (tgt := 231) hx hb dX3_goes_269 (by decide) ?_
    exact hk231 h (lv_sub hl [1, 2, 3, 0] rfl) hP hD hS
  have t_272 : ∀ {K : KT} {x1 : Int32} {H : Heap} {locs : List Loc} {ls : Array Slot} (h : fX3_goes_272 N  K x1 = some (rr, KK)) (hl : lv_has ls 6 [(0, .ref ob), (1, .int x1)]) (hP : va_P (dC, dI) vwCl (mdW cI cC ob q K) H) (hD : va_D (aL (mdL ob q)) (mdW cI cC ob q K)) (hS : va_S (aL (mdL ob q)) s.heap H locs), W p l e (headSpec wsX3_goes rmX3_goes).room s m ([.ref ob, .int p0] : List Value).toArray below meth c H locs 0 0 (MQ below (cE (dC, dI) vwCl (mdL ob q) rr (mdW cI cC ob q KK)) ([.ref ob, .int p0] : List Value).toArray s 0 0 (aL (mdL ob q))) (F0 m 272 ls []) := by
    intro  K x1 H locs ls h hl hP hD hS
    unfold fX3_goes_272 at h
    refine lv_aload_n hx hb dX3_goes_272 rfl (lv_at hl 0 rfl) ?_
    refine lv_iload_n hx hb dX3_goes_273 rfl (lv_at hl 1 rfl) ?_
    refine lv_iconst (v := 5) hx hb dX3_goes_274 (by decide) ?_
    obtain ⟨v23, hv23, h⟩ := bdP_some h
    refine call_VP (As := [.int x1, .int 5]) (rest := []) ⟨hx, hb, hml, hown, hts⟩ (tX3_of (l := l) (dC := dC) (dI := dI) (cI := cI) (cC := cC) (ob := ob) (q := q) hv23) (cwV 2 hts gX3_goes_X3_of rfl rfl rfl (by decide +kernel) ⟨Nat.le_of_ble_eq_true rfl, Nat.le_of_ble_eq_true rfl⟩) hK hP 0 rfl rfl (by rfl) hl.1 rfl (Nat.le_of_ble_eq_true rfl) dX3_goes_275 ⟨Nat.zero_le _, Nat.zero_le _⟩ ?_
    exact W.iret hx hb hr (fun t ht _ => retE (w := mdW cI cC ob q) h hP hD hS ht) hS.2.2 dX3_goes_278
  have t_231 : ∀ {n : Nat}, ∀ {K : KT} {x1 : Int32} {x2 : Int32} {x3 : Int32} {H : Heap} {locs : List Loc} {ls : Array Slot} (h : fX3_goes_231 N  n K x1 x2 x3 = some (rr, KK)) (hl : lv_has ls 6 [(0, .ref ob), (1, .int x1), (2, .int x2), (3, .int x3)]) (hP : va_P (dC, dI) vwCl (mdW cI cC ob q K) H) (hD : va_D (aL (mdL ob q)) (mdW cI cC ob q K)) (hS : va_S (aL (mdL ob q)) s.heap H locs), W p l e (headSpec wsX3_goes rmX3_goes).room s m ([.ref ob, .int p0] : List Value).toArray below meth c H locs 0 0 (MQ below (cE (dC, dI) vwCl (mdL ob q) rr (mdW cI cC ob q KK)) ([.ref ob, .int p0] : List Value).toArray s 0 0 (aL (mdL ob q))) (F0 m 231 ls []) := by
    intro  n
    induction n with
    | zero =>
      intro K x1 x2 x3 H locs ls h hl hP hD hS
      unfold fX3_goes_231 at h
      cases h
    | succ n ih =>
      intro K x1 x2 x3 H locs ls h hl hP hD hS
      unfold fX3_goes_231 at h
      refine lv_iload_n hx hb dX3_goes_231 rfl (lv_at hl 3 rfl) ?_
      refine lv_iconst (v := 5) hx hb dX3_goes_232 (by decide) ?_
      refine lv_icmp_ge (tgt := 272) hx hb dX3_goes_233 (by decide) (fun c24 => ?_) (fun c24 => ?_)
      · replace h := if_p c24 h
        exact t_272  h (lv_sub hl [0, 1] rfl) hP hD hS
      · replace h := if_n c24 h
        refine lv_iload_n hx hb dX3_goes_236 rfl (lv_at hl 2 rfl) ?_
        refine lv_iload_n hx hb dX3_goes_237 rfl (lv_at hl 3 rfl) ?_
        refine lv_ishr hx hb dX3_goes_238 ?_
        refine lv_iconst (v := 1) hx hb dX3_goes_239 (by decide) ?_
        refine lv_iand hx hb dX3_goes_240 ?_
        refine lv_iconst (v := 1) hx hb dX3_goes_241 (by decide) ?_
        refine lv_icmp_ne (tgt := 266) hx hb dX3_goes_242 (by decide) (fun c25 => ?_) (fun c25 => ?_)
        · replace h := if_n c25 h
          exact t_266 @ih h (lv_sub hl [0, 1, 2, 3] rfl) hP hD hS
        · replace h := if_p c25 h
          refine lv_aload_n hx hb dX3_goes_245 rfl (lv_at hl 0 rfl) ?_
          refine lv_iload_n hx hb dX3_goes_246 rfl (lv_at hl 3 rfl) ?_
          refine lv_iconst (v := 5) hx hb dX3_goes_247 (by decide) ?_
          refine lv_aload_n hx hb dX3_goes_248 rfl (lv_at hl 0 rfl) ?_
          refine lv_iload_n hx hb dX3_goes_249 rfl (lv_at hl 3 rfl) ?_
          refine lv_iconst (v := 5) hx hb dX3_goes_250 (by decide) ?_
          obtain ⟨v26, hv26, h⟩ := bdP_some h
          refine call_VP (As := [.int x3, .int 5]) (rest := [.int 5, .int x3, .ref ob]) ⟨hx, hb, hml, hown, hts⟩ (tX3_of (l := l) (dC := dC) (dI := dI) (cI := cI) (cC := cC) (ob := ob) (q := q) hv26) (cwV 2 hts gX3_goes_X3_of rfl rfl rfl (by decide +kernel) ⟨Nat.le_of_ble_eq_true rfl, Nat.le_of_ble_eq_true rfl⟩) hK hP 0 rfl rfl (by rfl) hl.1 rfl (Nat.le_of_ble_eq_true rfl) dX3_goes_251 ⟨Nat.zero_le _, Nat.zero_le _⟩ ?_
          refine lv_aload_n hx hb dX3_goes_254 rfl (lv_at hl 0 rfl) ?_
          refine lv_iload_n hx hb dX3_goes_255 rfl (lv_at hl 1 rfl) ?_
          refine lv_iconst (v := 5) hx hb dX3_goes_256 (by decide) ?_
          obtain ⟨v27, hv27, h⟩ := bdP_some h
          refine call_VP (As := [.int x1, .int 5]) (rest := [.int v26, .int 5, .int x3, .ref ob]) ⟨hx, hb, hml, hown, hts⟩ (tX3_of (l := l) (dC := dC) (dI := dI) (cI := cI) (cC := cC) (ob := ob) (q := q) hv27) (cwV 2 hts gX3_goes_X3_of rfl rfl rfl (by decide +kernel) ⟨Nat.le_of_ble_eq_true rfl, Nat.le_of_ble_eq_true rfl⟩) hK hP 0 rfl rfl (by rfl) hl.1 rfl (Nat.le_of_ble_eq_true rfl) dX3_goes_257 ⟨Nat.zero_le _, Nat.zero_le _⟩ ?_
          refine va_mmax hx hb (hml.trans hl.1.symm) hown (hts (.methodLink RX3 61 Lib.Math.max.name) (by decide +kernel)) (hts (.static Lib.Math.max.name) (by decide +kernel)) (hts (.initialized "java/lang/Math") (by decide +kernel)) (hts (.code Lib.Math.max.name Lib.Math.max.code 2 (some .int)) (by decide +kernel)) (Nat.le_of_ble_eq_true rfl) (Nat.le_of_ble_eq_true rfl) (Nat.zero_le _) (Nat.zero_le _) dX3_goes_260 ?_
          obtain ⟨v28, K29, hv28, h⟩ := bdE_some h
          refine call_VEv (As := [.int x3, .int 5, .int ((if v26 < v27 then v27 else v26))]) (rest := []) ⟨hx, hb, hml, hown, hts⟩ (tX3_sets (l := l) (dC := dC) (dI := dI) (cI := cI) (cC := cC) (ob := ob) (q := q) hv28) (cwV 3 hts gX3_goes_X3_sets rfl rfl rfl (by decide +kernel) ⟨Nat.le_of_ble_eq_true rfl, Nat.le_of_ble_eq_true rfl⟩) hK hP hD hS (fun _ h9 => h9) 0 rfl rfl (by rfl) hl.1 rfl (Nat.le_of_ble_eq_true rfl) dX3_goes_263 ⟨Nat.zero_le _, Nat.zero_le _⟩ (fun H locs hP hD _ hS => ?_)
          exact t_266 @ih h (lv_sub hl [0, 1, 2, 3] rfl) hP hD hS
  have t_229 : ∀ {K : KT} {x1 : Int32} {x2 : Int32} {H : Heap} {locs : List Loc} {ls : Array Slot} (h : fX3_goes_229 N  K x1 x2 = some (rr, KK)) (hl : lv_has ls 6 [(0, .ref ob), (1, .int x1), (2, .int x2)]) (hP : va_P (dC, dI) vwCl (mdW cI cC ob q K) H) (hD : va_D (aL (mdL ob q)) (mdW cI cC ob q K)) (hS : va_S (aL (mdL ob q)) s.heap H locs), W p l e (headSpec wsX3_goes rmX3_goes).room s m ([.ref ob, .int p0] : List Value).toArray below meth c H locs 0 0 (MQ below (cE (dC, dI) vwCl (mdL ob q) rr (mdW cI cC ob q KK)) ([.ref ob, .int p0] : List Value).toArray s 0 0 (aL (mdL ob q))) (F0 m 229 ls []) := by
    intro  K x1 x2 H locs ls h hl hP hD hS
    unfold fX3_goes_229 at h
    refine lv_iconst (v := 0) hx hb dX3_goes_229 (by decide) ?_
    refine lv_istore_n (lv' := [(3, .int 0), (0, .ref ob), (1, .int x1), (2, .int x2)]) hx hb dX3_goes_230 rfl hl (by decide) rfl (fun ls hl => ?_)
    exact t_231  h (lv_sub hl [1, 2, 3, 0] rfl) hP hD hS
  have t_137 : ∀ {n : Nat}, ∀ {K : KT} {x1 : Int32} {x2 : Int32} {x3 : Int32} {H : Heap} {locs : List Loc} {ls : Array Slot} (h : fX3_goes_137 N  n K x1 x2 x3 = some (rr, KK)) (hl : lv_has ls 6 [(0, .ref ob), (1, .int x1), (2, .int x2), (3, .int x3)]) (hP : va_P (dC, dI) vwCl (mdW cI cC ob q K) H) (hD : va_D (aL (mdL ob q)) (mdW cI cC ob q K)) (hS : va_S (aL (mdL ob q)) s.heap H locs), W p l e (headSpec wsX3_goes rmX3_goes).room s m ([.ref ob, .int p0] : List Value).toArray below meth c H locs 0 0 (MQ below (cE (dC, dI) vwCl (mdL ob q) rr (mdW cI cC ob q KK)) ([.ref ob, .int p0] : List Value).toArray s 0 0 (aL (mdL ob q))) (F0 m 137 ls []) := by
    intro  n
    induction n with
    | zero =>
      intro K x1 x2 x3 H locs ls h hl hP hD hS
      unfold fX3_goes_137 at h
      cases h
    | succ n ih =>
      intro K x1 x2 x3 H locs ls h hl hP hD hS
      unfold fX3_goes_137 at h
      refine lv_iload_n hx hb dX3_goes_137 rfl (lv_at hl 3 rfl) ?_
      refine lv_aload_n hx hb dX3_goes_138 rfl (lv_at hl 0 rfl) ?_
      refine lv_iload_n hx hb dX3_goes_139 rfl (lv_at hl 1 rfl) ?_
      refine lv_iconst (v := 5) hx hb dX3_goes_140 (by decide) ?_
      obtain ⟨v30, hv30, h⟩ := bdP_some h
      refine call_VP (As := [.int x1, .int 5]) (rest := [.int x3]) ⟨hx, hb, hml, hown, hts⟩ (tX3_of (l := l) (dC := dC) (dI := dI) (cI := cI) (cC := cC) (ob := ob) (q := q) hv30) (cwV 2 hts gX3_goes_X3_of rfl rfl rfl (by decide +kernel) ⟨Nat.le_of_ble_eq_true rfl, Nat.le_of_ble_eq_true rfl⟩) hK hP 0 rfl rfl (by rfl) hl.1 rfl (Nat.le_of_ble_eq_true rfl) dX3_goes_141 ⟨Nat.zero_le _, Nat.zero_le _⟩ ?_
      refine lv_icmp_le (tgt := 229) hx hb dX3_goes_144 (by decide) (fun c31 => ?_) (fun c31 => ?_)
      · replace h := if_p c31 h
        exact t_229  h (lv_sub hl [0, 1, 2] rfl) hP hD hS
      · replace h := if_n c31 h
        refine lv_iconst (v := 1) hx hb dX3_goes_147 (by decide) ?_
        refine lv_istore (lv' := [(4, .int 1), (0, .ref ob), (1, .int x1), (2, .int x2), (3, .int x3)]) hx hb dX3_goes_148 hl (by decide) rfl (fun ls hl => ?_)
        refine lv_iconst (v := 0) hx hb dX3_goes_150 (by decide) ?_
        refine lv_istore (lv' := [(5, .int 0), (4, .int 1), (0, .ref ob), (1, .int x1), (2, .int x2), (3, .int x3)]) hx hb dX3_goes_151 hl (by decide) rfl (fun ls hl => ?_)
        exact t_153 @ih h (lv_sub hl [2, 3, 4, 5, 1, 0] rfl) hP hD hS
  have t_129 : ∀ {K : KT} {x1 : Int32} {x2 : Int32} {H : Heap} {locs : List Loc} {ls : Array Slot} (h : fX3_goes_129 N  K x1 x2 = some (rr, KK)) (hl : lv_has ls 6 [(0, .ref ob), (1, .int x1), (2, .int x2)]) (hP : va_P (dC, dI) vwCl (mdW cI cC ob q K) H) (hD : va_D (aL (mdL ob q)) (mdW cI cC ob q K)) (hS : va_S (aL (mdL ob q)) s.heap H locs), W p l e (headSpec wsX3_goes rmX3_goes).room s m ([.ref ob, .int p0] : List Value).toArray below meth c H locs 0 0 (MQ below (cE (dC, dI) vwCl (mdL ob q) rr (mdW cI cC ob q KK)) ([.ref ob, .int p0] : List Value).toArray s 0 0 (aL (mdL ob q))) (F0 m 129 ls []) := by
    intro  K x1 x2 H locs ls h hl hP hD hS
    unfold fX3_goes_129 at h
    refine lv_aload_n hx hb dX3_goes_129 rfl (lv_at hl 0 rfl) ?_
    refine lv_iload_n hx hb dX3_goes_130 rfl (lv_at hl 1 rfl) ?_
    refine lv_bipush (v := 6) hx hb dX3_goes_131 (by decide) ?_
    obtain ⟨v32, hv32, h⟩ := bdP_some h
    refine call_VP (As := [.int x1, .int 6]) (rest := []) ⟨hx, hb, hml, hown, hts⟩ (tX3_of (l := l) (dC := dC) (dI := dI) (cI := cI) (cC := cC) (ob := ob) (q := q) hv32) (cwV 2 hts gX3_goes_X3_of rfl rfl rfl (by decide +kernel) ⟨Nat.le_of_ble_eq_true rfl, Nat.le_of_ble_eq_true rfl⟩) hK hP 0 rfl rfl (by rfl) hl.1 rfl (Nat.le_of_ble_eq_true rfl) dX3_goes_133 ⟨Nat.zero_le _, Nat.zero_le _⟩ ?_
    refine lv_istore_n (lv' := [(3, .int v32), (0, .ref ob), (1, .int x1), (2, .int x2)]) hx hb dX3_goes_136 rfl hl (by decide) rfl (fun ls hl => ?_)
    exact t_137  h (lv_sub hl [1, 2, 3, 0] rfl) hP hD hS
  have t_14 : ∀ {n : Nat}, ∀ {K : KT} {x1 : Int32} {x2 : Int32} {x3 : Int32} {H : Heap} {locs : List Loc} {ls : Array Slot} (h : fX3_goes_14 N  n K x1 x2 x3 = some (rr, KK)) (hl : lv_has ls 6 [(0, .ref ob), (1, .int x1), (2, .int x2), (3, .int x3)]) (hP : va_P (dC, dI) vwCl (mdW cI cC ob q K) H) (hD : va_D (aL (mdL ob q)) (mdW cI cC ob q K)) (hS : va_S (aL (mdL ob q)) s.heap H locs), W p l e (headSpec wsX3_goes rmX3_goes).room s m ([.ref ob, .int p0] : List Value).toArray below meth c H locs 0 0 (MQ below (cE (dC, dI) vwCl (mdL ob q) rr (mdW cI cC ob q KK)) ([.ref ob, .int p0] : List Value).toArray s 0 0 (aL (mdL ob q))) (F0 m 14 ls []) := by
    intro  n
    induction n with
    | zero =>
      intro K x1 x2 x3 H locs ls h hl hP hD hS
      unfold fX3_goes_14 at h
      cases h
    | succ n ih =>
      intro K x1 x2 x3 H locs ls h hl hP hD hS
      unfold fX3_goes_14 at h
      refine lv_iload_n hx hb dX3_goes_14 rfl (lv_at hl 3 rfl) ?_
      refine lv_iconst (v := 5) hx hb dX3_goes_15 (by decide) ?_
      refine lv_icmp_ge (tgt := 129) hx hb dX3_goes_16 (by decide) (fun c33 => ?_) (fun c33 => ?_)
      · replace h := if_p c33 h
        exact t_129  h (lv_sub hl [0, 1, 2] rfl) hP hD hS
      · replace h := if_n c33 h
        refine lv_aload_n hx hb dX3_goes_19 rfl (lv_at hl 0 rfl) ?_
        refine lv_iload_n hx hb dX3_goes_20 rfl (lv_at hl 1 rfl) ?_
        refine lv_iload_n hx hb dX3_goes_21 rfl (lv_at hl 3 rfl) ?_
        obtain ⟨v34, hv34, h⟩ := bdP_some h
        refine call_VP (As := [.int x1, .int x3]) (rest := []) ⟨hx, hb, hml, hown, hts⟩ (tX3_isReached (l := l) (dC := dC) (dI := dI) (cI := cI) (cC := cC) (ob := ob) (q := q) hv34) (cwV 2 hts gX3_goes_X3_isReached rfl rfl rfl (by decide +kernel) ⟨Nat.le_of_ble_eq_true rfl, Nat.le_of_ble_eq_true rfl⟩) hK hP 0 rfl rfl (by rfl) hl.1 rfl (Nat.le_of_ble_eq_true rfl) dX3_goes_22 ⟨Nat.zero_le _, Nat.zero_le _⟩ ?_
        refine lv_if_ne (tgt := 31) hx hb dX3_goes_25 (by decide) (fun c35 => ?_) (fun c35 => ?_)
        · replace h := if_n c35 h
          refine lv_aload_n hx hb dX3_goes_31 rfl (lv_at hl 0 rfl) ?_
          refine lv_iload_n hx hb dX3_goes_32 rfl (lv_at hl 3 rfl) ?_
          refine lv_iconst (v := 0) hx hb dX3_goes_33 (by decide) ?_
          obtain ⟨v36, hv36, h⟩ := bdP_some h
          refine call_VP (As := [.int x3, .int 0]) (rest := []) ⟨hx, hb, hml, hown, hts⟩ (tX3_of (l := l) (dC := dC) (dI := dI) (cI := cI) (cC := cC) (ob := ob) (q := q) hv36) (cwV 2 hts gX3_goes_X3_of rfl rfl rfl (by decide +kernel) ⟨Nat.le_of_ble_eq_true rfl, Nat.le_of_ble_eq_true rfl⟩) hK hP 0 rfl rfl (by rfl) hl.1 rfl (Nat.le_of_ble_eq_true rfl) dX3_goes_34 ⟨Nat.zero_le _, Nat.zero_le _⟩ ?_
          refine lv_aload_n hx hb dX3_goes_37 rfl (lv_at hl 0 rfl) ?_
          refine lv_iload_n hx hb dX3_goes_38 rfl (lv_at hl 1 rfl) ?_
          refine lv_iconst (v := 0) hx hb dX3_goes_39 (by decide) ?_
          obtain ⟨v37, hv37, h⟩ := bdP_some h
          refine call_VP (As := [.int x1, .int 0]) (rest := [.int v36]) ⟨hx, hb, hml, hown, hts⟩ (tX3_of (l := l) (dC := dC) (dI := dI) (cI := cI) (cC := cC) (ob := ob) (q := q) hv37) (cwV 2 hts gX3_goes_X3_of rfl rfl rfl (by decide +kernel) ⟨Nat.le_of_ble_eq_true rfl, Nat.le_of_ble_eq_true rfl⟩) hK hP 0 rfl rfl (by rfl) hl.1 rfl (Nat.le_of_ble_eq_true rfl) dX3_goes_40 ⟨Nat.zero_le _, Nat.zero_le _⟩ ?_
          refine lv_icmp_le (tgt := 71) hx hb dX3_goes_43 (by decide) (fun c38 => ?_) (fun c38 => ?_)
          · replace h := if_p c38 h
            refine lv_aload_n hx hb dX3_goes_71 rfl (lv_at hl 0 rfl) ?_
            refine lv_iload_n hx hb dX3_goes_72 rfl (lv_at hl 3 rfl) ?_
            refine lv_iconst (v := 0) hx hb dX3_goes_73 (by decide) ?_
            obtain ⟨v39, hv39, h⟩ := bdP_some h
            refine call_VP (As := [.int x3, .int 0]) (rest := []) ⟨hx, hb, hml, hown, hts⟩ (tX3_of (l := l) (dC := dC) (dI := dI) (cI := cI) (cC := cC) (ob := ob) (q := q) hv39) (cwV 2 hts gX3_goes_X3_of rfl rfl rfl (by decide +kernel) ⟨Nat.le_of_ble_eq_true rfl, Nat.le_of_ble_eq_true rfl⟩) hK hP 0 rfl rfl (by rfl) hl.1 rfl (Nat.le_of_ble_eq_true rfl) dX3_goes_74 ⟨Nat.zero_le _, Nat.zero_le _⟩ ?_
            refine lv_aload_n hx hb dX3_goes_77 rfl (lv_at hl 0 rfl) ?_
            refine lv_iload_n hx hb dX3_goes_78 rfl (lv_at hl 1 rfl) ?_
            refine lv_iconst (v := 0) hx hb dX3_goes_79 (by decide) ?_
            obtain ⟨v40, hv40, h⟩ := bdP_some h
            refine call_VP (As := [.int x1, .int 0]) (rest := [.int v39]) ⟨hx, hb, hml, hown, hts⟩ (tX3_of (l := l) (dC := dC) (dI := dI) (cI := cI) (cC := cC) (ob := ob) (q := q) hv40) (cwV 2 hts gX3_goes_X3_of rfl rfl rfl (by decide +kernel) ⟨Nat.le_of_ble_eq_true rfl, Nat.le_of_ble_eq_true rfl⟩) hK hP 0 rfl rfl (by rfl) hl.1 rfl (Nat.le_of_ble_eq_true rfl) dX3_goes_80 ⟨Nat.zero_le _, Nat.zero_le _⟩ ?_
            refine lv_icmp_ge (tgt := 97) hx hb dX3_goes_83 (by decide) (fun c41 => ?_) (fun c41 => ?_)
            · replace h := if_p c41 h
              exact t_97 @ih h (lv_sub hl [0, 1, 2, 3] rfl) hP hD hS
            · replace h := if_n c41 h
              refine lv_aload_n hx hb dX3_goes_86 rfl (lv_at hl 0 rfl) ?_
              refine lv_iload_n hx hb dX3_goes_87 rfl (lv_at hl 3 rfl) ?_
              refine lv_aload_n hx hb dX3_goes_88 rfl (lv_at hl 0 rfl) ?_
              refine lv_iload_n hx hb dX3_goes_89 rfl (lv_at hl 1 rfl) ?_
              refine lv_iconst (v := 0) hx hb dX3_goes_90 (by decide) ?_
              obtain ⟨v42, hv42, h⟩ := bdP_some h
              refine call_VP (As := [.int x1, .int 0]) (rest := [.int x3, .ref ob]) ⟨hx, hb, hml, hown, hts⟩ (tX3_of (l := l) (dC := dC) (dI := dI) (cI := cI) (cC := cC) (ob := ob) (q := q) hv42) (cwV 2 hts gX3_goes_X3_of rfl rfl rfl (by decide +kernel) ⟨Nat.le_of_ble_eq_true rfl, Nat.le_of_ble_eq_true rfl⟩) hK hP 0 rfl rfl (by rfl) hl.1 rfl (Nat.le_of_ble_eq_true rfl) dX3_goes_91 ⟨Nat.zero_le _, Nat.zero_le _⟩ ?_
              obtain ⟨v43, K44, hv43, h⟩ := bdE_some h
              refine call_VEv (As := [.int x3, .int v42]) (rest := []) ⟨hx, hb, hml, hown, hts⟩ (tX3_tellsNoVote (l := l) (dC := dC) (dI := dI) (cI := cI) (cC := cC) (ob := ob) (q := q) hv43) (cwV 2 hts gX3_goes_X3_tellsNoVote rfl rfl rfl (by decide +kernel) ⟨Nat.le_of_ble_eq_true rfl, Nat.le_of_ble_eq_true rfl⟩) hK hP hD hS (fun _ h9 => h9) 0 rfl rfl (by rfl) hl.1 rfl (Nat.le_of_ble_eq_true rfl) dX3_goes_94 ⟨Nat.zero_le _, Nat.zero_le _⟩ (fun H locs hP hD _ hS => ?_)
              exact t_97 @ih h (lv_sub hl [0, 1, 2, 3] rfl) hP hD hS
          · replace h := if_n c38 h
            exact t_46  h (lv_sub hl [0, 1, 3] rfl) hP hD hS
        · replace h := if_p c35 h
          refine lv_goto (tgt := 123) hx hb dX3_goes_28 (by decide) ?_
          exact t_123 @ih h (lv_sub hl [0, 1, 2, 3] rfl) hP hD hS
  have hS : va_S (aL (mdL ob q)) s.heap s.heap [] := va_S.rf
  have hl := lv_entry ([.ref ob, .int p0]) (n := 6) (Nat.le_of_ble_eq_true rfl)
  rw [lg_entry_eq]
  generalize (lg_sl ([.ref ob, .int p0]) ++ List.replicate (6 - (lg_sl ([.ref ob, .int p0])).length) Slot.unset).toArray = ls at hl ⊢
  have hl : lv_has ls 6 [(0, .ref ob), (1, .int p0)] := hl
  have h := hf
  unfold mX3_goes at h
  refine lv_aload_n hx hb dX3_goes_0 rfl (lv_at hl 0 rfl) ?_
  refine va_get (D := (dC, dI)) (ci := 4) (v := .ref (q 0)) (C := RX3) (T := TX3) (N := 17) hx hb hts hwX3 hown hK hP 0 rfl rfl 0 (by decide) hf_9 (fun _ h9 => h9) rfl dX3_goes_1 ?_
  refine lv_iconst (v := 4) hx hb dX3_goes_4 (by decide) ?_
  refine lv_dup2_11 hx hb dX3_goes_5 rfl rfl ?_
  obtain ⟨hi46, v45, ev45, h⟩ := rdA_some h
  refine k_iald hx hb hK hP 1 0 rfl rfl hi46 ev45 dX3_goes_6 ?_
  refine lv_iconst (v := 1) hx hb dX3_goes_7 (by decide) ?_
  refine lv_iadd hx hb dX3_goes_8 ?_
  obtain ⟨hi48, K47, eK47, h⟩ := wrA_some h
  refine va_iast hx hb hK hP hD hS 1 0 rfl rfl hi48 dX3_goes_9 (fun H locs hP hD hS => ?_)
  have hP : va_P (dC, dI) vwCl (mdW cI cC ob q K47) H := by rw [eK47]; exact hP
  have hD : va_D (aL (mdL ob q)) (mdW cI cC ob q K47) := by rw [eK47]; exact hD
  refine lv_iconst (v := 0) hx hb dX3_goes_10 (by decide) ?_
  refine lv_istore_n (lv' := [(2, .int 0), (0, .ref ob), (1, .int p0)]) hx hb dX3_goes_11 rfl hl (by decide) rfl (fun ls hl => ?_)
  refine lv_iconst (v := 0) hx hb dX3_goes_12 (by decide) ?_
  refine lv_istore_n (lv' := [(3, .int 0), (2, .int 0), (0, .ref ob), (1, .int p0)]) hx hb dX3_goes_13 rfl hl (by decide) rfl (fun ls hl => ?_)
  exact t_14  h (lv_sub hl [2, 3, 1, 0] rfl) hP hD hS
