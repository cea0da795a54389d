def fX3_isAhead_68 (N : Nat) (K : KT)  (y0 : Int32) : Option Int32 := gd (y0 = 0 ∨ y0 = 1) (some y0)
def fX3_isAhead_63 (N : Nat) (K : KT)   : Option Int32 := fX3_isAhead_68 N K  1
def fX3_isAhead_67 (N : Nat) (K : KT)   : Option Int32 := fX3_isAhead_68 N K  0
def fX3_isAhead_50 (N : Nat) (K : KT)  (x1 : Int32) (x2 : Int32) (x3 : Int32) : Option Int32 := (if 0 < x3 then fX3_isAhead_63 N K   else (if x3 = 0 then (if x2 ≤ x1 then fX3_isAhead_67 N K   else fX3_isAhead_63 N K  ) else fX3_isAhead_67 N K  ))
def fX3_isAhead_32 (N : Nat) (K : KT)  (x1 : Int32) (x2 : Int32) (x3 : Int32) : Option Int32 := (if x3 = 0 then bdP (mX3_of N K x1 5) (fun v5 => bdP (mX3_of N K x2 5) (fun v6 => fX3_isAhead_50 N K  x1 x2 (v5 - v6))) else fX3_isAhead_50 N K  x1 x2 x3)
def mX3_isAhead (N : Nat) (K : KT) (p0 : Int32) (p1 : Int32) : Option Int32 := bdP (mX3_lastTerm N K p0) (fun v7 => bdP (mX3_lastTerm N K p1) (fun v8 => (if (v7 - v8) = 0 then bdP (mX3_of N K p0 6) (fun v10 => bdP (mX3_of N K p1 6) (fun v11 => fX3_isAhead_32 N K  p0 p1 (v10 - v11))) else fX3_isAhead_32 N K  p0 p1 (v7 - v8))))
def rmX3_isAhead : Room := { frames := 4, cells := 0, slots := 0, locals := 106 }
set_option maxHeartbeats 4000000 in
set_option maxRecDepth 100000 in
theorem tX3_isAhead {l : Launch} {dC : Nat → ClassId} {dI : Nat → Nat → Nat} {cI : ClassId} {cC : ClassId} {ob : Nat} {q : Nat → Nat} {N : Nat} {K : KT} {p0 : Int32} {p1 : Int32} {rr : Int32} (hf : mX3_isAhead N K p0 p1 = some rr) : Met l yX3_isAhead wsX3_isAhead rmX3_isAhead (cP (dC, dI) vwCl [(cI, .int), (cC, .char)] (mdW cI cC ob q K) [.ref ob, .int p0, .int p1]) (cQp rr) 0 0 (fun _ => False) := by
  refine Met.ofW (cc := cX3_isAhead) (maxL := 4) (ret := (some .boolean)) (by decide) rfl ?_
  intro p e s m args below meth c s₁ B hml hv
  obtain ⟨rfl, hP, hK⟩ := hv
  have hx := B.exec
  have hb := B.bytes
  have hr := B.returns
  have hts := atoms_spec (ws := wsX3_isAhead) B.pre
  have hown : s.vm.findClass RX3 = some m.cls := findClass_of_methodNamed B.named
  have hlocks := B.notSynchronized
  have t_68 : ∀ {y0 : Int32} {ls : Array Slot} (h : fX3_isAhead_68 N K  y0 = some rr) (hl : lv_has ls 4 []), W p l e (headSpec wsX3_isAhead rmX3_isAhead).room s m ([.ref ob, .int p0, .int p1] : List Value).toArray below meth c s.heap [] 0 0 (MQ below (cQp rr) ([.ref ob, .int p0, .int p1] : List Value).toArray s 0 0 (fun _ => False)) (F0 m 68 ls [.int y0]) := by
    intro  y0 ls h hl
    unfold fX3_isAhead_68 at h
    obtain ⟨hz, h⟩ := gd_some h
    exact W.zret hx hb hr (zb_ok hz) (fun t ht _ => retP h ht) (fun _ h9 => absurd h9 List.not_mem_nil) dX3_isAhead_68
  have t_63 : ∀  {ls : Array Slot} (h : fX3_isAhead_63 N K   = some rr) (hl : lv_has ls 4 []), W p l e (headSpec wsX3_isAhead rmX3_isAhead).room s m ([.ref ob, .int p0, .int p1] : List Value).toArray below meth c s.heap [] 0 0 (MQ below (cQp rr) ([.ref ob, .int p0, .int p1] : List Value).toArray s 0 0 (fun _ => False)) (F0 m 63 ls []) := by
    intro   ls h hl
    unfold fX3_isAhead_63 at h
    refine lv_iconst (v := 1) hx hb dX3_isAhead_63 (by decide) ?_
    refine lv_goto (tgt := 68) hx hb dX3_isAhead_64 (by decide) ?_
    exact t_68  h (lv_sub hl [] rfl)
  have t_67 : ∀  {ls : Array Slot} (h : fX3_isAhead_67 N K   = some rr) (hl : lv_has ls 4 []), W p l e (headSpec wsX3_isAhead rmX3_isAhead).room s m ([.ref ob, .int p0, .int p1] : List Value).toArray below meth c s.heap [] 0 0 (MQ below (cQp rr) ([.ref ob, .int p0, .int p1] : List Value).toArray s 0 0 (fun _ => False)) (F0 m 67 ls []) := by
    intro   ls h hl
    unfold fX3_isAhead_67 at h
    refine lv_iconst (v := 0) hx hb dX3_isAhead_67 (by decide) ?_
    exact t_68  h (lv_sub hl [] rfl)
  have t_50 : ∀ {x1 : Int32} {x2 : Int32} {x3 : Int32} {ls : Array Slot} (h : fX3_isAhead_50 N K  x1 x2 x3 = some rr) (hl : lv_has ls 4 [(1, .int x1), (2, .int x2), (3, .int x3)]), W p l e (headSpec wsX3_isAhead rmX3_isAhead).room s m ([.ref ob, .int p0, .int p1] : List Value).toArray below meth c s.heap [] 0 0 (MQ below (cQp rr) ([.ref ob, .int p0, .int p1] : List Value).toArray s 0 0 (fun _ => False)) (F0 m 50 ls []) := by
    intro  x1 x2 x3 ls h hl
    unfold fX3_isAhead_50 at h
    refine lv_iload_n hx hb dX3_isAhead_50 rfl (lv_at hl 2 rfl) ?_
    refine lv_if_gt (tgt := 63) hx hb dX3_isAhead_51 (by decide) (fun c1 => ?_) (fun c1 => ?_)
    · replace h := if_p c1 h
      exact t_63  h (lv_sub hl [] rfl)
    · replace h := if_n c1 h
      refine lv_iload_n hx hb dX3_isAhead_54 rfl (lv_at hl 2 rfl) ?_
      refine lv_if_ne (tgt := 67) hx hb dX3_isAhead_55 (by decide) (fun c2 => ?_) (fun c2 => ?_)
      · replace h := if_n c2 h
        exact t_67  h (lv_sub hl [] rfl)
      · replace h := if_p c2 h
        refine lv_iload_n hx hb dX3_isAhead_58 rfl (lv_at hl 0 rfl) ?_
        refine lv_iload_n hx hb dX3_isAhead_59 rfl (lv_at hl 1 rfl) ?_
        refine lv_icmp_ge (tgt := 67) hx hb dX3_isAhead_60 (by decide) (fun c3 => ?_) (fun c3 => ?_)
        · replace h := if_p c3 h
          exact t_67  h (lv_sub hl [] rfl)
        · replace h := if_n c3 h
          exact t_63  h (lv_sub hl [] rfl)
  have t_32 : ∀ {x1 : Int32} {x2 : Int32} {x3 : Int32} {ls : Array Slot} (h : fX3_isAhead_32 N K  x1 x2 x3 = some rr) (hl : lv_has ls 4 [(0, .ref ob), (1, .int x1), (2, .int x2), (3, .int x3)]), W p l e (headSpec wsX3_isAhead rmX3_isAhead).room s m ([.ref ob, .int p0, .int p1] : List Value).toArray below meth c s.heap [] 0 0 (MQ below (cQp rr) ([.ref ob, .int p0, .int p1] : List Value).toArray s 0 0 (fun _ => False)) (F0 m 32 ls []) := by
    intro  x1 x2 x3 ls h hl
    unfold fX3_isAhead_32 at h
    refine lv_iload_n hx hb dX3_isAhead_32 rfl (lv_at hl 3 rfl) ?_
    refine lv_if_ne (tgt := 50) hx hb dX3_isAhead_33 (by decide) (fun c4 => ?_) (fun c4 => ?_)
    · replace h := if_n c4 h
      exact t_50  h (lv_sub hl [1, 2, 3] rfl)
    · replace h := if_p c4 h
      refine lv_aload_n hx hb dX3_isAhead_36 rfl (lv_at hl 0 rfl) ?_
      refine lv_iload_n hx hb dX3_isAhead_37 rfl (lv_at hl 1 rfl) ?_
      refine lv_iconst (v := 5) hx hb dX3_isAhead_38 (by decide) ?_
      obtain ⟨v5, hv5, h⟩ := bdP_some h
      refine call_VP (As := [.int x1, .int 5]) (rest := []) ⟨hx, hb, hml, hown, hts⟩ (tX3_of (l := l) (dC := dC) (dI := dI) (cI := cI) (cC := cC) (ob := ob) (q := q) hv5) (cwV 2 hts gX3_isAhead_X3_of rfl rfl rfl (by decide +kernel) ⟨Nat.le_of_ble_eq_true rfl, Nat.le_of_ble_eq_true rfl⟩) hK hP 0 rfl rfl (by rfl) hl.1 rfl (Nat.le_of_ble_eq_true rfl) dX3_isAhead_39 ⟨Nat.zero_le _, Nat.zero_le _⟩ ?_
      refine lv_aload_n hx hb dX3_isAhead_42 rfl (lv_at hl 0 rfl) ?_
      refine lv_iload_n hx hb dX3_isAhead_43 rfl (lv_at hl 2 rfl) ?_
      refine lv_iconst (v := 5) hx hb dX3_isAhead_44 (by decide) ?_
      obtain ⟨v6, hv6, h⟩ := bdP_some h
      refine call_VP (As := [.int x2, .int 5]) (rest := [.int v5]) ⟨hx, hb, hml, hown, hts⟩ (tX3_of (l := l) (dC := dC) (dI := dI) (cI := cI) (cC := cC) (ob := ob) (q := q) hv6) (cwV 2 hts gX3_isAhead_X3_of rfl rfl rfl (by decide +kernel) ⟨Nat.le_of_ble_eq_true rfl, Nat.le_of_ble_eq_true rfl⟩) hK hP 0 rfl rfl (by rfl) hl.1 rfl (Nat.le_of_ble_eq_true rfl) dX3_isAhead_45 ⟨Nat.zero_le _, Nat.zero_le _⟩ ?_
      refine lv_isub hx hb dX3_isAhead_48 ?_
      refine lv_istore_n (lv' := [(3, .int (v5 - v6)), (0, .ref ob), (1, .int x1), (2, .int x2)]) hx hb dX3_isAhead_49 rfl hl (by decide) rfl (fun ls hl => ?_)
      exact t_50  h (lv_sub hl [2, 3, 0] rfl)
  have hl := lv_entry ([.ref ob, .int p0, .int p1]) (n := 4) (Nat.le_of_ble_eq_true rfl)
  rw [lg_entry_eq]
  generalize (lg_sl ([.ref ob, .int p0, .int p1]) ++ List.replicate (4 - (lg_sl ([.ref ob, .int p0, .int p1])).length) Slot.unset).toArray = ls at hl ⊢
  have hl : lv_has ls 4 [(0, .ref ob), (1, .int p0), (2, .int p1)] := hl
  have h := hf
  unfold mX3_isAhead at h
  refine lv_aload_n hx hb dX3_isAhead_0 rfl (lv_at hl 0 rfl) ?_
  refine lv_iload_n hx hb dX3_isAhead_1 rfl (lv_at hl 1 rfl) ?_
  obtain ⟨v7, hv7, h⟩ := bdP_some h
  refine call_VP (As := [.int p0]) (rest := []) ⟨hx, hb, hml, hown, hts⟩ (tX3_lastTerm (l := l) (dC := dC) (dI := dI) (cI := cI) (cC := cC) (ob := ob) (q := q) hv7) (cwV 1 hts gX3_isAhead_X3_lastTerm rfl rfl rfl (by decide +kernel) ⟨Nat.le_of_ble_eq_true rfl, Nat.le_of_ble_eq_true rfl⟩) hK hP 0 rfl rfl (by rfl) hl.1 rfl (Nat.le_of_ble_eq_true rfl) dX3_isAhead_2 ⟨Nat.zero_le _, Nat.zero_le _⟩ ?_
  refine lv_aload_n hx hb dX3_isAhead_5 rfl (lv_at hl 0 rfl) ?_
  refine lv_iload_n hx hb dX3_isAhead_6 rfl (lv_at hl 2 rfl) ?_
  obtain ⟨v8, hv8, h⟩ := bdP_some h
  refine call_VP (As := [.int p1]) (rest := [.int v7]) ⟨hx, hb, hml, hown, hts⟩ (tX3_lastTerm (l := l) (dC := dC) (dI := dI) (cI := cI) (cC := cC) (ob := ob) (q := q) hv8) (cwV 1 hts gX3_isAhead_X3_lastTerm rfl rfl rfl (by decide +kernel) ⟨Nat.le_of_ble_eq_true rfl, Nat.le_of_ble_eq_true rfl⟩) hK hP 0 rfl rfl (by rfl) hl.1 rfl (Nat.le_of_ble_eq_true rfl) dX3_isAhead_7 ⟨Nat.zero_le _, Nat.zero_le _⟩ ?_
  refine lv_isub hx hb dX3_isAhead_10 ?_
  refine lv_istore_n (lv' := [(3, .int (v7 - v8)), (0, .ref ob), (1, .int p0), (2, .int p1)]) hx hb dX3_isAhead_11 rfl hl (by decide) rfl (fun ls hl => ?_)
  refine lv_iload_n hx hb dX3_isAhead_12 rfl (lv_at hl 0 rfl) ?_
  refine lv_if_ne (tgt := 32) hx hb dX3_isAhead_13 (by decide) (fun c9 => ?_) (fun c9 => ?_)
  · replace h := if_n c9 h
    exact t_32  h (lv_sub hl [1, 2, 3, 0] rfl)
  · replace h := if_p c9 h
    refine lv_aload_n hx hb dX3_isAhead_16 rfl (lv_at hl 1 rfl) ?_
    refine lv_iload_n hx hb dX3_isAhead_17 rfl (lv_at hl 2 rfl) ?_
    refine lv_bipush (v := 6) hx hb dX3_isAhead_18 (by decide) ?_
    obtain ⟨v10, hv10, h⟩ := bdP_some h
    refine call_VP (As := [.int p0, .int 6]) (rest := []) ⟨hx, hb, hml, hown, hts⟩ (tX3_of (l := l) (dC := dC) (dI := dI) (cI := cI) (cC := cC) (ob := ob) (q := q) hv10) (cwV 2 hts gX3_isAhead_X3_of rfl rfl rfl (by decide +kernel) ⟨Nat.le_of_ble_eq_true rfl, Nat.le_of_ble_eq_true rfl⟩) hK hP 0 rfl rfl (by rfl) hl.1 rfl (Nat.le_of_ble_eq_true rfl) dX3_isAhead_20 ⟨Nat.zero_le _, Nat.zero_le _⟩ ?_
    refine lv_aload_n hx hb dX3_isAhead_23 rfl (lv_at hl 1 rfl) ?_
    refine lv_iload_n hx hb dX3_isAhead_24 rfl (lv_at hl 3 rfl) ?_
    refine lv_bipush (v := 6) hx hb dX3_isAhead_25 (by decide) ?_
    obtain ⟨v11, hv11, h⟩ := bdP_some h
    refine call_VP (As := [.int p1, .int 6]) (rest := [.int v10]) ⟨hx, hb, hml, hown, hts⟩ (tX3_of (l := l) (dC := dC) (dI := dI) (cI := cI) (cC := cC) (ob := ob) (q := q) hv11) (cwV 2 hts gX3_isAhead_X3_of rfl rfl rfl (by decide +kernel) ⟨Nat.le_of_ble_eq_true rfl, Nat.le_of_ble_eq_true rfl⟩) hK hP 0 rfl rfl (by rfl) hl.1 rfl (Nat.le_of_ble_eq_true rfl) dX3_isAhead_27 ⟨Nat.zero_le _, Nat.zero_le _⟩ ?_
    refine lv_isub hx hb dX3_isAhead_30 ?_
    refine lv_istore_n (lv' := [(3, .int (v10 - v11)), (0, .ref ob), (1, .int p0), (2, .int p1)]) hx hb dX3_isAhead_31 rfl hl (by decide) rfl (fun ls hl => ?_)
    exact t_32  h (lv_sub hl [1, 2, 3, 0] rfl)
def fX3_ranked_37 (N : Nat) (K : KT) (k2 : Int32 → Int32 → Option Int32) (k12 : Int32 → Int32 → Int32 → Int32 → Option Int32) (x1 : Int32) (x2 : Int32) (x3 : Int32) (x4 : Int32) : Option Int32 := k12 x1 x2 x3 (x4 + 1)
def fX3_ranked_43 (N : Nat) (K : KT) (k2 : Int32 → Int32 → Option Int32) (x1 : Int32) (x2 : Int32) (x3 : Int32) : Option Int32 := (if x3 = x1 then some x2 else k2 x1 (x2 + 1))
def fX3_ranked_12 (N : Nat) (K : KT) (k2 : Int32 → Int32 → Option Int32) : Nat → Int32 → Int32 → Int32 → Int32 → Option Int32
  | 0, _, _, _, _ => none
  | n + 1, x1, x2, x3, x4 => (if 5 ≤ x4 then fX3_ranked_43 N K k2 x1 x2 x3 else (if x4 = x2 then fX3_ranked_37 N K k2 (fX3_ranked_12 N K k2 n) x1 x2 x3 x4 else bdP (mX3_isAhead N K x4 x2) (fun v4 => (if v4 = 0 then fX3_ranked_37 N K k2 (fX3_ranked_12 N K k2 n) x1 x2 x3 x4 else fX3_ranked_37 N K k2 (fX3_ranked_12 N K k2 n) x1 x2 (x3 + 1) x4))))
def fX3_ranked_2 (N : Nat) (K : KT)  : Nat → Int32 → Int32 → Option Int32
  | 0, _, _ => none
  | n + 1, x1, x2 => (if 5 ≤ x2 then some ((-1)) else fX3_ranked_12 N K (fX3_ranked_2 N K  n) N x1 x2 0 0)
def mX3_ranked (N : Nat) (K : KT) (p0 : Int32) : Option Int32 := fX3_ranked_2 N K  N p0 0
def rmX3_ranked : Room := { frames := 5, cells := 0, slots := 0, locals := 129 }
set_option maxHeartbeats 4000000 in
set_option maxRecDepth 100000 in
theorem tX3_ranked {l : Launch} {dC : Nat → ClassId} {dI : Nat → Nat → Nat} {cI : ClassId} {cC : ClassId} {ob : Nat} {q : Nat → Nat} {N : Nat} {K : KT} {p0 : Int32} {rr : Int32} (hf : mX3_ranked N K p0 = some rr) : Met l yX3_ranked wsX3_ranked rmX3_ranked (cP (dC, dI) vwCl [(cI, .int), (cC, .char)] (mdW cI cC ob q K) [.ref ob, .int p0]) (cQp rr) 0 0 (fun _ => False) := by
  refine Met.ofW (cc := cX3_ranked) (maxL := 5) (ret := (some .int)) (by decide) rfl ?_
  intro p e s m args below meth c s₁ B hml hv
  obtain ⟨rfl, hP, hK⟩ := hv
  have hx := B.exec
  have hb := B.bytes
  have hr := B.returns
  have hts := atoms_spec (ws := wsX3_ranked) B.pre
  have hown : s.vm.findClass RX3 = some m.cls := findClass_of_methodNamed B.named
  have hlocks := B.notSynchronized
  have t_37 : ∀ {k2 : Int32 → Int32 → Option Int32} (hk2 : ∀ {x1 : Int32} {x2 : Int32} {ls : Array Slot} (h : k2 x1 x2 = some rr) (hl : lv_has ls 5 [(0, .ref ob), (1, .int x1), (2, .int x2)]), W p l e (headSpec wsX3_ranked rmX3_ranked).room s m ([.ref ob, .int p0] : List Value).toArray below meth c s.heap [] 0 0 (MQ below (cQp rr) ([.ref ob, .int p0] : List Value).toArray s 0 0 (fun _ => False)) (F0 m 2 ls [])) {k12 : Int32 → Int32 → Int32 → Int32 → Option Int32} (hk12 : ∀ {x1 : Int32} {x2 : Int32} {x3 : Int32} {x4 : Int32} {ls : Array Slot} (h : k12 x1 x2 x3 x4 = some rr) (hl : lv_has ls 5 [(0, .ref ob), (1, .int x1), (2, .int x2), (3, .int x3), (4, .int x4)]), W p l e (headSpec wsX3_ranked rmX3_ranked).room s m ([.ref ob, .int p0] : List Value).toArray below meth c s.heap [] 0 0 (MQ below (cQp rr) ([.ref ob, .int p0] : List Value).toArray s 0 0 (fun _ => False)) (F0 m 12 ls [])), ∀ {x1 : Int32} {x2 : Int32} {x3 : Int32} {x4 : Int32} {ls : Array Slot} (h : fX3_ranked_37 N K k2 k12 x1 x2 x3 x4 = some rr) (hl : lv_has ls 5 [(0, .ref ob), (1, .int x1), (2, .int x2), (3, .int x3), (4, .int x4)]), W p l e (headSpec wsX3_ranked rmX3_ranked).room s m ([.ref ob, .int p0] : List Value).toArray below meth c s.heap [] 0 0 (MQ below (cQp rr) ([.ref ob, .int p0] : List Value).toArray s 0 0 (fun _ => False)) (F0 m 37 ls []) := by
    intro k2 hk2 k12 hk12 x1 x2 x3 x4 ls h hl
    unfold fX3_ranked_37 at h
    refine lv_iinc (v := x4 + 1) (lv' := [(4, .int (x4 + 1)), (0, .ref ob), (1, .int x1), (2, .int x2), (3, .int x3)]) hx hb dX3_ranked_37 hl (k := 4) rfl rfl (by decide) rfl (fun ls hl => ?_)
    refine lv_goto (tgt := 12) hx hb dX3_ranked_40 (by decide) ?_
    exact hk12 h (lv_sub hl [1, 2, 3, 4, 0] rfl)
  have t_43 : ∀ {k2 : Int32 → Int32 → Option Int32} (hk2 : ∀ {x1 : Int32} {x2 : Int32} {ls : Array Slot} (h : k2 x1 x2 = some rr) (hl : lv_has ls 5 [(0, .ref ob), (1, .int x1), (2, .int x2)]), W p l e (headSpec wsX3_ranked rmX3_ranked).room s m ([.ref ob, .int p0] : List Value).toArray below meth c s.heap [] 0 0 (MQ below (cQp rr) ([.ref ob, .int p0] : List Value).toArray s 0 0 (fun _ => False)) (F0 m 2 ls [])), ∀ {x1 : Int32} {x2 : Int32} {x3 : Int32} {ls : Array Slot} (h : fX3_ranked_43 N K k2 x1 x2 x3 = some rr) (hl : lv_has ls 5 [(0, .ref ob), (1, .int x1), (2, .int x2), (3, .int x3)]), W p l e (headSpec wsX3_ranked rmX3_ranked).room s m ([.ref ob, .int p0] : List Value).toArray below meth c s.heap [] 0 0 (MQ below (cQp rr) ([.ref ob, .int p0] : List Value).toArray s 0 0 (fun _ => False)) (F0 m 43 ls []) := by
    intro k2 hk2 x1 x2 x3 ls h hl
    unfold fX3_ranked_43 at h
    refine lv_iload_n hx hb dX3_ranked_43 rfl (lv_at hl 3 rfl) ?_
    refine lv_iload_n hx hb dX3_ranked_44 rfl (lv_at hl 1 rfl) ?_
    refine lv_icmp_ne (tgt := 50) hx hb dX3_ranked_45 (by decide) (fun c1 => ?_) (fun c1 => ?_)
    · replace h := if_n c1 h
      refine lv_iinc (v := x2 + 1) (lv' := [(2, .int (x2 + 1)), (0, .ref ob), (1, .int x1), (3, .int x3)]) hx hb dX3_ranked_50 hl (k := 2) rfl rfl (by decide) rfl (fun ls hl => ?_)
      refine lv_goto (tgt := 2) hx hb dX3_ranked_53 (by decide) ?_
      exact hk2 h (lv_sub hl [1, 2, 0] rfl)
    · replace h := if_p c1 h
      refine lv_iload_n hx hb dX3_ranked_48 rfl (lv_at hl 2 rfl) ?_
      exact W.iret hx hb hr (fun t ht _ => retP h ht) (fun _ h9 => absurd h9 List.not_mem_nil) dX3_ranked_49
  have t_12 : ∀ {k2 : Int32 → Int32 → Option Int32} (hk2 : ∀ {x1 : Int32} {x2 : Int32} {ls : Array Slot} (h : k2 x1 x2 = some rr) (hl : lv_has ls 5 [(0, .ref ob), (1, .int x1), (2, .int x2)]), W p l e (headSpec wsX3_ranked rmX3_ranked).room s m ([.ref ob, .int p0] : List Value).toArray below meth c s.heap [] 0 0 (MQ below (cQp rr) ([.ref ob, .int p0] : List Value).toArray s 0 0 (fun _ => False)) (F0 m 2 ls [])), ∀ {n : Nat}, ∀ {x1 : Int32} {x2 : Int32} {x3 : Int32} {x4 : Int32} {ls : Array Slot} (h : fX3_ranked_12 N K k2 n x1 x2 x3 x4 = some rr) (hl : lv_has ls 5 [(0, .ref ob), (1, .int x1), (2, .int x2), (3, .int x3), (4, .int x4)]), W p l e (headSpec wsX3_ranked rmX3_ranked).room s m ([.ref ob, .int p0] : List Value).toArray below meth c s.heap [] 0 0 (MQ below (cQp rr) ([.ref ob, .int p0] : List Value).toArray s 0 0 (fun _ => False)) (F0 m 12 ls []) := by
    intro k2 hk2 n
    induction n with
    | zero =>
      intro x1 x2 x3 x4 ls h hl
      unfold fX3_ranked_12 at h
      cases h
    | succ n ih =>
      intro x1 x2 x3 x4 ls h hl
      unfold fX3_ranked_12 at h
      refine lv_iload hx hb dX3_ranked_12 (lv_at hl 4 rfl) ?_
      refine lv_iconst (v := 5) hx hb dX3_ranked_14 (by decide) ?_
      refine lv_icmp_ge (tgt := 43) hx hb dX3_ranked_15 (by decide) (fun c2 => ?_) (fun c2 => ?_)
      · replace h := if_p c2 h
        exact t_43 @hk2 h (lv_sub hl [0, 1, 2, 3] rfl)
      · replace h := if_n c2 h
        refine lv_iload hx hb dX3_ranked_18 (lv_at hl 4 rfl) ?_
        refine lv_iload_n hx hb dX3_ranked_20 rfl (lv_at hl 2 rfl) ?_
        refine lv_icmp_eq (tgt := 37) hx hb dX3_ranked_21 (by decide) (fun c3 => ?_) (fun c3 => ?_)
        · replace h := if_p c3 h
          exact t_37 @hk2 @ih h (lv_sub hl [0, 1, 2, 3, 4] rfl)
        · replace h := if_n c3 h
          refine lv_aload_n hx hb dX3_ranked_24 rfl (lv_at hl 0 rfl) ?_
          refine lv_iload hx hb dX3_ranked_25 (lv_at hl 4 rfl) ?_
          refine lv_iload_n hx hb dX3_ranked_27 rfl (lv_at hl 2 rfl) ?_
          obtain ⟨v4, hv4, h⟩ := bdP_some h
          refine call_VP (As := [.int x4, .int x2]) (rest := []) ⟨hx, hb, hml, hown, hts⟩ (tX3_isAhead (l := l) (dC := dC) (dI := dI) (cI := cI) (cC := cC) (ob := ob) (q := q) hv4) (cwV 2 hts gX3_ranked_X3_isAhead rfl rfl rfl (by decide +kernel) ⟨Nat.le_of_ble_eq_true rfl, Nat.le_of_ble_eq_true rfl⟩) hK hP 0 rfl rfl (by rfl) hl.1 rfl (Nat.le_of_ble_eq_true rfl) dX3_ranked_28 ⟨Nat.zero_le _, Nat.zero_le _⟩ ?_
          refine lv_if_eq (tgt := 37) hx hb dX3_ranked_31 (by decide) (fun c5 => ?_) (fun c5 => ?_)
          · replace h := if_p c5 h
            exact t_37 @hk2 @ih h (lv_sub hl [0, 1, 2, 3, 4] rfl)
          · replace h := if_n c5 h
            refine lv_iinc (v := x3 + 1) (lv' := [(3, .int (x3 + 1)), (0, .ref ob), (1, .int x1), (2, .int x2), (4, .int x4)]) hx hb dX3_ranked_34 hl (k := 3) rfl rfl (by decide) rfl (fun ls hl => ?_)
            exact t_37 @hk2 @ih h (lv_sub hl [1, 2, 3, 0, 4] rfl)
  have t_2 : ∀ {n : Nat}, ∀ {x1 : Int32} {x2 : Int32} {ls : Array Slot} (h : fX3_ranked_2 N K  n x1 x2 = some rr) (hl : lv_has ls 5 [(0, .ref ob), (1, .int x1), (2, .int x2)]), W p l e (headSpec wsX3_ranked rmX3_ranked).room s m ([.ref ob, .int p0] : List Value).toArray below meth c s.heap [] 0 0 (MQ below (cQp rr) ([.ref ob, .int p0] : List Value).toArray s 0 0 (fun _ => False)) (F0 m 2 ls []) := by
    intro  n
    induction n with
    | zero =>
      intro x1 x2 ls h hl
      unfold fX3_ranked_2 at h
      cases h
    | succ n ih =>
      intro x1 x2 ls h hl
      unfold fX3_ranked_2 at h
      refine lv_iload_n hx hb dX3_ranked_2 rfl (lv_at hl 2 rfl) ?_
      refine lv_iconst (v := 5) hx hb dX3_ranked_3 (by decide) ?_
      refine lv_icmp_ge (tgt := 56) hx hb dX3_ranked_4 (by decide) (fun c6 => ?_) (fun c6 => ?_)
      · replace h := if_p c6 h
        refine lv_iconst (v := (-1)) hx hb dX3_ranked_56 (by decide) ?_
        exact W.iret hx hb hr (fun t ht _ => retP h ht) (fun _ h9 => absurd h9 List.not_mem_nil) dX3_ranked_57
      · replace h := if_n c6 h
        refine lv_iconst (v := 0) hx hb dX3_ranked_7 (by decide) ?_
        refine lv_istore_n (lv' := [(3, .int 0), (0, .ref ob), (1, .int x1), (2, .int x2)]) hx hb dX3_ranked_8 rfl hl (by decide) rfl (fun ls hl => ?_)
        refine lv_iconst (v := 0) hx hb dX3_ranked_9 (by decide) ?_
        refine lv_istore (lv' := [(4, .int 0), (3, .int 0), (0, .ref ob), (1, .int x1), (2, .int x2)]) hx hb dX3_ranked_10 hl (by decide) rfl (fun ls hl => ?_)
        exact t_12 @ih h (lv_sub hl [2, 3, 4, 1, 0] rfl)
  have hl := lv_entry ([.ref ob, .int p0]) (n := 5) (Nat.le_of_ble_eq_true rfl)
  rw [lg_entry_eq]
  generalize (lg_sl ([.ref ob, .int p0]) ++ List.replicate (5 - (lg_sl ([.ref ob, .int p0])).length) Slot.unset).toArray = ls at hl ⊢
  have hl : lv_has ls 5 [(0, .ref ob), (1, .int p0)] := hl
  have h := hf
  unfold mX3_ranked at h
  refine lv_iconst (v := 0) hx hb dX3_ranked_0 (by decide) ?_
  refine lv_istore_n (lv' := [(2, .int 0), (0, .ref ob), (1, .int p0)]) hx hb dX3_ranked_1 rfl hl (by decide) rfl (fun ls hl => ?_)
  exact t_2  h (lv_sub hl [1, 2, 0] rfl)
def mX3_signs (N : Nat) (K : KT) (p0 : Int32) : Option (Int32 × KT) := ptF K 8 2 ((K 8 2) + 1) (fun K1 => wrA K1 5 200 (K 8 2) (vp_nar .char p0) (fun K2 => some (0, K2)))
def rmX3_signs : Room := { frames := 1, cells := 0, slots := 0, locals := 40 }
set_option maxHeartbeats 4000000 in
set_option maxRecDepth 100000 in
theorem tX3_signs {l : Launch} {dC : Nat → ClassId} {dI : Nat → Nat → Nat} {cI : ClassId} {cC : ClassId} {ob : Nat} {q : Nat → Nat} {N : Nat} {K : KT} {p0 : Int32} {rr : Int32} {KK : KT} (hf : mX3_signs N K p0 = some (rr, KK)) : Met l yX3_signs wsX3_signs rmX3_signs (cPe (dC, dI) vwCl [(cI, .int), (cC, .char)] (mdL ob q) (mdW cI cC ob q K) [.ref ob, .int p0]) (cEv (dC, dI) vwCl (mdL ob q) (mdW cI cC ob q KK)) 0 0 (aL (mdL ob q)) := by
  refine Met.ofW (cc := cX3_signs) (maxL := 2) (ret := none) (by decide) rfl ?_
  intro p e s m args below meth c s₁ B hml hv
  obtain ⟨rfl, hP, hK, hD⟩ := hv
  have hx := B.exec
  have hb := B.bytes
  have hr := B.returns
  have hts := atoms_spec (ws := wsX3_signs) B.pre
  have hown : s.vm.findClass RX3 = some m.cls := findClass_of_methodNamed B.named
  have hlocks := B.notSynchronized
  have hwX3 : ∀ w ∈ u_ws RX3 TX3 17, w ∈ wsX3_signs := by decide +kernel
  have hf_25 := hts (.fieldLink RX3 25 "CaravanLogsModel" "line" "[C") (by decide +kernel)
  have hf_168 := hts (.fieldLink RX3 168 "CaravanLogsModel" "lined" "I") (by decide +kernel)
  have hS : va_S (aL (mdL ob q)) s.heap s.heap [] := va_S.rf
  have hl := lv_entry ([.ref ob, .int p0]) (n := 2) (Nat.le_of_ble_eq_true rfl)
  rw [lg_entry_eq]
  generalize (lg_sl ([.ref ob, .int p0]) ++ List.replicate (2 - (lg_sl ([.ref ob, .int p0])).length) Slot.unset).toArray = ls at hl ⊢
  have hl : lv_has ls 2 [(0, .ref ob), (1, .int p0)] := hl
  have h := hf
  unfold mX3_signs at h
  refine lv_aload_n hx hb dX3_signs_0 rfl (lv_at hl 0 rfl) ?_
  refine va_get (D := (dC, dI)) (ci := 4) (v := .ref (q 5)) (C := RX3) (T := TX3) (N := 17) hx hb hts hwX3 hown hK hP 0 rfl rfl 7 (by decide) hf_25 (fun _ h9 => h9) rfl dX3_signs_1 ?_
  refine lv_aload_n hx hb dX3_signs_4 rfl (lv_at hl 0 rfl) ?_
  refine lv_dup hx hb dX3_signs_5 rfl ?_
  refine va_get (D := (dC, dI)) (ci := 4) (v := .int (K 8 2)) (C := RX3) (T := TX3) (N := 17) hx hb hts hwX3 hown hK hP 0 rfl rfl 8 (by decide) hf_168 (fun _ h9 => h9) rfl dX3_signs_6 ?_
  refine lv_dup_x1 hx hb dX3_signs_9 rfl rfl ?_
  refine lv_iconst (v := 1) hx hb dX3_signs_10 (by decide) ?_
  refine lv_iadd hx hb dX3_signs_11 ?_
  obtain ⟨K1, eK1, h⟩ := ptF_some h
  refine va_put (D := (dC, dI)) (ci := 4) (v := .int ((K 8 2) + 1)) (ty := .int) (C := RX3) (T := TX3) (N := 17) hx hb hts hwX3 tyX3 tyX3_ok nmX3 hown hK hP hD hS 0 rfl rfl 8 (by decide) hf_168 (fun _ h9 => h9) rfl (by decide +kernel) rfl rfl (Nat.le_of_ble_eq_true rfl) dX3_signs_12 (fun H locs hP hD hS => ?_)
  have hP : va_P (dC, dI) vwCl (mdW cI cC ob q K1) H := by rw [eK1]; exact hP
  have hD : va_D (aL (mdL ob q)) (mdW cI cC ob q K1) := by rw [eK1]; exact hD
  refine lv_iload_n hx hb dX3_signs_15 rfl (lv_at hl 1 rfl) ?_
  obtain ⟨hi3, K2, eK2, h⟩ := wrA_some h
  refine va_cast hx hb hK hP hD hS 6 1 rfl rfl hi3 dX3_signs_16 (fun H locs hP hD hS => ?_)
  have hP : va_P (dC, dI) vwCl (mdW cI cC ob q K2) H := by rw [eK2]; exact hP
  have hD : va_D (aL (mdL ob q)) (mdW cI cC ob q K2) := by rw [eK2]; exact hD
  exact W.vret hx hb hr (fun t ht _ => retEv (w := mdW cI cC ob q) h hP hD hS ht) hS.2.2 dX3_signs_17
def fX3_digitsOf_14 (N : Nat)  (K : KT) (x1 : Int32) : Option (Int32 × KT) := bdE (mX3_signs N K (i2c (48 + (x1 - x1 / 10 * 10)))) (fun v1 K2 => some (0, K2))
def mX3_digitsOf (N : Nat) : Nat → KT → Int32 → Option (Int32 × KT)
  | 0, _, _ => none
  | d + 1, K, p0 => (if p0 ≤ 9 then fX3_digitsOf_14 N  K p0 else bdE (mX3_digitsOf N d K (p0 / 10)) (fun v4 K5 => fX3_digitsOf_14 N  K5 p0))
def rmX3_digitsOf (d : Nat) : Room := { frames := d + 2, cells := 0, slots := 0, locals := 40 + 40 * d }
set_option maxHeartbeats 4000000 in
set_option maxRecDepth 100000 in
theorem tX3_digitsOf {l : Launch} {dC : Nat → ClassId} {dI : Nat → Nat → Nat} {cI : ClassId} {cC : ClassId} {ob : Nat} {q : Nat → Nat} {N : Nat} : ∀ {d : Nat} {K : KT} {p0 : Int32} {rr : Int32} {KK : KT} (hf : mX3_digitsOf N d K p0 = some (rr, KK)), Met l yX3_digitsOf wsX3_digitsOf (rmX3_digitsOf d) (cPe (dC, dI) vwCl [(cI, .int), (cC, .char)] (mdL ob q) (mdW cI cC ob q K) [.ref ob, .int p0]) (cEv (dC, dI) vwCl (mdL ob q) (mdW cI cC ob q KK)) 0 0 (aL (mdL ob q)) := by
  intro d
  induction d with
  | zero =>
    intro K p0 rr KK hf
    unfold mX3_digitsOf at hf
    cases hf
  | succ d ih =>
  intro K p0 rr KK hf
  refine Met.ofW (cc := cX3_digitsOf) (maxL := 2) (ret := none) (by decide) rfl ?_
  intro p e s m args below meth c s₁ B hml hv
  obtain ⟨rfl, hP, hK, hD⟩ := hv
  have hx := B.exec
  have hb := B.bytes
  have hr := B.returns
  have hts := atoms_spec (ws := wsX3_digitsOf) B.pre
  have hown : s.vm.findClass RX3 = some m.cls := findClass_of_methodNamed B.named
  have hlocks := B.notSynchronized
  have t_14 : ∀ {K : KT} {x1 : Int32} {H : Heap} {locs : List Loc} {ls : Array Slot} (h : fX3_digitsOf_14 N  K x1 = some (rr, KK)) (hl : lv_has ls 2 [(0, .ref ob), (1, .int x1)]) (hP : va_P (dC, dI) vwCl (mdW cI cC ob q K) H) (hD : va_D (aL (mdL ob q)) (mdW cI cC ob q K)) (hS : va_S (aL (mdL ob q)) s.heap H locs), W p l e (headSpec wsX3_digitsOf (rmX3_digitsOf (d + 1))).room s m ([.ref ob, .int p0] : List Value).toArray below meth c H locs 0 0 (MQ below (cEv (dC, dI) vwCl (mdL ob q) (mdW cI cC ob q KK)) ([.ref ob, .int p0] : List Value).toArray s 0 0 (aL (mdL ob q))) (F0 m 14 ls []) := by
    intro  K x1 H locs ls h hl hP hD hS
    unfold fX3_digitsOf_14 at h
    refine lv_aload_n hx hb dX3_digitsOf_14 rfl (lv_at hl 0 rfl) ?_
    refine lv_bipush (v := 48) hx hb dX3_digitsOf_15 (by decide) ?_
    refine lv_iload_n hx hb dX3_digitsOf_17 rfl (lv_at hl 1 rfl) ?_
    refine lv_bipush (v := 10) hx hb dX3_digitsOf_18 (by decide) ?_
    refine lv_irem hx hb dX3_digitsOf_20 (by decide) ?_
    refine lv_iadd hx hb dX3_digitsOf_21 ?_
    refine lv_i2c (v := i2c (48 + (x1 - x1 / 10 * 10))) hx hb dX3_digitsOf_22 rfl ?_
    obtain ⟨v1, K2, hv1, h⟩ := bdE_some h
    refine call_VEv (As := [.int (i2c (48 + (x1 - x1 / 10 * 10)))]) (rest := []) ⟨hx, hb, hml, hown, hts⟩ (tX3_signs (l := l) (dC := dC) (dI := dI) (cI := cI) (cC := cC) (ob := ob) (q := q) hv1) (cwV 1 hts gX3_digitsOf_X3_signs rfl rfl rfl (by decide +kernel) ⟨(by show _ + 1 ≤ d + 1 + 2; first | exact Nat.le_refl _ | (show 1 + 1 ≤ d + 1 + 2; omega)), (by first | (show _ ≤ 40 + 40 * (d + 1); show 8 + (_ + 11) + (40 + 40 * d) ≤ _; omega) | (show 8 + (_ + 11) + 40 ≤ 40 + 40 * (d + 1); omega))⟩) hK hP hD hS (fun _ h9 => h9) 0 rfl rfl (by rfl) hl.1 rfl (Nat.le_of_ble_eq_true rfl) dX3_digitsOf_23 ⟨Nat.zero_le _, Nat.zero_le _⟩ (fun H locs hP hD _ hS => ?_)
    exact W.vret hx hb hr (fun t ht _ => retEv (w := mdW cI cC ob q) h hP hD hS ht) hS.2.2 dX3_digitsOf_26
  have hS : va_S (aL (mdL ob q)) s.heap s.heap [] := va_S.rf
  have hl := lv_entry ([.ref ob, .int p0]) (n := 2) (Nat.le_of_ble_eq_true rfl)
  rw [lg_entry_eq]
  generalize (lg_sl ([.ref ob, .int p0]) ++ List.replicate (2 - (lg_sl ([.ref ob, .int p0])).length) Slot.unset).toArray = ls at hl ⊢
  have hl : lv_has ls 2 [(0, .ref ob), (1, .int p0)] := hl
  have h := hf
  unfold mX3_digitsOf at h
  refine lv_iload_n hx hb dX3_digitsOf_0 rfl (lv_at hl 1 rfl) ?_
  refine lv_bipush (v := 9) hx hb dX3_digitsOf_1 (by decide) ?_
  refine lv_icmp_le (tgt := 14) hx hb dX3_digitsOf_3 (by decide) (fun c3 => ?_) (fun c3 => ?_)
  · replace h := if_p c3 h
    exact t_14  h (lv_sub hl [0, 1] rfl) hP hD hS
  · replace h := if_n c3 h
    refine lv_aload_n hx hb dX3_digitsOf_6 rfl (lv_at hl 0 rfl) ?_
    refine lv_iload_n hx hb dX3_digitsOf_7 rfl (lv_at hl 1 rfl) ?_
    refine lv_bipush (v := 10) hx hb dX3_digitsOf_8 (by decide) ?_
    refine lv_idiv hx hb dX3_digitsOf_10 (by decide) ?_
    obtain ⟨v4, K5, hv4, h⟩ := bdE_some h
    refine call_VEv (As := [.int (p0 / 10)]) (rest := []) ⟨hx, hb, hml, hown, hts⟩ (ih hv4) (cwV 1 hts gX3_digitsOf_X3_digitsOf rfl rfl rfl (by decide +kernel) ⟨(by show _ + 1 ≤ d + 1 + 2; first | exact Nat.le_refl _ | (show 1 + 1 ≤ d + 1 + 2; omega)), (by first | (show _ ≤ 40 + 40 * (d + 1); show 8 + (_ + 11) + (40 + 40 * d) ≤ _; omega) | (show 8 + (_ + 11) + 40 ≤ 40 + 40 * (d + 1); omega))⟩) hK hP hD hS (fun _ h9 => h9) 0 rfl rfl (by rfl) hl.1 rfl (Nat.le_of_ble_eq_true rfl) dX3_digitsOf_11 ⟨Nat.zero_le _, Nat.zero_le _⟩ (fun H locs hP hD _ hS => ?_)
    exact t_14  h (lv_sub hl [0, 1] rfl) hP hD hS
def fX3_describe_101 (N : Nat)  (K : KT) (x1 : Int32) : Option (Int32 × KT) := bdE (mX3_signs N K 115) (fun v1 K2 => bdP (mX3_of N K2 x1 4) (fun v3 => bdE (mX3_digitsOf N 12 K2 v3) (fun v4 K5 => some (K5 8 2, K5))))
def fX3_describe_49 (N : Nat)  (K : KT) (x1 : Int32) : Option (Int32 × KT) := bdE (mX3_signs N K 58) (fun v6 K7 => bdP (mX3_of N K7 x1 0) (fun v8 => bdE (mX3_digitsOf N 12 K7 v8) (fun v9 K10 => bdE (mX3_signs N K10 118) (fun v11 K12 => bdP (mX3_of N K12 x1 1) (fun v13 => (if v13 = 0 then bdE (mX3_signs N K12 45) (fun v18 K19 => fX3_describe_101 N  K19 x1) else bdP (mX3_of N K12 x1 1) (fun v15 => bdE (mX3_digitsOf N 12 K12 (v15 - 1)) (fun v16 K17 => fX3_describe_101 N  K17 x1))))))))
def fX3_describe_33 (N : Nat)  (K : KT) (x1 : Int32) : Option (Int32 × KT) := bdP (mX3_of N K x1 2) (fun v20 => (if v20 = 1 then bdE (mX3_signs N K 67) (fun v22 K23 => fX3_describe_49 N  K23 x1) else fX3_describe_49 N  K x1))
def mX3_describe (N : Nat) (K : KT) (p0 : Int32) : Option (Int32 × KT) := bdP (mX3_isCamp N p0) (fun v24 => (if v24 = 0 then some ((-1), K) else ptF K 8 2 0 (fun K26 => bdE (mX3_digitsOf N 12 K26 p0) (fun v27 K28 => bdP (mX3_isAwake N K28 p0) (fun v29 => (if v29 = 0 then bdE (mX3_signs N K28 122) (fun v31 K32 => fX3_describe_33 N  K32 p0) else fX3_describe_33 N  K28 p0))))))
def rmX3_describe : Room := { frames := 15, cells := 0, slots := 0, locals := 541 }
set_option maxHeartbeats 4000000 in
set_option maxRecDepth 100000 in
theorem tX3_describe {l : Launch} {dC : Nat → ClassId} {dI : Nat → Nat → Nat} {cI : ClassId} {cC : ClassId} {ob : Nat} {q : Nat → Nat} {N : Nat} {K : KT} {p0 : Int32} {rr : Int32} {KK : KT} (hf : mX3_describe N K p0 = some (rr, KK)) : Met l yX3_describe wsX3_describe rmX3_describe (cPe (dC, dI) vwCl [(cI, .int), (cC, .char)] (mdL ob q) (mdW cI cC ob q K) [.ref ob, .int p0]) (cE (dC, dI) vwCl (mdL ob q) rr (mdW cI cC ob q KK)) 0 0 (aL (mdL ob q)) := by
  refine Met.ofW (cc := cX3_describe) (maxL := 2) (ret := (some .int)) (by decide) rfl ?_
  intro p e s m args below meth c s₁ B hml hv
  obtain ⟨rfl, hP, hK, hD⟩ := hv
  have hx := B.exec
  have hb := B.bytes
  have hr := B.returns
  have hts := atoms_spec (ws := wsX3_describe) B.pre
  have hown : s.vm.findClass RX3 = some m.cls := findClass_of_methodNamed B.named
  have hlocks := B.notSynchronized
  have hwX3 : ∀ w ∈ u_ws RX3 TX3 17, w ∈ wsX3_describe := by decide +kernel
  have hf_168 := hts (.fieldLink RX3 168 "CaravanLogsModel" "lined" "I") (by decide +kernel)
  have t_101 : ∀ {K : KT} {x1 : Int32} {H : Heap} {locs : List Loc} {ls : Array Slot} (h : fX3_describe_101 N  K x1 = some (rr, KK)) (hl : lv_has ls 2 [(0, .ref ob), (1, .int x1)]) (hP : va_P (dC, dI) vwCl (mdW cI cC ob q K) H) (hD : va_D (aL (mdL ob q)) (mdW cI cC ob q K)) (hS : va_S (aL (mdL ob q)) s.heap H locs), W p l e (headSpec wsX3_describe rmX3_describe).room s m ([.ref ob, .int p0] : List Value).toArray below meth c H locs 0 0 (MQ below (cE (dC, dI) vwCl (mdL ob q) rr (mdW cI cC ob q KK)) ([.ref ob, .int p0] : List Value).toArray s 0 0 (aL (mdL ob q))) (F0 m 101 ls []) := by
    intro  K x1 H locs ls h hl hP hD hS
    unfold fX3_describe_101 at h
    refine lv_aload_n hx hb dX3_describe_101 rfl (lv_at hl 0 rfl) ?_
    refine lv_bipush (v := 115) hx hb dX3_describe_102 (by decide) ?_
    obtain ⟨v1, K2, hv1, h⟩ := bdE_some h
    refine call_VEv (As := [.int 115]) (rest := []) ⟨hx, hb, hml, hown, hts⟩ (tX3_signs (l := l) (dC := dC) (dI := dI) (cI := cI) (cC := cC) (ob := ob) (q := q) hv1) (cwV 1 hts gX3_describe_X3_signs rfl rfl rfl (by decide +kernel) ⟨Nat.le_of_ble_eq_true rfl, Nat.le_of_ble_eq_true rfl⟩) hK hP hD hS (fun _ h9 => h9) 0 rfl rfl (by rfl) hl.1 rfl (Nat.le_of_ble_eq_true rfl) dX3_describe_104 ⟨Nat.zero_le _, Nat.zero_le _⟩ (fun H locs hP hD _ hS => ?_)
    refine lv_aload_n hx hb dX3_describe_107 rfl (lv_at hl 0 rfl) ?_
    refine lv_aload_n hx hb dX3_describe_108 rfl (lv_at hl 0 rfl) ?_
    refine lv_iload_n hx hb dX3_describe_109 rfl (lv_at hl 1 rfl) ?_
    refine lv_iconst (v := 4) hx hb dX3_describe_110 (by decide) ?_
    obtain ⟨v3, hv3, h⟩ := bdP_some h
    refine call_VP (As := [.int x1, .int 4]) (rest := [.ref ob]) ⟨hx, hb, hml, hown, hts⟩ (tX3_of (l := l) (dC := dC) (dI := dI) (cI := cI) (cC := cC) (ob := ob) (q := q) hv3) (cwV 2 hts gX3_describe_X3_of rfl rfl rfl (by decide +kernel) ⟨Nat.le_of_ble_eq_true rfl, Nat.le_of_ble_eq_true rfl⟩) hK hP 0 rfl rfl (by rfl) hl.1 rfl (Nat.le_of_ble_eq_true rfl) dX3_describe_111 ⟨Nat.zero_le _, Nat.zero_le _⟩ ?_
    obtain ⟨v4, K5, hv4, h⟩ := bdE_some h
    refine call_VEv (As := [.int v3]) (rest := []) ⟨hx, hb, hml, hown, hts⟩ (tX3_digitsOf (l := l) (dC := dC) (dI := dI) (cI := cI) (cC := cC) (ob := ob) (q := q) hv4) (cwV 1 hts gX3_describe_X3_digitsOf rfl rfl rfl (by decide +kernel) ⟨Nat.le_of_ble_eq_true rfl, Nat.le_of_ble_eq_true rfl⟩) hK hP hD hS (fun _ h9 => h9) 0 rfl rfl (by rfl) hl.1 rfl (Nat.le_of_ble_eq_true rfl) dX3_describe_114 ⟨Nat.zero_le _, Nat.zero_le _⟩ (fun H locs hP hD _ hS => ?_)
    refine lv_aload_n hx hb dX3_describe_117 rfl (lv_at hl 0 rfl) ?_
    refine va_get (D := (dC, dI)) (ci := 4) (v := .int (K5 8 2)) (C := RX3) (T := TX3) (N := 17) hx hb hts hwX3 hown hK hP 0 rfl rfl 8 (by decide) hf_168 (fun _ h9 => h9) rfl dX3_describe_118 ?_
    exact W.iret hx hb hr (fun t ht _ => retE (w := mdW cI cC ob q) h hP hD hS ht) hS.2.2 dX3_describe_121
  have t_49 : ∀ {K : KT} {x1 : Int32} {H : Heap} {locs : List Loc} {ls : Array Slot} (h : fX3_describe_49 N  K x1 = some (rr, KK)) (hl : lv_has ls 2 [(0, .ref ob), (1, .int x1)]) (hP : va_P (dC, dI) vwCl (mdW cI cC ob q K) H) (hD : va_D (aL (mdL ob q)) (mdW cI cC ob q K)) (hS : va_S (aL (mdL ob q)) s.heap H locs), W p l e (headSpec wsX3_describe rmX3_describe).room s m ([.ref ob, .int p0] : List Value).toArray below meth c H locs 0 0 (MQ below (cE (dC, dI) vwCl (mdL ob q) rr (mdW cI cC ob q KK)) ([.ref ob, .int p0] : List Value).toArray s 0 0 (aL (mdL ob q))) (F0 m 49 ls []) := by
    intro  K x1 H locs ls h hl hP hD hS
    unfold fX3_describe_49 at h
    refine lv_aload_n hx hb dX3_describe_49 rfl (lv_at hl 0 rfl) ?_
    refine lv_bipush (v := 58) hx hb dX3_describe_50 (by decide) ?_
    obtain ⟨v6, K7, hv6, h⟩ := bdE_some h
    refine call_VEv (As := [.int 58]) (rest := []) ⟨hx, hb, hml, hown, hts⟩ (tX3_signs (l := l) (dC := dC) (dI := dI) (cI := cI) (cC := cC) (ob := ob) (q := q) hv6) (cwV 1 hts gX3_describe_X3_signs rfl rfl rfl (by decide +kernel) ⟨Nat.le_of_ble_eq_true rfl, Nat.le_of_ble_eq_true rfl⟩) hK hP hD hS (fun _ h9 => h9) 0 rfl rfl (by rfl) hl.1 rfl (Nat.le_of_ble_eq_true rfl) dX3_describe_52 ⟨Nat.zero_le _, Nat.zero_le _⟩ (fun H locs hP hD _ hS => ?_)
    refine lv_aload_n hx hb dX3_describe_55 rfl (lv_at hl 0 rfl) ?_
    refine lv_aload_n hx hb dX3_describe_56 rfl (lv_at hl 0 rfl) ?_
    refine lv_iload_n hx hb dX3_describe_57 rfl (lv_at hl 1 rfl) ?_
    refine lv_iconst (v := 0) hx hb dX3_describe_58 (by decide) ?_
    obtain ⟨v8, hv8, h⟩ := bdP_some h
    refine call_VP (As := [.int x1, .int 0]) (rest := [.ref ob]) ⟨hx, hb, hml, hown, hts⟩ (tX3_of (l := l) (dC := dC) (dI := dI) (cI := cI) (cC := cC) (ob := ob) (q := q) hv8) (cwV 2 hts gX3_describe_X3_of rfl rfl rfl (by decide +kernel) ⟨Nat.le_of_ble_eq_true rfl, Nat.le_of_ble_eq_true rfl⟩) hK hP 0 rfl rfl (by rfl) hl.1 rfl (Nat.le_of_ble_eq_true rfl) dX3_describe_59 ⟨Nat.zero_le _, Nat.zero_le _⟩ ?_
    obtain ⟨v9, K10, hv9, h⟩ := bdE_some h
    refine call_VEv (As := [.int v8]) (rest := []) ⟨hx, hb, hml, hown, hts⟩ (tX3_digitsOf (l := l) (dC := dC) (dI := dI) (cI := cI) (cC := cC) (ob := ob) (q := q) hv9) (cwV 1 hts gX3_describe_X3_digitsOf rfl rfl rfl (by decide +kernel) ⟨Nat.le_of_ble_eq_true rfl, Nat.le_of_ble_eq_true rfl⟩) hK hP hD hS (fun _ h9 => h9) 0 rfl rfl (by rfl) hl.1 rfl (Nat.le_of_ble_eq_true rfl) dX3_describe_62 ⟨Nat.zero_le _, Nat.zero_le _⟩ (fun H locs hP hD _ hS => ?_)
    refine lv_aload_n hx hb dX3_describe_65 rfl (lv_at hl 0 rfl) ?_
    refine lv_bipush (v := 118) hx hb dX3_describe_66 (by decide) ?_
    obtain ⟨v11, K12, hv11, h⟩ := bdE_some h
    refine call_VEv (As := [.int 118]) (rest := []) ⟨hx, hb, hml, hown, hts⟩ (tX3_signs (l := l) (dC := dC) (dI := dI) (cI := cI) (cC := cC) (ob := ob) (q := q) hv11) (cwV 1 hts gX3_describe_X3_signs rfl rfl rfl (by decide +kernel) ⟨Nat.le_of_ble_eq_true rfl, Nat.le_of_ble_eq_true rfl⟩) hK hP hD hS (fun _ h9 => h9) 0 rfl rfl (by rfl) hl.1 rfl (Nat.le_of_ble_eq_true rfl) dX3_describe_68 ⟨Nat.zero_le _, Nat.zero_le _⟩ (fun H locs hP hD _ hS => ?_)
    refine lv_aload_n hx hb dX3_describe_71 rfl (lv_at hl 0 rfl) ?_
    refine lv_iload_n hx hb dX3_describe_72 rfl (lv_at hl 1 rfl) ?_
    refine lv_iconst (v := 1) hx hb dX3_describe_73 (by decide) ?_
    obtain ⟨v13, hv13, h⟩ := bdP_some h
    refine call_VP (As := [.int x1, .int 1]) (rest := []) ⟨hx, hb, hml, hown, hts⟩ (tX3_of (l := l) (dC := dC) (dI := dI) (cI := cI) (cC := cC) (ob := ob) (q := q) hv13) (cwV 2 hts gX3_describe_X3_of rfl rfl rfl (by decide +kernel) ⟨Nat.le_of_ble_eq_true rfl, Nat.le_of_ble_eq_true rfl⟩) hK hP 0 rfl rfl (by rfl) hl.1 rfl (Nat.le_of_ble_eq_true rfl) dX3_describe_74 ⟨Nat.zero_le _, Nat.zero_le _⟩ ?_
    refine lv_if_ne (tgt := 89) hx hb dX3_describe_77 (by decide) (fun c14 => ?_) (fun c14 => ?_)
    · replace h := if_n c14 h
      refine lv_aload_n hx hb dX3_describe_89 rfl (lv_at hl 0 rfl) ?_
      refine lv_aload_n hx hb dX3_describe_90 rfl (lv_at hl 0 rfl) ?_
      refine lv_iload_n hx hb dX3_describe_91 rfl (lv_at hl 1 rfl) ?_
      refine lv_iconst (v := 1) hx hb dX3_describe_92 (by decide) ?_
      obtain ⟨v15, hv15, h⟩ := bdP_some h
      refine call_VP (As := [.int x1, .int 1]) (rest := [.ref ob]) ⟨hx, hb, hml, hown, hts⟩ (tX3_of (l := l) (dC := dC) (dI := dI) (cI := cI) (cC := cC) (ob := ob) (q := q) hv15) (cwV 2 hts gX3_describe_X3_of rfl rfl rfl (by decide +kernel) ⟨Nat.le_of_ble_eq_true rfl, Nat.le_of_ble_eq_true rfl⟩) hK hP 0 rfl rfl (by rfl) hl.1 rfl (Nat.le_of_ble_eq_true rfl) dX3_describe_93 ⟨Nat.zero_le _, Nat.zero_le _⟩ ?_
      refine lv_iconst (v := 1) hx hb dX3_describe_96 (by decide) ?_
      refine lv_isub hx hb dX3_describe_97 ?_
      obtain ⟨v16, K17, hv16, h⟩ := bdE_some h
      refine call_VEv (As := [.int (v15 - 1)]) (rest := []) ⟨hx, hb, hml, hown, hts⟩ (tX3_digitsOf (l := l) (dC := dC) (dI := dI) (cI := cI) (cC := cC) (ob := ob) (q := q) hv16) (cwV 1 hts gX3_describe_X3_digitsOf rfl rfl rfl (by decide +kernel) ⟨Nat.le_of_ble_eq_true rfl, Nat.le_of_ble_eq_true rfl⟩) hK hP hD hS (fun _ h9 => h9) 0 rfl rfl (by rfl) hl.1 rfl (Nat.le_of_ble_eq_true rfl) dX3_describe_98 ⟨Nat.zero_le _, Nat.zero_le _⟩ (fun H locs hP hD _ hS => ?_)
      exact t_101  h (lv_sub hl [0, 1] rfl) hP hD hS
    · replace h := if_p c14 h
      refine lv_aload_n hx hb dX3_describe_80 rfl (lv_at hl 0 rfl) ?_
      refine lv_bipush (v := 45) hx hb dX3_describe_81 (by decide) ?_
      obtain ⟨v18, K19, hv18, h⟩ := bdE_some h
      refine call_VEv (As := [.int 45]) (rest := []) ⟨hx, hb, hml, hown, hts⟩ (tX3_signs (l := l) (dC := dC) (dI := dI) (cI := cI) (cC := cC) (ob := ob) (q := q) hv18) (cwV 1 hts gX3_describe_X3_signs rfl rfl rfl (by decide +kernel) ⟨Nat.le_of_ble_eq_true rfl, Nat.le_of_ble_eq_true rfl⟩) hK hP hD hS (fun _ h9 => h9) 0 rfl rfl (by rfl) hl.1 rfl (Nat.le_of_ble_eq_true rfl) dX3_describe_83 ⟨Nat.zero_le _, Nat.zero_le _⟩ (fun H locs hP hD _ hS => ?_)
      refine lv_goto (tgt := 101) hx hb dX3_describe_86 (by decide) ?_
      exact t_101  h (lv_sub hl [0, 1] rfl) hP hD hS
  have t_33 : ∀ {K : KT} {x1 : Int32} {H : Heap} {locs : List Loc} {ls : Array Slot} (h : fX3_describe_33 N  K x1 = some (rr, KK)) (hl : lv_has ls 2 [(0, .ref ob), (1, .int x1)]) (hP : va_P (dC, dI) vwCl (mdW cI cC ob q K) H) (hD : va_D (aL (mdL ob q)) (mdW cI cC ob q K)) (hS : va_S (aL (mdL ob q)) s.heap H locs), W p l e (headSpec wsX3_describe rmX3_describe).room s m ([.ref ob, .int p0] : List Value).toArray below meth c H locs 0 0 (MQ below (cE (dC, dI) vwCl (mdL ob q) rr (mdW cI cC ob q KK)) ([.ref ob, .int p0] : List Value).toArray s 0 0 (aL (mdL ob q))) (F0 m 33 ls []) := by
    intro  K x1 H locs ls h hl hP hD hS
    unfold fX3_describe_33 at h
    refine lv_aload_n hx hb dX3_describe_33 rfl (lv_at hl 0 rfl) ?_
    refine lv_iload_n hx hb dX3_describe_34 rfl (lv_at hl 1 rfl) ?_
    refine lv_iconst (v := 2) hx hb dX3_describe_35 (by decide) ?_
    obtain ⟨v20, hv20, h⟩ := bdP_some h
    refine call_VP (As := [.int x1, .int 2]) (rest := []) ⟨hx, hb, hml, hown, hts⟩ (tX3_of (l := l) (dC := dC) (dI := dI) (cI := cI) (cC := cC) (ob := ob) (q := q) hv20) (cwV 2 hts gX3_describe_X3_of rfl rfl rfl (by decide +kernel) ⟨Nat.le_of_ble_eq_true rfl, Nat.le_of_ble_eq_true rfl⟩) hK hP 0 rfl rfl (by rfl) hl.1 rfl (Nat.le_of_ble_eq_true rfl) dX3_describe_36 ⟨Nat.zero_le _, Nat.zero_le _⟩ ?_
    refine lv_iconst (v := 1) hx hb dX3_describe_39 (by decide) ?_
    refine lv_icmp_ne (tgt := 49) hx hb dX3_describe_40 (by decide) (fun c21 => ?_) (fun c21 => ?_)
    · replace h := if_n c21 h
      exact t_49  h (lv_sub hl [0, 1] rfl) hP hD hS
    · replace h := if_p c21 h
      refine lv_aload_n hx hb dX3_describe_43 rfl (lv_at hl 0 rfl) ?_
      refine lv_bipush (v := 67) hx hb dX3_describe_44 (by decide) ?_
      obtain ⟨v22, K23, hv22, h⟩ := bdE_some h
      refine call_VEv (As := [.int 67]) (rest := []) ⟨hx, hb, hml, hown, hts⟩ (tX3_signs (l := l) (dC := dC) (dI := dI) (cI := cI) (cC := cC) (ob := ob) (q := q) hv22) (cwV 1 hts gX3_describe_X3_signs rfl rfl rfl (by decide +kernel) ⟨Nat.le_of_ble_eq_true rfl, Nat.le_of_ble_eq_true rfl⟩) hK hP hD hS (fun _ h9 => h9) 0 rfl rfl (by rfl) hl.1 rfl (Nat.le_of_ble_eq_true rfl) dX3_describe_46 ⟨Nat.zero_le _, Nat.zero_le _⟩ (fun H locs hP hD _ hS => ?_)
      exact t_49  h (lv_sub hl [0, 1] rfl) hP hD hS
  have hS : va_S (aL (mdL ob q)) s.heap s.heap [] := va_S.rf
  have hl := lv_entry ([.ref ob, .int p0]) (n := 2) (Nat.le_of_ble_eq_true rfl)
  rw [lg_entry_eq]
  generalize (lg_sl ([.ref ob, .int p0]) ++ List.replicate (2 - (lg_sl ([.ref ob, .int p0])).length) Slot.unset).toArray = ls at hl ⊢
  have hl : lv_has ls 2 [(0, .ref ob), (1, .int p0)] := hl
  have h := hf
  unfold mX3_describe at h
  refine lv_iload_n hx hb dX3_describe_0 rfl (lv_at hl 1 rfl) ?_
  obtain ⟨v24, hv24, h⟩ := bdP_some h
  refine call_SP (As := [.int p0]) (rest := []) ⟨hx, hb, hml, hown, hts⟩ (tX3_isCamp (l := l) hv24) (va_cwS 1 hts gX3_describe_X3_isCamp rfl rfl rfl (by decide +kernel) ⟨Nat.le_of_ble_eq_true rfl, Nat.le_of_ble_eq_true rfl⟩) (by rfl) hl.1 rfl (Nat.le_of_ble_eq_true rfl) dX3_describe_1 ⟨Nat.zero_le _, Nat.zero_le _⟩ ?_
  refine lv_if_ne (tgt := 9) hx hb dX3_describe_4 (by decide) (fun c25 => ?_) (fun c25 => ?_)
  · replace h := if_n c25 h
    refine lv_aload_n hx hb dX3_describe_9 rfl (lv_at hl 0 rfl) ?_
    refine lv_iconst (v := 0) hx hb dX3_describe_10 (by decide) ?_
    obtain ⟨K26, eK26, h⟩ := ptF_some h
    refine va_put (D := (dC, dI)) (ci := 4) (v := .int 0) (ty := .int) (C := RX3) (T := TX3) (N := 17) hx hb hts hwX3 tyX3 tyX3_ok nmX3 hown hK hP hD hS 0 rfl rfl 8 (by decide) hf_168 (fun _ h9 => h9) rfl (by decide +kernel) rfl rfl (Nat.le_of_ble_eq_true rfl) dX3_describe_11 (fun H locs hP hD hS => ?_)
    have hP : va_P (dC, dI) vwCl (mdW cI cC ob q K26) H := by rw [eK26]; exact hP
    have hD : va_D (aL (mdL ob q)) (mdW cI cC ob q K26) := by rw [eK26]; exact hD
    refine lv_aload_n hx hb dX3_describe_14 rfl (lv_at hl 0 rfl) ?_
    refine lv_iload_n hx hb dX3_describe_15 rfl (lv_at hl 1 rfl) ?_
    obtain ⟨v27, K28, hv27, h⟩ := bdE_some h
    refine call_VEv (As := [.int p0]) (rest := []) ⟨hx, hb, hml, hown, hts⟩ (tX3_digitsOf (l := l) (dC := dC) (dI := dI) (cI := cI) (cC := cC) (ob := ob) (q := q) hv27) (cwV 1 hts gX3_describe_X3_digitsOf rfl rfl rfl (by decide +kernel) ⟨Nat.le_of_ble_eq_true rfl, Nat.le_of_ble_eq_true rfl⟩) hK hP hD hS (fun _ h9 => h9) 0 rfl rfl (by rfl) hl.1 rfl (Nat.le_of_ble_eq_true rfl) dX3_describe_16 ⟨Nat.zero_le _, Nat.zero_le _⟩ (fun H locs hP hD _ hS => ?_)
    refine lv_aload_n hx hb dX3_describe_19 rfl (lv_at hl 0 rfl) ?_
    refine lv_iload_n hx hb dX3_describe_20 rfl (lv_at hl 1 rfl) ?_
    obtain ⟨v29, hv29, h⟩ := bdP_some h
    refine call_VP (As := [.int p0]) (rest := []) ⟨hx, hb, hml, hown, hts⟩ (tX3_isAwake (l := l) (dC := dC) (dI := dI) (cI := cI) (cC := cC) (ob := ob) (q := q) hv29) (cwV 1 hts gX3_describe_X3_isAwake rfl rfl rfl (by decide +kernel) ⟨Nat.le_of_ble_eq_true rfl, Nat.le_of_ble_eq_true rfl⟩) hK hP 0 rfl rfl (by rfl) hl.1 rfl (Nat.le_of_ble_eq_true rfl) dX3_describe_21 ⟨Nat.zero_le _, Nat.zero_le _⟩ ?_
    refine lv_if_ne (tgt := 33) hx hb dX3_describe_24 (by decide) (fun c30 => ?_) (fun c30 => ?_)
    · replace h := if_n c30 h
      exact t_33  h (lv_sub hl [0, 1] rfl) hP hD hS
    · replace h := if_p c30 h
      refine lv_aload_n hx hb dX3_describe_27 rfl (lv_at hl 0 rfl) ?_
      refine lv_bipush (v := 122) hx hb dX3_describe_28 (by decide) ?_
      obtain ⟨v31, K32, hv31, h⟩ := bdE_some h
      refine call_VEv (As := [.int 122]) (rest := []) ⟨hx, hb, hml, hown, hts⟩ (tX3_signs (l := l) (dC := dC) (dI := dI) (cI := cI) (cC := cC) (ob := ob) (q := q) hv31) (cwV 1 hts gX3_describe_X3_signs rfl rfl rfl (by decide +kernel) ⟨Nat.le_of_ble_eq_true rfl, Nat.le_of_ble_eq_true rfl⟩) hK hP hD hS (fun _ h9 => h9) 0 rfl rfl (by rfl) hl.1 rfl (Nat.le_of_ble_eq_true rfl) dX3_describe_30 ⟨Nat.zero_le _, Nat.zero_le _⟩ (fun H locs hP hD _ hS => ?_)
      exact t_33  h (lv_sub hl [0, 1] rfl) hP hD hS
  · replace h := if_p c25 h
    refine lv_iconst (v := (-1)) hx hb dX3_describe_7 (by decide) ?_
    exact W.iret hx hb hr (fun t ht _ => retE (w := mdW cI cC ob q) h hP hD hS ht) hS.2.2 dX3_describe_8
def fX3_show_83 (N : Nat) (k16 : KT → Int32 → Int32 → Option (Int32 × KT)) (K : KT) (x1 : Int32) (x2 : Int32) : Option (Int32 × KT) := k16 K x1 (x2 + 1)
def fX3_show_43 (N : Nat) (k16 : KT → Int32 → Int32 → Option (Int32 × KT)) (K : KT) (x1 : Int32) (x2 : Int32) : Option (Int32 × KT) := bdP (mX3_of N K x1 6) (fun v1 => (if x2 = v1 then fX3_show_83 N k16 K x1 x2 else bdP (mX3_page N K x1 x2 1) (fun v3 => bdE (mX3_signs N K (i2c (97 + v3))) (fun v4 K5 => bdP (mX3_page N K5 x1 x2 0) (fun v6 => bdE (mX3_digitsOf N 12 K5 v6) (fun v7 K8 => fX3_show_83 N k16 K8 x1 x2))))))
def fX3_show_16 (N : Nat)  : Nat → KT → Int32 → Int32 → Option (Int32 × KT)
  | 0, _, _, _ => none
  | n + 1, K, x1, x2 => bdP (mX3_of N K x1 6) (fun v9 => (if v9 < x2 then some (K 8 2, K) else bdP (mX3_of N K x1 5) (fun v11 => (if x2 = v11 then bdE (mX3_signs N K 124) (fun v13 K14 => fX3_show_43 N (fX3_show_16 N  n) K14 x1 x2) else fX3_show_43 N (fX3_show_16 N  n) K x1 x2))))
def mX3_show (N : Nat) (K : KT) (p0 : Int32) : Option (Int32 × KT) := bdP (mX3_isCamp N p0) (fun v15 => (if v15 = 0 then some ((-1), K) else ptF K 8 2 0 (fun K17 => fX3_show_16 N  N K17 p0 0)))
def rmX3_show : Room := { frames := 15, cells := 0, slots := 0, locals := 541 }
set_option maxHeartbeats 4000000 in
set_option maxRecDepth 100000 in
theorem tX3_show {l : Launch} {dC : Nat → ClassId} {dI : Nat → Nat → Nat} {cI : ClassId} {cC : ClassId} {ob : Nat} {q : Nat → Nat} {N : Nat} {K : KT} {p0 : Int32} {rr : Int32} {KK : KT} (hf : mX3_show N K p0 = some (rr, KK)) : Met l yX3_show wsX3_show rmX3_show (cPe (dC, dI) vwCl [(cI, .int), (cC, .char)] (mdL ob q) (mdW cI cC ob q K) [.ref ob, .int p0]) (cE (dC, dI) vwCl (mdL ob q) rr (mdW cI cC ob q KK)) 0 0 (aL (mdL ob q)) := by
  refine Met.ofW (cc := cX3_show) (maxL := 3) (ret := (some .int)) (by decide) rfl ?_
  intro p e s m args below meth c s₁ B hml hv
  obtain ⟨rfl, hP, hK, hD⟩ := hv
  have hx := B.exec
  have hb := B.bytes
  have hr := B.returns
  have hts := atoms_spec (ws := wsX3_show) B.pre
  have hown : s.vm.findClass RX3 = some m.cls := findClass_of_methodNamed B.named
  have hlocks := B.notSynchronized
  have hwX3 : ∀ w ∈ u_ws RX3 TX3 17, w ∈ wsX3_show := by decide +kernel
  have hf_168 := hts (.fieldLink RX3 168 "CaravanLogsModel" "lined" "I") (by decide +kernel)
  have t_83 : ∀ {k16 : KT → Int32 → Int32 → Option (Int32 × KT)} (hk16 : ∀ {K : KT} {x1 : Int32} {x2 : Int32} {H : Heap} {locs : List Loc} {ls : Array Slot} (h : k16 K x1 x2 = some (rr, KK)) (hl : lv_has ls 3 [(0, .ref ob), (1, .int x1), (2, .int x2)]) (hP : va_P (dC, dI) vwCl (mdW cI cC ob q K) H) (hD : va_D (aL (mdL ob q)) (mdW cI cC ob q K)) (hS : va_S (aL (mdL ob q)) s.heap H locs), W p l e (headSpec wsX3_show rmX3_show).room s m ([.ref ob, .int p0] : List Value).toArray below meth c H locs 0 0 (MQ below (cE (dC, dI) vwCl (mdL ob q) rr (mdW cI cC ob q KK)) ([.ref ob, .int p0] : List Value).toArray s 0 0 (aL (mdL ob q))) (F0 m 16 ls [])), ∀ {K : KT} {x1 : Int32} {x2 : Int32} {H : Heap} {locs : List Loc} {ls : Array Slot} (h : fX3_show_83 N k16 K x1 x2 = some (rr, KK)) (hl : lv_has ls 3 [(0, .ref ob), (1, .int x1), (2, .int x2)]) (hP : va_P (dC, dI) vwCl (mdW cI cC ob q K) H) (hD : va_D (aL (mdL ob q)) (mdW cI cC ob q K)) (hS : va_S (aL (mdL ob q)) s.heap H locs), W p l e (headSpec wsX3_show rmX3_show).room s m ([.ref ob, .int p0] : List Value).toArray below meth c H locs 0 0 (MQ below (cE (dC, dI) vwCl (mdL ob q) rr (mdW cI cC ob q KK)) ([.ref ob, .int p0] : List Value).toArray s 0 0 (aL (mdL ob q))) (F0 m 83 ls []) := by
    intro k16 hk16 K x1 x2 H locs ls h hl hP hD hS
    unfold fX3_show_83 at h
    refine lv_iinc (v := x2 + 1) (lv' := [(2, .int (x2 + 1)), (0, .ref ob), (1, .int x1)]) hx hb dX3_show_83 hl (k := 2) rfl rfl (by decide) rfl (fun ls hl => ?_)
    refine lv_goto (tgt := 16) hx hb dX3_show_86 (by decide) ?_
    exact hk16 h (lv_sub hl [1, 2, 0] rfl) hP hD hS
  have t_43 : ∀ {k16 : KT → Int32 → Int32 → Option (Int32 × KT)} (hk16 : ∀ {K : KT} {x1 : Int32} {x2 : Int32} {H : Heap} {locs : List Loc} {ls : Array Slot} (h : k16 K x1 x2 = some (rr, KK)) (hl : lv_has ls 3 [(0, .ref ob), (1, .int x1), (2, .int x2)]) (hP : va_P (dC, dI) vwCl (mdW cI cC ob q K) H) (hD : va_D (aL (mdL ob q)) (mdW cI cC ob q K)) (hS : va_S (aL (mdL ob q)) s.heap H locs), W p l e (headSpec wsX3_show rmX3_show).room s m ([.ref ob, .int p0] : List Value).toArray below meth c H locs 0 0 (MQ below (cE (dC, dI) vwCl (mdL ob q) rr (mdW cI cC ob q KK)) ([.ref ob, .int p0] : List Value).toArray s 0 0 (aL (mdL ob q))) (F0 m 16 ls [])), ∀ {K : KT} {x1 : Int32} {x2 : Int32} {H : Heap} {locs : List Loc} {ls : Array Slot} (h : fX3_show_43 N k16 K x1 x2 = some (rr, KK)) (hl : lv_has ls 3 [(0, .ref ob), (1, .int x1), (2, .int x2)]) (hP : va_P (dC, dI) vwCl (mdW cI cC ob q K) H) (hD : va_D (aL (mdL ob q)) (mdW cI cC ob q K)) (hS : va_S (aL (mdL ob q)) s.heap H locs), W p l e (headSpec wsX3_show rmX3_show).room s m ([.ref ob, .int p0] : List Value).toArray below meth c H locs 0 0 (MQ below (cE (dC, dI) vwCl (mdL ob q) rr (mdW cI cC ob q KK)) ([.ref ob, .int p0] : List Value).toArray s 0 0 (aL (mdL ob q))) (F0 m 43 ls []) := by
    intro k16 hk16 K x1 x2 H locs ls h hl hP hD hS
    unfold fX3_show_43 at h
    refine lv_iload_n hx hb dX3_show_43 rfl (lv_at hl 2 rfl) ?_
    refine lv_aload_n hx hb dX3_show_44 rfl (lv_at hl 0 rfl) ?_
    refine lv_iload_n hx hb dX3_show_45 rfl (lv_at hl 1 rfl) ?_
    refine lv_bipush (v := 6) hx hb dX3_show_46 (by decide) ?_
    obtain ⟨v1, hv1, h⟩ := bdP_some h
    refine call_VP (As := [.int x1, .int 6]) (rest := [.int x2]) ⟨hx, hb, hml, hown, hts⟩ (tX3_of (l := l) (dC := dC) (dI := dI) (cI := cI) (cC := cC) (ob := ob) (q := q) hv1) (cwV 2 hts gX3_show_X3_of rfl rfl rfl (by decide +kernel) ⟨Nat.le_of_ble_eq_true rfl, Nat.le_of_ble_eq_true rfl⟩) hK hP 0 rfl rfl (by rfl) hl.1 rfl (Nat.le_of_ble_eq_true rfl) dX3_show_48 ⟨Nat.zero_le _, Nat.zero_le _⟩ ?_
    refine lv_icmp_ne (tgt := 57) hx hb dX3_show_51 (by decide) (fun c2 => ?_) (fun c2 => ?_)
    · replace h := if_n c2 h
      refine lv_aload_n hx hb dX3_show_57 rfl (lv_at hl 0 rfl) ?_
      refine lv_bipush (v := 97) hx hb dX3_show_58 (by decide) ?_
      refine lv_aload_n hx hb dX3_show_60 rfl (lv_at hl 0 rfl) ?_
      refine lv_iload_n hx hb dX3_show_61 rfl (lv_at hl 1 rfl) ?_
      refine lv_iload_n hx hb dX3_show_62 rfl (lv_at hl 2 rfl) ?_
      refine lv_iconst (v := 1) hx hb dX3_show_63 (by decide) ?_
      obtain ⟨v3, hv3, h⟩ := bdP_some h
      refine call_VP (As := [.int x1, .int x2, .int 1]) (rest := [.int 97, .ref ob]) ⟨hx, hb, hml, hown, hts⟩ (tX3_page (l := l) (dC := dC) (dI := dI) (cI := cI) (cC := cC) (ob := ob) (q := q) hv3) (cwV 3 hts gX3_show_X3_page rfl rfl rfl (by decide +kernel) ⟨Nat.le_of_ble_eq_true rfl, Nat.le_of_ble_eq_true rfl⟩) hK hP 0 rfl rfl (by rfl) hl.1 rfl (Nat.le_of_ble_eq_true rfl) dX3_show_64 ⟨Nat.zero_le _, Nat.zero_le _⟩ ?_
      refine lv_iadd hx hb dX3_show_67 ?_
      refine lv_i2c (v := i2c (97 + v3)) hx hb dX3_show_68 rfl ?_
      obtain ⟨v4, K5, hv4, h⟩ := bdE_some h
      refine call_VEv (As := [.int (i2c (97 + v3))]) (rest := []) ⟨hx, hb, hml, hown, hts⟩ (tX3_signs (l := l) (dC := dC) (dI := dI) (cI := cI) (cC := cC) (ob := ob) (q := q) hv4) (cwV 1 hts gX3_show_X3_signs rfl rfl rfl (by decide +kernel) ⟨Nat.le_of_ble_eq_true rfl, Nat.le_of_ble_eq_true rfl⟩) hK hP hD hS (fun _ h9 => h9) 0 rfl rfl (by rfl) hl.1 rfl (Nat.le_of_ble_eq_true rfl) dX3_show_69 ⟨Nat.zero_le _, Nat.zero_le _⟩ (fun H locs hP hD _ hS => ?_)
      refine lv_aload_n hx hb dX3_show_72 rfl (lv_at hl 0 rfl) ?_
      refine lv_aload_n hx hb dX3_show_73 rfl (lv_at hl 0 rfl) ?_
      refine lv_iload_n hx hb dX3_show_74 rfl (lv_at hl 1 rfl) ?_
      refine lv_iload_n hx hb dX3_show_75 rfl (lv_at hl 2 rfl) ?_
      refine lv_iconst (v := 0) hx hb dX3_show_76 (by decide) ?_
      obtain ⟨v6, hv6, h⟩ := bdP_some h
      refine call_VP (As := [.int x1, .int x2, .int 0]) (rest := [.ref ob]) ⟨hx, hb, hml, hown, hts⟩ (tX3_page (l := l) (dC := dC) (dI := dI) (cI := cI) (cC := cC) (ob := ob) (q := q) hv6) (cwV 3 hts gX3_show_X3_page rfl rfl rfl (by decide +kernel) ⟨Nat.le_of_ble_eq_true rfl, Nat.le_of_ble_eq_true rfl⟩) hK hP 0 rfl rfl (by rfl) hl.1 rfl (Nat.le_of_ble_eq_true rfl) dX3_show_77 ⟨Nat.zero_le _, Nat.zero_le _⟩ ?_
      obtain ⟨v7, K8, hv7, h⟩ := bdE_some h
      refine call_VEv (As := [.int v6]) (rest := []) ⟨hx, hb, hml, hown, hts⟩ (tX3_digitsOf (l := l) (dC := dC) (dI := dI) (cI := cI) (cC := cC) (ob := ob) (q := q) hv7) (cwV 1 hts gX3_show_X3_digitsOf rfl rfl rfl (by decide +kernel) ⟨Nat.le_of_ble_eq_true rfl, Nat.le_of_ble_eq_true rfl⟩) hK hP hD hS (fun _ h9 => h9) 0 rfl rfl (by rfl) hl.1 rfl (Nat.le_of_ble_eq_true rfl) dX3_show_80 ⟨Nat.zero_le _, Nat.zero_le _⟩ (fun H locs hP hD _ hS => ?_)
      exact t_83 @hk16 h (lv_sub hl [0, 1, 2] rfl) hP hD hS
    · replace h := if_p c2 h
      refine lv_goto (tgt := 83) hx hb dX3_show_54 (by decide) ?_
      exact t_83 @hk16 h (lv_sub hl [0, 1, 2] rfl) hP hD hS
  have t_16 : ∀ {n : Nat}, ∀ {K : KT} {x1 : Int32} {x2 : Int32} {H : Heap} {locs : List Loc} {ls : Array Slot} (h : fX3_show_16 N  n K x1 x2 = some (rr, KK)) (hl : lv_has ls 3 [(0, .ref ob), (1, .int x1), (2, .int x2)]) (hP : va_P (dC, dI) vwCl (mdW cI cC ob q K) H) (hD : va_D (aL (mdL ob q)) (mdW cI cC ob q K)) (hS : va_S (aL (mdL ob q)) s.heap H locs), W p l e (headSpec wsX3_show rmX3_show).room s m ([.ref ob, .int p0] : List Value).toArray below meth c H locs 0 0 (MQ below (cE (dC, dI) vwCl (mdL ob q) rr (mdW cI cC ob q KK)) ([.ref ob, .int p0] : List Value).toArray s 0 0 (aL (mdL ob q))) (F0 m 16 ls []) := by
    intro  n
    induction n with
    | zero =>
      intro K x1 x2 H locs ls h hl hP hD hS
      unfold fX3_show_16 at h
      cases h
    | succ n ih =>
      intro K x1 x2 H locs ls h hl hP hD hS
      unfold fX3_show_16 at h
      refine lv_iload_n hx hb dX3_show_16 rfl (lv_at hl 2 rfl) ?_
      refine lv_aload_n hx hb dX3_show_17 rfl (lv_at hl 0 rfl) ?_
      refine lv_iload_n hx hb dX3_show_18 rfl (lv_at hl 1 rfl) ?_
      refine lv_bipush (v := 6) hx hb dX3_show_19 (by decide) ?_
      obtain ⟨v9, hv9, h⟩ := bdP_some h
      refine call_VP (As := [.int x1, .int 6]) (rest := [.int x2]) ⟨hx, hb, hml, hown, hts⟩ (tX3_of (l := l) (dC := dC) (dI := dI) (cI := cI) (cC := cC) (ob := ob) (q := q) hv9) (cwV 2 hts gX3_show_X3_of rfl rfl rfl (by decide +kernel) ⟨Nat.le_of_ble_eq_true rfl, Nat.le_of_ble_eq_true rfl⟩) hK hP 0 rfl rfl (by rfl) hl.1 rfl (Nat.le_of_ble_eq_true rfl) dX3_show_21 ⟨Nat.zero_le _, Nat.zero_le _⟩ ?_
      refine lv_icmp_gt (tgt := 89) hx hb dX3_show_24 (by decide) (fun c10 => ?_) (fun c10 => ?_)
      · replace h := if_p c10 h
        refine lv_aload_n hx hb dX3_show_89 rfl (lv_at hl 0 rfl) ?_
        refine va_get (D := (dC, dI)) (ci := 4) (v := .int (K 8 2)) (C := RX3) (T := TX3) (N := 17) hx hb hts hwX3 hown hK hP 0 rfl rfl 8 (by decide) hf_168 (fun _ h9 => h9) rfl dX3_show_90 ?_
        exact W.iret hx hb hr (fun t ht _ => retE (w := mdW cI cC ob q) h hP hD hS ht) hS.2.2 dX3_show_93
      · replace h := if_n c10 h
        refine lv_iload_n hx hb dX3_show_27 rfl (lv_at hl 2 rfl) ?_
        refine lv_aload_n hx hb dX3_show_28 rfl (lv_at hl 0 rfl) ?_
        refine lv_iload_n hx hb dX3_show_29 rfl (lv_at hl 1 rfl) ?_
        refine lv_iconst (v := 5) hx hb dX3_show_30 (by decide) ?_
        obtain ⟨v11, hv11, h⟩ := bdP_some h
        refine call_VP (As := [.int x1, .int 5]) (rest := [.int x2]) ⟨hx, hb, hml, hown, hts⟩ (tX3_of (l := l) (dC := dC) (dI := dI) (cI := cI) (cC := cC) (ob := ob) (q := q) hv11) (cwV 2 hts gX3_show_X3_of rfl rfl rfl (by decide +kernel) ⟨Nat.le_of_ble_eq_true rfl, Nat.le_of_ble_eq_true rfl⟩) hK hP 0 rfl rfl (by rfl) hl.1 rfl (Nat.le_of_ble_eq_true rfl) dX3_show_31 ⟨Nat.zero_le _, Nat.zero_le _⟩ ?_
        refine lv_icmp_ne (tgt := 43) hx hb dX3_show_34 (by decide) (fun c12 => ?_) (fun c12 => ?_)
        · replace h := if_n c12 h
          exact t_43 @ih h (lv_sub hl [0, 1, 2] rfl) hP hD hS
        · replace h := if_p c12 h
          refine lv_aload_n hx hb dX3_show_37 rfl (lv_at hl 0 rfl) ?_
          refine lv_bipush (v := 124) hx hb dX3_show_38 (by decide) ?_
          obtain ⟨v13, K14, hv13, h⟩ := bdE_some h
          refine call_VEv (As := [.int 124]) (rest := []) ⟨hx, hb, hml, hown, hts⟩ (tX3_signs (l := l) (dC := dC) (dI := dI) (cI := cI) (cC := cC) (ob := ob) (q := q) hv13) (cwV 1 hts gX3_show_X3_signs rfl rfl rfl (by decide +kernel) ⟨Nat.le_of_ble_eq_true rfl, Nat.le_of_ble_eq_true rfl⟩) hK hP hD hS (fun _ h9 => h9) 0 rfl rfl (by rfl) hl.1 rfl (Nat.le_of_ble_eq_true rfl) dX3_show_40 ⟨Nat.zero_le _, Nat.zero_le _⟩ (fun H locs hP hD _ hS => ?_)
          exact t_43 @ih h (lv_sub hl [0, 1, 2] rfl) hP hD hS
  have hS : va_S (aL (mdL ob q)) s.heap s.heap [] := va_S.rf
  have hl := lv_entry ([.ref ob, .int p0]) (n := 3) (Nat.le_of_ble_eq_true rfl)
  rw [lg_entry_eq]
  generalize (lg_sl ([.ref ob, .int p0]) ++ List.replicate (3 - (lg_sl ([.ref ob, .int p0])).length) Slot.unset).toArray = ls at hl ⊢
  have hl : lv_has ls 3 [(0, .ref ob), (1, .int p0)] := hl
  have h := hf
  unfold mX3_show at h
  refine lv_iload_n hx hb dX3_show_0 rfl (lv_at hl 1 rfl) ?_
  obtain ⟨v15, hv15, h⟩ := bdP_some h
  refine call_SP (As := [.int p0]) (rest := []) ⟨hx, hb, hml, hown, hts⟩ (tX3_isCamp (l := l) hv15) (va_cwS 1 hts gX3_show_X3_isCamp rfl rfl rfl (by decide +kernel) ⟨Nat.le_of_ble_eq_true rfl, Nat.le_of_ble_eq_true rfl⟩) (by rfl) hl.1 rfl (Nat.le_of_ble_eq_true rfl) dX3_show_1 ⟨Nat.zero_le _, Nat.zero_le _⟩ ?_
  refine lv_if_ne (tgt := 9) hx hb dX3_show_4 (by decide) (fun c16 => ?_) (fun c16 => ?_)
  · replace h := if_n c16 h
    refine lv_aload_n hx hb dX3_show_9 rfl (lv_at hl 0 rfl) ?_
    refine lv_iconst (v := 0) hx hb dX3_show_10 (by decide) ?_
    obtain ⟨K17, eK17, h⟩ := ptF_some h
    refine va_put (D := (dC, dI)) (ci := 4) (v := .int 0) (ty := .int) (C := RX3) (T := TX3) (N := 17) hx hb hts hwX3 tyX3 tyX3_ok nmX3 hown hK hP hD hS 0 rfl rfl 8 (by decide) hf_168 (fun _ h9 => h9) rfl (by decide +kernel) rfl rfl (Nat.le_of_ble_eq_true rfl) dX3_show_11 (fun H locs hP hD hS => ?_)
    have hP : va_P (dC, dI) vwCl (mdW cI cC ob q K17) H := by rw [eK17]; exact hP
    have hD : va_D (aL (mdL ob q)) (mdW cI cC ob q K17) := by rw [eK17]; exact hD
    refine lv_iconst (v := 0) hx hb dX3_show_14 (by decide) ?_
    refine lv_istore_n (lv' := [(2, .int 0), (0, .ref ob), (1, .int p0)]) hx hb dX3_show_15 rfl hl (by decide) rfl (fun ls hl => ?_)
    exact t_16  h (lv_sub hl [1, 2, 0] rfl) hP hD hS
  · replace h := if_p c16 h
    refine lv_iconst (v := (-1)) hx hb dX3_show_7 (by decide) ?_
    exact W.iret hx hb hr (fun t ht _ => retE (w := mdW cI cC ob q) h hP hD hS ht) hS.2.2 dX3_show_8
def fX3_sign_24 (N : Nat) (K : KT)  (y0 : Int32) : Option Int32 := some y0
def mX3_sign (N : Nat) (K : KT) (p0 : Int32) : Option Int32 := bdP (mX3_in N p0 0 ((K 8 2) - 1)) (fun v1 => (if v1 = 0 then fX3_sign_24 N K  ((-1)) else rdA (K 5) 200 p0 (fun v3 => fX3_sign_24 N K  v3)))
def rmX3_sign : Room := { frames := 2, cells := 0, slots := 0, locals := 62 }
set_option maxHeartbeats 4000000 in
set_option maxRecDepth 100000 in
theorem tX3_sign {l : Launch} {dC : Nat → ClassId} {dI : Nat → Nat → Nat} {cI : ClassId} {cC : ClassId} {ob : Nat} {q : Nat → Nat} {N : Nat} {K : KT} {p0 : Int32} {rr : Int32} (hf : mX3_sign N K p0 = some rr) : Met l yX3_sign wsX3_sign rmX3_sign (cP (dC, dI) vwCl [(cI, .int), (cC, .char)] (mdW cI cC ob q K) [.ref ob, .int p0]) (cQp rr) 0 0 (fun _ => False) := by
  refine Met.ofW (cc := cX3_sign) (maxL := 2) (ret := (some .int)) (by decide) rfl ?_
  intro p e s m args below meth c s₁ B hml hv
  obtain ⟨rfl, hP, hK⟩ := hv
  have hx := B.exec
  have hb := B.bytes
  have hr := B.returns
  have hts := atoms_spec (ws := wsX3_sign) B.pre
  have hown : s.vm.findClass RX3 = some m.cls := findClass_of_methodNamed B.named
  have hlocks := B.notSynchronized
  have hwX3 : ∀ w ∈ u_ws RX3 TX3 17, w ∈ wsX3_sign := by decide +kernel
  have hf_25 := hts (.fieldLink RX3 25 "CaravanLogsModel" "line" "[C") (by decide +kernel)
  have hf_168 := hts (.fieldLink RX3 168 "CaravanLogsModel" "lined" "I") (by decide +kernel)
  have t_24 : ∀ {y0 : Int32} {ls : Array Slot} (h : fX3_sign_24 N K  y0 = some rr) (hl : lv_has ls 2 []), W p l e (headSpec wsX3_sign rmX3_sign).room s m ([.ref ob, .int p0] : List Value).toArray below meth c s.heap [] 0 0 (MQ below (cQp rr) ([.ref ob, .int p0] : List Value).toArray s 0 0 (fun _ => False)) (F0 m 24 ls [.int y0]) := by
    intro  y0 ls h hl
    unfold fX3_sign_24 at h
    exact W.iret hx hb hr (fun t ht _ => retP h ht) (fun _ h9 => absurd h9 List.not_mem_nil) dX3_sign_24
  have hl := lv_entry ([.ref ob, .int p0]) (n := 2) (Nat.le_of_ble_eq_true rfl)
  rw [lg_entry_eq]
  generalize (lg_sl ([.ref ob, .int p0]) ++ List.replicate (2 - (lg_sl ([.ref ob, .int p0])).length) Slot.unset).toArray = ls at hl ⊢
  have hl : lv_has ls 2 [(0, .ref ob), (1, .int p0)] := hl
  have h := hf
  unfold mX3_sign at h
  refine lv_iload_n hx hb dX3_sign_0 rfl (lv_at hl 1 rfl) ?_
  refine lv_iconst (v := 0) hx hb dX3_sign_1 (by decide) ?_
  refine lv_aload_n hx hb dX3_sign_2 rfl (lv_at hl 0 rfl) ?_
  refine va_get (D := (dC, dI)) (ci := 4) (v := .int (K 8 2)) (C := RX3) (T := TX3) (N := 17) hx hb hts hwX3 hown hK hP 0 rfl rfl 8 (by decide) hf_168 (fun _ h9 => h9) rfl dX3_sign_3 ?_
  refine lv_iconst (v := 1) hx hb dX3_sign_6 (by decide) ?_
  refine lv_isub hx hb dX3_sign_7 ?_
  obtain ⟨v1, hv1, h⟩ := bdP_some h
  refine call_SP (As := [.int p0, .int 0, .int ((K 8 2) - 1)]) (rest := []) ⟨hx, hb, hml, hown, hts⟩ (tX3_in (l := l) hv1) (va_cwS 3 hts gX3_sign_X3_in rfl rfl rfl (by decide +kernel) ⟨Nat.le_of_ble_eq_true rfl, Nat.le_of_ble_eq_true rfl⟩) (by rfl) hl.1 rfl (Nat.le_of_ble_eq_true rfl) dX3_sign_8 ⟨Nat.zero_le _, Nat.zero_le _⟩ ?_
  refine lv_if_eq (tgt := 23) hx hb dX3_sign_11 (by decide) (fun c2 => ?_) (fun c2 => ?_)
  · replace h := if_p c2 h
    refine lv_iconst (v := (-1)) hx hb dX3_sign_23 (by decide) ?_
    exact t_24  h (lv_sub hl [] rfl)
  · replace h := if_n c2 h
    refine lv_aload_n hx hb dX3_sign_14 rfl (lv_at hl 0 rfl) ?_
    refine va_get (D := (dC, dI)) (ci := 4) (v := .ref (q 5)) (C := RX3) (T := TX3) (N := 17) hx hb hts hwX3 hown hK hP 0 rfl rfl 7 (by decide) hf_25 (fun _ h9 => h9) rfl dX3_sign_15 ?_
    refine lv_iload_n hx hb dX3_sign_18 rfl (lv_at hl 1 rfl) ?_
    obtain ⟨hi4, v3, ev3, h⟩ := rdA_some h
    refine k_cald hx hb hK hP 6 1 rfl rfl hi4 ev3 dX3_sign_19 ?_
    refine lv_goto (tgt := 24) hx hb dX3_sign_20 (by decide) ?_
    exact t_24  h (lv_sub hl [] rfl)
def fX3_append_20 (N : Nat)  (K : KT)  : Option (Int32 × KT) := some ((-2), K)
def mX3_append (N : Nat) (K : KT) (p0 : Int32) : Option (Int32 × KT) := bdP (mX3_in N p0 32 126) (fun v1 => (if v1 = 0 then fX3_append_20 N  K  else (if (K 8 3) = 70 then fX3_append_20 N  K  else ptF K 8 3 ((K 8 3) + 1) (fun K4 => wrA K4 6 70 (K 8 3) (vp_nar .char (i2c p0)) (fun K5 => some (K5 8 3, K5))))))
def rmX3_append : Room := { frames := 2, cells := 0, slots := 0, locals := 62 }
set_option maxHeartbeats 4000000 in
set_option maxRecDepth 100000 in
theorem tX3_append {l : Launch} {dC : Nat → ClassId} {dI : Nat → Nat → Nat} {cI : ClassId} {cC : ClassId} {ob : Nat} {q : Nat → Nat} {N : Nat} {K : KT} {p0 : Int32} {rr : Int32} {KK : KT} (hf : mX3_append N K p0 = some (rr, KK)) : Met l yX3_append wsX3_append rmX3_append (cPe (dC, dI) vwCl [(cI, .int), (cC, .char)] (mdL ob q) (mdW cI cC ob q K) [.ref ob, .int p0]) (cE (dC, dI) vwCl (mdL ob q) rr (mdW cI cC ob q KK)) 0 0 (aL (mdL ob q)) := by
  refine Met.ofW (cc := cX3_append) (maxL := 2) (ret := (some .int)) (by decide) rfl ?_
  intro p e s m args below meth c s₁ B hml hv
  obtain ⟨rfl, hP, hK, hD⟩ := hv
  have hx := B.exec
  have hb := B.bytes
  have hr := B.returns
  have hts := atoms_spec (ws := wsX3_append) B.pre
  have hown : s.vm.findClass RX3 = some m.cls := findClass_of_methodNamed B.named
  have hlocks := B.notSynchronized
  have hwX3 : ∀ w ∈ u_ws RX3 TX3 17, w ∈ wsX3_append := by decide +kernel
  have hf_29 := hts (.fieldLink RX3 29 "CaravanLogsModel" "text" "[C") (by decide +kernel)
  have hf_179 := hts (.fieldLink RX3 179 "CaravanLogsModel" "length" "I") (by decide +kernel)
  have t_20 : ∀ {K : KT}  {H : Heap} {locs : List Loc} {ls : Array Slot} (h : fX3_append_20 N  K  = some (rr, KK)) (hl : lv_has ls 2 []) (hP : va_P (dC, dI) vwCl (mdW cI cC ob q K) H) (hD : va_D (aL (mdL ob q)) (mdW cI cC ob q K)) (hS : va_S (aL (mdL ob q)) s.heap H locs), W p l e (headSpec wsX3_append rmX3_append).room s m ([.ref ob, .int p0] : List Value).toArray below meth c H locs 0 0 (MQ below (cE (dC, dI) vwCl (mdL ob q) rr (mdW cI cC ob q KK)) ([.ref ob, .int p0] : List Value).toArray s 0 0 (aL (mdL ob q))) (F0 m 20 ls []) := by
    intro  K H locs ls h hl hP hD hS
    unfold fX3_append_20 at h
    refine lv_bipush (v := (-2)) hx hb dX3_append_20 (by decide) ?_
    exact W.iret hx hb hr (fun t ht _ => retE (w := mdW cI cC ob q) h hP hD hS ht) hS.2.2 dX3_append_22
  have hS : va_S (aL (mdL ob q)) s.heap s.heap [] := va_S.rf
  have hl := lv_entry ([.ref ob, .int p0]) (n := 2) (Nat.le_of_ble_eq_true rfl)
  rw [lg_entry_eq]
  generalize (lg_sl ([.ref ob, .int p0]) ++ List.replicate (2 - (lg_sl ([.ref ob, .int p0])).length) Slot.unset).toArray = ls at hl ⊢
  have hl : lv_has ls 2 [(0, .ref ob), (1, .int p0)] := hl
  have h := hf
  unfold mX3_append at h
  refine lv_iload_n hx hb dX3_append_0 rfl (lv_at hl 1 rfl) ?_
  refine lv_bipush (v := 32) hx hb dX3_append_1 (by decide) ?_
  refine lv_bipush (v := 126) hx hb dX3_append_3 (by decide) ?_
  obtain ⟨v1, hv1, h⟩ := bdP_some h
  refine call_SP (As := [.int p0, .int 32, .int 126]) (rest := []) ⟨hx, hb, hml, hown, hts⟩ (tX3_in (l := l) hv1) (va_cwS 3 hts gX3_append_X3_in rfl rfl rfl (by decide +kernel) ⟨Nat.le_of_ble_eq_true rfl, Nat.le_of_ble_eq_true rfl⟩) (by rfl) hl.1 rfl (Nat.le_of_ble_eq_true rfl) dX3_append_5 ⟨Nat.zero_le _, Nat.zero_le _⟩ ?_
  refine lv_if_eq (tgt := 20) hx hb dX3_append_8 (by decide) (fun c2 => ?_) (fun c2 => ?_)
  · replace h := if_p c2 h
    exact t_20  h (lv_sub hl [] rfl) hP hD hS
  · replace h := if_n c2 h
    refine lv_aload_n hx hb dX3_append_11 rfl (lv_at hl 0 rfl) ?_
    refine va_get (D := (dC, dI)) (ci := 4) (v := .int (K 8 3)) (C := RX3) (T := TX3) (N := 17) hx hb hts hwX3 hown hK hP 0 rfl rfl 10 (by decide) hf_179 (fun _ h9 => h9) rfl dX3_append_12 ?_
    refine lv_bipush (v := 70) hx hb dX3_append_15 (by decide) ?_
    refine lv_icmp_ne (tgt := 23) hx hb dX3_append_17 (by decide) (fun c3 => ?_) (fun c3 => ?_)
    · replace h := if_n c3 h
      refine lv_aload_n hx hb dX3_append_23 rfl (lv_at hl 0 rfl) ?_
      refine va_get (D := (dC, dI)) (ci := 4) (v := .ref (q 6)) (C := RX3) (T := TX3) (N := 17) hx hb hts hwX3 hown hK hP 0 rfl rfl 9 (by decide) hf_29 (fun _ h9 => h9) rfl dX3_append_24 ?_
      refine lv_aload_n hx hb dX3_append_27 rfl (lv_at hl 0 rfl) ?_
      refine lv_dup hx hb dX3_append_28 rfl ?_
      refine va_get (D := (dC, dI)) (ci := 4) (v := .int (K 8 3)) (C := RX3) (T := TX3) (N := 17) hx hb hts hwX3 hown hK hP 0 rfl rfl 10 (by decide) hf_179 (fun _ h9 => h9) rfl dX3_append_29 ?_
      refine lv_dup_x1 hx hb dX3_append_32 rfl rfl ?_
      refine lv_iconst (v := 1) hx hb dX3_append_33 (by decide) ?_
      refine lv_iadd hx hb dX3_append_34 ?_
      obtain ⟨K4, eK4, h⟩ := ptF_some h
      refine va_put (D := (dC, dI)) (ci := 4) (v := .int ((K 8 3) + 1)) (ty := .int) (C := RX3) (T := TX3) (N := 17) hx hb hts hwX3 tyX3 tyX3_ok nmX3 hown hK hP hD hS 0 rfl rfl 10 (by decide) hf_179 (fun _ h9 => h9) rfl (by decide +kernel) rfl rfl (Nat.le_of_ble_eq_true rfl) dX3_append_35 (fun H locs hP hD hS => ?_)
      have hP : va_P (dC, dI) vwCl (mdW cI cC ob q K4) H := by rw [eK4]; exact hP
      have hD : va_D (aL (mdL ob q)) (mdW cI cC ob q K4) := by rw [eK4]; exact hD
      refine lv_iload_n hx hb dX3_append_38 rfl (lv_at hl 1 rfl) ?_
      refine lv_i2c (v := i2c p0) hx hb dX3_append_39 rfl ?_
      obtain ⟨hi6, K5, eK5, h⟩ := wrA_some h
      refine va_cast hx hb hK hP hD hS 7 1 rfl rfl hi6 dX3_append_40 (fun H locs hP hD hS => ?_)
      have hP : va_P (dC, dI) vwCl (mdW cI cC ob q K5) H := by rw [eK5]; exact hP
      have hD : va_D (aL (mdL ob q)) (mdW cI cC ob q K5) := by rw [eK5]; exact hD
      refine lv_aload_n hx hb dX3_append_41 rfl (lv_at hl 0 rfl) ?_
      refine va_get (D := (dC, dI)) (ci := 4) (v := .int (K5 8 3)) (C := RX3) (T := TX3) (N := 17) hx hb hts hwX3 hown hK hP 0 rfl rfl 10 (by decide) hf_179 (fun _ h9 => h9) rfl dX3_append_42 ?_
      exact W.iret hx hb hr (fun t ht _ => retE (w := mdW cI cC ob q) h hP hD hS ht) hS.2.2 dX3_append_45
    · replace h := if_p c3 h
      exact t_20  h (lv_sub hl [] rfl) hP hD hS
def fX3_takes_24 (N : Nat)  (K : KT)  : Option (Int32 × KT) := some (0, K)
def mX3_takes (N : Nat) (K : KT) (p0 : Int32) : Option (Int32 × KT) := (if (K 8 4) = (K 8 3) then fX3_takes_24 N  K  else rdA (K 6) 70 (K 8 4) (fun v2 => (if v2 = p0 then ptF K 8 4 ((K 8 4) + 1) (fun K5 => some (1, K5)) else fX3_takes_24 N  K )))
def rmX3_takes : Room := { frames := 1, cells := 0, slots := 0, locals := 40 }
set_option maxHeartbeats 4000000 in
set_option maxRecDepth 100000 in
theorem tX3_takes {l : Launch} {dC : Nat → ClassId} {dI : Nat → Nat → Nat} {cI : ClassId} {cC : ClassId} {ob : Nat} {q : Nat → Nat} {N : Nat} {K : KT} {p0 : Int32} {rr : Int32} {KK : KT} (hf : mX3_takes N K p0 = some (rr, KK)) : Met l yX3_takes wsX3_takes rmX3_takes (cPe (dC, dI) vwCl [(cI, .int), (cC, .char)] (mdL ob q) (mdW cI cC ob q K) [.ref ob, .int p0]) (cE (dC, dI) vwCl (mdL ob q) rr (mdW cI cC ob q KK)) 0 0 (aL (mdL ob q)) := by
  refine Met.ofW (cc := cX3_takes) (maxL := 2) (ret := (some .boolean)) (by decide) rfl ?_
  intro p e s m args below meth c s₁ B hml hv
  obtain ⟨rfl, hP, hK, hD⟩ := hv
  have hx := B.exec
  have hb := B.bytes
  have hr := B.returns
  have hts := atoms_spec (ws := wsX3_takes) B.pre
  have hown : s.vm.findClass RX3 = some m.cls := findClass_of_methodNamed B.named
  have hlocks := B.notSynchronized
  have hwX3 : ∀ w ∈ u_ws RX3 TX3 17, w ∈ wsX3_takes := by decide +kernel
  have hf_29 := hts (.fieldLink RX3 29 "CaravanLogsModel" "text" "[C") (by decide +kernel)
  have hf_179 := hts (.fieldLink RX3 179 "CaravanLogsModel" "length" "I") (by decide +kernel)
  have hf_182 := hts (.fieldLink RX3 182 "CaravanLogsModel" "at" "I") (by decide +kernel)
  have t_24 : ∀ {K : KT}  {H : Heap} {locs : List Loc} {ls : Array Slot} (h : fX3_takes_24 N  K  = some (rr, KK)) (hl : lv_has ls 2 []) (hP : va_P (dC, dI) vwCl (mdW cI cC ob q K) H) (hD : va_D (aL (mdL ob q)) (mdW cI cC ob q K)) (hS : va_S (aL (mdL ob q)) s.heap H locs), W p l e (headSpec wsX3_takes rmX3_takes).room s m ([.ref ob, .int p0] : List Value).toArray below meth c H locs 0 0 (MQ below (cE (dC, dI) vwCl (mdL ob q) rr (mdW cI cC ob q KK)) ([.ref ob, .int p0] : List Value).toArray s 0 0 (aL (mdL ob q))) (F0 m 24 ls []) := by
    intro  K H locs ls h hl hP hD hS
    unfold fX3_takes_24 at h
    refine lv_iconst (v := 0) hx hb dX3_takes_24 (by decide) ?_
    exact W.zret hx hb hr (by decide) (fun t ht _ => retE (w := mdW cI cC ob q) h hP hD hS ht) hS.2.2 dX3_takes_25
  have hS : va_S (aL (mdL ob q)) s.heap s.heap [] := va_S.rf
  have hl := lv_entry ([.ref ob, .int p0]) (n := 2) (Nat.le_of_ble_eq_true rfl)
  rw [lg_entry_eq]
  generalize (lg_sl ([.ref ob, .int p0]) ++ List.replicate (2 - (lg_sl ([.ref ob, .int p0])).length) Slot.unset).toArray = ls at hl ⊢
  have hl : lv_has ls 2 [(0, .ref ob), (1, .int p0)] := hl
  have h := hf
  unfold mX3_takes at h
  refine lv_aload_n hx hb dX3_takes_0 rfl (lv_at hl 0 rfl) ?_
  refine va_get (D := (dC, dI)) (ci := 4) (v := .int (K 8 4)) (C := RX3) (T := TX3) (N := 17) hx hb hts hwX3 hown hK hP 0 rfl rfl 11 (by decide) hf_182 (fun _ h9 => h9) rfl dX3_takes_1 ?_
  refine lv_aload_n hx hb dX3_takes_4 rfl (lv_at hl 0 rfl) ?_
  refine va_get (D := (dC, dI)) (ci := 4) (v := .int (K 8 3)) (C := RX3) (T := TX3) (N := 17) hx hb hts hwX3 hown hK hP 0 rfl rfl 10 (by decide) hf_179 (fun _ h9 => h9) rfl dX3_takes_5 ?_
  refine lv_icmp_eq (tgt := 24) hx hb dX3_takes_8 (by decide) (fun c1 => ?_) (fun c1 => ?_)
  · replace h := if_p c1 h
    exact t_24  h (lv_sub hl [] rfl) hP hD hS
  · replace h := if_n c1 h
    refine lv_aload_n hx hb dX3_takes_11 rfl (lv_at hl 0 rfl) ?_
    refine va_get (D := (dC, dI)) (ci := 4) (v := .ref (q 6)) (C := RX3) (T := TX3) (N := 17) hx hb hts hwX3 hown hK hP 0 rfl rfl 9 (by decide) hf_29 (fun _ h9 => h9) rfl dX3_takes_12 ?_
    refine lv_aload_n hx hb dX3_takes_15 rfl (lv_at hl 0 rfl) ?_
    refine va_get (D := (dC, dI)) (ci := 4) (v := .int (K 8 4)) (C := RX3) (T := TX3) (N := 17) hx hb hts hwX3 hown hK hP 0 rfl rfl 11 (by decide) hf_182 (fun _ h9 => h9) rfl dX3_takes_16 ?_
    obtain ⟨hi3, v2, ev2, h⟩ := rdA_some h
    refine k_cald hx hb hK hP 7 1 rfl rfl hi3 ev2 dX3_takes_19 ?_
    refine lv_iload_n hx hb dX3_takes_20 rfl (lv_at hl 1 rfl) ?_
    refine lv_icmp_eq (tgt := 26) hx hb dX3_takes_21 (by decide) (fun c4 => ?_) (fun c4 => ?_)
    · replace h := if_p c4 h
      refine lv_aload_n hx hb dX3_takes_26 rfl (lv_at hl 0 rfl) ?_
      refine lv_dup hx hb dX3_takes_27 rfl ?_
      refine va_get (D := (dC, dI)) (ci := 4) (v := .int (K 8 4)) (C := RX3) (T := TX3) (N := 17) hx hb hts hwX3 hown hK hP 0 rfl rfl 11 (by decide) hf_182 (fun _ h9 => h9) rfl dX3_takes_28 ?_
      refine lv_iconst (v := 1) hx hb dX3_takes_31 (by decide) ?_
      refine lv_iadd hx hb dX3_takes_32 ?_
      obtain ⟨K5, eK5, h⟩ := ptF_some h
      refine va_put (D := (dC, dI)) (ci := 4) (v := .int ((K 8 4) + 1)) (ty := .int) (C := RX3) (T := TX3) (N := 17) hx hb hts hwX3 tyX3 tyX3_ok nmX3 hown hK hP hD hS 0 rfl rfl 11 (by decide) hf_182 (fun _ h9 => h9) rfl (by decide +kernel) rfl rfl (Nat.le_of_ble_eq_true rfl) dX3_takes_33 (fun H locs hP hD hS => ?_)
      have hP : va_P (dC, dI) vwCl (mdW cI cC ob q K5) H := by rw [eK5]; exact hP
      have hD : va_D (aL (mdL ob q)) (mdW cI cC ob q K5) := by rw [eK5]; exact hD
      refine lv_iconst (v := 1) hx hb dX3_takes_36 (by decide) ?_
      exact W.zret hx hb hr (by decide) (fun t ht _ => retE (w := mdW cI cC ob q) h hP hD hS ht) hS.2.2 dX3_takes_37
    · replace h := if_n c4 h
      exact t_24  h (lv_sub hl [] rfl) hP hD hS
def fX3_digits_94 (N : Nat)  (K : KT) (y0 : Int32) : Option (Int32 × KT) := gd (y0 = 0 ∨ y0 = 1) (some (y0, K))
def fX3_digits_85 (N : Nat)  (K : KT) (x3 : Int32) : Option (Int32 × KT) := (if x3 ≤ 0 then fX3_digits_94 N  K 0 else fX3_digits_94 N  K 1)
def fX3_digits_9 (N : Nat)  : Nat → KT → Int32 → Int32 → Int32 → Option (Int32 × KT)
  | 0, _, _, _, _ => none
  | n + 1, K, x1, x2, x3 => (if x2 ≤ x3 then fX3_digits_85 N  K x3 else (if (K 8 3) ≤ (K 8 4) then fX3_digits_85 N  K x3 else rdA (K 6) 70 (K 8 4) (fun v4 => bdP (mX3_in N v4 48 57) (fun v6 => (if v6 = 0 then fX3_digits_85 N  K x3 else rdA (K 7) 3 x1 (fun v8 => ptF K 8 4 ((K 8 4) + 1) (fun K10 => rdA (K10 6) 70 (K 8 4) (fun v11 => wrA K10 7 3 x1 (((10 * v8) + v11) - 48) (fun K13 => (fX3_digits_9 N  n) K13 x1 x2 (x3 + 1))))))))))
def mX3_digits (N : Nat) (K : KT) (p0 : Int32) (p1 : Int32) : Option (Int32 × KT) := wrA K 7 3 p0 0 (fun K15 => fX3_digits_9 N  N K15 p0 p1 0)
def rmX3_digits : Room := { frames := 2, cells := 0, slots := 0, locals := 62 }
set_option maxHeartbeats 4000000 in
set_option maxRecDepth 100000 in
theorem tX3_digits {l : Launch} {dC : Nat → ClassId} {dI : Nat → Nat → Nat} {cI : ClassId} {cC : ClassId} {ob : Nat} {q : Nat → Nat} {N : Nat} {K : KT} {p0 : Int32} {p1 : Int32} {rr : Int32} {KK : KT} (hf : mX3_digits N K p0 p1 = some (rr, KK)) : Met l yX3_digits wsX3_digits rmX3_digits (cPe (dC, dI) vwCl [(cI, .int), (cC, .char)] (mdL ob q) (mdW cI cC ob q K) [.ref ob, .int p0, .int p1]) (cE (dC, dI) vwCl (mdL ob q) rr (mdW cI cC ob q KK)) 0 0 (aL (mdL ob q)) := by
  refine Met.ofW (cc := cX3_digits) (maxL := 4) (ret := (some .boolean)) (by decide) rfl ?_
  intro p e s m args below meth c s₁ B hml hv
  obtain ⟨rfl, hP, hK, hD⟩ := hv
  have hx := B.exec
  have hb := B.bytes
  have hr := B.returns
  have hts := atoms_spec (ws := wsX3_digits) B.pre
  have hown : s.vm.findClass RX3 = some m.cls := findClass_of_methodNamed B.named
  have hlocks := B.notSynchronized
  have hwX3 : ∀ w ∈ u_ws RX3 TX3 17, w ∈ wsX3_digits := by decide +kernel
  have hf_29 := hts (.fieldLink RX3 29 "CaravanLogsModel" "text" "[C") (by decide +kernel)
  have hf_32 := hts (.fieldLink RX3 32 "CaravanLogsModel" "told" "[I") (by decide +kernel)
  have hf_179 := hts (.fieldLink RX3 179 "CaravanLogsModel" "length" "I") (by decide +kernel)
  have hf_182 := hts (.fieldLink RX3 182 "CaravanLogsModel" "at" "I") (by decide +kernel)
  have t_94 : ∀ {K : KT} {y0 : Int32} {H : Heap} {locs : List Loc} {ls : Array Slot} (h : fX3_digits_94 N  K y0 = some (rr, KK)) (hl : lv_has ls 4 []) (hP : va_P (dC, dI) vwCl (mdW cI cC ob q K) H) (hD : va_D (aL (mdL ob q)) (mdW cI cC ob q K)) (hS : va_S (aL (mdL ob q)) s.heap H locs), W p l e (headSpec wsX3_digits rmX3_digits).room s m ([.ref ob, .int p0, .int p1] : List Value).toArray below meth c H locs 0 0 (MQ below (cE (dC, dI) vwCl (mdL ob q) rr (mdW cI cC ob q KK)) ([.ref ob, .int p0, .int p1] : List Value).toArray s 0 0 (aL (mdL ob q))) (F0 m 94 ls [.int y0]) := by
    intro  K y0 H locs ls h hl hP hD hS
    unfold fX3_digits_94 at h
    obtain ⟨hz, h⟩ := gd_some h
    exact W.zret hx hb hr (zb_ok hz) (fun t ht _ => retE (w := mdW cI cC ob q) h hP hD hS ht) hS.2.2 dX3_digits_94
  have t_85 : ∀ {K : KT} {x3 : Int32} {H : Heap} {locs : List Loc} {ls : Array Slot} (h : fX3_digits_85 N  K x3 = some (rr, KK)) (hl : lv_has ls 4 [(3, .int x3)]) (hP : va_P (dC, dI) vwCl (mdW cI cC ob q K) H) (hD : va_D (aL (mdL ob q)) (mdW cI cC ob q K)) (hS : va_S (aL (mdL ob q)) s.heap H locs), W p l e (headSpec wsX3_digits rmX3_digits).room s m ([.ref ob, .int p0, .int p1] : List Value).toArray below meth c H locs 0 0 (MQ below (cE (dC, dI) vwCl (mdL ob q) rr (mdW cI cC ob q KK)) ([.ref ob, .int p0, .int p1] : List Value).toArray s 0 0 (aL (mdL ob q))) (F0 m 85 ls []) := by
    intro  K x3 H locs ls h hl hP hD hS
    unfold fX3_digits_85 at h
    refine lv_iload_n hx hb dX3_digits_85 rfl (lv_at hl 0 rfl) ?_
    refine lv_if_le (tgt := 93) hx hb dX3_digits_86 (by decide) (fun c1 => ?_) (fun c1 => ?_)
    · replace h := if_p c1 h
      refine lv_iconst (v := 0) hx hb dX3_digits_93 (by decide) ?_
      exact t_94  h (lv_sub hl [] rfl) hP hD hS
    · replace h := if_n c1 h
      refine lv_iconst (v := 1) hx hb dX3_digits_89 (by decide) ?_
      refine lv_goto (tgt := 94) hx hb dX3_digits_90 (by decide) ?_
      exact t_94  h (lv_sub hl [] rfl) hP hD hS
  have t_9 : ∀ {n : Nat}, ∀ {K : KT} {x1 : Int32} {x2 : Int32} {x3 : Int32} {H : Heap} {locs : List Loc} {ls : Array Slot} (h : fX3_digits_9 N  n K x1 x2 x3 = some (rr, KK)) (hl : lv_has ls 4 [(0, .ref ob), (1, .int x1), (2, .int x2), (3, .int x3)]) (hP : va_P (dC, dI) vwCl (mdW cI cC ob q K) H) (hD : va_D (aL (mdL ob q)) (mdW cI cC ob q K)) (hS : va_S (aL (mdL ob q)) s.heap H locs), W p l e (headSpec wsX3_digits rmX3_digits).room s m ([.ref ob, .int p0, .int p1] : List Value).toArray below meth c H locs 0 0 (MQ below (cE (dC, dI) vwCl (mdL ob q) rr (mdW cI cC ob q KK)) ([.ref ob, .int p0, .int p1] : List Value).toArray s 0 0 (aL (mdL ob q))) (F0 m 9 ls []) := by
    intro  n
    induction n with
    | zero =>
      intro K x1 x2 x3 H locs ls h hl hP hD hS
      unfold fX3_digits_9 at h
      cases h
    | succ n ih =>
      intro K x1 x2 x3 H locs ls h hl hP hD hS
      unfold fX3_digits_9 at h
      refine lv_iload_n hx hb dX3_digits_9 rfl (lv_at hl 3 rfl) ?_
      refine lv_iload_n hx hb dX3_digits_10 rfl (lv_at hl 2 rfl) ?_
      refine lv_icmp_ge (tgt := 85) hx hb dX3_digits_11 (by decide) (fun c2 => ?_) (fun c2 => ?_)
      · replace h := if_p c2 h
        exact t_85  h (lv_sub hl [3] rfl) hP hD hS
      · replace h := if_n c2 h
        refine lv_aload_n hx hb dX3_digits_14 rfl (lv_at hl 0 rfl) ?_
        refine va_get (D := (dC, dI)) (ci := 4) (v := .int (K 8 4)) (C := RX3) (T := TX3) (N := 17) hx hb hts hwX3 hown hK hP 0 rfl rfl 11 (by decide) hf_182 (fun _ h9 => h9) rfl dX3_digits_15 ?_
        refine lv_aload_n hx hb dX3_digits_18 rfl (lv_at hl 0 rfl) ?_
        refine va_get (D := (dC, dI)) (ci := 4) (v := .int (K 8 3)) (C := RX3) (T := TX3) (N := 17) hx hb hts hwX3 hown hK hP 0 rfl rfl 10 (by decide) hf_179 (fun _ h9 => h9) rfl dX3_digits_19 ?_
        refine lv_icmp_ge (tgt := 85) hx hb dX3_digits_22 (by decide) (fun c3 => ?_) (fun c3 => ?_)
        · replace h := if_p c3 h
          exact t_85  h (lv_sub hl [3] rfl) hP hD hS
        · replace h := if_n c3 h
          refine lv_aload_n hx hb dX3_digits_25 rfl (lv_at hl 0 rfl) ?_
          refine va_get (D := (dC, dI)) (ci := 4) (v := .ref (q 6)) (C := RX3) (T := TX3) (N := 17) hx hb hts hwX3 hown hK hP 0 rfl rfl 9 (by decide) hf_29 (fun _ h9 => h9) rfl dX3_digits_26 ?_
          refine lv_aload_n hx hb dX3_digits_29 rfl (lv_at hl 0 rfl) ?_
          refine va_get (D := (dC, dI)) (ci := 4) (v := .int (K 8 4)) (C := RX3) (T := TX3) (N := 17) hx hb hts hwX3 hown hK hP 0 rfl rfl 11 (by decide) hf_182 (fun _ h9 => h9) rfl dX3_digits_30 ?_
          obtain ⟨hi5, v4, ev4, h⟩ := rdA_some h
          refine k_cald hx hb hK hP 7 1 rfl rfl hi5 ev4 dX3_digits_33 ?_
          refine lv_bipush (v := 48) hx hb dX3_digits_34 (by decide) ?_
          refine lv_bipush (v := 57) hx hb dX3_digits_36 (by decide) ?_
          obtain ⟨v6, hv6, h⟩ := bdP_some h
          refine call_SP (As := [.int v4, .int 48, .int 57]) (rest := []) ⟨hx, hb, hml, hown, hts⟩ (tX3_in (l := l) hv6) (va_cwS 3 hts gX3_digits_X3_in rfl rfl rfl (by decide +kernel) ⟨Nat.le_of_ble_eq_true rfl, Nat.le_of_ble_eq_true rfl⟩) (by rfl) hl.1 rfl (Nat.le_of_ble_eq_true rfl) dX3_digits_38 ⟨Nat.zero_le _, Nat.zero_le _⟩ ?_
          refine lv_if_eq (tgt := 85) hx hb dX3_digits_41 (by decide) (fun c7 => ?_) (fun c7 => ?_)
          · replace h := if_p c7 h
            exact t_85  h (lv_sub hl [3] rfl) hP hD hS
          · replace h := if_n c7 h
            refine lv_aload_n hx hb dX3_digits_44 rfl (lv_at hl 0 rfl) ?_
            refine va_get (D := (dC, dI)) (ci := 4) (v := .ref (q 7)) (C := RX3) (T := TX3) (N := 17) hx hb hts hwX3 hown hK hP 0 rfl rfl 13 (by decide) hf_32 (fun _ h9 => h9) rfl dX3_digits_45 ?_
            refine lv_iload_n hx hb dX3_digits_48 rfl (lv_at hl 1 rfl) ?_
            refine lv_bipush (v := 10) hx hb dX3_digits_49 (by decide) ?_
            refine lv_aload_n hx hb dX3_digits_51 rfl (lv_at hl 0 rfl) ?_
            refine va_get (D := (dC, dI)) (ci := 4) (v := .ref (q 7)) (C := RX3) (T := TX3) (N := 17) hx hb hts hwX3 hown hK hP 0 rfl rfl 13 (by decide) hf_32 (fun _ h9 => h9) rfl dX3_digits_52 ?_
            refine lv_iload_n hx hb dX3_digits_55 rfl (lv_at hl 1 rfl) ?_
            obtain ⟨hi9, v8, ev8, h⟩ := rdA_some h
            refine k_iald hx hb hK hP 8 0 rfl rfl hi9 ev8 dX3_digits_56 ?_
            refine lv_imul hx hb dX3_digits_57 ?_
            refine lv_aload_n hx hb dX3_digits_58 rfl (lv_at hl 0 rfl) ?_
            refine va_get (D := (dC, dI)) (ci := 4) (v := .ref (q 6)) (C := RX3) (T := TX3) (N := 17) hx hb hts hwX3 hown hK hP 0 rfl rfl 9 (by decide) hf_29 (fun _ h9 => h9) rfl dX3_digits_59 ?_
            refine lv_aload_n hx hb dX3_digits_62 rfl (lv_at hl 0 rfl) ?_
            refine lv_dup hx hb dX3_digits_63 rfl ?_
            refine va_get (D := (dC, dI)) (ci := 4) (v := .int (K 8 4)) (C := RX3) (T := TX3) (N := 17) hx hb hts hwX3 hown hK hP 0 rfl rfl 11 (by decide) hf_182 (fun _ h9 => h9) rfl dX3_digits_64 ?_
            refine lv_dup_x1 hx hb dX3_digits_67 rfl rfl ?_
            refine lv_iconst (v := 1) hx hb dX3_digits_68 (by decide) ?_
            refine lv_iadd hx hb dX3_digits_69 ?_
            obtain ⟨K10, eK10, h⟩ := ptF_some h
            refine va_put (D := (dC, dI)) (ci := 4) (v := .int ((K 8 4) + 1)) (ty := .int) (C := RX3) (T := TX3) (N := 17) hx hb hts hwX3 tyX3 tyX3_ok nmX3 hown hK hP hD hS 0 rfl rfl 11 (by decide) hf_182 (fun _ h9 => h9) rfl (by decide +kernel) rfl rfl (Nat.le_of_ble_eq_true rfl) dX3_digits_70 (fun H locs hP hD hS => ?_)
            have hP : va_P (dC, dI) vwCl (mdW cI cC ob q K10) H := by rw [eK10]; exact hP
            have hD : va_D (aL (mdL ob q)) (mdW cI cC ob q K10) := by rw [eK10]; exact hD
            obtain ⟨hi12, v11, ev11, h⟩ := rdA_some h
            refine k_cald hx hb hK hP 7 1 rfl rfl hi12 ev11 dX3_digits_73 ?_
            refine lv_iadd hx hb dX3_digits_74 ?_
            refine lv_bipush (v := 48) hx hb dX3_digits_75 (by decide) ?_
            refine lv_isub hx hb dX3_digits_77 ?_
            obtain ⟨hi14, K13, eK13, h⟩ := wrA_some h
            refine va_iast hx hb hK hP hD hS 8 0 rfl rfl hi14 dX3_digits_78 (fun H locs hP hD hS => ?_)
            have hP : va_P (dC, dI) vwCl (mdW cI cC ob q K13) H := by rw [eK13]; exact hP
            have hD : va_D (aL (mdL ob q)) (mdW cI cC ob q K13) := by rw [eK13]; exact hD
            refine lv_iinc (v := x3 + 1) (lv' := [(3, .int (x3 + 1)), (0, .ref ob), (1, .int x1), (2, .int x2)]) hx hb dX3_digits_79 hl (k := 3) rfl rfl (by decide) rfl (fun ls hl => ?_)
            refine lv_goto (tgt := 9) hx hb dX3_digits_82 (by decide) ?_
            exact ih h (lv_sub hl [1, 2, 3, 0] rfl) hP hD hS
  have hS : va_S (aL (mdL ob q)) s.heap s.heap [] := va_S.rf
  have hl := lv_entry ([.ref ob, .int p0, .int p1]) (n := 4) (Nat.le_of_ble_eq_true rfl)
  rw [lg_entry_eq]
  generalize (lg_sl ([.ref ob, .int p0, .int p1]) ++ List.replicate (4 - (lg_sl ([.ref ob, .int p0, .int p1])).length) Slot.unset).toArray = ls at hl ⊢
  have hl : lv_has ls 4 [(0, .ref ob), (1, .int p0), (2, .int p1)] := hl
  have h := hf
  unfold mX3_digits at h
  refine lv_iconst (v := 0) hx hb dX3_digits_0 (by decide) ?_
  refine lv_istore_n (lv' := [(3, .int 0), (0, .ref ob), (1, .int p0), (2, .int p1)]) hx hb dX3_digits_1 rfl hl (by decide) rfl (fun ls hl => ?_)
  refine lv_aload_n hx hb dX3_digits_2 rfl (lv_at hl 1 rfl) ?_
  refine va_get (D := (dC, dI)) (ci := 4) (v := .ref (q 7)) (C := RX3) (T := TX3) (N := 17) hx hb hts hwX3 hown hK hP 0 rfl rfl 13 (by decide) hf_32 (fun _ h9 => h9) rfl dX3_digits_3 ?_
  refine lv_iload_n hx hb dX3_digits_6 rfl (lv_at hl 2 rfl) ?_
  refine lv_iconst (v := 0) hx hb dX3_digits_7 (by decide) ?_
  obtain ⟨hi16, K15, eK15, h⟩ := wrA_some h
  refine va_iast hx hb hK hP hD hS 8 0 rfl rfl hi16 dX3_digits_8 (fun H locs hP hD hS => ?_)
  have hP : va_P (dC, dI) vwCl (mdW cI cC ob q K15) H := by rw [eK15]; exact hP
  have hD : va_D (aL (mdL ob q)) (mdW cI cC ob q K15) := by rw [eK15]; exact hD
  exact t_9  h (lv_sub hl [1, 2, 3, 0] rfl) hP hD hS
def fX3_isCommand_136 (N : Nat)  (K : KT)  : Option (Int32 × KT) := ptF K 8 4 ((K 8 4) + 1) (fun K1 => bdE (mX3_digits N K1 0 1) (fun v2 K3 => gd (v2 = 0 ∨ v2 = 1) (some (v2, K3))))
def fX3_isCommand_202 (N : Nat)  (K : KT)  : Option (Int32 × KT) := some (0, K)
def fX3_isCommand_298 (N : Nat)  (K : KT)  : Option (Int32 × KT) := some (0, K)
def fX3_isCommand_331 (N : Nat)  (K : KT) (y1 : Int32) (y2 : Int32) : Option (Int32 × KT) := wrA K 7 3 y1 y2 (fun K4 => some (1, K4))
def fX3_isCommand_300 (N : Nat)  (K : KT)  : Option (Int32 × KT) := ptF K 8 4 ((K 8 4) + 1) (fun K6 => rdA (K6 6) 70 (K 8 4) (fun v7 => (if v7 = 43 then fX3_isCommand_331 N  K6 2 1 else fX3_isCommand_331 N  K6 2 0)))
def fX3_isCommand_351 (N : Nat)  (K : KT)  : Option (Int32 × KT) := some (0, K)
def mX3_isCommand (N : Nat) (K : KT)  : Option (Int32 × KT) := (if (K 8 4) = (K 8 3) then some (0, K) else rdA (K 6) 70 (K 8 4) (fun v11 => gd (chr v11) (ptF K 8 5 v11 (fun K13 => (if (K13 8 5) = 100 then fX3_isCommand_136 N  K13  else (if (K13 8 5) = 101 then fX3_isCommand_351 N  K13  else (if (K13 8 5) = 102 then fX3_isCommand_351 N  K13  else (if (K13 8 5) = 103 then fX3_isCommand_351 N  K13  else (if (K13 8 5) = 104 then fX3_isCommand_351 N  K13  else (if (K13 8 5) = 105 then fX3_isCommand_351 N  K13  else (if (K13 8 5) = 106 then fX3_isCommand_351 N  K13  else (if (K13 8 5) = 107 then fX3_isCommand_136 N  K13  else (if (K13 8 5) = 108 then fX3_isCommand_351 N  K13  else (if (K13 8 5) = 109 then fX3_isCommand_136 N  K13  else (if (K13 8 5) = 110 then fX3_isCommand_351 N  K13  else (if (K13 8 5) = 111 then fX3_isCommand_351 N  K13  else (if (K13 8 5) = 112 then ptF K13 8 4 ((K13 8 4) + 1) (fun K28 => bdE (mX3_digits N K28 0 2) (fun v29 K30 => gd (v29 = 0 ∨ v29 = 1) (some (v29, K30)))) else (if (K13 8 5) = 113 then fX3_isCommand_351 N  K13  else (if (K13 8 5) = 114 then ptF K13 8 4 ((K13 8 4) + 1) (fun K33 => bdE (mX3_digits N K33 0 1) (fun v34 K35 => (if v34 = 0 then fX3_isCommand_298 N  K35  else bdE (mX3_digits N K35 1 1) (fun v37 K38 => (if v37 = 0 then fX3_isCommand_298 N  K38  else (if (K38 8 4) = (K38 8 3) then fX3_isCommand_298 N  K38  else rdA (K38 6) 70 (K38 8 4) (fun v41 => (if v41 = 43 then fX3_isCommand_300 N  K38  else rdA (K38 6) 70 (K38 8 4) (fun v44 => (if v44 = 45 then fX3_isCommand_300 N  K38  else fX3_isCommand_298 N  K38 )))))))))) else (if (K13 8 5) = 115 then fX3_isCommand_351 N  K13  else (if (K13 8 5) = 116 then fX3_isCommand_351 N  K13  else (if (K13 8 5) = 117 then fX3_isCommand_351 N  K13  else (if (K13 8 5) = 118 then fX3_isCommand_351 N  K13  else (if (K13 8 5) = 119 then ptF K13 8 4 ((K13 8 4) + 1) (fun K52 => bdE (mX3_digits N K52 0 1) (fun v53 K54 => (if v53 = 0 then fX3_isCommand_202 N  K54  else (if (K54 8 4) = (K54 8 3) then fX3_isCommand_202 N  K54  else rdA (K54 6) 70 (K54 8 4) (fun v57 => bdP (mX3_in N v57 97 100) (fun v59 => (if v59 = 0 then fX3_isCommand_202 N  K54  else ptF K54 8 4 ((K54 8 4) + 1) (fun K61 => rdA (K61 6) 70 (K54 8 4) (fun v62 => wrA K61 7 3 1 (v62 - 97) (fun K64 => some (1, K64))))))))))) else (if (K13 8 5) = 120 then fX3_isCommand_351 N  K13  else (if (K13 8 5) = 121 then fX3_isCommand_351 N  K13  else (if (K13 8 5) = 122 then fX3_isCommand_136 N  K13  else fX3_isCommand_351 N  K13 )))))))))))))))))))))))))))
def rmX3_isCommand : Room := { frames := 3, cells := 0, slots := 0, locals := 85 }
set_option maxHeartbeats 4000000 in
set_option maxRecDepth 100000 in
theorem tX3_isCommand {l : Launch} {dC : Nat → ClassId} {dI : Nat → Nat → Nat} {cI : ClassId} {cC : ClassId} {ob : Nat} {q : Nat → Nat} {N : Nat} {K : KT}  {rr : Int32} {KK : KT} (hf : mX3_isCommand N K  = some (rr, KK)) : Met l yX3_isCommand wsX3_isCommand rmX3_isCommand (cPe (dC, dI) vwCl [(cI, .int), (cC, .char)] (mdL ob q) (mdW cI cC ob q K) [.ref ob]) (cE (dC, dI) vwCl (mdL ob q) rr (mdW cI cC ob q KK)) 0 0 (aL (mdL ob q)) := by
  refine Met.ofW (cc := cX3_isCommand) (maxL := 1) (ret := (some .boolean)) (by decide) rfl ?_
  intro p e s m args below meth c s₁ B hml hv
  obtain ⟨rfl, hP, hK, hD⟩ := hv
  have hx := B.exec
  have hb := B.bytes
  have hr := B.returns
  have hts := atoms_spec (ws := wsX3_isCommand) B.pre
  have hown : s.vm.findClass RX3 = some m.cls := findClass_of_methodNamed B.named
  have hlocks := B.notSynchronized
  have hwX3 : ∀ w ∈ u_ws RX3 TX3 17, w ∈ wsX3_isCommand := by decide +kernel
  have hf_29 := hts (.fieldLink RX3 29 "CaravanLogsModel" "text" "[C") (by decide +kernel)
  have hf_32 := hts (.fieldLink RX3 32 "CaravanLogsModel" "told" "[I") (by decide +kernel)
  have hf_179 := hts (.fieldLink RX3 179 "CaravanLogsModel" "length" "I") (by decide +kernel)
  have hf_182 := hts (.fieldLink RX3 182 "CaravanLogsModel" "at" "I") (by decide +kernel)
  have hf_185 := hts (.fieldLink RX3 185 "CaravanLogsModel" "command" "C") (by decide +kernel)
  have t_136 : ∀ {K : KT}  {H : Heap} {locs : List Loc} {ls : Array Slot} (h : fX3_isCommand_136 N  K  = some (rr, KK)) (hl : lv_has ls 1 [(0, .ref ob)]) (hP : va_P (dC, dI) vwCl (mdW cI cC ob q K) H) (hD : va_D (aL (mdL ob q)) (mdW cI cC ob q K)) (hS : va_S (aL (mdL ob q)) s.heap H locs), W p l e (headSpec wsX3_isCommand rmX3_isCommand).room s m ([.ref ob] : List Value).toArray below meth c H locs 0 0 (MQ below (cE (dC, dI) vwCl (mdL ob q) rr (mdW cI cC ob q KK)) ([.ref ob] : List Value).toArray s 0 0 (aL (mdL ob q))) (F0 m 136 ls []) := by
    intro  K H locs ls h hl hP hD hS
    unfold fX3_isCommand_136 at h
    refine lv_aload_n hx hb dX3_isCommand_136 rfl (lv_at hl 0 rfl) ?_
    refine lv_dup hx hb dX3_isCommand_137 rfl ?_
    refine va_get (D := (dC, dI)) (ci := 4) (v := .int (K 8 4)) (C := RX3) (T := TX3) (N := 17) hx hb hts hwX3 hown hK hP 0 rfl rfl 11 (by decide) hf_182 (fun _ h9 => h9) rfl dX3_isCommand_138 ?_
    refine lv_iconst (v := 1) hx hb dX3_isCommand_141 (by decide) ?_
    refine lv_iadd hx hb dX3_isCommand_142 ?_
    obtain ⟨K1, eK1, h⟩ := ptF_some h
    refine va_put (D := (dC, dI)) (ci := 4) (v := .int ((K 8 4) + 1)) (ty := .int) (C := RX3) (T := TX3) (N := 17) hx hb hts hwX3 tyX3 tyX3_ok nmX3 hown hK hP hD hS 0 rfl rfl 11 (by decide) hf_182 (fun _ h9 => h9) rfl (by decide +kernel) rfl rfl (Nat.le_of_ble_eq_true rfl) dX3_isCommand_143 (fun H locs hP hD hS => ?_)
    have hP : va_P (dC, dI) vwCl (mdW cI cC ob q K1) H := by rw [eK1]; exact hP
    have hD : va_D (aL (mdL ob q)) (mdW cI cC ob q K1) := by rw [eK1]; exact hD
    refine lv_aload_n hx hb dX3_isCommand_146 rfl (lv_at hl 0 rfl) ?_
    refine lv_iconst (v := 0) hx hb dX3_isCommand_147 (by decide) ?_
    refine lv_iconst (v := 1) hx hb dX3_isCommand_148 (by decide) ?_
    obtain ⟨v2, K3, hv2, h⟩ := bdE_some h
    refine call_VE (As := [.int 0, .int 1]) (rest := []) ⟨hx, hb, hml, hown, hts⟩ (tX3_digits (l := l) (dC := dC) (dI := dI) (cI := cI) (cC := cC) (ob := ob) (q := q) hv2) (cwV 2 hts gX3_isCommand_X3_digits rfl rfl rfl (by decide +kernel) ⟨Nat.le_of_ble_eq_true rfl, Nat.le_of_ble_eq_true rfl⟩) hK hP hD hS (fun _ h9 => h9) 0 rfl rfl (by rfl) hl.1 rfl (Nat.le_of_ble_eq_true rfl) dX3_isCommand_149 ⟨Nat.zero_le _, Nat.zero_le _⟩ (fun H locs hP hD _ hS => ?_)
    obtain ⟨hz, h⟩ := gd_some h
    exact W.zret hx hb hr (zb_ok hz) (fun t ht _ => retE (w := mdW cI cC ob q) h hP hD hS ht) hS.2.2 dX3_isCommand_152
  have t_202 : ∀ {K : KT}  {H : Heap} {locs : List Loc} {ls : Array Slot} (h : fX3_isCommand_202 N  K  = some (rr, KK)) (hl : lv_has ls 1 []) (hP : va_P (dC, dI) vwCl (mdW cI cC ob q K) H) (hD : va_D (aL (mdL ob q)) (mdW cI cC ob q K)) (hS : va_S (aL (mdL ob q)) s.heap H locs), W p l e (headSpec wsX3_isCommand rmX3_isCommand).room s m ([.ref ob] : List Value).toArray below meth c H locs 0 0 (MQ below (cE (dC, dI) vwCl (mdL ob q) rr (mdW cI cC ob q KK)) ([.ref ob] : List Value).toArray s 0 0 (aL (mdL ob q))) (F0 m 202 ls []) := by
    intro  K H locs ls h hl hP hD hS
    unfold fX3_isCommand_202 at h
    refine lv_iconst (v := 0) hx hb dX3_isCommand_202 (by decide) ?_
    exact W.zret hx hb hr (by decide) (fun t ht _ => retE (w := mdW cI cC ob q) h hP hD hS ht) hS.2.2 dX3_isCommand_203
  have t_298 : ∀ {K : KT}  {H : Heap} {locs : List Loc} {ls : Array Slot} (h : fX3_isCommand_298 N  K  = some (rr, KK)) (hl : lv_has ls 1 []) (hP : va_P (dC, dI) vwCl (mdW cI cC ob q K) H) (hD : va_D (aL (mdL ob q)) (mdW cI cC ob q K)) (hS : va_S (aL (mdL ob q)) s.heap H locs), W p l e (headSpec wsX3_isCommand rmX3_isCommand).room s m ([.ref ob] : List Value).toArray below meth c H locs 0 0 (MQ below (cE (dC, dI) vwCl (mdL ob q) rr (mdW cI cC ob q KK)) ([.ref ob] : List Value).toArray s 0 0 (aL (mdL ob q))) (F0 m 298 ls []) := by
    intro  K H locs ls h hl hP hD hS
    unfold fX3_isCommand_298 at h
    refine lv_iconst (v := 0) hx hb dX3_isCommand_298 (by decide) ?_
    exact W.zret hx hb hr (by decide) (fun t ht _ => retE (w := mdW cI cC ob q) h hP hD hS ht) hS.2.2 dX3_isCommand_299
  have t_331 : ∀ {K : KT} {y1 : Int32} {y2 : Int32} {H : Heap} {locs : List Loc} {ls : Array Slot} (h : fX3_isCommand_331 N  K y1 y2 = some (rr, KK)) (hl : lv_has ls 1 []) (hP : va_P (dC, dI) vwCl (mdW cI cC ob q K) H) (hD : va_D (aL (mdL ob q)) (mdW cI cC ob q K)) (hS : va_S (aL (mdL ob q)) s.heap H locs), W p l e (headSpec wsX3_isCommand rmX3_isCommand).room s m ([.ref ob] : List Value).toArray below meth c H locs 0 0 (MQ below (cE (dC, dI) vwCl (mdL ob q) rr (mdW cI cC ob q KK)) ([.ref ob] : List Value).toArray s 0 0 (aL (mdL ob q))) (F0 m 331 ls [.int y2, .int y1, .ref (q 7)]) := by
    intro  K y1 y2 H locs ls h hl hP hD hS
    unfold fX3_isCommand_331 at h
    obtain ⟨hi5, K4, eK4, h⟩ := wrA_some h
    refine va_iast hx hb hK hP hD hS 8 0 rfl rfl hi5 dX3_isCommand_331 (fun H locs hP hD hS => ?_)
    have hP : va_P (dC, dI) vwCl (mdW cI cC ob q K4) H := by rw [eK4]; exact hP
    have hD : va_D (aL (mdL ob q)) (mdW cI cC ob q K4) := by rw [eK4]; exact hD
    refine lv_iconst (v := 1) hx hb dX3_isCommand_332 (by decide) ?_
    exact W.zret hx hb hr (by decide) (fun t ht _ => retE (w := mdW cI cC ob q) h hP hD hS ht) hS.2.2 dX3_isCommand_333
  have t_300 : ∀ {K : KT}  {H : Heap} {locs : List Loc} {ls : Array Slot} (h : fX3_isCommand_300 N  K  = some (rr, KK)) (hl : lv_has ls 1 [(0, .ref ob)]) (hP : va_P (dC, dI) vwCl (mdW cI cC ob q K) H) (hD : va_D (aL (mdL ob q)) (mdW cI cC ob q K)) (hS : va_S (aL (mdL ob q)) s.heap H locs), W p l e (headSpec wsX3_isCommand rmX3_isCommand).room s m ([.ref ob] : List Value).toArray below meth c H locs 0 0 (MQ below (cE (dC, dI) vwCl (mdL ob q) rr (mdW cI cC ob q KK)) ([.ref ob] : List Value).toArray s 0 0 (aL (mdL ob q))) (F0 m 300 ls []) := by
    intro  K H locs ls h hl hP hD hS
    unfold fX3_isCommand_300 at h
    refine lv_aload_n hx hb dX3_isCommand_300 rfl (lv_at hl 0 rfl) ?_
    refine va_get (D := (dC, dI)) (ci := 4) (v := .ref (q 7)) (C := RX3) (T := TX3) (N := 17) hx hb hts hwX3 hown hK hP 0 rfl rfl 13 (by decide) hf_32 (fun _ h9 => h9) rfl dX3_isCommand_301 ?_
    refine lv_iconst (v := 2) hx hb dX3_isCommand_304 (by decide) ?_
    refine lv_aload_n hx hb dX3_isCommand_305 rfl (lv_at hl 0 rfl) ?_
    refine va_get (D := (dC, dI)) (ci := 4) (v := .ref (q 6)) (C := RX3) (T := TX3) (N := 17) hx hb hts hwX3 hown hK hP 0 rfl rfl 9 (by decide) hf_29 (fun _ h9 => h9) rfl dX3_isCommand_306 ?_
    refine lv_aload_n hx hb dX3_isCommand_309 rfl (lv_at hl 0 rfl) ?_
    refine lv_dup hx hb dX3_isCommand_310 rfl ?_
    refine va_get (D := (dC, dI)) (ci := 4) (v := .int (K 8 4)) (C := RX3) (T := TX3) (N := 17) hx hb hts hwX3 hown hK hP 0 rfl rfl 11 (by decide) hf_182 (fun _ h9 => h9) rfl dX3_isCommand_311 ?_
    refine lv_dup_x1 hx hb dX3_isCommand_314 rfl rfl ?_
    refine lv_iconst (v := 1) hx hb dX3_isCommand_315 (by decide) ?_
    refine lv_iadd hx hb dX3_isCommand_316 ?_
    obtain ⟨K6, eK6, h⟩ := ptF_some h
    refine va_put (D := (dC, dI)) (ci := 4) (v := .int ((K 8 4) + 1)) (ty := .int) (C := RX3) (T := TX3) (N := 17) hx hb hts hwX3 tyX3 tyX3_ok nmX3 hown hK hP hD hS 0 rfl rfl 11 (by decide) hf_182 (fun _ h9 => h9) rfl (by decide +kernel) rfl rfl (Nat.le_of_ble_eq_true rfl) dX3_isCommand_317 (fun H locs hP hD hS => ?_)
    have hP : va_P (dC, dI) vwCl (mdW cI cC ob q K6) H := by rw [eK6]; exact hP
    have hD : va_D (aL (mdL ob q)) (mdW cI cC ob q K6) := by rw [eK6]; exact hD
    obtain ⟨hi8, v7, ev7, h⟩ := rdA_some h
    refine k_cald hx hb hK hP 7 1 rfl rfl hi8 ev7 dX3_isCommand_320 ?_
    refine lv_bipush (v := 43) hx hb dX3_isCommand_321 (by decide) ?_
    refine lv_icmp_ne (tgt := 330) hx hb dX3_isCommand_323 (by decide) (fun c9 => ?_) (fun c9 => ?_)
    · replace h := if_n c9 h
      refine lv_iconst (v := 0) hx hb dX3_isCommand_330 (by decide) ?_
      exact t_331  h (lv_sub hl [] rfl) hP hD hS
    · replace h := if_p c9 h
      refine lv_iconst (v := 1) hx hb dX3_isCommand_326 (by decide) ?_
      refine lv_goto (tgt := 331) hx hb dX3_isCommand_327 (by decide) ?_
      exact t_331  h (lv_sub hl [] rfl) hP hD hS
  have t_351 : ∀ {K : KT}  {H : Heap} {locs : List Loc} {ls : Array Slot} (h : fX3_isCommand_351 N  K  = some (rr, KK)) (hl : lv_has ls 1 []) (hP : va_P (dC, dI) vwCl (mdW cI cC ob q K) H) (hD : va_D (aL (mdL ob q)) (mdW cI cC ob q K)) (hS : va_S (aL (mdL ob q)) s.heap H locs), W p l e (headSpec wsX3_isCommand rmX3_isCommand).room s m ([.ref ob] : List Value).toArray below meth c H locs 0 0 (MQ below (cE (dC, dI) vwCl (mdL ob q) rr (mdW cI cC ob q KK)) ([.ref ob] : List Value).toArray s 0 0 (aL (mdL ob q))) (F0 m 351 ls []) := by
    intro  K H locs ls h hl hP hD hS
    unfold fX3_isCommand_351 at h
    refine lv_iconst (v := 0) hx hb dX3_isCommand_351 (by decide) ?_
    exact W.zret hx hb hr (by decide) (fun t ht _ => retE (w := mdW cI cC ob q) h hP hD hS ht) hS.2.2 dX3_isCommand_352
  have hS : va_S (aL (mdL ob q)) s.heap s.heap [] := va_S.rf
  have hl := lv_entry ([.ref ob]) (n := 1) (Nat.le_of_ble_eq_true rfl)
  rw [lg_entry_eq]
  generalize (lg_sl ([.ref ob]) ++ List.replicate (1 - (lg_sl ([.ref ob])).length) Slot.unset).toArray = ls at hl ⊢
  have hl : lv_has ls 1 [(0, .ref ob)] := hl
  have h := hf
  unfold mX3_isCommand at h
  refine lv_aload_n hx hb dX3_isCommand_0 rfl (lv_at hl 0 rfl) ?_
  refine va_get (D := (dC, dI)) (ci := 4) (v := .int (K 8 4)) (C := RX3) (T := TX3) (N := 17) hx hb hts hwX3 hown hK hP 0 rfl rfl 11 (by decide) hf_182 (fun _ h9 => h9) rfl dX3_isCommand_1 ?_
  refine lv_aload_n hx hb dX3_isCommand_4 rfl (lv_at hl 0 rfl) ?_
  refine va_get (D := (dC, dI)) (ci := 4) (v := .int (K 8 3)) (C := RX3) (T := TX3) (N := 17) hx hb hts hwX3 hown hK hP 0 rfl rfl 10 (by decide) hf_179 (fun _ h9 => h9) rfl dX3_isCommand_5 ?_
  refine lv_icmp_ne (tgt := 13) hx hb dX3_isCommand_8 (by decide) (fun c10 => ?_) (fun c10 => ?_)
  · replace h := if_n c10 h
    refine lv_aload_n hx hb dX3_isCommand_13 rfl (lv_at hl 0 rfl) ?_
    refine lv_aload_n hx hb dX3_isCommand_14 rfl (lv_at hl 0 rfl) ?_
    refine va_get (D := (dC, dI)) (ci := 4) (v := .ref (q 6)) (C := RX3) (T := TX3) (N := 17) hx hb hts hwX3 hown hK hP 0 rfl rfl 9 (by decide) hf_29 (fun _ h9 => h9) rfl dX3_isCommand_15 ?_
    refine lv_aload_n hx hb dX3_isCommand_18 rfl (lv_at hl 0 rfl) ?_
    refine va_get (D := (dC, dI)) (ci := 4) (v := .int (K 8 4)) (C := RX3) (T := TX3) (N := 17) hx hb hts hwX3 hown hK hP 0 rfl rfl 11 (by decide) hf_182 (fun _ h9 => h9) rfl dX3_isCommand_19 ?_
    obtain ⟨hi12, v11, ev11, h⟩ := rdA_some h
    refine k_cald hx hb hK hP 7 1 rfl rfl hi12 ev11 dX3_isCommand_22 ?_
    obtain ⟨hc14, h⟩ := gd_some h
    obtain ⟨K13, eK13, h⟩ := ptF_some h
    refine va_put (D := (dC, dI)) (ci := 4) (v := .int v11) (ty := .char) (C := RX3) (T := TX3) (N := 17) hx hb hts hwX3 tyX3 tyX3_ok nmX3 hown hK hP hD hS 0 rfl rfl 12 (by decide) hf_185 (fun _ h9 => h9) rfl (by decide +kernel) (chr_n hc14) (chr_f hc14) (Nat.le_of_ble_eq_true rfl) dX3_isCommand_23 (fun H locs hP hD hS => ?_)
    have hP : va_P (dC, dI) vwCl (mdW cI cC ob q K13) H := by rw [eK13]; exact hP
    have hD : va_D (aL (mdL ob q)) (mdW cI cC ob q K13) := by rw [eK13]; exact hD
    refine lv_aload_n hx hb dX3_isCommand_26 rfl (lv_at hl 0 rfl) ?_
    refine va_get (D := (dC, dI)) (ci := 4) (v := .int (K13 8 5)) (C := RX3) (T := TX3) (N := 17) hx hb hts hwX3 hown hK hP 0 rfl rfl 12 (by decide) hf_185 (fun _ h9 => h9) rfl dX3_isCommand_27 ?_
    by_cases c15 : (K13 8 5) = 100
    · replace h := if_p c15 h
      refine lv_tableIn (tgt := 136) hx hb dX3_isCommand_30 (by rw [c15]; decide) (by rw [c15]; decide) (by rw [c15]; rfl) (by decide) ?_
      exact t_136  h (lv_sub hl [0] rfl) hP hD hS
    · replace h := if_n c15 h
      by_cases c16 : (K13 8 5) = 101
      · replace h := if_p c16 h
        refine lv_tableIn (tgt := 351) hx hb dX3_isCommand_30 (by rw [c16]; decide) (by rw [c16]; decide) (by rw [c16]; rfl) (by decide) ?_
        exact t_351  h (lv_sub hl [] rfl) hP hD hS
      · replace h := if_n c16 h
        by_cases c17 : (K13 8 5) = 102
        · replace h := if_p c17 h
          refine lv_tableIn (tgt := 351) hx hb dX3_isCommand_30 (by rw [c17]; decide) (by rw [c17]; decide) (by rw [c17]; rfl) (by decide) ?_
          exact t_351  h (lv_sub hl [] rfl) hP hD hS
        · replace h := if_n c17 h
          by_cases c18 : (K13 8 5) = 103
          · replace h := if_p c18 h
            refine lv_tableIn (tgt := 351) hx hb dX3_isCommand_30 (by rw [c18]; decide) (by rw [c18]; decide) (by rw [c18]; rfl) (by decide) ?_
            exact t_351  h (lv_sub hl [] rfl) hP hD hS
          · replace h := if_n c18 h
            by_cases c19 : (K13 8 5) = 104
            · replace h := if_p c19 h
              refine lv_tableIn (tgt := 351) hx hb dX3_isCommand_30 (by rw [c19]; decide) (by rw [c19]; decide) (by rw [c19]; rfl) (by decide) ?_
              exact t_351  h (lv_sub hl [] rfl) hP hD hS
            · replace h := if_n c19 h
              by_cases c20 : (K13 8 5) = 105
              · replace h := if_p c20 h
                refine lv_tableIn (tgt := 351) hx hb dX3_isCommand_30 (by rw [c20]; decide) (by rw [c20]; decide) (by rw [c20]; rfl) (by decide) ?_
                exact t_351  h (lv_sub hl [] rfl) hP hD hS
              · replace h := if_n c20 h
                by_cases c21 : (K13 8 5) = 106
                · replace h := if_p c21 h
                  refine lv_tableIn (tgt := 351) hx hb dX3_isCommand_30 (by rw [c21]; decide) (by rw [c21]; decide) (by rw [c21]; rfl) (by decide) ?_
                  exact t_351  h (lv_sub hl [] rfl) hP hD hS
                · replace h := if_n c21 h
                  by_cases c22 : (K13 8 5) = 107
                  · replace h := if_p c22 h
                    refine lv_tableIn (tgt := 136) hx hb dX3_isCommand_30 (by rw [c22]; decide) (by rw [c22]; decide) (by rw [c22]; rfl) (by decide) ?_
                    exact t_136  h (lv_sub hl [0] rfl) hP hD hS
                  · replace h := if_n c22 h
                    by_cases c23 : (K13 8 5) = 108
                    · replace h := if_p c23 h
                      refine lv_tableIn (tgt := 351) hx hb dX3_isCommand_30 (by rw [c23]; decide) (by rw [c23]; decide) (by rw [c23]; rfl) (by decide) ?_
                      exact t_351  h (lv_sub hl [] rfl) hP hD hS
                    · replace h := if_n c23 h
                      by_cases c24 : (K13 8 5) = 109
                      · replace h := if_p c24 h
                        refine lv_tableIn (tgt := 136) hx hb dX3_isCommand_30 (by rw [c24]; decide) (by rw [c24]; decide) (by rw [c24]; rfl) (by decide) ?_
                        exact t_136  h (lv_sub hl [0] rfl) hP hD hS
                      · replace h := if_n c24 h
                        by_cases c25 : (K13 8 5) = 110
                        · replace h := if_p c25 h
                          refine lv_tableIn (tgt := 351) hx hb dX3_isCommand_30 (by rw [c25]; decide) (by rw [c25]; decide) (by rw [c25]; rfl) (by decide) ?_
                          exact t_351  h (lv_sub hl [] rfl) hP hD hS
                        · replace h := if_n c25 h
                          by_cases c26 : (K13 8 5) = 111
                          · replace h := if_p c26 h
                            refine lv_tableIn (tgt := 351) hx hb dX3_isCommand_30 (by rw [c26]; decide) (by rw [c26]; decide) (by rw [c26]; rfl) (by decide) ?_
                            exact t_351  h (lv_sub hl [] rfl) hP hD hS
                          · replace h := if_n c26 h
                            by_cases c27 : (K13 8 5) = 112
                            · replace h := if_p c27 h
                              refine lv_tableIn (tgt := 334) hx hb dX3_isCommand_30 (by rw [c27]; decide) (by rw [c27]; decide) (by rw [c27]; rfl) (by decide) ?_
                              refine lv_aload_n hx hb dX3_isCommand_334 rfl (lv_at hl 0 rfl) ?_
                              refine lv_dup hx hb dX3_isCommand_335 rfl ?_
                              refine va_get (D := (dC, dI)) (ci := 4) (v := .int (K13 8 4)) (C := RX3) (T := TX3) (N := 17) hx hb hts hwX3 hown hK hP 0 rfl rfl 11 (by decide) hf_182 (fun _ h9 => h9) rfl dX3_isCommand_336 ?_
                              refine lv_iconst (v := 1) hx hb dX3_isCommand_339 (by decide) ?_
                              refine lv_iadd hx hb dX3_isCommand_340 ?_
                              obtain ⟨K28, eK28, h⟩ := ptF_some h
                              refine va_put (D := (dC, dI)) (ci := 4) (v := .int ((K13 8 4) + 1)) (ty := .int) (C := RX3) (T := TX3) (N := 17) hx hb hts hwX3 tyX3 tyX3_ok nmX3 hown hK hP hD hS 0 rfl rfl 11 (by decide) hf_182 (fun _ h9 => h9) rfl (by decide +kernel) rfl rfl (Nat.le_of_ble_eq_true rfl) dX3_isCommand_341 (fun H locs hP hD hS => ?_)
                              have hP : va_P (dC, dI) vwCl (mdW cI cC ob q K28) H := by rw [eK28]; exact hP
                              have hD : va_D (aL (mdL ob q)) (mdW cI cC ob q K28) := by rw [eK28]; exact hD
                              refine lv_aload_n hx hb dX3_isCommand_344 rfl (lv_at hl 0 rfl) ?_
                              refine lv_iconst (v := 0) hx hb dX3_isCommand_345 (by decide) ?_
                              refine lv_iconst (v := 2) hx hb dX3_isCommand_346 (by decide) ?_
                              obtain ⟨v29, K30, hv29, h⟩ := bdE_some h
                              refine call_VE (As := [.int 0, .int 2]) (rest := []) ⟨hx, hb, hml, hown, hts⟩ (tX3_digits (l := l) (dC := dC) (dI := dI) (cI := cI) (cC := cC) (ob := ob) (q := q) hv29) (cwV 2 hts gX3_isCommand_X3_digits rfl rfl rfl (by decide +kernel) ⟨Nat.le_of_ble_eq_true rfl, Nat.le_of_ble_eq_true rfl⟩) hK hP hD hS (fun _ h9 => h9) 0 rfl rfl (by rfl) hl.1 rfl (Nat.le_of_ble_eq_true rfl) dX3_isCommand_347 ⟨Nat.zero_le _, Nat.zero_le _⟩ (fun H locs hP hD _ hS => ?_)
                              obtain ⟨hz, h⟩ := gd_some h
                              exact W.zret hx hb hr (zb_ok hz) (fun t ht _ => retE (w := mdW cI cC ob q) h hP hD hS ht) hS.2.2 dX3_isCommand_350
                            · replace h := if_n c27 h
                              by_cases c31 : (K13 8 5) = 113
                              · replace h := if_p c31 h
                                refine lv_tableIn (tgt := 351) hx hb dX3_isCommand_30 (by rw [c31]; decide) (by rw [c31]; decide) (by rw [c31]; rfl) (by decide) ?_
                                exact t_351  h (lv_sub hl [] rfl) hP hD hS
                              · replace h := if_n c31 h
                                by_cases c32 : (K13 8 5) = 114
                                · replace h := if_p c32 h
                                  refine lv_tableIn (tgt := 231) hx hb dX3_isCommand_30 (by rw [c32]; decide) (by rw [c32]; decide) (by rw [c32]; rfl) (by decide) ?_
                                  refine lv_aload_n hx hb dX3_isCommand_231 rfl (lv_at hl 0 rfl) ?_
                                  refine lv_dup hx hb dX3_isCommand_232 rfl ?_
                                  refine va_get (D := (dC, dI)) (ci := 4) (v := .int (K13 8 4)) (C := RX3) (T := TX3) (N := 17) hx hb hts hwX3 hown hK hP 0 rfl rfl 11 (by decide) hf_182 (fun _ h9 => h9) rfl dX3_isCommand_233 ?_
                                  refine lv_iconst (v := 1) hx hb dX3_isCommand_236 (by decide) ?_
                                  refine lv_iadd hx hb dX3_isCommand_237 ?_
                                  obtain ⟨K33, eK33, h⟩ := ptF_some h
                                  refine va_put (D := (dC, dI)) (ci := 4) (v := .int ((K13 8 4) + 1)) (ty := .int) (C := RX3) (T := TX3) (N := 17) hx hb hts hwX3 tyX3 tyX3_ok nmX3 hown hK hP hD hS 0 rfl rfl 11 (by decide) hf_182 (fun _ h9 => h9) rfl (by decide +kernel) rfl rfl (Nat.le_of_ble_eq_true rfl) dX3_isCommand_238 (fun H locs hP hD hS => ?_)
                                  have hP : va_P (dC, dI) vwCl (mdW cI cC ob q K33) H := by rw [eK33]; exact hP
                                  have hD : va_D (aL (mdL ob q)) (mdW cI cC ob q K33) := by rw [eK33]; exact hD
                                  refine lv_aload_n hx hb dX3_isCommand_241 rfl (lv_at hl 0 rfl) ?_
                                  refine lv_iconst (v := 0) hx hb dX3_isCommand_242 (by decide) ?_
                                  refine lv_iconst (v := 1) hx hb dX3_isCommand_243 (by decide) ?_
                                  obtain ⟨v34, K35, hv34, h⟩ := bdE_some h
                                  refine call_VE (As := [.int 0, .int 1]) (rest := []) ⟨hx, hb, hml, hown, hts⟩ (tX3_digits (l := l) (dC := dC) (dI := dI) (cI := cI) (cC := cC) (ob := ob) (q := q) hv34) (cwV 2 hts gX3_isCommand_X3_digits rfl rfl rfl (by decide +kernel) ⟨Nat.le_of_ble_eq_true rfl, Nat.le_of_ble_eq_true rfl⟩) hK hP hD hS (fun _ h9 => h9) 0 rfl rfl (by rfl) hl.1 rfl (Nat.le_of_ble_eq_true rfl) dX3_isCommand_244 ⟨Nat.zero_le _, Nat.zero_le _⟩ (fun H locs hP hD _ hS => ?_)
                                  refine lv_if_eq (tgt := 298) hx hb dX3_isCommand_247 (by decide) (fun c36 => ?_) (fun c36 => ?_)
                                  · replace h := if_p c36 h
                                    exact t_298  h (lv_sub hl [] rfl) hP hD hS
                                  · replace h := if_n c36 h
                                    refine lv_aload_n hx hb dX3_isCommand_250 rfl (lv_at hl 0 rfl) ?_
                                    refine lv_iconst (v := 1) hx hb dX3_isCommand_251 (by decide) ?_
                                    refine lv_iconst (v := 1) hx hb dX3_isCommand_252 (by decide) ?_
                                    obtain ⟨v37, K38, hv37, h⟩ := bdE_some h
                                    refine call_VE (As := [.int 1, .int 1]) (rest := []) ⟨hx, hb, hml, hown, hts⟩ (tX3_digits (l := l) (dC := dC) (dI := dI) (cI := cI) (cC := cC) (ob := ob) (q := q) hv37) (cwV 2 hts gX3_isCommand_X3_digits rfl rfl rfl (by decide +kernel) ⟨Nat.le_of_ble_eq_true rfl, Nat.le_of_ble_eq_true rfl⟩) hK hP hD hS (fun _ h9 => h9) 0 rfl rfl (by rfl) hl.1 rfl (Nat.le_of_ble_eq_true rfl) dX3_isCommand_253 ⟨Nat.zero_le _, Nat.zero_le _⟩ (fun H locs hP hD _ hS => ?_)
                                    refine lv_if_eq (tgt := 298) hx hb dX3_isCommand_256 (by decide) (fun c39 => ?_) (fun c39 => ?_)
                                    · replace h := if_p c39 h
                                      exact t_298  h (lv_sub hl [] rfl) hP hD hS
                                    · replace h := if_n c39 h
                                      refine lv_aload_n hx hb dX3_isCommand_259 rfl (lv_at hl 0 rfl) ?_
                                      refine va_get (D := (dC, dI)) (ci := 4) (v := .int (K38 8 4)) (C := RX3) (T := TX3) (N := 17) hx hb hts hwX3 hown hK hP 0 rfl rfl 11 (by decide) hf_182 (fun _ h9 => h9) rfl dX3_isCommand_260 ?_
                                      refine lv_aload_n hx hb dX3_isCommand_263 rfl (lv_at hl 0 rfl) ?_
                                      refine va_get (D := (dC, dI)) (ci := 4) (v := .int (K38 8 3)) (C := RX3) (T := TX3) (N := 17) hx hb hts hwX3 hown hK hP 0 rfl rfl 10 (by decide) hf_179 (fun _ h9 => h9) rfl dX3_isCommand_264 ?_
                                      refine lv_icmp_eq (tgt := 298) hx hb dX3_isCommand_267 (by decide) (fun c40 => ?_) (fun c40 => ?_)
                                      · replace h := if_p c40 h
                                        exact t_298  h (lv_sub hl [] rfl) hP hD hS
                                      · replace h := if_n c40 h
                                        refine lv_aload_n hx hb dX3_isCommand_270 rfl (lv_at hl 0 rfl) ?_
                                        refine va_get (D := (dC, dI)) (ci := 4) (v := .ref (q 6)) (C := RX3) (T := TX3) (N := 17) hx hb hts hwX3 hown hK hP 0 rfl rfl 9 (by decide) hf_29 (fun _ h9 => h9) rfl dX3_isCommand_271 ?_
                                        refine lv_aload_n hx hb dX3_isCommand_274 rfl (lv_at hl 0 rfl) ?_
                                        refine va_get (D := (dC, dI)) (ci := 4) (v := .int (K38 8 4)) (C := RX3) (T := TX3) (N := 17) hx hb hts hwX3 hown hK hP 0 rfl rfl 11 (by decide) hf_182 (fun _ h9 => h9) rfl dX3_isCommand_275 ?_
                                        obtain ⟨hi42, v41, ev41, h⟩ := rdA_some h
                                        refine k_cald hx hb hK hP 7 1 rfl rfl hi42 ev41 dX3_isCommand_278 ?_
                                        refine lv_bipush (v := 43) hx hb dX3_isCommand_279 (by decide) ?_
                                        refine lv_icmp_eq (tgt := 300) hx hb dX3_isCommand_281 (by decide) (fun c43 => ?_) (fun c43 => ?_)
                                        · replace h := if_p c43 h
                                          exact t_300  h (lv_sub hl [0] rfl) hP hD hS
                                        · replace h := if_n c43 h
                                          refine lv_aload_n hx hb dX3_isCommand_284 rfl (lv_at hl 0 rfl) ?_
                                          refine va_get (D := (dC, dI)) (ci := 4) (v := .ref (q 6)) (C := RX3) (T := TX3) (N := 17) hx hb hts hwX3 hown hK hP 0 rfl rfl 9 (by decide) hf_29 (fun _ h9 => h9) rfl dX3_isCommand_285 ?_
                                          refine lv_aload_n hx hb dX3_isCommand_288 rfl (lv_at hl 0 rfl) ?_
                                          refine va_get (D := (dC, dI)) (ci := 4) (v := .int (K38 8 4)) (C := RX3) (T := TX3) (N := 17) hx hb hts hwX3 hown hK hP 0 rfl rfl 11 (by decide) hf_182 (fun _ h9 => h9) rfl dX3_isCommand_289 ?_
                                          obtain ⟨hi45, v44, ev44, h⟩ := rdA_some h
                                          refine k_cald hx hb hK hP 7 1 rfl rfl hi45 ev44 dX3_isCommand_292 ?_
                                          refine lv_bipush (v := 45) hx hb dX3_isCommand_293 (by decide) ?_
                                          refine lv_icmp_eq (tgt := 300) hx hb dX3_isCommand_295 (by decide) (fun c46 => ?_) (fun c46 => ?_)
                                          · replace h := if_p c46 h
                                            exact t_300  h (lv_sub hl [0] rfl) hP hD hS
                                          · replace h := if_n c46 h
                                            exact t_298  h (lv_sub hl [] rfl) hP hD hS
                                · replace h := if_n c32 h
                                  by_cases c47 : (K13 8 5) = 115
                                  · replace h := if_p c47 h
                                    refine lv_tableIn (tgt := 351) hx hb dX3_isCommand_30 (by rw [c47]; decide) (by rw [c47]; decide) (by rw [c47]; rfl) (by decide) ?_
                                    exact t_351  h (lv_sub hl [] rfl) hP hD hS
                                  · replace h := if_n c47 h
                                    by_cases c48 : (K13 8 5) = 116
                                    · replace h := if_p c48 h
                                      refine lv_tableIn (tgt := 351) hx hb dX3_isCommand_30 (by rw [c48]; decide) (by rw [c48]; decide) (by rw [c48]; rfl) (by decide) ?_
                                      exact t_351  h (lv_sub hl [] rfl) hP hD hS
                                    · replace h := if_n c48 h
                                      by_cases c49 : (K13 8 5) = 117
                                      · replace h := if_p c49 h
                                        refine lv_tableIn (tgt := 351) hx hb dX3_isCommand_30 (by rw [c49]; decide) (by rw [c49]; decide) (by rw [c49]; rfl) (by decide) ?_
                                        exact t_351  h (lv_sub hl [] rfl) hP hD hS
                                      · replace h := if_n c49 h
                                        by_cases c50 : (K13 8 5) = 118
                                        · replace h := if_p c50 h
                                          refine lv_tableIn (tgt := 351) hx hb dX3_isCommand_30 (by rw [c50]; decide) (by rw [c50]; decide) (by rw [c50]; rfl) (by decide) ?_
                                          exact t_351  h (lv_sub hl [] rfl) hP hD hS
                                        · replace h := if_n c50 h
                                          by_cases c51 : (K13 8 5) = 119
                                          · replace h := if_p c51 h
                                            refine lv_tableIn (tgt := 153) hx hb dX3_isCommand_30 (by rw [c51]; decide) (by rw [c51]; decide) (by rw [c51]; rfl) (by decide) ?_
                                            refine lv_aload_n hx hb dX3_isCommand_153 rfl (lv_at hl 0 rfl) ?_
                                            refine lv_dup hx hb dX3_isCommand_154 rfl ?_
                                            refine va_get (D := (dC, dI)) (ci := 4) (v := .int (K13 8 4)) (C := RX3) (T := TX3) (N := 17) hx hb hts hwX3 hown hK hP 0 rfl rfl 11 (by decide) hf_182 (fun _ h9 => h9) rfl dX3_isCommand_155 ?_
                                            refine lv_iconst (v := 1) hx hb dX3_isCommand_158 (by decide) ?_
                                            refine lv_iadd hx hb dX3_isCommand_159 ?_
                                            obtain ⟨K52, eK52, h⟩ := ptF_some h
                                            refine va_put (D := (dC, dI)) (ci := 4) (v := .int ((K13 8 4) + 1)) (ty := .int) (C := RX3) (T := TX3) (N := 17) hx hb hts hwX3 tyX3 tyX3_ok nmX3 hown hK hP hD hS 0 rfl rfl 11 (by decide) hf_182 (fun _ h9 => h9) rfl (by decide +kernel) rfl rfl (Nat.le_of_ble_eq_true rfl) dX3_isCommand_160 (fun H locs hP hD hS => ?_)
                                            have hP : va_P (dC, dI) vwCl (mdW cI cC ob q K52) H := by rw [eK52]; exact hP
                                            have hD : va_D (aL (mdL ob q)) (mdW cI cC ob q K52) := by rw [eK52]; exact hD
                                            refine lv_aload_n hx hb dX3_isCommand_163 rfl (lv_at hl 0 rfl) ?_
                                            refine lv_iconst (v := 0) hx hb dX3_isCommand_164 (by decide) ?_
                                            refine lv_iconst (v := 1) hx hb dX3_isCommand_165 (by decide) ?_
                                            obtain ⟨v53, K54, hv53, h⟩ := bdE_some h
                                            refine call_VE (As := [.int 0, .int 1]) (rest := []) ⟨hx, hb, hml, hown, hts⟩ (tX3_digits (l := l) (dC := dC) (dI := dI) (cI := cI) (cC := cC) (ob := ob) (q := q) hv53) (cwV 2 hts gX3_isCommand_X3_digits rfl rfl rfl (by decide +kernel) ⟨Nat.le_of_ble_eq_true rfl, Nat.le_of_ble_eq_true rfl⟩) hK hP hD hS (fun _ h9 => h9) 0 rfl rfl (by rfl) hl.1 rfl (Nat.le_of_ble_eq_true rfl) dX3_isCommand_166 ⟨Nat.zero_le _, Nat.zero_le _⟩ (fun H locs hP hD _ hS => ?_)
                                            refine lv_if_eq (tgt := 202) hx hb dX3_isCommand_169 (by decide) (fun c55 => ?_) (fun c55 => ?_)
                                            · replace h := if_p c55 h
                                              exact t_202  h (lv_sub hl [] rfl) hP hD hS
                                            · replace h := if_n c55 h
                                              refine lv_aload_n hx hb dX3_isCommand_172 rfl (lv_at hl 0 rfl) ?_
                                              refine va_get (D := (dC, dI)) (ci := 4) (v := .int (K54 8 4)) (C := RX3) (T := TX3) (N := 17) hx hb hts hwX3 hown hK hP 0 rfl rfl 11 (by decide) hf_182 (fun _ h9 => h9) rfl dX3_isCommand_173 ?_
                                              refine lv_aload_n hx hb dX3_isCommand_176 rfl (lv_at hl 0 rfl) ?_
                                              refine va_get (D := (dC, dI)) (ci := 4) (v := .int (K54 8 3)) (C := RX3) (T := TX3) (N := 17) hx hb hts hwX3 hown hK hP 0 rfl rfl 10 (by decide) hf_179 (fun _ h9 => h9) rfl dX3_isCommand_177 ?_
                                              refine lv_icmp_eq (tgt := 202) hx hb dX3_isCommand_180 (by decide) (fun c56 => ?_) (fun c56 => ?_)
                                              · replace h := if_p c56 h
                                                exact t_202  h (lv_sub hl [] rfl) hP hD hS
                                              · replace h := if_n c56 h
                                                refine lv_aload_n hx hb dX3_isCommand_183 rfl (lv_at hl 0 rfl) ?_
                                                refine va_get (D := (dC, dI)) (ci := 4) (v := .ref (q 6)) (C := RX3) (T := TX3) (N := 17) hx hb hts hwX3 hown hK hP 0 rfl rfl 9 (by decide) hf_29 (fun _ h9 => h9) rfl dX3_isCommand_184 ?_
                                                refine lv_aload_n hx hb dX3_isCommand_187 rfl (lv_at hl 0 rfl) ?_
                                                refine va_get (D := (dC, dI)) (ci := 4) (v := .int (K54 8 4)) (C := RX3) (T := TX3) (N := 17) hx hb hts hwX3 hown hK hP 0 rfl rfl 11 (by decide) hf_182 (fun _ h9 => h9) rfl dX3_isCommand_188 ?_
                                                obtain ⟨hi58, v57, ev57, h⟩ := rdA_some h
                                                refine k_cald hx hb hK hP 7 1 rfl rfl hi58 ev57 dX3_isCommand_191 ?_
                                                refine lv_bipush (v := 97) hx hb dX3_isCommand_192 (by decide) ?_
                                                refine lv_bipush (v := 100) hx hb dX3_isCommand_194 (by decide) ?_
                                                obtain ⟨v59, hv59, h⟩ := bdP_some h
                                                refine call_SP (As := [.int v57, .int 97, .int 100]) (rest := []) ⟨hx, hb, hml, hown, hts⟩ (tX3_in (l := l) hv59) (va_cwS 3 hts gX3_isCommand_X3_in rfl rfl rfl (by decide +kernel) ⟨Nat.le_of_ble_eq_true rfl, Nat.le_of_ble_eq_true rfl⟩) (by rfl) hl.1 rfl (Nat.le_of_ble_eq_true rfl) dX3_isCommand_196 ⟨Nat.zero_le _, Nat.zero_le _⟩ ?_
                                                refine lv_if_ne (tgt := 204) hx hb dX3_isCommand_199 (by decide) (fun c60 => ?_) (fun c60 => ?_)
                                                · replace h := if_n c60 h
                                                  refine lv_aload_n hx hb dX3_isCommand_204 rfl (lv_at hl 0 rfl) ?_
                                                  refine va_get (D := (dC, dI)) (ci := 4) (v := .ref (q 7)) (C := RX3) (T := TX3) (N := 17) hx hb hts hwX3 hown hK hP 0 rfl rfl 13 (by decide) hf_32 (fun _ h9 => h9) rfl dX3_isCommand_205 ?_
                                                  refine lv_iconst (v := 1) hx hb dX3_isCommand_208 (by decide) ?_
                                                  refine lv_aload_n hx hb dX3_isCommand_209 rfl (lv_at hl 0 rfl) ?_
                                                  refine va_get (D := (dC, dI)) (ci := 4) (v := .ref (q 6)) (C := RX3) (T := TX3) (N := 17) hx hb hts hwX3 hown hK hP 0 rfl rfl 9 (by decide) hf_29 (fun _ h9 => h9) rfl dX3_isCommand_210 ?_
                                                  refine lv_aload_n hx hb dX3_isCommand_213 rfl (lv_at hl 0 rfl) ?_
                                                  refine lv_dup hx hb dX3_isCommand_214 rfl ?_
                                                  refine va_get (D := (dC, dI)) (ci := 4) (v := .int (K54 8 4)) (C := RX3) (T := TX3) (N := 17) hx hb hts hwX3 hown hK hP 0 rfl rfl 11 (by decide) hf_182 (fun _ h9 => h9) rfl dX3_isCommand_215 ?_
                                                  refine lv_dup_x1 hx hb dX3_isCommand_218 rfl rfl ?_
                                                  refine lv_iconst (v := 1) hx hb dX3_isCommand_219 (by decide) ?_
                                                  refine lv_iadd hx hb dX3_isCommand_220 ?_
                                                  obtain ⟨K61, eK61, h⟩ := ptF_some h
                                                  refine va_put (D := (dC, dI)) (ci := 4) (v := .int ((K54 8 4) + 1)) (ty := .int) (C := RX3) (T := TX3) (N := 17) hx hb hts hwX3 tyX3 tyX3_ok nmX3 hown hK hP hD hS 0 rfl rfl 11 (by decide) hf_182 (fun _ h9 => h9) rfl (by decide +kernel) rfl rfl (Nat.le_of_ble_eq_true rfl) dX3_isCommand_221 (fun H locs hP hD hS => ?_)
                                                  have hP : va_P (dC, dI) vwCl (mdW cI cC ob q K61) H := by rw [eK61]; exact hP
                                                  have hD : va_D (aL (mdL ob q)) (mdW cI cC ob q K61) := by rw [eK61]; exact hD
                                                  obtain ⟨hi63, v62, ev62, h⟩ := rdA_some h
                                                  refine k_cald hx hb hK hP 7 1 rfl rfl hi63 ev62 dX3_isCommand_224 ?_
                                                  refine lv_bipush (v := 97) hx hb dX3_isCommand_225 (by decide) ?_
                                                  refine lv_isub hx hb dX3_isCommand_227 ?_
                                                  obtain ⟨hi65, K64, eK64, h⟩ := wrA_some h
                                                  refine va_iast hx hb hK hP hD hS 8 0 rfl rfl hi65 dX3_isCommand_228 (fun H locs hP hD hS => ?_)
                                                  have hP : va_P (dC, dI) vwCl (mdW cI cC ob q K64) H := by rw [eK64]; exact hP
                                                  have hD : va_D (aL (mdL ob q)) (mdW cI cC ob q K64) := by rw [eK64]; exact hD
                                                  refine lv_iconst (v := 1) hx hb dX3_isCommand_229 (by decide) ?_
                                                  exact W.zret hx hb hr (by decide) (fun t ht _ => retE (w := mdW cI cC ob q) h hP hD hS ht) hS.2.2 dX3_isCommand_230
                                                · replace h := if_p c60 h
                                                  exact t_202  h (lv_sub hl [] rfl) hP hD hS
                                          · replace h := if_n c51 h
                                            by_cases c66 : (K13 8 5) = 120
                                            · replace h := if_p c66 h
                                              refine lv_tableIn (tgt := 351) hx hb dX3_isCommand_30 (by rw [c66]; decide) (by rw [c66]; decide) (by rw [c66]; rfl) (by decide) ?_
                                              exact t_351  h (lv_sub hl [] rfl) hP hD hS
                                            · replace h := if_n c66 h
                                              by_cases c67 : (K13 8 5) = 121
                                              · replace h := if_p c67 h
                                                refine lv_tableIn (tgt := 351) hx hb dX3_isCommand_30 (by rw [c67]; decide) (by rw [c67]; decide) (by rw [c67]; rfl) (by decide) ?_
                                                exact t_351  h (lv_sub hl [] rfl) hP hD hS
                                              · replace h := if_n c67 h
                                                by_cases c68 : (K13 8 5) = 122
                                                · replace h := if_p c68 h
                                                  refine lv_tableIn (tgt := 136) hx hb dX3_isCommand_30 (by rw [c68]; decide) (by rw [c68]; decide) (by rw [c68]; rfl) (by decide) ?_
                                                  exact t_136  h (lv_sub hl [0] rfl) hP hD hS
                                                · replace h := if_n c68 h
                                                  -- default
                                                  have qc15 := i32_ne c15; rw [show (100 : Int32).toInt = 100 from by decide] at qc15
                                                  have qc16 := i32_ne c16; rw [show (101 : Int32).toInt = 101 from by decide] at qc16
                                                  have qc17 := i32_ne c17; rw [show (102 : Int32).toInt = 102 from by decide] at qc17
                                                  have qc18 := i32_ne c18; rw [show (103 : Int32).toInt = 103 from by decide] at qc18
                                                  have qc19 := i32_ne c19; rw [show (104 : Int32).toInt = 104 from by decide] at qc19
                                                  have qc20 := i32_ne c20; rw [show (105 : Int32).toInt = 105 from by decide] at qc20
                                                  have qc21 := i32_ne c21; rw [show (106 : Int32).toInt = 106 from by decide] at qc21
                                                  have qc22 := i32_ne c22; rw [show (107 : Int32).toInt = 107 from by decide] at qc22
                                                  have qc23 := i32_ne c23; rw [show (108 : Int32).toInt = 108 from by decide] at qc23
                                                  have qc24 := i32_ne c24; rw [show (109 : Int32).toInt = 109 from by decide] at qc24
                                                  have qc25 := i32_ne c25; rw [show (110 : Int32).toInt = 110 from by decide] at qc25
                                                  have qc26 := i32_ne c26; rw [show (111 : Int32).toInt = 111 from by decide] at qc26
                                                  have qc27 := i32_ne c27; rw [show (112 : Int32).toInt = 112 from by decide] at qc27
                                                  have qc31 := i32_ne c31; rw [show (113 : Int32).toInt = 113 from by decide] at qc31
                                                  have qc32 := i32_ne c32; rw [show (114 : Int32).toInt = 114 from by decide] at qc32
                                                  have qc47 := i32_ne c47; rw [show (115 : Int32).toInt = 115 from by decide] at qc47
                                                  have qc48 := i32_ne c48; rw [show (116 : Int32).toInt = 116 from by decide] at qc48
                                                  have qc49 := i32_ne c49; rw [show (117 : Int32).toInt = 117 from by decide] at qc49
                                                  have qc50 := i32_ne c50; rw [show (118 : Int32).toInt = 118 from by decide] at qc50
                                                  have qc51 := i32_ne c51; rw [show (119 : Int32).toInt = 119 from by decide] at qc51
                                                  have qc66 := i32_ne c66; rw [show (120 : Int32).toInt = 120 from by decide] at qc66
                                                  have qc67 := i32_ne c67; rw [show (121 : Int32).toInt = 121 from by decide] at qc67
                                                  have qc68 := i32_ne c68; rw [show (122 : Int32).toInt = 122 from by decide] at qc68
                                                  refine lv_tableOut (tgt := 351) hx hb dX3_isCommand_30 (by omega) (by decide) ?_
                                                  exact t_351  h (lv_sub hl [] rfl) hP hD hS
  · replace h := if_p c10 h
    refine lv_iconst (v := 0) hx hb dX3_isCommand_11 (by decide) ?_
    exact W.zret hx hb hr (by decide) (fun t ht _ => retE (w := mdW cI cC ob q) h hP hD hS ht) hS.2.2 dX3_isCommand_12
def mX3_carries (N : Nat) (K : KT)  : Option (Int32 × KT) := (if (K 8 5) = 100 then rdA (K 7) 3 0 (fun v2 => bdE (mX3_dusks N K v2) (fun v4 K5 => some (v4, K5))) else (if (K 8 5) = 107 then rdA (K 7) 3 0 (fun v7 => bdE (mX3_sleeps N K v7 1) (fun v9 K10 => some (v9, K10))) else (if (K 8 5) = 109 then rdA (K 7) 3 0 (fun v12 => bdE (mX3_marches N K v12) (fun v14 K15 => some (v14, K15))) else (if (K 8 5) = 114 then rdA (K 7) 3 0 (fun v17 => rdA (K 7) 3 1 (fun v19 => rdA (K 7) 3 2 (fun v21 => bdE (mX3_opens N K v17 v19 v21) (fun v23 K24 => some (v23, K24))))) else (if (K 8 5) = 119 then rdA (K 7) 3 0 (fun v26 => rdA (K 7) 3 1 (fun v28 => bdE (mX3_writes N K v26 v28) (fun v30 K31 => some (v30, K31)))) else (if (K 8 5) = 122 then rdA (K 7) 3 0 (fun v33 => bdE (mX3_sleeps N K v33 0) (fun v35 K36 => some (v35, K36))) else rdA (K 7) 3 0 (fun v37 => bdE (mX3_passes N K v37) (fun v39 K40 => some (v39, K40)))))))))
def rmX3_carries : Room := { frames := 9, cells := 0, slots := 0, locals := 224 }
set_option maxHeartbeats 4000000 in
set_option maxRecDepth 100000 in
theorem tX3_carries {l : Launch} {dC : Nat → ClassId} {dI : Nat → Nat → Nat} {cI : ClassId} {cC : ClassId} {ob : Nat} {q : Nat → Nat} {N : Nat} {K : KT}  {rr : Int32} {KK : KT} (hf : mX3_carries N K  = some (rr, KK)) : Met l yX3_carries wsX3_carries rmX3_carries (cPe (dC, dI) vwCl [(cI, .int), (cC, .char)] (mdL ob q) (mdW cI cC ob q K) [.ref ob]) (cE (dC, dI) vwCl (mdL ob q) rr (mdW cI cC ob q KK)) 0 0 (aL (mdL ob q)) := by
  refine Met.ofW (cc := cX3_carries) (maxL := 1) (ret := (some .int)) (by decide) rfl ?_
  intro p e s m args below meth c s₁ B hml hv
  obtain ⟨rfl, hP, hK, hD⟩ := hv
  have hx := B.exec
  have hb := B.bytes
  have hr := B.returns
  have hts := atoms_spec (ws := wsX3_carries) B.pre
  have hown : s.vm.findClass RX3 = some m.cls := findClass_of_methodNamed B.named
  have hlocks := B.notSynchronized
  have hwX3 : ∀ w ∈ u_ws RX3 TX3 17, w ∈ wsX3_carries := by decide +kernel
  have hf_32 := hts (.fieldLink RX3 32 "CaravanLogsModel" "told" "[I") (by decide +kernel)
  have hf_185 := hts (.fieldLink RX3 185 "CaravanLogsModel" "command" "C") (by decide +kernel)
  have hS : va_S (aL (mdL ob q)) s.heap s.heap [] := va_S.rf
  have hl := lv_entry ([.ref ob]) (n := 1) (Nat.le_of_ble_eq_true rfl)
  rw [lg_entry_eq]
  generalize (lg_sl ([.ref ob]) ++ List.replicate (1 - (lg_sl ([.ref ob])).length) Slot.unset).toArray = ls at hl ⊢
  have hl : lv_has ls 1 [(0, .ref ob)] := hl
  have h := hf
  unfold mX3_carries at h
  refine lv_aload_n hx hb dX3_carries_0 rfl (lv_at hl 0 rfl) ?_
  refine va_get (D := (dC, dI)) (ci := 4) (v := .int (K 8 5)) (C := RX3) (T := TX3) (N := 17) hx hb hts hwX3 hown hK hP 0 rfl rfl 12 (by decide) hf_185 (fun _ h9 => h9) rfl dX3_carries_1 ?_
  by_cases c1 : (K 8 5) = 100
  · replace h := if_p c1 h
    refine lv_lookup (tgt := 64) hx hb dX3_carries_4 (by decide) (by rw [c1] <;> rfl) (by decide) ?_
    refine lv_aload_n hx hb dX3_carries_64 rfl (lv_at hl 0 rfl) ?_
    refine lv_aload_n hx hb dX3_carries_65 rfl (lv_at hl 0 rfl) ?_
    refine va_get (D := (dC, dI)) (ci := 4) (v := .ref (q 7)) (C := RX3) (T := TX3) (N := 17) hx hb hts hwX3 hown hK hP 0 rfl rfl 13 (by decide) hf_32 (fun _ h9 => h9) rfl dX3_carries_66 ?_
    refine lv_iconst (v := 0) hx hb dX3_carries_69 (by decide) ?_
    obtain ⟨hi3, v2, ev2, h⟩ := rdA_some h
    refine k_iald hx hb hK hP 8 0 rfl rfl hi3 ev2 dX3_carries_70 ?_
    obtain ⟨v4, K5, hv4, h⟩ := bdE_some h
    refine call_VE (As := [.int v2]) (rest := []) ⟨hx, hb, hml, hown, hts⟩ (tX3_dusks (l := l) (dC := dC) (dI := dI) (cI := cI) (cC := cC) (ob := ob) (q := q) hv4) (cwV 1 hts gX3_carries_X3_dusks rfl rfl rfl (by decide +kernel) ⟨Nat.le_of_ble_eq_true rfl, Nat.le_of_ble_eq_true rfl⟩) hK hP hD hS (fun _ h9 => h9) 0 rfl rfl (by rfl) hl.1 rfl (Nat.le_of_ble_eq_true rfl) dX3_carries_71 ⟨Nat.zero_le _, Nat.zero_le _⟩ (fun H locs hP hD _ hS => ?_)
    exact W.iret hx hb hr (fun t ht _ => retE (w := mdW cI cC ob q) h hP hD hS ht) hS.2.2 dX3_carries_74
  · replace h := if_n c1 h
    by_cases c6 : (K 8 5) = 107
    · replace h := if_p c6 h
      refine lv_lookup (tgt := 98) hx hb dX3_carries_4 (by decide) (by rw [c6] <;> rfl) (by decide) ?_
      refine lv_aload_n hx hb dX3_carries_98 rfl (lv_at hl 0 rfl) ?_
      refine lv_aload_n hx hb dX3_carries_99 rfl (lv_at hl 0 rfl) ?_
      refine va_get (D := (dC, dI)) (ci := 4) (v := .ref (q 7)) (C := RX3) (T := TX3) (N := 17) hx hb hts hwX3 hown hK hP 0 rfl rfl 13 (by decide) hf_32 (fun _ h9 => h9) rfl dX3_carries_100 ?_
      refine lv_iconst (v := 0) hx hb dX3_carries_103 (by decide) ?_
      obtain ⟨hi8, v7, ev7, h⟩ := rdA_some h
      refine k_iald hx hb hK hP 8 0 rfl rfl hi8 ev7 dX3_carries_104 ?_
      refine lv_iconst (v := 1) hx hb dX3_carries_105 (by decide) ?_
      obtain ⟨v9, K10, hv9, h⟩ := bdE_some h
      refine call_VE (As := [.int v7, .int 1]) (rest := []) ⟨hx, hb, hml, hown, hts⟩ (tX3_sleeps (l := l) (dC := dC) (dI := dI) (cI := cI) (cC := cC) (ob := ob) (q := q) hv9) (cwV 2 hts gX3_carries_X3_sleeps rfl rfl rfl (by decide +kernel) ⟨Nat.le_of_ble_eq_true rfl, Nat.le_of_ble_eq_true rfl⟩) hK hP hD hS (fun _ h9 => h9) 0 rfl rfl (by rfl) hl.1 rfl (Nat.le_of_ble_eq_true rfl) dX3_carries_106 ⟨Nat.zero_le _, Nat.zero_le _⟩ (fun H locs hP hD _ hS => ?_)
      exact W.iret hx hb hr (fun t ht _ => retE (w := mdW cI cC ob q) h hP hD hS ht) hS.2.2 dX3_carries_109
    · replace h := if_n c6 h
      by_cases c11 : (K 8 5) = 109
      · replace h := if_p c11 h
        refine lv_lookup (tgt := 75) hx hb dX3_carries_4 (by decide) (by rw [c11] <;> rfl) (by decide) ?_
        refine lv_aload_n hx hb dX3_carries_75 rfl (lv_at hl 0 rfl) ?_
        refine lv_aload_n hx hb dX3_carries_76 rfl (lv_at hl 0 rfl) ?_
        refine va_get (D := (dC, dI)) (ci := 4) (v := .ref (q 7)) (C := RX3) (T := TX3) (N := 17) hx hb hts hwX3 hown hK hP 0 rfl rfl 13 (by decide) hf_32 (fun _ h9 => h9) rfl dX3_carries_77 ?_
        refine lv_iconst (v := 0) hx hb dX3_carries_80 (by decide) ?_
        obtain ⟨hi13, v12, ev12, h⟩ := rdA_some h
        refine k_iald hx hb hK hP 8 0 rfl rfl hi13 ev12 dX3_carries_81 ?_
        obtain ⟨v14, K15, hv14, h⟩ := bdE_some h
        refine call_VE (As := [.int v12]) (rest := []) ⟨hx, hb, hml, hown, hts⟩ (tX3_marches (l := l) (dC := dC) (dI := dI) (cI := cI) (cC := cC) (ob := ob) (q := q) hv14) (cwV 1 hts gX3_carries_X3_marches rfl rfl rfl (by decide +kernel) ⟨Nat.le_of_ble_eq_true rfl, Nat.le_of_ble_eq_true rfl⟩) hK hP hD hS (fun _ h9 => h9) 0 rfl rfl (by rfl) hl.1 rfl (Nat.le_of_ble_eq_true rfl) dX3_carries_82 ⟨Nat.zero_le _, Nat.zero_le _⟩ (fun H locs hP hD _ hS => ?_)
        exact W.iret hx hb hr (fun t ht _ => retE (w := mdW cI cC ob q) h hP hD hS ht) hS.2.2 dX3_carries_85
      · replace h := if_n c11 h
        by_cases c16 : (K 8 5) = 114
        · replace h := if_p c16 h
          refine lv_lookup (tgt := 127) hx hb dX3_carries_4 (by decide) (by rw [c16] <;> rfl) (by decide) ?_
          refine lv_aload_n hx hb dX3_carries_127 rfl (lv_at hl 0 rfl) ?_
          refine lv_aload_n hx hb dX3_carries_128 rfl (lv_at hl 0 rfl) ?_
          refine va_get (D := (dC, dI)) (ci := 4) (v := .ref (q 7)) (C := RX3) (T := TX3) (N := 17) hx hb hts hwX3 hown hK hP 0 rfl rfl 13 (by decide) hf_32 (fun _ h9 => h9) rfl dX3_carries_129 ?_
          refine lv_iconst (v := 0) hx hb dX3_carries_132 (by decide) ?_
          obtain ⟨hi18, v17, ev17, h⟩ := rdA_some h
          refine k_iald hx hb hK hP 8 0 rfl rfl hi18 ev17 dX3_carries_133 ?_
          refine lv_aload_n hx hb dX3_carries_134 rfl (lv_at hl 0 rfl) ?_
          refine va_get (D := (dC, dI)) (ci := 4) (v := .ref (q 7)) (C := RX3) (T := TX3) (N := 17) hx hb hts hwX3 hown hK hP 0 rfl rfl 13 (by decide) hf_32 (fun _ h9 => h9) rfl dX3_carries_135 ?_
          refine lv_iconst (v := 1) hx hb dX3_carries_138 (by decide) ?_
          obtain ⟨hi20, v19, ev19, h⟩ := rdA_some h
          refine k_iald hx hb hK hP 8 0 rfl rfl hi20 ev19 dX3_carries_139 ?_
          refine lv_aload_n hx hb dX3_carries_140 rfl (lv_at hl 0 rfl) ?_
          refine va_get (D := (dC, dI)) (ci := 4) (v := .ref (q 7)) (C := RX3) (T := TX3) (N := 17) hx hb hts hwX3 hown hK hP 0 rfl rfl 13 (by decide) hf_32 (fun _ h9 => h9) rfl dX3_carries_141 ?_
          refine lv_iconst (v := 2) hx hb dX3_carries_144 (by decide) ?_
          obtain ⟨hi22, v21, ev21, h⟩ := rdA_some h
          refine k_iald hx hb hK hP 8 0 rfl rfl hi22 ev21 dX3_carries_145 ?_
          obtain ⟨v23, K24, hv23, h⟩ := bdE_some h
          refine call_VE (As := [.int v17, .int v19, .int v21]) (rest := []) ⟨hx, hb, hml, hown, hts⟩ (tX3_opens (l := l) (dC := dC) (dI := dI) (cI := cI) (cC := cC) (ob := ob) (q := q) hv23) (cwV 3 hts gX3_carries_X3_opens rfl rfl rfl (by decide +kernel) ⟨Nat.le_of_ble_eq_true rfl, Nat.le_of_ble_eq_true rfl⟩) hK hP hD hS (fun _ h9 => h9) 0 rfl rfl (by rfl) hl.1 rfl (Nat.le_of_ble_eq_true rfl) dX3_carries_146 ⟨Nat.zero_le _, Nat.zero_le _⟩ (fun H locs hP hD _ hS => ?_)
          exact W.iret hx hb hr (fun t ht _ => retE (w := mdW cI cC ob q) h hP hD hS ht) hS.2.2 dX3_carries_149
        · replace h := if_n c16 h
          by_cases c25 : (K 8 5) = 119
          · replace h := if_p c25 h
            refine lv_lookup (tgt := 110) hx hb dX3_carries_4 (by decide) (by rw [c25] <;> rfl) (by decide) ?_
            refine lv_aload_n hx hb dX3_carries_110 rfl (lv_at hl 0 rfl) ?_
            refine lv_aload_n hx hb dX3_carries_111 rfl (lv_at hl 0 rfl) ?_
            refine va_get (D := (dC, dI)) (ci := 4) (v := .ref (q 7)) (C := RX3) (T := TX3) (N := 17) hx hb hts hwX3 hown hK hP 0 rfl rfl 13 (by decide) hf_32 (fun _ h9 => h9) rfl dX3_carries_112 ?_
            refine lv_iconst (v := 0) hx hb dX3_carries_115 (by decide) ?_
            obtain ⟨hi27, v26, ev26, h⟩ := rdA_some h
            refine k_iald hx hb hK hP 8 0 rfl rfl hi27 ev26 dX3_carries_116 ?_
            refine lv_aload_n hx hb dX3_carries_117 rfl (lv_at hl 0 rfl) ?_
            refine va_get (D := (dC, dI)) (ci := 4) (v := .ref (q 7)) (C := RX3) (T := TX3) (N := 17) hx hb hts hwX3 hown hK hP 0 rfl rfl 13 (by decide) hf_32 (fun _ h9 => h9) rfl dX3_carries_118 ?_
            refine lv_iconst (v := 1) hx hb dX3_carries_121 (by decide) ?_
            obtain ⟨hi29, v28, ev28, h⟩ := rdA_some h
            refine k_iald hx hb hK hP 8 0 rfl rfl hi29 ev28 dX3_carries_122 ?_
            obtain ⟨v30, K31, hv30, h⟩ := bdE_some h
            refine call_VE (As := [.int v26, .int v28]) (rest := []) ⟨hx, hb, hml, hown, hts⟩ (tX3_writes (l := l) (dC := dC) (dI := dI) (cI := cI) (cC := cC) (ob := ob) (q := q) hv30) (cwV 2 hts gX3_carries_X3_writes rfl rfl rfl (by decide +kernel) ⟨Nat.le_of_ble_eq_true rfl, Nat.le_of_ble_eq_true rfl⟩) hK hP hD hS (fun _ h9 => h9) 0 rfl rfl (by rfl) hl.1 rfl (Nat.le_of_ble_eq_true rfl) dX3_carries_123 ⟨Nat.zero_le _, Nat.zero_le _⟩ (fun H locs hP hD _ hS => ?_)
            exact W.iret hx hb hr (fun t ht _ => retE (w := mdW cI cC ob q) h hP hD hS ht) hS.2.2 dX3_carries_126
          · replace h := if_n c25 h
            by_cases c32 : (K 8 5) = 122
            · replace h := if_p c32 h
              refine lv_lookup (tgt := 86) hx hb dX3_carries_4 (by decide) (by rw [c32] <;> rfl) (by decide) ?_
              refine lv_aload_n hx hb dX3_carries_86 rfl (lv_at hl 0 rfl) ?_
              refine lv_aload_n hx hb dX3_carries_87 rfl (lv_at hl 0 rfl) ?_
              refine va_get (D := (dC, dI)) (ci := 4) (v := .ref (q 7)) (C := RX3) (T := TX3) (N := 17) hx hb hts hwX3 hown hK hP 0 rfl rfl 13 (by decide) hf_32 (fun _ h9 => h9) rfl dX3_carries_88 ?_
              refine lv_iconst (v := 0) hx hb dX3_carries_91 (by decide) ?_
              obtain ⟨hi34, v33, ev33, h⟩ := rdA_some h
              refine k_iald hx hb hK hP 8 0 rfl rfl hi34 ev33 dX3_carries_92 ?_
              refine lv_iconst (v := 0) hx hb dX3_carries_93 (by decide) ?_
              obtain ⟨v35, K36, hv35, h⟩ := bdE_some h
              refine call_VE (As := [.int v33, .int 0]) (rest := []) ⟨hx, hb, hml, hown, hts⟩ (tX3_sleeps (l := l) (dC := dC) (dI := dI) (cI := cI) (cC := cC) (ob := ob) (q := q) hv35) (cwV 2 hts gX3_carries_X3_sleeps rfl rfl rfl (by decide +kernel) ⟨Nat.le_of_ble_eq_true rfl, Nat.le_of_ble_eq_true rfl⟩) hK hP hD hS (fun _ h9 => h9) 0 rfl rfl (by rfl) hl.1 rfl (Nat.le_of_ble_eq_true rfl) dX3_carries_94 ⟨Nat.zero_le _, Nat.zero_le _⟩ (fun H locs hP hD _ hS => ?_)
              exact W.iret hx hb hr (fun t ht _ => retE (w := mdW cI cC ob q) h hP hD hS ht) hS.2.2 dX3_carries_97
            · replace h := if_n c32 h
              have qc1 := i32_ne c1; rw [show (100 : Int32).toInt = 100 from by decide] at qc1
              have qc6 := i32_ne c6; rw [show (107 : Int32).toInt = 107 from by decide] at qc6
              have qc11 := i32_ne c11; rw [show (109 : Int32).toInt = 109 from by decide] at qc11
              have qc16 := i32_ne c16; rw [show (114 : Int32).toInt = 114 from by decide] at qc16
              have qc25 := i32_ne c25; rw [show (119 : Int32).toInt = 119 from by decide] at qc25
              have qc32 := i32_ne c32; rw [show (122 : Int32).toInt = 122 from by decide] at qc32
              refine lv_lookup (off := 146) (tgt := 150) hx hb dX3_carries_4 (by decide) (by simp [Op.lookupswitch.offset, Ne.symm qc1, Ne.symm qc6, Ne.symm qc11, Ne.symm qc16, Ne.symm qc25, Ne.symm qc32]) (by decide) ?_
              refine lv_aload_n hx hb dX3_carries_150 rfl (lv_at hl 0 rfl) ?_
              refine lv_aload_n hx hb dX3_carries_151 rfl (lv_at hl 0 rfl) ?_
              refine va_get (D := (dC, dI)) (ci := 4) (v := .ref (q 7)) (C := RX3) (T := TX3) (N := 17) hx hb hts hwX3 hown hK hP 0 rfl rfl 13 (by decide) hf_32 (fun _ h9 => h9) rfl dX3_carries_152 ?_
              refine lv_iconst (v := 0) hx hb dX3_carries_155 (by decide) ?_
              obtain ⟨hi38, v37, ev37, h⟩ := rdA_some h
              refine k_iald hx hb hK hP 8 0 rfl rfl hi38 ev37 dX3_carries_156 ?_
              obtain ⟨v39, K40, hv39, h⟩ := bdE_some h
              refine call_VE (As := [.int v37]) (rest := []) ⟨hx, hb, hml, hown, hts⟩ (tX3_passes (l := l) (dC := dC) (dI := dI) (cI := cI) (cC := cC) (ob := ob) (q := q) hv39) (cwV 1 hts gX3_carries_X3_passes rfl rfl rfl (by decide +kernel) ⟨Nat.le_of_ble_eq_true rfl, Nat.le_of_ble_eq_true rfl⟩) hK hP hD hS (fun _ h9 => h9) 0 rfl rfl (by rfl) hl.1 rfl (Nat.le_of_ble_eq_true rfl) dX3_carries_157 ⟨Nat.zero_le _, Nat.zero_le _⟩ (fun H locs hP hD _ hS => ?_)
              exact W.iret hx hb hr (fun t ht _ => retE (w := mdW cI cC ob q) h hP hD hS ht) hS.2.2 dX3_carries_160
