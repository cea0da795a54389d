def fX2_isNoCamp_14 (N : Nat)  (y0 : Int32) : Option Int32 := gd (y0 = 0 ∨ y0 = 1) (some y0)
def fX2_isNoCamp_9 (N : Nat)   : Option Int32 := fX2_isNoCamp_14 N  1
def mX2_isNoCamp (N : Nat) (p0 : Int32) : Option Int32 := (if p0 < 0 then fX2_isNoCamp_9 N   else (if p0 < 5 then fX2_isNoCamp_14 N  0 else fX2_isNoCamp_9 N  ))
def rmX2_isNoCamp : Room := { frames := 1, cells := 0, slots := 0, locals := 40 }
set_option maxHeartbeats 4000000 in
set_option maxRecDepth 100000 in
theorem tX2_isNoCamp {l : Launch} {N : Nat} {p0 : Int32} {rr : Int32} (hf : mX2_isNoCamp N p0 = some rr) : Met l yX2_isNoCamp wsX2_isNoCamp rmX2_isNoCamp (cS [.int p0]) (cQp rr) 0 0 (fun _ => False) := by
  refine Met.ofW (cc := cX2_isNoCamp) (maxL := 1) (ret := (some .boolean)) (by decide) rfl ?_
  intro p e s m args below meth c s₁ B hml hv
  obtain rfl : args = ([.int p0] : List Value).toArray := hv
  have hx := B.exec
  have hb := B.bytes
  have hr := B.returns
  have hts := atoms_spec (ws := wsX2_isNoCamp) B.pre
  have hown : s.vm.findClass RX2 = some m.cls := findClass_of_methodNamed B.named
  have hlocks := B.notSynchronized
  have t_14 : ∀ {y0 : Int32} {ls : Array Slot} (h : fX2_isNoCamp_14 N  y0 = some rr) (hl : lv_has ls 1 []), W p l e (headSpec wsX2_isNoCamp rmX2_isNoCamp).room s m ([.int p0] : List Value).toArray below meth c s.heap [] 0 0 (MQ below (cQp rr) ([.int p0] : List Value).toArray s 0 0 (fun _ => False)) (F0 m 14 ls [.int y0]) := by
    intro  y0 ls h hl
    unfold fX2_isNoCamp_14 at h
    obtain ⟨hz, h⟩ := gd_some h
    exact W.zret hx hb hr (zb_ok hz) (fun t ht _ => retP h ht) (fun _ h9 => absurd h9 List.not_mem_nil) dX2_isNoCamp_14
  have t_9 : ∀  {ls : Array Slot} (h : fX2_isNoCamp_9 N   = some rr) (hl : lv_has ls 1 []), W p l e (headSpec wsX2_isNoCamp rmX2_isNoCamp).room s m ([.int p0] : List Value).toArray below meth c s.heap [] 0 0 (MQ below (cQp rr) ([.int p0] : List Value).toArray s 0 0 (fun _ => False)) (F0 m 9 ls []) := by
    intro   ls h hl
    unfold fX2_isNoCamp_9 at h
    refine lv_iconst (v := 1) hx hb dX2_isNoCamp_9 (by decide) ?_
    refine lv_goto (tgt := 14) hx hb dX2_isNoCamp_10 (by decide) ?_
    exact t_14  h (lv_sub hl [] rfl)
  have hl := lv_entry ([.int p0]) (n := 1) (Nat.le_of_ble_eq_true rfl)
  rw [lg_entry_eq]
  generalize (lg_sl ([.int p0]) ++ List.replicate (1 - (lg_sl ([.int p0])).length) Slot.unset).toArray = ls at hl ⊢
  have hl : lv_has ls 1 [(0, .int p0)] := hl
  have h := hf
  unfold mX2_isNoCamp at h
  refine lv_iload_n hx hb dX2_isNoCamp_0 rfl (lv_at hl 0 rfl) ?_
  refine lv_if_lt (tgt := 9) hx hb dX2_isNoCamp_1 (by decide) (fun c1 => ?_) (fun c1 => ?_)
  · replace h := if_p c1 h
    exact t_9  h (lv_sub hl [] rfl)
  · replace h := if_n c1 h
    refine lv_iload_n hx hb dX2_isNoCamp_4 rfl (lv_at hl 0 rfl) ?_
    refine lv_iconst (v := 5) hx hb dX2_isNoCamp_5 (by decide) ?_
    refine lv_icmp_lt (tgt := 13) hx hb dX2_isNoCamp_6 (by decide) (fun c2 => ?_) (fun c2 => ?_)
    · replace h := if_p c2 h
      refine lv_iconst (v := 0) hx hb dX2_isNoCamp_13 (by decide) ?_
      exact t_14  h (lv_sub hl [] rfl)
    · replace h := if_n c2 h
      exact t_9  h (lv_sub hl [] rfl)
def fX2_isNoLetter_14 (N : Nat)  (y0 : Int32) : Option Int32 := gd (y0 = 0 ∨ y0 = 1) (some y0)
def fX2_isNoLetter_9 (N : Nat)   : Option Int32 := fX2_isNoLetter_14 N  1
def mX2_isNoLetter (N : Nat) (p0 : Int32) : Option Int32 := (if p0 < 0 then fX2_isNoLetter_9 N   else (if p0 < 4 then fX2_isNoLetter_14 N  0 else fX2_isNoLetter_9 N  ))
def rmX2_isNoLetter : Room := { frames := 1, cells := 0, slots := 0, locals := 40 }
set_option maxHeartbeats 4000000 in
set_option maxRecDepth 100000 in
theorem tX2_isNoLetter {l : Launch} {N : Nat} {p0 : Int32} {rr : Int32} (hf : mX2_isNoLetter N p0 = some rr) : Met l yX2_isNoLetter wsX2_isNoLetter rmX2_isNoLetter (cS [.int p0]) (cQp rr) 0 0 (fun _ => False) := by
  refine Met.ofW (cc := cX2_isNoLetter) (maxL := 1) (ret := (some .boolean)) (by decide) rfl ?_
  intro p e s m args below meth c s₁ B hml hv
  obtain rfl : args = ([.int p0] : List Value).toArray := hv
  have hx := B.exec
  have hb := B.bytes
  have hr := B.returns
  have hts := atoms_spec (ws := wsX2_isNoLetter) B.pre
  have hown : s.vm.findClass RX2 = some m.cls := findClass_of_methodNamed B.named
  have hlocks := B.notSynchronized
  have t_14 : ∀ {y0 : Int32} {ls : Array Slot} (h : fX2_isNoLetter_14 N  y0 = some rr) (hl : lv_has ls 1 []), W p l e (headSpec wsX2_isNoLetter rmX2_isNoLetter).room s m ([.int p0] : List Value).toArray below meth c s.heap [] 0 0 (MQ below (cQp rr) ([.int p0] : List Value).toArray s 0 0 (fun _ => False)) (F0 m 14 ls [.int y0]) := by
    intro  y0 ls h hl
    unfold fX2_isNoLetter_14 at h
    obtain ⟨hz, h⟩ := gd_some h
    exact W.zret hx hb hr (zb_ok hz) (fun t ht _ => retP h ht) (fun _ h9 => absurd h9 List.not_mem_nil) dX2_isNoLetter_14
  have t_9 : ∀  {ls : Array Slot} (h : fX2_isNoLetter_9 N   = some rr) (hl : lv_has ls 1 []), W p l e (headSpec wsX2_isNoLetter rmX2_isNoLetter).room s m ([.int p0] : List Value).toArray below meth c s.heap [] 0 0 (MQ below (cQp rr) ([.int p0] : List Value).toArray s 0 0 (fun _ => False)) (F0 m 9 ls []) := by
    intro   ls h hl
    unfold fX2_isNoLetter_9 at h
    refine lv_iconst (v := 1) hx hb dX2_isNoLetter_9 (by decide) ?_
    refine lv_goto (tgt := 14) hx hb dX2_isNoLetter_10 (by decide) ?_
    exact t_14  h (lv_sub hl [] rfl)
  have hl := lv_entry ([.int p0]) (n := 1) (Nat.le_of_ble_eq_true rfl)
  rw [lg_entry_eq]
  generalize (lg_sl ([.int p0]) ++ List.replicate (1 - (lg_sl ([.int p0])).length) Slot.unset).toArray = ls at hl ⊢
  have hl : lv_has ls 1 [(0, .int p0)] := hl
  have h := hf
  unfold mX2_isNoLetter at h
  refine lv_iload_n hx hb dX2_isNoLetter_0 rfl (lv_at hl 0 rfl) ?_
  refine lv_if_lt (tgt := 9) hx hb dX2_isNoLetter_1 (by decide) (fun c1 => ?_) (fun c1 => ?_)
  · replace h := if_p c1 h
    exact t_9  h (lv_sub hl [] rfl)
  · replace h := if_n c1 h
    refine lv_iload_n hx hb dX2_isNoLetter_4 rfl (lv_at hl 0 rfl) ?_
    refine lv_iconst (v := 4) hx hb dX2_isNoLetter_5 (by decide) ?_
    refine lv_icmp_lt (tgt := 13) hx hb dX2_isNoLetter_6 (by decide) (fun c2 => ?_) (fun c2 => ?_)
    · replace h := if_p c2 h
      refine lv_iconst (v := 0) hx hb dX2_isNoLetter_13 (by decide) ?_
      exact t_14  h (lv_sub hl [] rfl)
    · replace h := if_n c2 h
      exact t_9  h (lv_sub hl [] rfl)
def fX2_isNoSwitch_14 (N : Nat)  (y0 : Int32) : Option Int32 := gd (y0 = 0 ∨ y0 = 1) (some y0)
def fX2_isNoSwitch_13 (N : Nat)   : Option Int32 := fX2_isNoSwitch_14 N  0
def mX2_isNoSwitch (N : Nat) (p0 : Int32) : Option Int32 := (if p0 = 0 then fX2_isNoSwitch_13 N   else (if p0 = 1 then fX2_isNoSwitch_13 N   else fX2_isNoSwitch_14 N  1))
def rmX2_isNoSwitch : Room := { frames := 1, cells := 0, slots := 0, locals := 40 }
set_option maxHeartbeats 4000000 in
set_option maxRecDepth 100000 in
theorem tX2_isNoSwitch {l : Launch} {N : Nat} {p0 : Int32} {rr : Int32} (hf : mX2_isNoSwitch N p0 = some rr) : Met l yX2_isNoSwitch wsX2_isNoSwitch rmX2_isNoSwitch (cS [.int p0]) (cQp rr) 0 0 (fun _ => False) := by
  refine Met.ofW (cc := cX2_isNoSwitch) (maxL := 1) (ret := (some .boolean)) (by decide) rfl ?_
  intro p e s m args below meth c s₁ B hml hv
  obtain rfl : args = ([.int p0] : List Value).toArray := hv
  have hx := B.exec
  have hb := B.bytes
  have hr := B.returns
  have hts := atoms_spec (ws := wsX2_isNoSwitch) B.pre
  have hown : s.vm.findClass RX2 = some m.cls := findClass_of_methodNamed B.named
  have hlocks := B.notSynchronized
  have t_14 : ∀ {y0 : Int32} {ls : Array Slot} (h : fX2_isNoSwitch_14 N  y0 = some rr) (hl : lv_has ls 1 []), W p l e (headSpec wsX2_isNoSwitch rmX2_isNoSwitch).room s m ([.int p0] : List Value).toArray below meth c s.heap [] 0 0 (MQ below (cQp rr) ([.int p0] : List Value).toArray s 0 0 (fun _ => False)) (F0 m 14 ls [.int y0]) := by
    intro  y0 ls h hl
    unfold fX2_isNoSwitch_14 at h
    obtain ⟨hz, h⟩ := gd_some h
    exact W.zret hx hb hr (zb_ok hz) (fun t ht _ => retP h ht) (fun _ h9 => absurd h9 List.not_mem_nil) dX2_isNoSwitch_14
  have t_13 : ∀  {ls : Array Slot} (h : fX2_isNoSwitch_13 N   = some rr) (hl : lv_has ls 1 []), W p l e (headSpec wsX2_isNoSwitch rmX2_isNoSwitch).room s m ([.int p0] : List Value).toArray below meth c s.heap [] 0 0 (MQ below (cQp rr) ([.int p0] : List Value).toArray s 0 0 (fun _ => False)) (F0 m 13 ls []) := by
    intro   ls h hl
    unfold fX2_isNoSwitch_13 at h
    refine lv_iconst (v := 0) hx hb dX2_isNoSwitch_13 (by decide) ?_
    exact t_14  h (lv_sub hl [] rfl)
  have hl := lv_entry ([.int p0]) (n := 1) (Nat.le_of_ble_eq_true rfl)
  rw [lg_entry_eq]
  generalize (lg_sl ([.int p0]) ++ List.replicate (1 - (lg_sl ([.int p0])).length) Slot.unset).toArray = ls at hl ⊢
  have hl : lv_has ls 1 [(0, .int p0)] := hl
  have h := hf
  unfold mX2_isNoSwitch at h
  refine lv_iload_n hx hb dX2_isNoSwitch_0 rfl (lv_at hl 0 rfl) ?_
  refine lv_if_eq (tgt := 13) hx hb dX2_isNoSwitch_1 (by decide) (fun c1 => ?_) (fun c1 => ?_)
  · replace h := if_p c1 h
    exact t_13  h (lv_sub hl [] rfl)
  · replace h := if_n c1 h
    refine lv_iload_n hx hb dX2_isNoSwitch_4 rfl (lv_at hl 0 rfl) ?_
    refine lv_iconst (v := 1) hx hb dX2_isNoSwitch_5 (by decide) ?_
    refine lv_icmp_eq (tgt := 13) hx hb dX2_isNoSwitch_6 (by decide) (fun c2 => ?_) (fun c2 => ?_)
    · replace h := if_p c2 h
      exact t_13  h (lv_sub hl [] rfl)
    · replace h := if_n c2 h
      refine lv_iconst (v := 1) hx hb dX2_isNoSwitch_9 (by decide) ?_
      refine lv_goto (tgt := 14) hx hb dX2_isNoSwitch_10 (by decide) ?_
      exact t_14  h (lv_sub hl [] rfl)
def fX2_sumOf_10 (N : Nat) (n0 : Nat) (a0 : Nat → Int32)  : Nat → Int32 → Int32 → Int32 → Option Int32
  | 0, _, _, _ => none
  | n + 1, x1, x3, x4 => (if x3 ≤ x4 then some x1 else rdA a0 n0 x4 (fun v2 => (fX2_sumOf_10 N n0 a0  n) (x1 + v2) x3 (x4 + 1)))
def mX2_sumOf (N : Nat) (n0 : Nat) (a0 : Nat → Int32)  : Option Int32 := fX2_sumOf_10 N n0 a0  N 0 (nI n0) 0
def rmX2_sumOf : Room := { frames := 1, cells := 0, slots := 0, locals := 40 }
set_option maxHeartbeats 4000000 in
set_option maxRecDepth 100000 in
theorem tX2_sumOf {l : Launch} {dC : Nat → ClassId} {dI : Nat → Nat → Nat} {cI : ClassId} {ap0 : Nat} {N : Nat} {n0 : Nat} {a0 : Nat → Int32}  {rr : Int32} (hf : mX2_sumOf N n0 a0  = some rr) : Met l yX2_sumOf wsX2_sumOf rmX2_sumOf (cP (dC, dI) vwCl [(cI, .int)] [(ap0, .inl (cI, n0, .inl a0))] [.ref ap0]) (cQp rr) 0 0 (fun _ => False) := by
  refine Met.ofW (cc := cX2_sumOf) (maxL := 6) (ret := (some .int)) (by decide) rfl ?_
  intro p e s m args below meth c s₁ B hml hv
  obtain ⟨rfl, hP, hK⟩ := hv
  have hx := B.exec
  have hb := B.bytes
  have hr := B.returns
  have hts := atoms_spec (ws := wsX2_sumOf) B.pre
  have hown : s.vm.findClass RX2 = some m.cls := findClass_of_methodNamed B.named
  have hlocks := B.notSynchronized
  have t_10 : ∀ {n : Nat}, ∀ {x1 : Int32} {x3 : Int32} {x4 : Int32} {ls : Array Slot} (h : fX2_sumOf_10 N n0 a0  n x1 x3 x4 = some rr) (hl : lv_has ls 6 [(1, .int x1), (2, .ref ap0), (3, .int x3), (4, .int x4)]), W p l e (headSpec wsX2_sumOf rmX2_sumOf).room s m ([.ref ap0] : List Value).toArray below meth c s.heap [] 0 0 (MQ below (cQp rr) ([.ref ap0] : List Value).toArray s 0 0 (fun _ => False)) (F0 m 10 ls []) := by
    intro  n
    induction n with
    | zero =>
      intro x1 x3 x4 ls h hl
      unfold fX2_sumOf_10 at h
      cases h
    | succ n ih =>
      intro x1 x3 x4 ls h hl
      unfold fX2_sumOf_10 at h
      refine lv_iload hx hb dX2_sumOf_10 (lv_at hl 3 rfl) ?_
      refine lv_iload_n hx hb dX2_sumOf_12 rfl (lv_at hl 2 rfl) ?_
      refine lv_icmp_ge (tgt := 33) hx hb dX2_sumOf_13 (by decide) (fun c1 => ?_) (fun c1 => ?_)
      · replace h := if_p c1 h
        refine lv_iload_n hx hb dX2_sumOf_33 rfl (lv_at hl 0 rfl) ?_
        exact W.iret hx hb hr (fun t ht _ => retP h ht) (fun _ h9 => absurd h9 List.not_mem_nil) dX2_sumOf_34
      · replace h := if_n c1 h
        refine lv_aload_n hx hb dX2_sumOf_16 rfl (lv_at hl 1 rfl) ?_
        refine lv_iload hx hb dX2_sumOf_17 (lv_at hl 3 rfl) ?_
        obtain ⟨hi3, v2, ev2, h⟩ := rdA_some h
        refine k_iald hx hb hK hP 0 0 rfl rfl hi3 ev2 dX2_sumOf_19 ?_
        refine lv_istore (lv' := [(5, .int v2), (1, .int x1), (2, .ref ap0), (3, .int x3), (4, .int x4)]) hx hb dX2_sumOf_20 hl (by decide) rfl (fun ls hl => ?_)
        refine lv_iload_n hx hb dX2_sumOf_22 rfl (lv_at hl 1 rfl) ?_
        refine lv_iload hx hb dX2_sumOf_23 (lv_at hl 0 rfl) ?_
        refine lv_iadd hx hb dX2_sumOf_25 ?_
        refine lv_istore_n (lv' := [(1, .int (x1 + v2)), (5, .int v2), (2, .ref ap0), (3, .int x3), (4, .int x4)]) hx hb dX2_sumOf_26 rfl hl (by decide) rfl (fun ls hl => ?_)
        refine lv_iinc (v := x4 + 1) (lv' := [(4, .int (x4 + 1)), (1, .int (x1 + v2)), (5, .int v2), (2, .ref ap0), (3, .int x3)]) hx hb dX2_sumOf_27 hl (k := 4) rfl rfl (by decide) rfl (fun ls hl => ?_)
        refine lv_goto (tgt := 10) hx hb dX2_sumOf_30 (by decide) ?_
        exact ih h (lv_sub hl [1, 3, 4, 0] rfl)
  have hl := lv_entry ([.ref ap0]) (n := 6) (Nat.le_of_ble_eq_true rfl)
  rw [lg_entry_eq]
  generalize (lg_sl ([.ref ap0]) ++ List.replicate (6 - (lg_sl ([.ref ap0])).length) Slot.unset).toArray = ls at hl ⊢
  have hl : lv_has ls 6 [(0, .ref ap0)] := hl
  have h := hf
  unfold mX2_sumOf at h
  refine lv_iconst (v := 0) hx hb dX2_sumOf_0 (by decide) ?_
  refine lv_istore_n (lv' := [(1, .int 0), (0, .ref ap0)]) hx hb dX2_sumOf_1 rfl hl (by decide) rfl (fun ls hl => ?_)
  refine lv_aload_n hx hb dX2_sumOf_2 rfl (lv_at hl 1 rfl) ?_
  refine lv_astore_n (lv' := [(2, .ref ap0), (1, .int 0), (0, .ref ap0)]) hx hb dX2_sumOf_3 rfl hl (by decide) rfl (fun ls hl => ?_)
  refine lv_aload_n hx hb dX2_sumOf_4 rfl (lv_at hl 0 rfl) ?_
  refine va_alen (v := nI n0) hx hb hK hP 0 0 rfl rfl rfl dX2_sumOf_5 ?_
  refine lv_istore_n (lv' := [(3, .int (nI n0)), (2, .ref ap0), (1, .int 0), (0, .ref ap0)]) hx hb dX2_sumOf_6 rfl hl (by decide) rfl (fun ls hl => ?_)
  refine lv_iconst (v := 0) hx hb dX2_sumOf_7 (by decide) ?_
  refine lv_istore (lv' := [(4, .int 0), (3, .int (nI n0)), (2, .ref ap0), (1, .int 0), (0, .ref ap0)]) hx hb dX2_sumOf_8 hl (by decide) rfl (fun ls hl => ?_)
  exact t_10  h (lv_sub hl [3, 2, 1, 0] rfl)
def fX2_greatestOf_10 (N : Nat) (n0 : Nat) (a0 : Nat → Int32)  : Nat → Int32 → Int32 → Int32 → Option Int32
  | 0, _, _, _ => none
  | n + 1, x1, x3, x4 => (if x3 ≤ x4 then some x1 else rdA a0 n0 x4 (fun v2 => (fX2_greatestOf_10 N n0 a0  n) ((if x1 < v2 then v2 else x1)) x3 (x4 + 1)))
def mX2_greatestOf (N : Nat) (n0 : Nat) (a0 : Nat → Int32)  : Option Int32 := fX2_greatestOf_10 N n0 a0  N 0 (nI n0) 0
def rmX2_greatestOf : Room := { frames := 2, cells := 0, slots := 0, locals := 61 }
set_option maxHeartbeats 4000000 in
set_option maxRecDepth 100000 in
theorem tX2_greatestOf {l : Launch} {dC : Nat → ClassId} {dI : Nat → Nat → Nat} {cI : ClassId} {ap0 : Nat} {N : Nat} {n0 : Nat} {a0 : Nat → Int32}  {rr : Int32} (hf : mX2_greatestOf N n0 a0  = some rr) : Met l yX2_greatestOf wsX2_greatestOf rmX2_greatestOf (cP (dC, dI) vwCl [(cI, .int)] [(ap0, .inl (cI, n0, .inl a0))] [.ref ap0]) (cQp rr) 0 0 (fun _ => False) := by
  refine Met.ofW (cc := cX2_greatestOf) (maxL := 6) (ret := (some .int)) (by decide) rfl ?_
  intro p e s m args below meth c s₁ B hml hv
  obtain ⟨rfl, hP, hK⟩ := hv
  have hx := B.exec
  have hb := B.bytes
  have hr := B.returns
  have hts := atoms_spec (ws := wsX2_greatestOf) B.pre
  have hown : s.vm.findClass RX2 = some m.cls := findClass_of_methodNamed B.named
  have hlocks := B.notSynchronized
  have t_10 : ∀ {n : Nat}, ∀ {x1 : Int32} {x3 : Int32} {x4 : Int32} {ls : Array Slot} (h : fX2_greatestOf_10 N n0 a0  n x1 x3 x4 = some rr) (hl : lv_has ls 6 [(1, .int x1), (2, .ref ap0), (3, .int x3), (4, .int x4)]), W p l e (headSpec wsX2_greatestOf rmX2_greatestOf).room s m ([.ref ap0] : List Value).toArray below meth c s.heap [] 0 0 (MQ below (cQp rr) ([.ref ap0] : List Value).toArray s 0 0 (fun _ => False)) (F0 m 10 ls []) := by
    intro  n
    induction n with
    | zero =>
      intro x1 x3 x4 ls h hl
      unfold fX2_greatestOf_10 at h
      cases h
    | succ n ih =>
      intro x1 x3 x4 ls h hl
      unfold fX2_greatestOf_10 at h
      refine lv_iload hx hb dX2_greatestOf_10 (lv_at hl 3 rfl) ?_
      refine lv_iload_n hx hb dX2_greatestOf_12 rfl (lv_at hl 2 rfl) ?_
      refine lv_icmp_ge (tgt := 35) hx hb dX2_greatestOf_13 (by decide) (fun c1 => ?_) (fun c1 => ?_)
      · replace h := if_p c1 h
        refine lv_iload_n hx hb dX2_greatestOf_35 rfl (lv_at hl 0 rfl) ?_
        exact W.iret hx hb hr (fun t ht _ => retP h ht) (fun _ h9 => absurd h9 List.not_mem_nil) dX2_greatestOf_36
      · replace h := if_n c1 h
        refine lv_aload_n hx hb dX2_greatestOf_16 rfl (lv_at hl 1 rfl) ?_
        refine lv_iload hx hb dX2_greatestOf_17 (lv_at hl 3 rfl) ?_
        obtain ⟨hi3, v2, ev2, h⟩ := rdA_some h
        refine k_iald hx hb hK hP 0 0 rfl rfl hi3 ev2 dX2_greatestOf_19 ?_
        refine lv_istore (lv' := [(5, .int v2), (1, .int x1), (2, .ref ap0), (3, .int x3), (4, .int x4)]) hx hb dX2_greatestOf_20 hl (by decide) rfl (fun ls hl => ?_)
        refine lv_iload_n hx hb dX2_greatestOf_22 rfl (lv_at hl 1 rfl) ?_
        refine lv_iload hx hb dX2_greatestOf_23 (lv_at hl 0 rfl) ?_
        refine va_mmax hx hb (hml.trans hl.1.symm) hown (hts (.methodLink RX2 275 Lib.Math.max.name) (by decide +kernel)) (hts (.static Lib.Math.max.name) (by decide +kernel)) (hts (.initialized "java/lang/Math") (by decide +kernel)) (hts (.code Lib.Math.max.name Lib.Math.max.code 2 (some .int)) (by decide +kernel)) (Nat.le_of_ble_eq_true rfl) (Nat.le_of_ble_eq_true rfl) (Nat.zero_le _) (Nat.zero_le _) dX2_greatestOf_25 ?_
        refine lv_istore_n (lv' := [(1, .int ((if x1 < v2 then v2 else x1))), (5, .int v2), (2, .ref ap0), (3, .int x3), (4, .int x4)]) hx hb dX2_greatestOf_28 rfl hl (by decide) rfl (fun ls hl => ?_)
        refine lv_iinc (v := x4 + 1) (lv' := [(4, .int (x4 + 1)), (1, .int ((if x1 < v2 then v2 else x1))), (5, .int v2), (2, .ref ap0), (3, .int x3)]) hx hb dX2_greatestOf_29 hl (k := 4) rfl rfl (by decide) rfl (fun ls hl => ?_)
        refine lv_goto (tgt := 10) hx hb dX2_greatestOf_32 (by decide) ?_
        exact ih h (lv_sub hl [1, 3, 4, 0] rfl)
  have hl := lv_entry ([.ref ap0]) (n := 6) (Nat.le_of_ble_eq_true rfl)
  rw [lg_entry_eq]
  generalize (lg_sl ([.ref ap0]) ++ List.replicate (6 - (lg_sl ([.ref ap0])).length) Slot.unset).toArray = ls at hl ⊢
  have hl : lv_has ls 6 [(0, .ref ap0)] := hl
  have h := hf
  unfold mX2_greatestOf at h
  refine lv_iconst (v := 0) hx hb dX2_greatestOf_0 (by decide) ?_
  refine lv_istore_n (lv' := [(1, .int 0), (0, .ref ap0)]) hx hb dX2_greatestOf_1 rfl hl (by decide) rfl (fun ls hl => ?_)
  refine lv_aload_n hx hb dX2_greatestOf_2 rfl (lv_at hl 1 rfl) ?_
  refine lv_astore_n (lv' := [(2, .ref ap0), (1, .int 0), (0, .ref ap0)]) hx hb dX2_greatestOf_3 rfl hl (by decide) rfl (fun ls hl => ?_)
  refine lv_aload_n hx hb dX2_greatestOf_4 rfl (lv_at hl 0 rfl) ?_
  refine va_alen (v := nI n0) hx hb hK hP 0 0 rfl rfl rfl dX2_greatestOf_5 ?_
  refine lv_istore_n (lv' := [(3, .int (nI n0)), (2, .ref ap0), (1, .int 0), (0, .ref ap0)]) hx hb dX2_greatestOf_6 rfl hl (by decide) rfl (fun ls hl => ?_)
  refine lv_iconst (v := 0) hx hb dX2_greatestOf_7 (by decide) ?_
  refine lv_istore (lv' := [(4, .int 0), (3, .int (nI n0)), (2, .ref ap0), (1, .int 0), (0, .ref ap0)]) hx hb dX2_greatestOf_8 hl (by decide) rfl (fun ls hl => ?_)
  exact t_10  h (lv_sub hl [3, 2, 1, 0] rfl)
def fX0_lastTerm_31 (N : Nat) (K : KT)  (y0 : Int32) : Option Int32 := some y0
def mX0_lastTerm (N : Nat) (K : KT) (p0 : Int32) : Option Int32 := rdA (K 5) 5 p0 (fun v1 => (if v1 = 0 then fX0_lastTerm_31 N K  0 else rdA (K 5) 5 p0 (fun v4 => rdA (K 7) 60 (((p0 * 12) + v4) - 1) (fun v6 => fX0_lastTerm_31 N K  v6))))
def rmX0_lastTerm : Room := { frames := 1, cells := 0, slots := 0, locals := 40 }
set_option maxHeartbeats 4000000 in
set_option maxRecDepth 100000 in
theorem tX0_lastTerm {l : Launch} {dC : Nat → ClassId} {dI : Nat → Nat → Nat} {cI : ClassId} {ob : Nat} {q : Nat → Nat} {N : Nat} {K : KT} {p0 : Int32} {rr : Int32} (hf : mX0_lastTerm N K p0 = some rr) : Met l yX0_lastTerm wsX0_lastTerm rmX0_lastTerm (cP (dC, dI) vwCl [(cI, .int)] (cvW cI ob q K) [.ref ob, .int p0]) (cQp rr) 0 0 (fun _ => False) := by
  refine Met.ofW (cc := cX0_lastTerm) (maxL := 2) (ret := (some .int)) (by decide) rfl ?_
  intro p e s m args below meth c s₁ B hml hv
  obtain ⟨rfl, hP, hK⟩ := hv
  have hx := B.exec
  have hb := B.bytes
  have hr := B.returns
  have hts := atoms_spec (ws := wsX0_lastTerm) B.pre
  have hown : s.vm.findClass RX0 = some m.cls := findClass_of_methodNamed B.named
  have hlocks := B.notSynchronized
  have hwX0 : ∀ w ∈ u_ws RX0 TX0 16, w ∈ wsX0_lastTerm := by decide +kernel
  have hf_27 := hts (.fieldLink RX0 27 "CaravanLogs$Caravan" "pages" "[I") (by decide +kernel)
  have hf_33 := hts (.fieldLink RX0 33 "CaravanLogs$Caravan" "pageTerm" "[I") (by decide +kernel)
  have t_31 : ∀ {y0 : Int32} {ls : Array Slot} (h : fX0_lastTerm_31 N K  y0 = some rr) (hl : lv_has ls 2 []), W p l e (headSpec wsX0_lastTerm rmX0_lastTerm).room s m ([.ref ob, .int p0] : List Value).toArray below meth c s.heap [] 0 0 (MQ below (cQp rr) ([.ref ob, .int p0] : List Value).toArray s 0 0 (fun _ => False)) (F0 m 31 ls [.int y0]) := by
    intro  y0 ls h hl
    unfold fX0_lastTerm_31 at h
    exact W.iret hx hb hr (fun t ht _ => retP h ht) (fun _ h9 => absurd h9 List.not_mem_nil) dX0_lastTerm_31
  have hl := lv_entry ([.ref ob, .int p0]) (n := 2) (Nat.le_of_ble_eq_true rfl)
  rw [lg_entry_eq]
  generalize (lg_sl ([.ref ob, .int p0]) ++ List.replicate (2 - (lg_sl ([.ref ob, .int p0])).length) Slot.unset).toArray = ls at hl ⊢
  have hl : lv_has ls 2 [(0, .ref ob), (1, .int p0)] := hl
  have h := hf
  unfold mX0_lastTerm at h
  refine lv_aload_n hx hb dX0_lastTerm_0 rfl (lv_at hl 0 rfl) ?_
  refine va_get (D := (dC, dI)) (ci := 1) (v := .ref (q 5)) (C := RX0) (T := TX0) (N := 16) hx hb hts hwX0 hown hK hP 0 rfl rfl 5 (by decide) hf_27 (fun _ h9 => h9) rfl dX0_lastTerm_1 ?_
  refine lv_iload_n hx hb dX0_lastTerm_4 rfl (lv_at hl 1 rfl) ?_
  obtain ⟨hi2, v1, ev1, h⟩ := rdA_some h
  refine k_iald hx hb hK hP 6 0 rfl rfl hi2 ev1 dX0_lastTerm_5 ?_
  refine lv_if_ne (tgt := 13) hx hb dX0_lastTerm_6 (by decide) (fun c3 => ?_) (fun c3 => ?_)
  · replace h := if_n c3 h
    refine lv_aload_n hx hb dX0_lastTerm_13 rfl (lv_at hl 0 rfl) ?_
    refine va_get (D := (dC, dI)) (ci := 1) (v := .ref (q 7)) (C := RX0) (T := TX0) (N := 16) hx hb hts hwX0 hown hK hP 0 rfl rfl 7 (by decide) hf_33 (fun _ h9 => h9) rfl dX0_lastTerm_14 ?_
    refine lv_iload_n hx hb dX0_lastTerm_17 rfl (lv_at hl 1 rfl) ?_
    refine lv_bipush (v := 12) hx hb dX0_lastTerm_18 (by decide) ?_
    refine lv_imul hx hb dX0_lastTerm_20 ?_
    refine lv_aload_n hx hb dX0_lastTerm_21 rfl (lv_at hl 0 rfl) ?_
    refine va_get (D := (dC, dI)) (ci := 1) (v := .ref (q 5)) (C := RX0) (T := TX0) (N := 16) hx hb hts hwX0 hown hK hP 0 rfl rfl 5 (by decide) hf_27 (fun _ h9 => h9) rfl dX0_lastTerm_22 ?_
    refine lv_iload_n hx hb dX0_lastTerm_25 rfl (lv_at hl 1 rfl) ?_
    obtain ⟨hi5, v4, ev4, h⟩ := rdA_some h
    refine k_iald hx hb hK hP 6 0 rfl rfl hi5 ev4 dX0_lastTerm_26 ?_
    refine lv_iadd hx hb dX0_lastTerm_27 ?_
    refine lv_iconst (v := 1) hx hb dX0_lastTerm_28 (by decide) ?_
    refine lv_isub hx hb dX0_lastTerm_29 ?_
    obtain ⟨hi7, v6, ev6, h⟩ := rdA_some h
    refine k_iald hx hb hK hP 8 0 rfl rfl hi7 ev6 dX0_lastTerm_30 ?_
    exact t_31  h (lv_sub hl [] rfl)
  · replace h := if_p c3 h
    refine lv_iconst (v := 0) hx hb dX0_lastTerm_9 (by decide) ?_
    refine lv_goto (tgt := 31) hx hb dX0_lastTerm_10 (by decide) ?_
    exact t_31  h (lv_sub hl [] rfl)
def fX0_isReached_39 (N : Nat) (K : KT)  (y0 : Int32) : Option Int32 := gd (y0 = 0 ∨ y0 = 1) (some y0)
def fX0_isReached_38 (N : Nat) (K : KT)   : Option Int32 := fX0_isReached_39 N K  0
def mX0_isReached (N : Nat) (K : KT) (p0 : Int32) (p1 : Int32) : Option Int32 := rdA (K 3) 5 p0 (fun v1 => (if v1 = 1 then rdA (K 3) 5 p1 (fun v4 => (if v4 = 1 then rdA (K 9) 25 ((p0 * 5) + p1) (fun v7 => (if v7 = 1 then fX0_isReached_39 N K  1 else fX0_isReached_38 N K  )) else fX0_isReached_38 N K  )) else fX0_isReached_38 N K  ))
def rmX0_isReached : Room := { frames := 1, cells := 0, slots := 0, locals := 40 }
set_option maxHeartbeats 4000000 in
set_option maxRecDepth 100000 in
theorem tX0_isReached {l : Launch} {dC : Nat → ClassId} {dI : Nat → Nat → Nat} {cI : ClassId} {ob : Nat} {q : Nat → Nat} {N : Nat} {K : KT} {p0 : Int32} {p1 : Int32} {rr : Int32} (hf : mX0_isReached N K p0 p1 = some rr) : Met l yX0_isReached wsX0_isReached rmX0_isReached (cP (dC, dI) vwCl [(cI, .int)] (cvW cI ob q K) [.ref ob, .int p0, .int p1]) (cQp rr) 0 0 (fun _ => False) := by
  refine Met.ofW (cc := cX0_isReached) (maxL := 3) (ret := (some .boolean)) (by decide) rfl ?_
  intro p e s m args below meth c s₁ B hml hv
  obtain ⟨rfl, hP, hK⟩ := hv
  have hx := B.exec
  have hb := B.bytes
  have hr := B.returns
  have hts := atoms_spec (ws := wsX0_isReached) B.pre
  have hown : s.vm.findClass RX0 = some m.cls := findClass_of_methodNamed B.named
  have hlocks := B.notSynchronized
  have hwX0 : ∀ w ∈ u_ws RX0 TX0 16, w ∈ wsX0_isReached := by decide +kernel
  have hf_21 := hts (.fieldLink RX0 21 "CaravanLogs$Caravan" "isAwake" "[I") (by decide +kernel)
  have hf_39 := hts (.fieldLink RX0 39 "CaravanLogs$Caravan" "isOpen" "[I") (by decide +kernel)
  have t_39 : ∀ {y0 : Int32} {ls : Array Slot} (h : fX0_isReached_39 N K  y0 = some rr) (hl : lv_has ls 3 []), W p l e (headSpec wsX0_isReached rmX0_isReached).room s m ([.ref ob, .int p0, .int p1] : List Value).toArray below meth c s.heap [] 0 0 (MQ below (cQp rr) ([.ref ob, .int p0, .int p1] : List Value).toArray s 0 0 (fun _ => False)) (F0 m 39 ls [.int y0]) := by
    intro  y0 ls h hl
    unfold fX0_isReached_39 at h
    obtain ⟨hz, h⟩ := gd_some h
    exact W.zret hx hb hr (zb_ok hz) (fun t ht _ => retP h ht) (fun _ h9 => absurd h9 List.not_mem_nil) dX0_isReached_39
  have t_38 : ∀  {ls : Array Slot} (h : fX0_isReached_38 N K   = some rr) (hl : lv_has ls 3 []), W p l e (headSpec wsX0_isReached rmX0_isReached).room s m ([.ref ob, .int p0, .int p1] : List Value).toArray below meth c s.heap [] 0 0 (MQ below (cQp rr) ([.ref ob, .int p0, .int p1] : List Value).toArray s 0 0 (fun _ => False)) (F0 m 38 ls []) := by
    intro   ls h hl
    unfold fX0_isReached_38 at h
    refine lv_iconst (v := 0) hx hb dX0_isReached_38 (by decide) ?_
    exact t_39  h (lv_sub hl [] rfl)
  have hl := lv_entry ([.ref ob, .int p0, .int p1]) (n := 3) (Nat.le_of_ble_eq_true rfl)
  rw [lg_entry_eq]
  generalize (lg_sl ([.ref ob, .int p0, .int p1]) ++ List.replicate (3 - (lg_sl ([.ref ob, .int p0, .int p1])).length) Slot.unset).toArray = ls at hl ⊢
  have hl : lv_has ls 3 [(0, .ref ob), (1, .int p0), (2, .int p1)] := hl
  have h := hf
  unfold mX0_isReached at h
  refine lv_aload_n hx hb dX0_isReached_0 rfl (lv_at hl 0 rfl) ?_
  refine va_get (D := (dC, dI)) (ci := 1) (v := .ref (q 3)) (C := RX0) (T := TX0) (N := 16) hx hb hts hwX0 hown hK hP 0 rfl rfl 3 (by decide) hf_21 (fun _ h9 => h9) rfl dX0_isReached_1 ?_
  refine lv_iload_n hx hb dX0_isReached_4 rfl (lv_at hl 1 rfl) ?_
  obtain ⟨hi2, v1, ev1, h⟩ := rdA_some h
  refine k_iald hx hb hK hP 4 0 rfl rfl hi2 ev1 dX0_isReached_5 ?_
  refine lv_iconst (v := 1) hx hb dX0_isReached_6 (by decide) ?_
  refine lv_icmp_ne (tgt := 38) hx hb dX0_isReached_7 (by decide) (fun c3 => ?_) (fun c3 => ?_)
  · replace h := if_n c3 h
    exact t_38  h (lv_sub hl [] rfl)
  · replace h := if_p c3 h
    refine lv_aload_n hx hb dX0_isReached_10 rfl (lv_at hl 0 rfl) ?_
    refine va_get (D := (dC, dI)) (ci := 1) (v := .ref (q 3)) (C := RX0) (T := TX0) (N := 16) hx hb hts hwX0 hown hK hP 0 rfl rfl 3 (by decide) hf_21 (fun _ h9 => h9) rfl dX0_isReached_11 ?_
    refine lv_iload_n hx hb dX0_isReached_14 rfl (lv_at hl 2 rfl) ?_
    obtain ⟨hi5, v4, ev4, h⟩ := rdA_some h
    refine k_iald hx hb hK hP 4 0 rfl rfl hi5 ev4 dX0_isReached_15 ?_
    refine lv_iconst (v := 1) hx hb dX0_isReached_16 (by decide) ?_
    refine lv_icmp_ne (tgt := 38) hx hb dX0_isReached_17 (by decide) (fun c6 => ?_) (fun c6 => ?_)
    · replace h := if_n c6 h
      exact t_38  h (lv_sub hl [] rfl)
    · replace h := if_p c6 h
      refine lv_aload_n hx hb dX0_isReached_20 rfl (lv_at hl 0 rfl) ?_
      refine va_get (D := (dC, dI)) (ci := 1) (v := .ref (q 9)) (C := RX0) (T := TX0) (N := 16) hx hb hts hwX0 hown hK hP 0 rfl rfl 9 (by decide) hf_39 (fun _ h9 => h9) rfl dX0_isReached_21 ?_
      refine lv_iload_n hx hb dX0_isReached_24 rfl (lv_at hl 1 rfl) ?_
      refine lv_iconst (v := 5) hx hb dX0_isReached_25 (by decide) ?_
      refine lv_imul hx hb dX0_isReached_26 ?_
      refine lv_iload_n hx hb dX0_isReached_27 rfl (lv_at hl 2 rfl) ?_
      refine lv_iadd hx hb dX0_isReached_28 ?_
      obtain ⟨hi8, v7, ev7, h⟩ := rdA_some h
      refine k_iald hx hb hK hP 10 0 rfl rfl hi8 ev7 dX0_isReached_29 ?_
      refine lv_iconst (v := 1) hx hb dX0_isReached_30 (by decide) ?_
      refine lv_icmp_ne (tgt := 38) hx hb dX0_isReached_31 (by decide) (fun c9 => ?_) (fun c9 => ?_)
      · replace h := if_n c9 h
        exact t_38  h (lv_sub hl [] rfl)
      · replace h := if_p c9 h
        refine lv_iconst (v := 1) hx hb dX0_isReached_34 (by decide) ?_
        refine lv_goto (tgt := 39) hx hb dX0_isReached_35 (by decide) ?_
        exact t_39  h (lv_sub hl [] rfl)
def fX0_isAsFar_45 (N : Nat) (K : KT)  (y0 : Int32) : Option Int32 := gd (y0 = 0 ∨ y0 = 1) (some y0)
def fX0_isAsFar_40 (N : Nat) (K : KT)   : Option Int32 := fX0_isAsFar_45 N K  1
def fX0_isAsFar_44 (N : Nat) (K : KT)   : Option Int32 := fX0_isAsFar_45 N K  0
def mX0_isAsFar (N : Nat) (K : KT) (p0 : Int32) (p1 : Int32) : Option Int32 := bdP (mX0_lastTerm N K p0) (fun v1 => bdP (mX0_lastTerm N K p1) (fun v2 => (if v2 < v1 then fX0_isAsFar_40 N K   else (if v1 = v2 then rdA (K 5) 5 p0 (fun v5 => rdA (K 5) 5 p1 (fun v7 => (if v5 < v7 then fX0_isAsFar_44 N K   else fX0_isAsFar_40 N K  ))) else fX0_isAsFar_44 N K  ))))
def rmX0_isAsFar : Room := { frames := 2, cells := 0, slots := 0, locals := 61 }
set_option maxHeartbeats 4000000 in
set_option maxRecDepth 100000 in
theorem tX0_isAsFar {l : Launch} {dC : Nat → ClassId} {dI : Nat → Nat → Nat} {cI : ClassId} {ob : Nat} {q : Nat → Nat} {N : Nat} {K : KT} {p0 : Int32} {p1 : Int32} {rr : Int32} (hf : mX0_isAsFar N K p0 p1 = some rr) : Met l yX0_isAsFar wsX0_isAsFar rmX0_isAsFar (cP (dC, dI) vwCl [(cI, .int)] (cvW cI ob q K) [.ref ob, .int p0, .int p1]) (cQp rr) 0 0 (fun _ => False) := by
  refine Met.ofW (cc := cX0_isAsFar) (maxL := 5) (ret := (some .boolean)) (by decide) rfl ?_
  intro p e s m args below meth c s₁ B hml hv
  obtain ⟨rfl, hP, hK⟩ := hv
  have hx := B.exec
  have hb := B.bytes
  have hr := B.returns
  have hts := atoms_spec (ws := wsX0_isAsFar) B.pre
  have hown : s.vm.findClass RX0 = some m.cls := findClass_of_methodNamed B.named
  have hlocks := B.notSynchronized
  have hwX0 : ∀ w ∈ u_ws RX0 TX0 16, w ∈ wsX0_isAsFar := by decide +kernel
  have hf_27 := hts (.fieldLink RX0 27 "CaravanLogs$Caravan" "pages" "[I") (by decide +kernel)
  have t_45 : ∀ {y0 : Int32} {ls : Array Slot} (h : fX0_isAsFar_45 N K  y0 = some rr) (hl : lv_has ls 5 []), W p l e (headSpec wsX0_isAsFar rmX0_isAsFar).room s m ([.ref ob, .int p0, .int p1] : List Value).toArray below meth c s.heap [] 0 0 (MQ below (cQp rr) ([.ref ob, .int p0, .int p1] : List Value).toArray s 0 0 (fun _ => False)) (F0 m 45 ls [.int y0]) := by
    intro  y0 ls h hl
    unfold fX0_isAsFar_45 at h
    obtain ⟨hz, h⟩ := gd_some h
    exact W.zret hx hb hr (zb_ok hz) (fun t ht _ => retP h ht) (fun _ h9 => absurd h9 List.not_mem_nil) dX0_isAsFar_45
  have t_40 : ∀  {ls : Array Slot} (h : fX0_isAsFar_40 N K   = some rr) (hl : lv_has ls 5 []), W p l e (headSpec wsX0_isAsFar rmX0_isAsFar).room s m ([.ref ob, .int p0, .int p1] : List Value).toArray below meth c s.heap [] 0 0 (MQ below (cQp rr) ([.ref ob, .int p0, .int p1] : List Value).toArray s 0 0 (fun _ => False)) (F0 m 40 ls []) := by
    intro   ls h hl
    unfold fX0_isAsFar_40 at h
    refine lv_iconst (v := 1) hx hb dX0_isAsFar_40 (by decide) ?_
    refine lv_goto (tgt := 45) hx hb dX0_isAsFar_41 (by decide) ?_
    exact t_45  h (lv_sub hl [] rfl)
  have t_44 : ∀  {ls : Array Slot} (h : fX0_isAsFar_44 N K   = some rr) (hl : lv_has ls 5 []), W p l e (headSpec wsX0_isAsFar rmX0_isAsFar).room s m ([.ref ob, .int p0, .int p1] : List Value).toArray below meth c s.heap [] 0 0 (MQ below (cQp rr) ([.ref ob, .int p0, .int p1] : List Value).toArray s 0 0 (fun _ => False)) (F0 m 44 ls []) := by
    intro   ls h hl
    unfold fX0_isAsFar_44 at h
    refine lv_iconst (v := 0) hx hb dX0_isAsFar_44 (by decide) ?_
    exact t_45  h (lv_sub hl [] rfl)
  have hl := lv_entry ([.ref ob, .int p0, .int p1]) (n := 5) (Nat.le_of_ble_eq_true rfl)
  rw [lg_entry_eq]
  generalize (lg_sl ([.ref ob, .int p0, .int p1]) ++ List.replicate (5 - (lg_sl ([.ref ob, .int p0, .int p1])).length) Slot.unset).toArray = ls at hl ⊢
  have hl : lv_has ls 5 [(0, .ref ob), (1, .int p0), (2, .int p1)] := hl
  have h := hf
  unfold mX0_isAsFar at h
  refine lv_aload_n hx hb dX0_isAsFar_0 rfl (lv_at hl 0 rfl) ?_
  refine lv_iload_n hx hb dX0_isAsFar_1 rfl (lv_at hl 1 rfl) ?_
  obtain ⟨v1, hv1, h⟩ := bdP_some h
  refine call_VP (As := [.int p0]) (rest := []) ⟨hx, hb, hml, hown, hts⟩ (tX0_lastTerm (l := l) (dC := dC) (dI := dI) (cI := cI) (ob := ob) (q := q) hv1) (cwV 1 hts gX0_isAsFar_X0_lastTerm rfl rfl rfl (by decide +kernel) ⟨Nat.le_of_ble_eq_true rfl, Nat.le_of_ble_eq_true rfl⟩) hK hP 0 rfl rfl (by rfl) hl.1 rfl (Nat.le_of_ble_eq_true rfl) dX0_isAsFar_2 ⟨Nat.zero_le _, Nat.zero_le _⟩ ?_
  refine lv_istore_n (lv' := [(3, .int v1), (0, .ref ob), (1, .int p0), (2, .int p1)]) hx hb dX0_isAsFar_5 rfl hl (by decide) rfl (fun ls hl => ?_)
  refine lv_aload_n hx hb dX0_isAsFar_6 rfl (lv_at hl 1 rfl) ?_
  refine lv_iload_n hx hb dX0_isAsFar_7 rfl (lv_at hl 3 rfl) ?_
  obtain ⟨v2, hv2, h⟩ := bdP_some h
  refine call_VP (As := [.int p1]) (rest := []) ⟨hx, hb, hml, hown, hts⟩ (tX0_lastTerm (l := l) (dC := dC) (dI := dI) (cI := cI) (ob := ob) (q := q) hv2) (cwV 1 hts gX0_isAsFar_X0_lastTerm rfl rfl rfl (by decide +kernel) ⟨Nat.le_of_ble_eq_true rfl, Nat.le_of_ble_eq_true rfl⟩) hK hP 0 rfl rfl (by rfl) hl.1 rfl (Nat.le_of_ble_eq_true rfl) dX0_isAsFar_8 ⟨Nat.zero_le _, Nat.zero_le _⟩ ?_
  refine lv_istore (lv' := [(4, .int v2), (3, .int v1), (0, .ref ob), (1, .int p0), (2, .int p1)]) hx hb dX0_isAsFar_11 hl (by decide) rfl (fun ls hl => ?_)
  refine lv_iload_n hx hb dX0_isAsFar_13 rfl (lv_at hl 1 rfl) ?_
  refine lv_iload hx hb dX0_isAsFar_14 (lv_at hl 0 rfl) ?_
  refine lv_icmp_gt (tgt := 40) hx hb dX0_isAsFar_16 (by decide) (fun c3 => ?_) (fun c3 => ?_)
  · replace h := if_p c3 h
    exact t_40  h (lv_sub hl [] rfl)
  · replace h := if_n c3 h
    refine lv_iload_n hx hb dX0_isAsFar_19 rfl (lv_at hl 1 rfl) ?_
    refine lv_iload hx hb dX0_isAsFar_20 (lv_at hl 0 rfl) ?_
    refine lv_icmp_ne (tgt := 44) hx hb dX0_isAsFar_22 (by decide) (fun c4 => ?_) (fun c4 => ?_)
    · replace h := if_n c4 h
      exact t_44  h (lv_sub hl [] rfl)
    · replace h := if_p c4 h
      refine lv_aload_n hx hb dX0_isAsFar_25 rfl (lv_at hl 2 rfl) ?_
      refine va_get (D := (dC, dI)) (ci := 1) (v := .ref (q 5)) (C := RX0) (T := TX0) (N := 16) hx hb hts hwX0 hown hK hP 0 rfl rfl 5 (by decide) hf_27 (fun _ h9 => h9) rfl dX0_isAsFar_26 ?_
      refine lv_iload_n hx hb dX0_isAsFar_29 rfl (lv_at hl 3 rfl) ?_
      obtain ⟨hi6, v5, ev5, h⟩ := rdA_some h
      refine k_iald hx hb hK hP 6 0 rfl rfl hi6 ev5 dX0_isAsFar_30 ?_
      refine lv_aload_n hx hb dX0_isAsFar_31 rfl (lv_at hl 2 rfl) ?_
      refine va_get (D := (dC, dI)) (ci := 1) (v := .ref (q 5)) (C := RX0) (T := TX0) (N := 16) hx hb hts hwX0 hown hK hP 0 rfl rfl 5 (by decide) hf_27 (fun _ h9 => h9) rfl dX0_isAsFar_32 ?_
      refine lv_iload_n hx hb dX0_isAsFar_35 rfl (lv_at hl 4 rfl) ?_
      obtain ⟨hi8, v7, ev7, h⟩ := rdA_some h
      refine k_iald hx hb hK hP 6 0 rfl rfl hi8 ev7 dX0_isAsFar_36 ?_
      refine lv_icmp_lt (tgt := 44) hx hb dX0_isAsFar_37 (by decide) (fun c9 => ?_) (fun c9 => ?_)
      · replace h := if_p c9 h
        exact t_44  h (lv_sub hl [] rfl)
      · replace h := if_n c9 h
        exact t_40  h (lv_sub hl [] rfl)
def mX0_takeTerm (N : Nat) (K : KT) (p0 : Int32) (p1 : Int32) : Option (Int32 × KT) := wrA K 0 5 p0 p1 (fun K1 => wrA K1 1 5 p0 ((-4)) (fun K3 => wrA K3 2 5 p0 0 (fun K5 => some (0, K5))))
def rmX0_takeTerm : Room := { frames := 1, cells := 0, slots := 0, locals := 40 }
set_option maxHeartbeats 4000000 in
set_option maxRecDepth 100000 in
theorem tX0_takeTerm {l : Launch} {dC : Nat → ClassId} {dI : Nat → Nat → Nat} {cI : ClassId} {ob : Nat} {q : Nat → Nat} {N : Nat} {K : KT} {p0 : Int32} {p1 : Int32} {rr : Int32} {KK : KT} (hf : mX0_takeTerm N K p0 p1 = some (rr, KK)) : Met l yX0_takeTerm wsX0_takeTerm rmX0_takeTerm (cPe (dC, dI) vwCl [(cI, .int)] (cvL ob q) (cvW cI ob q K) [.ref ob, .int p0, .int p1]) (cEv (dC, dI) vwCl (cvL ob q) (cvW cI ob q KK)) 0 0 (aL (cvL ob q)) := by
  refine Met.ofW (cc := cX0_takeTerm) (maxL := 3) (ret := none) (by decide) rfl ?_
  intro p e s m args below meth c s₁ B hml hv
  obtain ⟨rfl, hP, hK, hD⟩ := hv
  have hx := B.exec
  have hb := B.bytes
  have hr := B.returns
  have hts := atoms_spec (ws := wsX0_takeTerm) B.pre
  have hown : s.vm.findClass RX0 = some m.cls := findClass_of_methodNamed B.named
  have hlocks := B.notSynchronized
  have hwX0 : ∀ w ∈ u_ws RX0 TX0 16, w ∈ wsX0_takeTerm := by decide +kernel
  have hf_9 := hts (.fieldLink RX0 9 "CaravanLogs$Caravan" "term" "[I") (by decide +kernel)
  have hf_15 := hts (.fieldLink RX0 15 "CaravanLogs$Caravan" "vote" "[I") (by decide +kernel)
  have hf_18 := hts (.fieldLink RX0 18 "CaravanLogs$Caravan" "isCaptain" "[I") (by decide +kernel)
  have hS : va_S (aL (cvL ob q)) s.heap s.heap [] := va_S.rf
  have hl := lv_entry ([.ref ob, .int p0, .int p1]) (n := 3) (Nat.le_of_ble_eq_true rfl)
  rw [lg_entry_eq]
  generalize (lg_sl ([.ref ob, .int p0, .int p1]) ++ List.replicate (3 - (lg_sl ([.ref ob, .int p0, .int p1])).length) Slot.unset).toArray = ls at hl ⊢
  have hl : lv_has ls 3 [(0, .ref ob), (1, .int p0), (2, .int p1)] := hl
  have h := hf
  unfold mX0_takeTerm at h
  refine lv_aload_n hx hb dX0_takeTerm_0 rfl (lv_at hl 0 rfl) ?_
  refine va_get (D := (dC, dI)) (ci := 1) (v := .ref (q 0)) (C := RX0) (T := TX0) (N := 16) hx hb hts hwX0 hown hK hP 0 rfl rfl 0 (by decide) hf_9 (fun _ h9 => h9) rfl dX0_takeTerm_1 ?_
  refine lv_iload_n hx hb dX0_takeTerm_4 rfl (lv_at hl 1 rfl) ?_
  refine lv_iload_n hx hb dX0_takeTerm_5 rfl (lv_at hl 2 rfl) ?_
  obtain ⟨hi2, K1, eK1, h⟩ := wrA_some h
  refine va_iast hx hb hK hP hD hS 1 0 rfl rfl hi2 dX0_takeTerm_6 (fun H locs hP hD hS => ?_)
  have hP : va_P (dC, dI) vwCl (cvW cI ob q K1) H := by rw [eK1]; exact hP
  have hD : va_D (aL (cvL ob q)) (cvW cI ob q K1) := by rw [eK1]; exact hD
  refine lv_aload_n hx hb dX0_takeTerm_7 rfl (lv_at hl 0 rfl) ?_
  refine va_get (D := (dC, dI)) (ci := 1) (v := .ref (q 1)) (C := RX0) (T := TX0) (N := 16) hx hb hts hwX0 hown hK hP 0 rfl rfl 1 (by decide) hf_15 (fun _ h9 => h9) rfl dX0_takeTerm_8 ?_
  refine lv_iload_n hx hb dX0_takeTerm_11 rfl (lv_at hl 1 rfl) ?_
  refine lv_bipush (v := (-4)) hx hb dX0_takeTerm_12 (by decide) ?_
  obtain ⟨hi4, K3, eK3, h⟩ := wrA_some h
  refine va_iast hx hb hK hP hD hS 2 0 rfl rfl hi4 dX0_takeTerm_14 (fun H locs hP hD hS => ?_)
  have hP : va_P (dC, dI) vwCl (cvW cI ob q K3) H := by rw [eK3]; exact hP
  have hD : va_D (aL (cvL ob q)) (cvW cI ob q K3) := by rw [eK3]; exact hD
  refine lv_aload_n hx hb dX0_takeTerm_15 rfl (lv_at hl 0 rfl) ?_
  refine va_get (D := (dC, dI)) (ci := 1) (v := .ref (q 2)) (C := RX0) (T := TX0) (N := 16) hx hb hts hwX0 hown hK hP 0 rfl rfl 2 (by decide) hf_18 (fun _ h9 => h9) rfl dX0_takeTerm_16 ?_
  refine lv_iload_n hx hb dX0_takeTerm_19 rfl (lv_at hl 1 rfl) ?_
  refine lv_iconst (v := 0) hx hb dX0_takeTerm_20 (by decide) ?_
  obtain ⟨hi6, K5, eK5, h⟩ := wrA_some h
  refine va_iast hx hb hK hP hD hS 3 0 rfl rfl hi6 dX0_takeTerm_21 (fun H locs hP hD hS => ?_)
  have hP : va_P (dC, dI) vwCl (cvW cI ob q K5) H := by rw [eK5]; exact hP
  have hD : va_D (aL (cvL ob q)) (cvW cI ob q K5) := by rw [eK5]; exact hD
  exact W.vret hx hb hr (fun t ht _ => retEv (w := cvW cI ob q) h hP hD hS ht) hS.2.2 dX0_takeTerm_22
def fX0_isWaiting_24 (N : Nat) (K : KT)  (y0 : Int32) : Option Int32 := gd (y0 = 0 ∨ y0 = 1) (some y0)
def fX0_isWaiting_23 (N : Nat) (K : KT)   : Option Int32 := fX0_isWaiting_24 N K  0
def mX0_isWaiting (N : Nat) (K : KT) (p0 : Int32) : Option Int32 := rdA (K 3) 5 p0 (fun v1 => (if v1 = 1 then rdA (K 2) 5 p0 (fun v4 => (if v4 = 0 then fX0_isWaiting_24 N K  1 else fX0_isWaiting_23 N K  )) else fX0_isWaiting_23 N K  ))
def rmX0_isWaiting : Room := { frames := 1, cells := 0, slots := 0, locals := 40 }
set_option maxHeartbeats 4000000 in
set_option maxRecDepth 100000 in
theorem tX0_isWaiting {l : Launch} {dC : Nat → ClassId} {dI : Nat → Nat → Nat} {cI : ClassId} {ob : Nat} {q : Nat → Nat} {N : Nat} {K : KT} {p0 : Int32} {rr : Int32} (hf : mX0_isWaiting N K p0 = some rr) : Met l yX0_isWaiting wsX0_isWaiting rmX0_isWaiting (cP (dC, dI) vwCl [(cI, .int)] (cvW cI ob q K) [.ref ob, .int p0]) (cQp rr) 0 0 (fun _ => False) := by
  refine Met.ofW (cc := cX0_isWaiting) (maxL := 2) (ret := (some .boolean)) (by decide) rfl ?_
  intro p e s m args below meth c s₁ B hml hv
  obtain ⟨rfl, hP, hK⟩ := hv
  have hx := B.exec
  have hb := B.bytes
  have hr := B.returns
  have hts := atoms_spec (ws := wsX0_isWaiting) B.pre
  have hown : s.vm.findClass RX0 = some m.cls := findClass_of_methodNamed B.named
  have hlocks := B.notSynchronized
  have hwX0 : ∀ w ∈ u_ws RX0 TX0 16, w ∈ wsX0_isWaiting := by decide +kernel
  have hf_18 := hts (.fieldLink RX0 18 "CaravanLogs$Caravan" "isCaptain" "[I") (by decide +kernel)
  have hf_21 := hts (.fieldLink RX0 21 "CaravanLogs$Caravan" "isAwake" "[I") (by decide +kernel)
  have t_24 : ∀ {y0 : Int32} {ls : Array Slot} (h : fX0_isWaiting_24 N K  y0 = some rr) (hl : lv_has ls 2 []), W p l e (headSpec wsX0_isWaiting rmX0_isWaiting).room s m ([.ref ob, .int p0] : List Value).toArray below meth c s.heap [] 0 0 (MQ below (cQp rr) ([.ref ob, .int p0] : List Value).toArray s 0 0 (fun _ => False)) (F0 m 24 ls [.int y0]) := by
    intro  y0 ls h hl
    unfold fX0_isWaiting_24 at h
    obtain ⟨hz, h⟩ := gd_some h
    exact W.zret hx hb hr (zb_ok hz) (fun t ht _ => retP h ht) (fun _ h9 => absurd h9 List.not_mem_nil) dX0_isWaiting_24
  have t_23 : ∀  {ls : Array Slot} (h : fX0_isWaiting_23 N K   = some rr) (hl : lv_has ls 2 []), W p l e (headSpec wsX0_isWaiting rmX0_isWaiting).room s m ([.ref ob, .int p0] : List Value).toArray below meth c s.heap [] 0 0 (MQ below (cQp rr) ([.ref ob, .int p0] : List Value).toArray s 0 0 (fun _ => False)) (F0 m 23 ls []) := by
    intro   ls h hl
    unfold fX0_isWaiting_23 at h
    refine lv_iconst (v := 0) hx hb dX0_isWaiting_23 (by decide) ?_
    exact t_24  h (lv_sub hl [] rfl)
  have hl := lv_entry ([.ref ob, .int p0]) (n := 2) (Nat.le_of_ble_eq_true rfl)
  rw [lg_entry_eq]
  generalize (lg_sl ([.ref ob, .int p0]) ++ List.replicate (2 - (lg_sl ([.ref ob, .int p0])).length) Slot.unset).toArray = ls at hl ⊢
  have hl : lv_has ls 2 [(0, .ref ob), (1, .int p0)] := hl
  have h := hf
  unfold mX0_isWaiting at h
  refine lv_aload_n hx hb dX0_isWaiting_0 rfl (lv_at hl 0 rfl) ?_
  refine va_get (D := (dC, dI)) (ci := 1) (v := .ref (q 3)) (C := RX0) (T := TX0) (N := 16) hx hb hts hwX0 hown hK hP 0 rfl rfl 3 (by decide) hf_21 (fun _ h9 => h9) rfl dX0_isWaiting_1 ?_
  refine lv_iload_n hx hb dX0_isWaiting_4 rfl (lv_at hl 1 rfl) ?_
  obtain ⟨hi2, v1, ev1, h⟩ := rdA_some h
  refine k_iald hx hb hK hP 4 0 rfl rfl hi2 ev1 dX0_isWaiting_5 ?_
  refine lv_iconst (v := 1) hx hb dX0_isWaiting_6 (by decide) ?_
  refine lv_icmp_ne (tgt := 23) hx hb dX0_isWaiting_7 (by decide) (fun c3 => ?_) (fun c3 => ?_)
  · replace h := if_n c3 h
    exact t_23  h (lv_sub hl [] rfl)
  · replace h := if_p c3 h
    refine lv_aload_n hx hb dX0_isWaiting_10 rfl (lv_at hl 0 rfl) ?_
    refine va_get (D := (dC, dI)) (ci := 1) (v := .ref (q 2)) (C := RX0) (T := TX0) (N := 16) hx hb hts hwX0 hown hK hP 0 rfl rfl 2 (by decide) hf_18 (fun _ h9 => h9) rfl dX0_isWaiting_11 ?_
    refine lv_iload_n hx hb dX0_isWaiting_14 rfl (lv_at hl 1 rfl) ?_
    obtain ⟨hi5, v4, ev4, h⟩ := rdA_some h
    refine k_iald hx hb hK hP 3 0 rfl rfl hi5 ev4 dX0_isWaiting_15 ?_
    refine lv_if_ne (tgt := 23) hx hb dX0_isWaiting_16 (by decide) (fun c6 => ?_) (fun c6 => ?_)
    · replace h := if_n c6 h
      exact t_23  h (lv_sub hl [] rfl)
    · replace h := if_p c6 h
      refine lv_iconst (v := 1) hx hb dX0_isWaiting_19 (by decide) ?_
      refine lv_goto (tgt := 24) hx hb dX0_isWaiting_20 (by decide) ?_
      exact t_24  h (lv_sub hl [] rfl)
