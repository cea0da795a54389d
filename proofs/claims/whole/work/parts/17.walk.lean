def fX3_marches_27 (N : Nat)  (K : KT) (y0 : Int32) : Option (Int32 × KT) := some (y0, K)
def mX3_marches (N : Nat) (K : KT) (p0 : Int32) : Option (Int32 × KT) := bdP (mX3_isCamp N p0) (fun v1 => (if v1 = 0 then some ((-1), K) else bdE (mX3_lacks N K p0) (fun v3 K4 => (if 0 ≤ v3 then bdE (mX3_goes N K4 p0) (fun v6 K7 => fX3_marches_27 N  K7 v6) else fX3_marches_27 N  K4 ((-3))))))
def rmX3_marches : Room := { frames := 7, cells := 0, slots := 0, locals := 180 }
set_option maxHeartbeats 4000000 in
set_option maxRecDepth 100000 in
theorem tX3_marches {l : Launch} {dC : Nat → ClassId} {dI : Nat → Nat → Nat} {cI : ClassId} {cC : ClassId} {ob : Nat} {q : Nat → Nat} {N : Nat} {K : KT} {p0 : Int32} {rr : Int32} {KK : KT} (hf : mX3_marches N K p0 = some (rr, KK)) : Met l yX3_marches wsX3_marches rmX3_marches (cPe (dC, dI) vwCl [(cI, .int), (cC, .char)] (mdL ob q) (mdW cI cC ob q K) [.ref ob, .int p0]) (cE (dC, dI) vwCl (mdL ob q) rr (mdW cI cC ob q KK)) 0 0 (aL (mdL ob q)) := by
  refine Met.ofW (cc := cX3_marches) (maxL := 2) (ret := (some .int)) (by decide) rfl ?_
  intro p e s m args below meth c s₁ B hml hv
  obtain ⟨rfl, hP, hK, hD⟩ := hv
  have hx := B.exec
  have hb := B.bytes
  have hr := B.returns
  have hts := atoms_spec (ws := wsX3_marches) B.pre
  have hown : s.vm.findClass RX3 = some m.cls := findClass_of_methodNamed B.named
  have hlocks := B.notSynchronized
  have t_27 : ∀ {K : KT} {y0 : Int32} {H : Heap} {locs : List Loc} {ls : Array Slot} (h : fX3_marches_27 N  K y0 = some (rr, KK)) (hl : lv_has ls 2 []) (hP : va_P (dC, dI) vwCl (mdW cI cC ob q K) H) (hD : va_D (aL (mdL ob q)) (mdW cI cC ob q K)) (hS : va_S (aL (mdL ob q)) s.heap H locs), W p l e (headSpec wsX3_marches rmX3_marches).room s m ([.ref ob, .int p0] : List Value).toArray below meth c H locs 0 0 (MQ below (cE (dC, dI) vwCl (mdL ob q) rr (mdW cI cC ob q KK)) ([.ref ob, .int p0] : List Value).toArray s 0 0 (aL (mdL ob q))) (F0 m 27 ls [.int y0]) := by
    intro  K y0 H locs ls h hl hP hD hS
    unfold fX3_marches_27 at h
    exact W.iret hx hb hr (fun t ht _ => retE (w := mdW cI cC ob q) h hP hD hS ht) hS.2.2 dX3_marches_27
  have hS : va_S (aL (mdL ob q)) s.heap s.heap [] := va_S.rf
  have hl := lv_entry ([.ref ob, .int p0]) (n := 2) (Nat.le_of_ble_eq_true rfl)
  rw [lg_entry_eq]
  generalize (lg_sl ([.ref ob, .int p0]) ++ List.replicate (2 - (lg_sl ([.ref ob, .int p0])).length) Slot.unset).toArray = ls at hl ⊢
  have hl : lv_has ls 2 [(0, .ref ob), (1, .int p0)] := hl
  have h := hf
  unfold mX3_marches at h
  refine lv_iload_n hx hb dX3_marches_0 rfl (lv_at hl 1 rfl) ?_
  obtain ⟨v1, hv1, h⟩ := bdP_some h
  refine call_SP (As := [.int p0]) (rest := []) ⟨hx, hb, hml, hown, hts⟩ (tX3_isCamp (l := l) hv1) (va_cwS 1 hts gX3_marches_X3_isCamp rfl rfl rfl (by decide +kernel) ⟨Nat.le_of_ble_eq_true rfl, Nat.le_of_ble_eq_true rfl⟩) (by rfl) hl.1 rfl (Nat.le_of_ble_eq_true rfl) dX3_marches_1 ⟨Nat.zero_le _, Nat.zero_le _⟩ ?_
  refine lv_if_ne (tgt := 9) hx hb dX3_marches_4 (by decide) (fun c2 => ?_) (fun c2 => ?_)
  · replace h := if_n c2 h
    refine lv_aload_n hx hb dX3_marches_9 rfl (lv_at hl 0 rfl) ?_
    refine lv_iload_n hx hb dX3_marches_10 rfl (lv_at hl 1 rfl) ?_
    obtain ⟨v3, K4, hv3, h⟩ := bdE_some h
    refine call_VE (As := [.int p0]) (rest := []) ⟨hx, hb, hml, hown, hts⟩ (tX3_lacks (l := l) (dC := dC) (dI := dI) (cI := cI) (cC := cC) (ob := ob) (q := q) hv3) (cwV 1 hts gX3_marches_X3_lacks rfl rfl rfl (by decide +kernel) ⟨Nat.le_of_ble_eq_true rfl, Nat.le_of_ble_eq_true rfl⟩) hK hP hD hS (fun _ h9 => h9) 0 rfl rfl (by rfl) hl.1 rfl (Nat.le_of_ble_eq_true rfl) dX3_marches_11 ⟨Nat.zero_le _, Nat.zero_le _⟩ (fun H locs hP hD _ hS => ?_)
    refine lv_if_ge (tgt := 22) hx hb dX3_marches_14 (by decide) (fun c5 => ?_) (fun c5 => ?_)
    · replace h := if_p c5 h
      refine lv_aload_n hx hb dX3_marches_22 rfl (lv_at hl 0 rfl) ?_
      refine lv_iload_n hx hb dX3_marches_23 rfl (lv_at hl 1 rfl) ?_
      obtain ⟨v6, K7, hv6, h⟩ := bdE_some h
      refine call_VE (As := [.int p0]) (rest := []) ⟨hx, hb, hml, hown, hts⟩ (tX3_goes (l := l) (dC := dC) (dI := dI) (cI := cI) (cC := cC) (ob := ob) (q := q) hv6) (cwV 1 hts gX3_marches_X3_goes rfl rfl rfl (by decide +kernel) ⟨Nat.le_of_ble_eq_true rfl, Nat.le_of_ble_eq_true rfl⟩) hK hP hD hS (fun _ h9 => h9) 0 rfl rfl (by rfl) hl.1 rfl (Nat.le_of_ble_eq_true rfl) dX3_marches_24 ⟨Nat.zero_le _, Nat.zero_le _⟩ (fun H locs hP hD _ hS => ?_)
      exact t_27  h (lv_sub hl [] rfl) hP hD hS
    · replace h := if_n c5 h
      refine lv_bipush (v := (-3)) hx hb dX3_marches_17 (by decide) ?_
      refine lv_goto (tgt := 27) hx hb dX3_marches_19 (by decide) ?_
      exact t_27  h (lv_sub hl [] rfl) hP hD hS
  · replace h := if_p c2 h
    refine lv_iconst (v := (-1)) hx hb dX3_marches_7 (by decide) ?_
    exact W.iret hx hb hr (fun t ht _ => retE (w := mdW cI cC ob q) h hP hD hS ht) hS.2.2 dX3_marches_8
def mX3_march (N : Nat) (K : KT) (p0 : Int32) : Option (Int32 × KT) := bdE (mX3_tries N K ) (fun v1 K2 => bdE (mX3_marches N K2 p0) (fun v3 K4 => bdE (mX3_ends N K4 v3) (fun v5 K6 => some (v5, K6))))
def rmX3_march : Room := { frames := 8, cells := 0, slots := 0, locals := 201 }
set_option maxHeartbeats 4000000 in
set_option maxRecDepth 100000 in
theorem tX3_march {l : Launch} {dC : Nat → ClassId} {dI : Nat → Nat → Nat} {cI : ClassId} {cC : ClassId} {ob : Nat} {q : Nat → Nat} {N : Nat} {K : KT} {p0 : Int32} {rr : Int32} {KK : KT} (hf : mX3_march N K p0 = some (rr, KK)) : Met l yX3_march wsX3_march rmX3_march (cPe (dC, dI) vwCl [(cI, .int), (cC, .char)] (mdL ob q) (mdW cI cC ob q K) [.ref ob, .int p0]) (cE (dC, dI) vwCl (mdL ob q) rr (mdW cI cC ob q KK)) 0 0 (aL (mdL ob q)) := by
  refine Met.ofW (cc := cX3_march) (maxL := 2) (ret := (some .int)) (by decide) rfl ?_
  intro p e s m args below meth c s₁ B hml hv
  obtain ⟨rfl, hP, hK, hD⟩ := hv
  have hx := B.exec
  have hb := B.bytes
  have hr := B.returns
  have hts := atoms_spec (ws := wsX3_march) B.pre
  have hown : s.vm.findClass RX3 = some m.cls := findClass_of_methodNamed B.named
  have hlocks := B.notSynchronized
  have hS : va_S (aL (mdL ob q)) s.heap s.heap [] := va_S.rf
  have hl := lv_entry ([.ref ob, .int p0]) (n := 2) (Nat.le_of_ble_eq_true rfl)
  rw [lg_entry_eq]
  generalize (lg_sl ([.ref ob, .int p0]) ++ List.replicate (2 - (lg_sl ([.ref ob, .int p0])).length) Slot.unset).toArray = ls at hl ⊢
  have hl : lv_has ls 2 [(0, .ref ob), (1, .int p0)] := hl
  have h := hf
  unfold mX3_march at h
  refine lv_aload_n hx hb dX3_march_0 rfl (lv_at hl 0 rfl) ?_
  obtain ⟨v1, K2, hv1, h⟩ := bdE_some h
  refine call_VEv (As := []) (rest := []) ⟨hx, hb, hml, hown, hts⟩ (tX3_tries (l := l) (dC := dC) (dI := dI) (cI := cI) (cC := cC) (ob := ob) (q := q) hv1) (cwV 0 hts gX3_march_X3_tries rfl rfl rfl (by decide +kernel) ⟨Nat.le_of_ble_eq_true rfl, Nat.le_of_ble_eq_true rfl⟩) hK hP hD hS (fun _ h9 => h9) 0 rfl rfl (by rfl) hl.1 rfl (Nat.le_of_ble_eq_true rfl) dX3_march_1 ⟨Nat.zero_le _, Nat.zero_le _⟩ (fun H locs hP hD _ hS => ?_)
  refine lv_aload_n hx hb dX3_march_4 rfl (lv_at hl 0 rfl) ?_
  refine lv_aload_n hx hb dX3_march_5 rfl (lv_at hl 0 rfl) ?_
  refine lv_iload_n hx hb dX3_march_6 rfl (lv_at hl 1 rfl) ?_
  obtain ⟨v3, K4, hv3, h⟩ := bdE_some h
  refine call_VE (As := [.int p0]) (rest := [.ref ob]) ⟨hx, hb, hml, hown, hts⟩ (tX3_marches (l := l) (dC := dC) (dI := dI) (cI := cI) (cC := cC) (ob := ob) (q := q) hv3) (cwV 1 hts gX3_march_X3_marches rfl rfl rfl (by decide +kernel) ⟨Nat.le_of_ble_eq_true rfl, Nat.le_of_ble_eq_true rfl⟩) hK hP hD hS (fun _ h9 => h9) 0 rfl rfl (by rfl) hl.1 rfl (Nat.le_of_ble_eq_true rfl) dX3_march_7 ⟨Nat.zero_le _, Nat.zero_le _⟩ (fun H locs hP hD _ hS => ?_)
  obtain ⟨v5, K6, hv5, h⟩ := bdE_some h
  refine call_VE (As := [.int v3]) (rest := []) ⟨hx, hb, hml, hown, hts⟩ (tX3_ends (l := l) (dC := dC) (dI := dI) (cI := cI) (cC := cC) (ob := ob) (q := q) hv5) (cwV 1 hts gX3_march_X3_ends rfl rfl rfl (by decide +kernel) ⟨Nat.le_of_ble_eq_true rfl, Nat.le_of_ble_eq_true rfl⟩) hK hP hD hS (fun _ h9 => h9) 0 rfl rfl (by rfl) hl.1 rfl (Nat.le_of_ble_eq_true rfl) dX3_march_10 ⟨Nat.zero_le _, Nat.zero_le _⟩ (fun H locs hP hD _ hS => ?_)
  exact W.iret hx hb hr (fun t ht _ => retE (w := mdW cI cC ob q) h hP hD hS ht) hS.2.2 dX3_march_13
def fX3_openRoads_5 (N : Nat) (K : KT)  : Nat → Int32 → Int32 → Option Int32
  | 0, _, _ => none
  | n + 1, x1, x2 => (if 25 ≤ x2 then some x1 else rdA (K 0) 186 (6 + x2) (fun v2 => (fX3_openRoads_5 N K  n) (x1 - v2) (x2 + 1)))
def mX3_openRoads (N : Nat) (K : KT)  : Option Int32 := fX3_openRoads_5 N K  N 10 0
def rmX3_openRoads : Room := { frames := 1, cells := 0, slots := 0, locals := 40 }
set_option maxHeartbeats 4000000 in
set_option maxRecDepth 100000 in
theorem tX3_openRoads {l : Launch} {dC : Nat → ClassId} {dI : Nat → Nat → Nat} {cI : ClassId} {cC : ClassId} {ob : Nat} {q : Nat → Nat} {N : Nat} {K : KT}  {rr : Int32} (hf : mX3_openRoads N K  = some rr) : Met l yX3_openRoads wsX3_openRoads rmX3_openRoads (cP (dC, dI) vwCl [(cI, .int), (cC, .char)] (mdW cI cC ob q K) [.ref ob]) (cQp rr) 0 0 (fun _ => False) := by
  refine Met.ofW (cc := cX3_openRoads) (maxL := 3) (ret := (some .int)) (by decide) rfl ?_
  intro p e s m args below meth c s₁ B hml hv
  obtain ⟨rfl, hP, hK⟩ := hv
  have hx := B.exec
  have hb := B.bytes
  have hr := B.returns
  have hts := atoms_spec (ws := wsX3_openRoads) B.pre
  have hown : s.vm.findClass RX3 = some m.cls := findClass_of_methodNamed B.named
  have hlocks := B.notSynchronized
  have hwX3 : ∀ w ∈ u_ws RX3 TX3 17, w ∈ wsX3_openRoads := by decide +kernel
  have hf_9 := hts (.fieldLink RX3 9 "CaravanLogsModel" "now" "[I") (by decide +kernel)
  have t_5 : ∀ {n : Nat}, ∀ {x1 : Int32} {x2 : Int32} {ls : Array Slot} (h : fX3_openRoads_5 N K  n x1 x2 = some rr) (hl : lv_has ls 3 [(0, .ref ob), (1, .int x1), (2, .int x2)]), W p l e (headSpec wsX3_openRoads rmX3_openRoads).room s m ([.ref ob] : List Value).toArray below meth c s.heap [] 0 0 (MQ below (cQp rr) ([.ref ob] : List Value).toArray s 0 0 (fun _ => False)) (F0 m 5 ls []) := by
    intro  n
    induction n with
    | zero =>
      intro x1 x2 ls h hl
      unfold fX3_openRoads_5 at h
      cases h
    | succ n ih =>
      intro x1 x2 ls h hl
      unfold fX3_openRoads_5 at h
      refine lv_iload_n hx hb dX3_openRoads_5 rfl (lv_at hl 2 rfl) ?_
      refine lv_bipush (v := 25) hx hb dX3_openRoads_6 (by decide) ?_
      refine lv_icmp_ge (tgt := 29) hx hb dX3_openRoads_8 (by decide) (fun c1 => ?_) (fun c1 => ?_)
      · replace h := if_p c1 h
        refine lv_iload_n hx hb dX3_openRoads_29 rfl (lv_at hl 1 rfl) ?_
        exact W.iret hx hb hr (fun t ht _ => retP h ht) (fun _ h9 => absurd h9 List.not_mem_nil) dX3_openRoads_30
      · replace h := if_n c1 h
        refine lv_iload_n hx hb dX3_openRoads_11 rfl (lv_at hl 1 rfl) ?_
        refine lv_aload_n hx hb dX3_openRoads_12 rfl (lv_at hl 0 rfl) ?_
        refine va_get (D := (dC, dI)) (ci := 4) (v := .ref (q 0)) (C := RX3) (T := TX3) (N := 17) hx hb hts hwX3 hown hK hP 0 rfl rfl 0 (by decide) hf_9 (fun _ h9 => h9) rfl dX3_openRoads_13 ?_
        refine lv_bipush (v := 6) hx hb dX3_openRoads_16 (by decide) ?_
        refine lv_iload_n hx hb dX3_openRoads_18 rfl (lv_at hl 2 rfl) ?_
        refine lv_iadd hx hb dX3_openRoads_19 ?_
        obtain ⟨hi3, v2, ev2, h⟩ := rdA_some h
        refine k_iald hx hb hK hP 1 0 rfl rfl hi3 ev2 dX3_openRoads_20 ?_
        refine lv_isub hx hb dX3_openRoads_21 ?_
        refine lv_istore_n (lv' := [(1, .int (x1 - v2)), (0, .ref ob), (2, .int x2)]) hx hb dX3_openRoads_22 rfl hl (by decide) rfl (fun ls hl => ?_)
        refine lv_iinc (v := x2 + 1) (lv' := [(2, .int (x2 + 1)), (1, .int (x1 - v2)), (0, .ref ob)]) hx hb dX3_openRoads_23 hl (k := 2) rfl rfl (by decide) rfl (fun ls hl => ?_)
        refine lv_goto (tgt := 5) hx hb dX3_openRoads_26 (by decide) ?_
        exact ih h (lv_sub hl [2, 1, 0] rfl)
  have hl := lv_entry ([.ref ob]) (n := 3) (Nat.le_of_ble_eq_true rfl)
  rw [lg_entry_eq]
  generalize (lg_sl ([.ref ob]) ++ List.replicate (3 - (lg_sl ([.ref ob])).length) Slot.unset).toArray = ls at hl ⊢
  have hl : lv_has ls 3 [(0, .ref ob)] := hl
  have h := hf
  unfold mX3_openRoads at h
  refine lv_bipush (v := 10) hx hb dX3_openRoads_0 (by decide) ?_
  refine lv_istore_n (lv' := [(1, .int 10), (0, .ref ob)]) hx hb dX3_openRoads_2 rfl hl (by decide) rfl (fun ls hl => ?_)
  refine lv_iconst (v := 0) hx hb dX3_openRoads_3 (by decide) ?_
  refine lv_istore_n (lv' := [(2, .int 0), (1, .int 10), (0, .ref ob)]) hx hb dX3_openRoads_4 rfl hl (by decide) rfl (fun ls hl => ?_)
  exact t_5  h (lv_sub hl [2, 1, 0] rfl)
def fX3_opens_14 (N : Nat)  (K : KT)  : Option (Int32 × KT) := some ((-1), K)
def mX3_opens (N : Nat) (K : KT) (p0 : Int32) (p1 : Int32) (p2 : Int32) : Option (Int32 × KT) := bdP (mX3_isCamp N p0) (fun v1 => (if v1 = 0 then fX3_opens_14 N  K  else bdP (mX3_isCamp N p1) (fun v3 => (if v3 = 0 then fX3_opens_14 N  K  else bdP (mX3_in N p2 0 1) (fun v5 => (if v5 = 0 then some ((-2), K) else (if p0 = p1 then bdE (mX3_refuses N K 4 p0) (fun v18 K19 => some (v18, K19)) else bdP (mX3_road N p0 p1) (fun v8 => rdA (K 0) 186 v8 (fun v9 => (if v9 = (1 - p2) then bdE (mX3_refuses N K 5 p2) (fun v16 K17 => some (v16, K17)) else bdP (mX3_road N p0 p1) (fun v12 => wrA K 0 186 v12 (1 - p2) (fun K13 => bdP (mX3_openRoads N K13 ) (fun v15 => some (v15, K13))))))))))))))
def rmX3_opens : Room := { frames := 3, cells := 0, slots := 0, locals := 82 }
set_option maxHeartbeats 4000000 in
set_option maxRecDepth 100000 in
theorem tX3_opens {l : Launch} {dC : Nat → ClassId} {dI : Nat → Nat → Nat} {cI : ClassId} {cC : ClassId} {ob : Nat} {q : Nat → Nat} {N : Nat} {K : KT} {p0 : Int32} {p1 : Int32} {p2 : Int32} {rr : Int32} {KK : KT} (hf : mX3_opens N K p0 p1 p2 = some (rr, KK)) : Met l yX3_opens wsX3_opens rmX3_opens (cPe (dC, dI) vwCl [(cI, .int), (cC, .char)] (mdL ob q) (mdW cI cC ob q K) [.ref ob, .int p0, .int p1, .int p2]) (cE (dC, dI) vwCl (mdL ob q) rr (mdW cI cC ob q KK)) 0 0 (aL (mdL ob q)) := by
  refine Met.ofW (cc := cX3_opens) (maxL := 4) (ret := (some .int)) (by decide) rfl ?_
  intro p e s m args below meth c s₁ B hml hv
  obtain ⟨rfl, hP, hK, hD⟩ := hv
  have hx := B.exec
  have hb := B.bytes
  have hr := B.returns
  have hts := atoms_spec (ws := wsX3_opens) B.pre
  have hown : s.vm.findClass RX3 = some m.cls := findClass_of_methodNamed B.named
  have hlocks := B.notSynchronized
  have hwX3 : ∀ w ∈ u_ws RX3 TX3 17, w ∈ wsX3_opens := by decide +kernel
  have hf_9 := hts (.fieldLink RX3 9 "CaravanLogsModel" "now" "[I") (by decide +kernel)
  have t_14 : ∀ {K : KT}  {H : Heap} {locs : List Loc} {ls : Array Slot} (h : fX3_opens_14 N  K  = some (rr, KK)) (hl : lv_has ls 4 []) (hP : va_P (dC, dI) vwCl (mdW cI cC ob q K) H) (hD : va_D (aL (mdL ob q)) (mdW cI cC ob q K)) (hS : va_S (aL (mdL ob q)) s.heap H locs), W p l e (headSpec wsX3_opens rmX3_opens).room s m ([.ref ob, .int p0, .int p1, .int p2] : List Value).toArray below meth c H locs 0 0 (MQ below (cE (dC, dI) vwCl (mdL ob q) rr (mdW cI cC ob q KK)) ([.ref ob, .int p0, .int p1, .int p2] : List Value).toArray s 0 0 (aL (mdL ob q))) (F0 m 14 ls []) := by
    intro  K H locs ls h hl hP hD hS
    unfold fX3_opens_14 at h
    refine lv_iconst (v := (-1)) hx hb dX3_opens_14 (by decide) ?_
    exact W.iret hx hb hr (fun t ht _ => retE (w := mdW cI cC ob q) h hP hD hS ht) hS.2.2 dX3_opens_15
  have hS : va_S (aL (mdL ob q)) s.heap s.heap [] := va_S.rf
  have hl := lv_entry ([.ref ob, .int p0, .int p1, .int p2]) (n := 4) (Nat.le_of_ble_eq_true rfl)
  rw [lg_entry_eq]
  generalize (lg_sl ([.ref ob, .int p0, .int p1, .int p2]) ++ List.replicate (4 - (lg_sl ([.ref ob, .int p0, .int p1, .int p2])).length) Slot.unset).toArray = ls at hl ⊢
  have hl : lv_has ls 4 [(0, .ref ob), (1, .int p0), (2, .int p1), (3, .int p2)] := hl
  have h := hf
  unfold mX3_opens at h
  refine lv_iload_n hx hb dX3_opens_0 rfl (lv_at hl 1 rfl) ?_
  obtain ⟨v1, hv1, h⟩ := bdP_some h
  refine call_SP (As := [.int p0]) (rest := []) ⟨hx, hb, hml, hown, hts⟩ (tX3_isCamp (l := l) hv1) (va_cwS 1 hts gX3_opens_X3_isCamp rfl rfl rfl (by decide +kernel) ⟨Nat.le_of_ble_eq_true rfl, Nat.le_of_ble_eq_true rfl⟩) (by rfl) hl.1 rfl (Nat.le_of_ble_eq_true rfl) dX3_opens_1 ⟨Nat.zero_le _, Nat.zero_le _⟩ ?_
  refine lv_if_eq (tgt := 14) hx hb dX3_opens_4 (by decide) (fun c2 => ?_) (fun c2 => ?_)
  · replace h := if_p c2 h
    exact t_14  h (lv_sub hl [] rfl) hP hD hS
  · replace h := if_n c2 h
    refine lv_iload_n hx hb dX3_opens_7 rfl (lv_at hl 2 rfl) ?_
    obtain ⟨v3, hv3, h⟩ := bdP_some h
    refine call_SP (As := [.int p1]) (rest := []) ⟨hx, hb, hml, hown, hts⟩ (tX3_isCamp (l := l) hv3) (va_cwS 1 hts gX3_opens_X3_isCamp rfl rfl rfl (by decide +kernel) ⟨Nat.le_of_ble_eq_true rfl, Nat.le_of_ble_eq_true rfl⟩) (by rfl) hl.1 rfl (Nat.le_of_ble_eq_true rfl) dX3_opens_8 ⟨Nat.zero_le _, Nat.zero_le _⟩ ?_
    refine lv_if_ne (tgt := 16) hx hb dX3_opens_11 (by decide) (fun c4 => ?_) (fun c4 => ?_)
    · replace h := if_n c4 h
      refine lv_iload_n hx hb dX3_opens_16 rfl (lv_at hl 3 rfl) ?_
      refine lv_iconst (v := 0) hx hb dX3_opens_17 (by decide) ?_
      refine lv_iconst (v := 1) hx hb dX3_opens_18 (by decide) ?_
      obtain ⟨v5, hv5, h⟩ := bdP_some h
      refine call_SP (As := [.int p2, .int 0, .int 1]) (rest := []) ⟨hx, hb, hml, hown, hts⟩ (tX3_in (l := l) hv5) (va_cwS 3 hts gX3_opens_X3_in rfl rfl rfl (by decide +kernel) ⟨Nat.le_of_ble_eq_true rfl, Nat.le_of_ble_eq_true rfl⟩) (by rfl) hl.1 rfl (Nat.le_of_ble_eq_true rfl) dX3_opens_19 ⟨Nat.zero_le _, Nat.zero_le _⟩ ?_
      refine lv_if_ne (tgt := 28) hx hb dX3_opens_22 (by decide) (fun c6 => ?_) (fun c6 => ?_)
      · replace h := if_n c6 h
        refine lv_iload_n hx hb dX3_opens_28 rfl (lv_at hl 1 rfl) ?_
        refine lv_iload_n hx hb dX3_opens_29 rfl (lv_at hl 2 rfl) ?_
        refine lv_icmp_ne (tgt := 40) hx hb dX3_opens_30 (by decide) (fun c7 => ?_) (fun c7 => ?_)
        · replace h := if_n c7 h
          refine lv_aload_n hx hb dX3_opens_40 rfl (lv_at hl 0 rfl) ?_
          refine va_get (D := (dC, dI)) (ci := 4) (v := .ref (q 0)) (C := RX3) (T := TX3) (N := 17) hx hb hts hwX3 hown hK hP 0 rfl rfl 0 (by decide) hf_9 (fun _ h9 => h9) rfl dX3_opens_41 ?_
          refine lv_iload_n hx hb dX3_opens_44 rfl (lv_at hl 1 rfl) ?_
          refine lv_iload_n hx hb dX3_opens_45 rfl (lv_at hl 2 rfl) ?_
          obtain ⟨v8, hv8, h⟩ := bdP_some h
          refine call_SP (As := [.int p0, .int p1]) (rest := [.ref (q 0)]) ⟨hx, hb, hml, hown, hts⟩ (tX3_road (l := l) hv8) (va_cwS 2 hts gX3_opens_X3_road rfl rfl rfl (by decide +kernel) ⟨Nat.le_of_ble_eq_true rfl, Nat.le_of_ble_eq_true rfl⟩) (by rfl) hl.1 rfl (Nat.le_of_ble_eq_true rfl) dX3_opens_46 ⟨Nat.zero_le _, Nat.zero_le _⟩ ?_
          obtain ⟨hi10, v9, ev9, h⟩ := rdA_some h
          refine k_iald hx hb hK hP 1 0 rfl rfl hi10 ev9 dX3_opens_49 ?_
          refine lv_iconst (v := 1) hx hb dX3_opens_50 (by decide) ?_
          refine lv_iload_n hx hb dX3_opens_51 rfl (lv_at hl 3 rfl) ?_
          refine lv_isub hx hb dX3_opens_52 ?_
          refine lv_icmp_ne (tgt := 63) hx hb dX3_opens_53 (by decide) (fun c11 => ?_) (fun c11 => ?_)
          · replace h := if_n c11 h
            refine lv_aload_n hx hb dX3_opens_63 rfl (lv_at hl 0 rfl) ?_
            refine va_get (D := (dC, dI)) (ci := 4) (v := .ref (q 0)) (C := RX3) (T := TX3) (N := 17) hx hb hts hwX3 hown hK hP 0 rfl rfl 0 (by decide) hf_9 (fun _ h9 => h9) rfl dX3_opens_64 ?_
            refine lv_iload_n hx hb dX3_opens_67 rfl (lv_at hl 1 rfl) ?_
            refine lv_iload_n hx hb dX3_opens_68 rfl (lv_at hl 2 rfl) ?_
            obtain ⟨v12, hv12, h⟩ := bdP_some h
            refine call_SP (As := [.int p0, .int p1]) (rest := [.ref (q 0)]) ⟨hx, hb, hml, hown, hts⟩ (tX3_road (l := l) hv12) (va_cwS 2 hts gX3_opens_X3_road rfl rfl rfl (by decide +kernel) ⟨Nat.le_of_ble_eq_true rfl, Nat.le_of_ble_eq_true rfl⟩) (by rfl) hl.1 rfl (Nat.le_of_ble_eq_true rfl) dX3_opens_69 ⟨Nat.zero_le _, Nat.zero_le _⟩ ?_
            refine lv_iconst (v := 1) hx hb dX3_opens_72 (by decide) ?_
            refine lv_iload_n hx hb dX3_opens_73 rfl (lv_at hl 3 rfl) ?_
            refine lv_isub hx hb dX3_opens_74 ?_
            obtain ⟨hi14, K13, eK13, h⟩ := wrA_some h
            refine va_iast hx hb hK hP hD hS 1 0 rfl rfl hi14 dX3_opens_75 (fun H locs hP hD hS => ?_)
            have hP : va_P (dC, dI) vwCl (mdW cI cC ob q K13) H := by rw [eK13]; exact hP
            have hD : va_D (aL (mdL ob q)) (mdW cI cC ob q K13) := by rw [eK13]; exact hD
            refine lv_aload_n hx hb dX3_opens_76 rfl (lv_at hl 0 rfl) ?_
            obtain ⟨v15, hv15, h⟩ := bdP_some h
            refine call_VP (As := []) (rest := []) ⟨hx, hb, hml, hown, hts⟩ (tX3_openRoads (l := l) (dC := dC) (dI := dI) (cI := cI) (cC := cC) (ob := ob) (q := q) hv15) (cwV 0 hts gX3_opens_X3_openRoads rfl rfl rfl (by decide +kernel) ⟨Nat.le_of_ble_eq_true rfl, Nat.le_of_ble_eq_true rfl⟩) hK hP 0 rfl rfl (by rfl) hl.1 rfl (Nat.le_of_ble_eq_true rfl) dX3_opens_77 ⟨Nat.zero_le _, Nat.zero_le _⟩ ?_
            exact W.iret hx hb hr (fun t ht _ => retE (w := mdW cI cC ob q) h hP hD hS ht) hS.2.2 dX3_opens_80
          · replace h := if_p c11 h
            refine lv_aload_n hx hb dX3_opens_56 rfl (lv_at hl 0 rfl) ?_
            refine lv_iconst (v := 5) hx hb dX3_opens_57 (by decide) ?_
            refine lv_iload_n hx hb dX3_opens_58 rfl (lv_at hl 3 rfl) ?_
            obtain ⟨v16, K17, hv16, h⟩ := bdE_some h
            refine call_VE (As := [.int 5, .int p2]) (rest := []) ⟨hx, hb, hml, hown, hts⟩ (tX3_refuses (l := l) (dC := dC) (dI := dI) (cI := cI) (cC := cC) (ob := ob) (q := q) hv16) (cwV 2 hts gX3_opens_X3_refuses rfl rfl rfl (by decide +kernel) ⟨Nat.le_of_ble_eq_true rfl, Nat.le_of_ble_eq_true rfl⟩) hK hP hD hS (fun _ h9 => h9) 0 rfl rfl (by rfl) hl.1 rfl (Nat.le_of_ble_eq_true rfl) dX3_opens_59 ⟨Nat.zero_le _, Nat.zero_le _⟩ (fun H locs hP hD _ hS => ?_)
            exact W.iret hx hb hr (fun t ht _ => retE (w := mdW cI cC ob q) h hP hD hS ht) hS.2.2 dX3_opens_62
        · replace h := if_p c7 h
          refine lv_aload_n hx hb dX3_opens_33 rfl (lv_at hl 0 rfl) ?_
          refine lv_iconst (v := 4) hx hb dX3_opens_34 (by decide) ?_
          refine lv_iload_n hx hb dX3_opens_35 rfl (lv_at hl 1 rfl) ?_
          obtain ⟨v18, K19, hv18, h⟩ := bdE_some h
          refine call_VE (As := [.int 4, .int p0]) (rest := []) ⟨hx, hb, hml, hown, hts⟩ (tX3_refuses (l := l) (dC := dC) (dI := dI) (cI := cI) (cC := cC) (ob := ob) (q := q) hv18) (cwV 2 hts gX3_opens_X3_refuses rfl rfl rfl (by decide +kernel) ⟨Nat.le_of_ble_eq_true rfl, Nat.le_of_ble_eq_true rfl⟩) hK hP hD hS (fun _ h9 => h9) 0 rfl rfl (by rfl) hl.1 rfl (Nat.le_of_ble_eq_true rfl) dX3_opens_36 ⟨Nat.zero_le _, Nat.zero_le _⟩ (fun H locs hP hD _ hS => ?_)
          exact W.iret hx hb hr (fun t ht _ => retE (w := mdW cI cC ob q) h hP hD hS ht) hS.2.2 dX3_opens_39
      · replace h := if_p c6 h
        refine lv_bipush (v := (-2)) hx hb dX3_opens_25 (by decide) ?_
        exact W.iret hx hb hr (fun t ht _ => retE (w := mdW cI cC ob q) h hP hD hS ht) hS.2.2 dX3_opens_27
    · replace h := if_p c4 h
      exact t_14  h (lv_sub hl [] rfl) hP hD hS
def mX3_road_ (N : Nat) (K : KT) (p0 : Int32) (p1 : Int32) (p2 : Int32) : Option (Int32 × KT) := bdE (mX3_tries N K ) (fun v1 K2 => bdE (mX3_opens N K2 p0 p1 p2) (fun v3 K4 => bdE (mX3_ends N K4 v3) (fun v5 K6 => some (v5, K6))))
def rmX3_road_ : Room := { frames := 4, cells := 0, slots := 0, locals := 105 }
set_option maxHeartbeats 4000000 in
set_option maxRecDepth 100000 in
theorem tX3_road_ {l : Launch} {dC : Nat → ClassId} {dI : Nat → Nat → Nat} {cI : ClassId} {cC : ClassId} {ob : Nat} {q : Nat → Nat} {N : Nat} {K : KT} {p0 : Int32} {p1 : Int32} {p2 : Int32} {rr : Int32} {KK : KT} (hf : mX3_road_ N K p0 p1 p2 = some (rr, KK)) : Met l yX3_road_ wsX3_road_ rmX3_road_ (cPe (dC, dI) vwCl [(cI, .int), (cC, .char)] (mdL ob q) (mdW cI cC ob q K) [.ref ob, .int p0, .int p1, .int p2]) (cE (dC, dI) vwCl (mdL ob q) rr (mdW cI cC ob q KK)) 0 0 (aL (mdL ob q)) := by
  refine Met.ofW (cc := cX3_road_) (maxL := 4) (ret := (some .int)) (by decide) rfl ?_
  intro p e s m args below meth c s₁ B hml hv
  obtain ⟨rfl, hP, hK, hD⟩ := hv
  have hx := B.exec
  have hb := B.bytes
  have hr := B.returns
  have hts := atoms_spec (ws := wsX3_road_) B.pre
  have hown : s.vm.findClass RX3 = some m.cls := findClass_of_methodNamed B.named
  have hlocks := B.notSynchronized
  have hS : va_S (aL (mdL ob q)) s.heap s.heap [] := va_S.rf
  have hl := lv_entry ([.ref ob, .int p0, .int p1, .int p2]) (n := 4) (Nat.le_of_ble_eq_true rfl)
  rw [lg_entry_eq]
  generalize (lg_sl ([.ref ob, .int p0, .int p1, .int p2]) ++ List.replicate (4 - (lg_sl ([.ref ob, .int p0, .int p1, .int p2])).length) Slot.unset).toArray = ls at hl ⊢
  have hl : lv_has ls 4 [(0, .ref ob), (1, .int p0), (2, .int p1), (3, .int p2)] := hl
  have h := hf
  unfold mX3_road_ at h
  refine lv_aload_n hx hb dX3_road__0 rfl (lv_at hl 0 rfl) ?_
  obtain ⟨v1, K2, hv1, h⟩ := bdE_some h
  refine call_VEv (As := []) (rest := []) ⟨hx, hb, hml, hown, hts⟩ (tX3_tries (l := l) (dC := dC) (dI := dI) (cI := cI) (cC := cC) (ob := ob) (q := q) hv1) (cwV 0 hts gX3_road__X3_tries rfl rfl rfl (by decide +kernel) ⟨Nat.le_of_ble_eq_true rfl, Nat.le_of_ble_eq_true rfl⟩) hK hP hD hS (fun _ h9 => h9) 0 rfl rfl (by rfl) hl.1 rfl (Nat.le_of_ble_eq_true rfl) dX3_road__1 ⟨Nat.zero_le _, Nat.zero_le _⟩ (fun H locs hP hD _ hS => ?_)
  refine lv_aload_n hx hb dX3_road__4 rfl (lv_at hl 0 rfl) ?_
  refine lv_aload_n hx hb dX3_road__5 rfl (lv_at hl 0 rfl) ?_
  refine lv_iload_n hx hb dX3_road__6 rfl (lv_at hl 1 rfl) ?_
  refine lv_iload_n hx hb dX3_road__7 rfl (lv_at hl 2 rfl) ?_
  refine lv_iload_n hx hb dX3_road__8 rfl (lv_at hl 3 rfl) ?_
  obtain ⟨v3, K4, hv3, h⟩ := bdE_some h
  refine call_VE (As := [.int p0, .int p1, .int p2]) (rest := [.ref ob]) ⟨hx, hb, hml, hown, hts⟩ (tX3_opens (l := l) (dC := dC) (dI := dI) (cI := cI) (cC := cC) (ob := ob) (q := q) hv3) (cwV 3 hts gX3_road__X3_opens rfl rfl rfl (by decide +kernel) ⟨Nat.le_of_ble_eq_true rfl, Nat.le_of_ble_eq_true rfl⟩) hK hP hD hS (fun _ h9 => h9) 0 rfl rfl (by rfl) hl.1 rfl (Nat.le_of_ble_eq_true rfl) dX3_road__9 ⟨Nat.zero_le _, Nat.zero_le _⟩ (fun H locs hP hD _ hS => ?_)
  obtain ⟨v5, K6, hv5, h⟩ := bdE_some h
  refine call_VE (As := [.int v3]) (rest := []) ⟨hx, hb, hml, hown, hts⟩ (tX3_ends (l := l) (dC := dC) (dI := dI) (cI := cI) (cC := cC) (ob := ob) (q := q) hv5) (cwV 1 hts gX3_road__X3_ends rfl rfl rfl (by decide +kernel) ⟨Nat.le_of_ble_eq_true rfl, Nat.le_of_ble_eq_true rfl⟩) hK hP hD hS (fun _ h9 => h9) 0 rfl rfl (by rfl) hl.1 rfl (Nat.le_of_ble_eq_true rfl) dX3_road__12 ⟨Nat.zero_le _, Nat.zero_le _⟩ (fun H locs hP hD _ hS => ?_)
  exact W.iret hx hb hr (fun t ht _ => retE (w := mdW cI cC ob q) h hP hD hS ht) hS.2.2 dX3_road__15
def fX3_awake_20 (N : Nat) (K : KT) (k4 : Int32 → Int32 → Option Int32) (x1 : Int32) (x2 : Int32) : Option Int32 := k4 x1 (x2 + 1)
def fX3_awake_4 (N : Nat) (K : KT)  : Nat → Int32 → Int32 → Option Int32
  | 0, _, _ => none
  | n + 1, x1, x2 => (if 5 ≤ x2 then some x1 else bdP (mX3_isAwake N K x2) (fun v2 => (if v2 = 0 then fX3_awake_20 N K (fX3_awake_4 N K  n) x1 x2 else fX3_awake_20 N K (fX3_awake_4 N K  n) (x1 + 1) x2)))
def mX3_awake (N : Nat) (K : KT)  : Option Int32 := fX3_awake_4 N K  N 0 0
def rmX3_awake : Room := { frames := 3, cells := 0, slots := 0, locals := 83 }
set_option maxHeartbeats 4000000 in
set_option maxRecDepth 100000 in
theorem tX3_awake {l : Launch} {dC : Nat → ClassId} {dI : Nat → Nat → Nat} {cI : ClassId} {cC : ClassId} {ob : Nat} {q : Nat → Nat} {N : Nat} {K : KT}  {rr : Int32} (hf : mX3_awake N K  = some rr) : Met l yX3_awake wsX3_awake rmX3_awake (cP (dC, dI) vwCl [(cI, .int), (cC, .char)] (mdW cI cC ob q K) [.ref ob]) (cQp rr) 0 0 (fun _ => False) := by
  refine Met.ofW (cc := cX3_awake) (maxL := 3) (ret := (some .int)) (by decide) rfl ?_
  intro p e s m args below meth c s₁ B hml hv
  obtain ⟨rfl, hP, hK⟩ := hv
  have hx := B.exec
  have hb := B.bytes
  have hr := B.returns
  have hts := atoms_spec (ws := wsX3_awake) B.pre
  have hown : s.vm.findClass RX3 = some m.cls := findClass_of_methodNamed B.named
  have hlocks := B.notSynchronized
  have t_20 : ∀ {k4 : Int32 → Int32 → Option Int32} (hk4 : ∀ {x1 : Int32} {x2 : Int32} {ls : Array Slot} (h : k4 x1 x2 = some rr) (hl : lv_has ls 3 [(0, .ref ob), (1, .int x1), (2, .int x2)]), W p l e (headSpec wsX3_awake rmX3_awake).room s m ([.ref ob] : List Value).toArray below meth c s.heap [] 0 0 (MQ below (cQp rr) ([.ref ob] : List Value).toArray s 0 0 (fun _ => False)) (F0 m 4 ls [])), ∀ {x1 : Int32} {x2 : Int32} {ls : Array Slot} (h : fX3_awake_20 N K k4 x1 x2 = some rr) (hl : lv_has ls 3 [(0, .ref ob), (1, .int x1), (2, .int x2)]), W p l e (headSpec wsX3_awake rmX3_awake).room s m ([.ref ob] : List Value).toArray below meth c s.heap [] 0 0 (MQ below (cQp rr) ([.ref ob] : List Value).toArray s 0 0 (fun _ => False)) (F0 m 20 ls []) := by
    intro k4 hk4 x1 x2 ls h hl
    unfold fX3_awake_20 at h
    refine lv_iinc (v := x2 + 1) (lv' := [(2, .int (x2 + 1)), (0, .ref ob), (1, .int x1)]) hx hb dX3_awake_20 hl (k := 2) rfl rfl (by decide) rfl (fun ls hl => ?_)
    refine lv_goto (tgt := 4) hx hb dX3_awake_23 (by decide) ?_
    exact hk4 h (lv_sub hl [1, 2, 0] rfl)
  have t_4 : ∀ {n : Nat}, ∀ {x1 : Int32} {x2 : Int32} {ls : Array Slot} (h : fX3_awake_4 N K  n x1 x2 = some rr) (hl : lv_has ls 3 [(0, .ref ob), (1, .int x1), (2, .int x2)]), W p l e (headSpec wsX3_awake rmX3_awake).room s m ([.ref ob] : List Value).toArray below meth c s.heap [] 0 0 (MQ below (cQp rr) ([.ref ob] : List Value).toArray s 0 0 (fun _ => False)) (F0 m 4 ls []) := by
    intro  n
    induction n with
    | zero =>
      intro x1 x2 ls h hl
      unfold fX3_awake_4 at h
      cases h
    | succ n ih =>
      intro x1 x2 ls h hl
      unfold fX3_awake_4 at h
      refine lv_iload_n hx hb dX3_awake_4 rfl (lv_at hl 2 rfl) ?_
      refine lv_iconst (v := 5) hx hb dX3_awake_5 (by decide) ?_
      refine lv_icmp_ge (tgt := 26) hx hb dX3_awake_6 (by decide) (fun c1 => ?_) (fun c1 => ?_)
      · replace h := if_p c1 h
        refine lv_iload_n hx hb dX3_awake_26 rfl (lv_at hl 1 rfl) ?_
        exact W.iret hx hb hr (fun t ht _ => retP h ht) (fun _ h9 => absurd h9 List.not_mem_nil) dX3_awake_27
      · replace h := if_n c1 h
        refine lv_aload_n hx hb dX3_awake_9 rfl (lv_at hl 0 rfl) ?_
        refine lv_iload_n hx hb dX3_awake_10 rfl (lv_at hl 2 rfl) ?_
        obtain ⟨v2, hv2, h⟩ := bdP_some h
        refine call_VP (As := [.int x2]) (rest := []) ⟨hx, hb, hml, hown, hts⟩ (tX3_isAwake (l := l) (dC := dC) (dI := dI) (cI := cI) (cC := cC) (ob := ob) (q := q) hv2) (cwV 1 hts gX3_awake_X3_isAwake rfl rfl rfl (by decide +kernel) ⟨Nat.le_of_ble_eq_true rfl, Nat.le_of_ble_eq_true rfl⟩) hK hP 0 rfl rfl (by rfl) hl.1 rfl (Nat.le_of_ble_eq_true rfl) dX3_awake_11 ⟨Nat.zero_le _, Nat.zero_le _⟩ ?_
        refine lv_if_eq (tgt := 20) hx hb dX3_awake_14 (by decide) (fun c3 => ?_) (fun c3 => ?_)
        · replace h := if_p c3 h
          exact t_20 @ih h (lv_sub hl [0, 1, 2] rfl)
        · replace h := if_n c3 h
          refine lv_iinc (v := x1 + 1) (lv' := [(1, .int (x1 + 1)), (0, .ref ob), (2, .int x2)]) hx hb dX3_awake_17 hl (k := 1) rfl rfl (by decide) rfl (fun ls hl => ?_)
          exact t_20 @ih h (lv_sub hl [1, 0, 2] rfl)
  have hl := lv_entry ([.ref ob]) (n := 3) (Nat.le_of_ble_eq_true rfl)
  rw [lg_entry_eq]
  generalize (lg_sl ([.ref ob]) ++ List.replicate (3 - (lg_sl ([.ref ob])).length) Slot.unset).toArray = ls at hl ⊢
  have hl : lv_has ls 3 [(0, .ref ob)] := hl
  have h := hf
  unfold mX3_awake at h
  refine lv_iconst (v := 0) hx hb dX3_awake_0 (by decide) ?_
  refine lv_istore_n (lv' := [(1, .int 0), (0, .ref ob)]) hx hb dX3_awake_1 rfl hl (by decide) rfl (fun ls hl => ?_)
  refine lv_iconst (v := 0) hx hb dX3_awake_2 (by decide) ?_
  refine lv_istore_n (lv' := [(2, .int 0), (1, .int 0), (0, .ref ob)]) hx hb dX3_awake_3 rfl hl (by decide) rfl (fun ls hl => ?_)
  exact t_4  h (lv_sub hl [2, 1, 0] rfl)
def mX3_sleeps (N : Nat) (K : KT) (p0 : Int32) (p1 : Int32) : Option (Int32 × KT) := bdP (mX3_isCamp N p0) (fun v1 => (if v1 = 0 then some ((-1), K) else bdP (mX3_in N p1 0 1) (fun v3 => (if v3 = 0 then some ((-2), K) else bdP (mX3_of N K p0 3) (fun v5 => (if v5 = (1 - p1) then bdE (mX3_refuses N K 5 p1) (fun v14 K15 => some (v14, K15)) else bdE (mX3_sets N K p0 3 (1 - p1)) (fun v7 K8 => bdE (mX3_sets N K8 p0 4 0) (fun v9 K10 => bdE (mX3_sets N K10 p0 2 0) (fun v11 K12 => bdP (mX3_awake N K12 ) (fun v13 => some (v13, K12)))))))))))
def rmX3_sleeps : Room := { frames := 4, cells := 0, slots := 0, locals := 105 }
set_option maxHeartbeats 4000000 in
set_option maxRecDepth 100000 in
theorem tX3_sleeps {l : Launch} {dC : Nat → ClassId} {dI : Nat → Nat → Nat} {cI : ClassId} {cC : ClassId} {ob : Nat} {q : Nat → Nat} {N : Nat} {K : KT} {p0 : Int32} {p1 : Int32} {rr : Int32} {KK : KT} (hf : mX3_sleeps N K p0 p1 = some (rr, KK)) : Met l yX3_sleeps wsX3_sleeps rmX3_sleeps (cPe (dC, dI) vwCl [(cI, .int), (cC, .char)] (mdL ob q) (mdW cI cC ob q K) [.ref ob, .int p0, .int p1]) (cE (dC, dI) vwCl (mdL ob q) rr (mdW cI cC ob q KK)) 0 0 (aL (mdL ob q)) := by
  refine Met.ofW (cc := cX3_sleeps) (maxL := 3) (ret := (some .int)) (by decide) rfl ?_
  intro p e s m args below meth c s₁ B hml hv
  obtain ⟨rfl, hP, hK, hD⟩ := hv
  have hx := B.exec
  have hb := B.bytes
  have hr := B.returns
  have hts := atoms_spec (ws := wsX3_sleeps) B.pre
  have hown : s.vm.findClass RX3 = some m.cls := findClass_of_methodNamed B.named
  have hlocks := B.notSynchronized
  have hS : va_S (aL (mdL ob q)) s.heap s.heap [] := va_S.rf
  have hl := lv_entry ([.ref ob, .int p0, .int p1]) (n := 3) (Nat.le_of_ble_eq_true rfl)
  rw [lg_entry_eq]
  generalize (lg_sl ([.ref ob, .int p0, .int p1]) ++ List.replicate (3 - (lg_sl ([.ref ob, .int p0, .int p1])).length) Slot.unset).toArray = ls at hl ⊢
  have hl : lv_has ls 3 [(0, .ref ob), (1, .int p0), (2, .int p1)] := hl
  have h := hf
  unfold mX3_sleeps at h
  refine lv_iload_n hx hb dX3_sleeps_0 rfl (lv_at hl 1 rfl) ?_
  obtain ⟨v1, hv1, h⟩ := bdP_some h
  refine call_SP (As := [.int p0]) (rest := []) ⟨hx, hb, hml, hown, hts⟩ (tX3_isCamp (l := l) hv1) (va_cwS 1 hts gX3_sleeps_X3_isCamp rfl rfl rfl (by decide +kernel) ⟨Nat.le_of_ble_eq_true rfl, Nat.le_of_ble_eq_true rfl⟩) (by rfl) hl.1 rfl (Nat.le_of_ble_eq_true rfl) dX3_sleeps_1 ⟨Nat.zero_le _, Nat.zero_le _⟩ ?_
  refine lv_if_ne (tgt := 9) hx hb dX3_sleeps_4 (by decide) (fun c2 => ?_) (fun c2 => ?_)
  · replace h := if_n c2 h
    refine lv_iload_n hx hb dX3_sleeps_9 rfl (lv_at hl 2 rfl) ?_
    refine lv_iconst (v := 0) hx hb dX3_sleeps_10 (by decide) ?_
    refine lv_iconst (v := 1) hx hb dX3_sleeps_11 (by decide) ?_
    obtain ⟨v3, hv3, h⟩ := bdP_some h
    refine call_SP (As := [.int p1, .int 0, .int 1]) (rest := []) ⟨hx, hb, hml, hown, hts⟩ (tX3_in (l := l) hv3) (va_cwS 3 hts gX3_sleeps_X3_in rfl rfl rfl (by decide +kernel) ⟨Nat.le_of_ble_eq_true rfl, Nat.le_of_ble_eq_true rfl⟩) (by rfl) hl.1 rfl (Nat.le_of_ble_eq_true rfl) dX3_sleeps_12 ⟨Nat.zero_le _, Nat.zero_le _⟩ ?_
    refine lv_if_ne (tgt := 21) hx hb dX3_sleeps_15 (by decide) (fun c4 => ?_) (fun c4 => ?_)
    · replace h := if_n c4 h
      refine lv_aload_n hx hb dX3_sleeps_21 rfl (lv_at hl 0 rfl) ?_
      refine lv_iload_n hx hb dX3_sleeps_22 rfl (lv_at hl 1 rfl) ?_
      refine lv_iconst (v := 3) hx hb dX3_sleeps_23 (by decide) ?_
      obtain ⟨v5, hv5, h⟩ := bdP_some h
      refine call_VP (As := [.int p0, .int 3]) (rest := []) ⟨hx, hb, hml, hown, hts⟩ (tX3_of (l := l) (dC := dC) (dI := dI) (cI := cI) (cC := cC) (ob := ob) (q := q) hv5) (cwV 2 hts gX3_sleeps_X3_of rfl rfl rfl (by decide +kernel) ⟨Nat.le_of_ble_eq_true rfl, Nat.le_of_ble_eq_true rfl⟩) hK hP 0 rfl rfl (by rfl) hl.1 rfl (Nat.le_of_ble_eq_true rfl) dX3_sleeps_24 ⟨Nat.zero_le _, Nat.zero_le _⟩ ?_
      refine lv_iconst (v := 1) hx hb dX3_sleeps_27 (by decide) ?_
      refine lv_iload_n hx hb dX3_sleeps_28 rfl (lv_at hl 2 rfl) ?_
      refine lv_isub hx hb dX3_sleeps_29 ?_
      refine lv_icmp_ne (tgt := 40) hx hb dX3_sleeps_30 (by decide) (fun c6 => ?_) (fun c6 => ?_)
      · replace h := if_n c6 h
        refine lv_aload_n hx hb dX3_sleeps_40 rfl (lv_at hl 0 rfl) ?_
        refine lv_iload_n hx hb dX3_sleeps_41 rfl (lv_at hl 1 rfl) ?_
        refine lv_iconst (v := 3) hx hb dX3_sleeps_42 (by decide) ?_
        refine lv_iconst (v := 1) hx hb dX3_sleeps_43 (by decide) ?_
        refine lv_iload_n hx hb dX3_sleeps_44 rfl (lv_at hl 2 rfl) ?_
        refine lv_isub hx hb dX3_sleeps_45 ?_
        obtain ⟨v7, K8, hv7, h⟩ := bdE_some h
        refine call_VEv (As := [.int p0, .int 3, .int (1 - p1)]) (rest := []) ⟨hx, hb, hml, hown, hts⟩ (tX3_sets (l := l) (dC := dC) (dI := dI) (cI := cI) (cC := cC) (ob := ob) (q := q) hv7) (cwV 3 hts gX3_sleeps_X3_sets rfl rfl rfl (by decide +kernel) ⟨Nat.le_of_ble_eq_true rfl, Nat.le_of_ble_eq_true rfl⟩) hK hP hD hS (fun _ h9 => h9) 0 rfl rfl (by rfl) hl.1 rfl (Nat.le_of_ble_eq_true rfl) dX3_sleeps_46 ⟨Nat.zero_le _, Nat.zero_le _⟩ (fun H locs hP hD _ hS => ?_)
        refine lv_aload_n hx hb dX3_sleeps_49 rfl (lv_at hl 0 rfl) ?_
        refine lv_iload_n hx hb dX3_sleeps_50 rfl (lv_at hl 1 rfl) ?_
        refine lv_iconst (v := 4) hx hb dX3_sleeps_51 (by decide) ?_
        refine lv_iconst (v := 0) hx hb dX3_sleeps_52 (by decide) ?_
        obtain ⟨v9, K10, hv9, h⟩ := bdE_some h
        refine call_VEv (As := [.int p0, .int 4, .int 0]) (rest := []) ⟨hx, hb, hml, hown, hts⟩ (tX3_sets (l := l) (dC := dC) (dI := dI) (cI := cI) (cC := cC) (ob := ob) (q := q) hv9) (cwV 3 hts gX3_sleeps_X3_sets rfl rfl rfl (by decide +kernel) ⟨Nat.le_of_ble_eq_true rfl, Nat.le_of_ble_eq_true rfl⟩) hK hP hD hS (fun _ h9 => h9) 0 rfl rfl (by rfl) hl.1 rfl (Nat.le_of_ble_eq_true rfl) dX3_sleeps_53 ⟨Nat.zero_le _, Nat.zero_le _⟩ (fun H locs hP hD _ hS => ?_)
        refine lv_aload_n hx hb dX3_sleeps_56 rfl (lv_at hl 0 rfl) ?_
        refine lv_iload_n hx hb dX3_sleeps_57 rfl (lv_at hl 1 rfl) ?_
        refine lv_iconst (v := 2) hx hb dX3_sleeps_58 (by decide) ?_
        refine lv_iconst (v := 0) hx hb dX3_sleeps_59 (by decide) ?_
        obtain ⟨v11, K12, hv11, h⟩ := bdE_some h
        refine call_VEv (As := [.int p0, .int 2, .int 0]) (rest := []) ⟨hx, hb, hml, hown, hts⟩ (tX3_sets (l := l) (dC := dC) (dI := dI) (cI := cI) (cC := cC) (ob := ob) (q := q) hv11) (cwV 3 hts gX3_sleeps_X3_sets rfl rfl rfl (by decide +kernel) ⟨Nat.le_of_ble_eq_true rfl, Nat.le_of_ble_eq_true rfl⟩) hK hP hD hS (fun _ h9 => h9) 0 rfl rfl (by rfl) hl.1 rfl (Nat.le_of_ble_eq_true rfl) dX3_sleeps_60 ⟨Nat.zero_le _, Nat.zero_le _⟩ (fun H locs hP hD _ hS => ?_)
        refine lv_aload_n hx hb dX3_sleeps_63 rfl (lv_at hl 0 rfl) ?_
        obtain ⟨v13, hv13, h⟩ := bdP_some h
        refine call_VP (As := []) (rest := []) ⟨hx, hb, hml, hown, hts⟩ (tX3_awake (l := l) (dC := dC) (dI := dI) (cI := cI) (cC := cC) (ob := ob) (q := q) hv13) (cwV 0 hts gX3_sleeps_X3_awake rfl rfl rfl (by decide +kernel) ⟨Nat.le_of_ble_eq_true rfl, Nat.le_of_ble_eq_true rfl⟩) hK hP 0 rfl rfl (by rfl) hl.1 rfl (Nat.le_of_ble_eq_true rfl) dX3_sleeps_64 ⟨Nat.zero_le _, Nat.zero_le _⟩ ?_
        exact W.iret hx hb hr (fun t ht _ => retE (w := mdW cI cC ob q) h hP hD hS ht) hS.2.2 dX3_sleeps_67
      · replace h := if_p c6 h
        refine lv_aload_n hx hb dX3_sleeps_33 rfl (lv_at hl 0 rfl) ?_
        refine lv_iconst (v := 5) hx hb dX3_sleeps_34 (by decide) ?_
        refine lv_iload_n hx hb dX3_sleeps_35 rfl (lv_at hl 2 rfl) ?_
        obtain ⟨v14, K15, hv14, h⟩ := bdE_some h
        refine call_VE (As := [.int 5, .int p1]) (rest := []) ⟨hx, hb, hml, hown, hts⟩ (tX3_refuses (l := l) (dC := dC) (dI := dI) (cI := cI) (cC := cC) (ob := ob) (q := q) hv14) (cwV 2 hts gX3_sleeps_X3_refuses rfl rfl rfl (by decide +kernel) ⟨Nat.le_of_ble_eq_true rfl, Nat.le_of_ble_eq_true rfl⟩) hK hP hD hS (fun _ h9 => h9) 0 rfl rfl (by rfl) hl.1 rfl (Nat.le_of_ble_eq_true rfl) dX3_sleeps_36 ⟨Nat.zero_le _, Nat.zero_le _⟩ (fun H locs hP hD _ hS => ?_)
        exact W.iret hx hb hr (fun t ht _ => retE (w := mdW cI cC ob q) h hP hD hS ht) hS.2.2 dX3_sleeps_39
    · replace h := if_p c4 h
      refine lv_bipush (v := (-2)) hx hb dX3_sleeps_18 (by decide) ?_
      exact W.iret hx hb hr (fun t ht _ => retE (w := mdW cI cC ob q) h hP hD hS ht) hS.2.2 dX3_sleeps_20
  · replace h := if_p c2 h
    refine lv_iconst (v := (-1)) hx hb dX3_sleeps_7 (by decide) ?_
    exact W.iret hx hb hr (fun t ht _ => retE (w := mdW cI cC ob q) h hP hD hS ht) hS.2.2 dX3_sleeps_8
def mX3_sleep (N : Nat) (K : KT) (p0 : Int32) (p1 : Int32) : Option (Int32 × KT) := bdE (mX3_tries N K ) (fun v1 K2 => bdE (mX3_sleeps N K2 p0 p1) (fun v3 K4 => bdE (mX3_ends N K4 v3) (fun v5 K6 => some (v5, K6))))
def rmX3_sleep : Room := { frames := 5, cells := 0, slots := 0, locals := 127 }
set_option maxHeartbeats 4000000 in
set_option maxRecDepth 100000 in
theorem tX3_sleep {l : Launch} {dC : Nat → ClassId} {dI : Nat → Nat → Nat} {cI : ClassId} {cC : ClassId} {ob : Nat} {q : Nat → Nat} {N : Nat} {K : KT} {p0 : Int32} {p1 : Int32} {rr : Int32} {KK : KT} (hf : mX3_sleep N K p0 p1 = some (rr, KK)) : Met l yX3_sleep wsX3_sleep rmX3_sleep (cPe (dC, dI) vwCl [(cI, .int), (cC, .char)] (mdL ob q) (mdW cI cC ob q K) [.ref ob, .int p0, .int p1]) (cE (dC, dI) vwCl (mdL ob q) rr (mdW cI cC ob q KK)) 0 0 (aL (mdL ob q)) := by
  refine Met.ofW (cc := cX3_sleep) (maxL := 3) (ret := (some .int)) (by decide) rfl ?_
  intro p e s m args below meth c s₁ B hml hv
  obtain ⟨rfl, hP, hK, hD⟩ := hv
  have hx := B.exec
  have hb := B.bytes
  have hr := B.returns
  have hts := atoms_spec (ws := wsX3_sleep) B.pre
  have hown : s.vm.findClass RX3 = some m.cls := findClass_of_methodNamed B.named
  have hlocks := B.notSynchronized
  have hS : va_S (aL (mdL ob q)) s.heap s.heap [] := va_S.rf
  have hl := lv_entry ([.ref ob, .int p0, .int p1]) (n := 3) (Nat.le_of_ble_eq_true rfl)
  rw [lg_entry_eq]
  generalize (lg_sl ([.ref ob, .int p0, .int p1]) ++ List.replicate (3 - (lg_sl ([.ref ob, .int p0, .int p1])).length) Slot.unset).toArray = ls at hl ⊢
  have hl : lv_has ls 3 [(0, .ref ob), (1, .int p0), (2, .int p1)] := hl
  have h := hf
  unfold mX3_sleep at h
  refine lv_aload_n hx hb dX3_sleep_0 rfl (lv_at hl 0 rfl) ?_
  obtain ⟨v1, K2, hv1, h⟩ := bdE_some h
  refine call_VEv (As := []) (rest := []) ⟨hx, hb, hml, hown, hts⟩ (tX3_tries (l := l) (dC := dC) (dI := dI) (cI := cI) (cC := cC) (ob := ob) (q := q) hv1) (cwV 0 hts gX3_sleep_X3_tries rfl rfl rfl (by decide +kernel) ⟨Nat.le_of_ble_eq_true rfl, Nat.le_of_ble_eq_true rfl⟩) hK hP hD hS (fun _ h9 => h9) 0 rfl rfl (by rfl) hl.1 rfl (Nat.le_of_ble_eq_true rfl) dX3_sleep_1 ⟨Nat.zero_le _, Nat.zero_le _⟩ (fun H locs hP hD _ hS => ?_)
  refine lv_aload_n hx hb dX3_sleep_4 rfl (lv_at hl 0 rfl) ?_
  refine lv_aload_n hx hb dX3_sleep_5 rfl (lv_at hl 0 rfl) ?_
  refine lv_iload_n hx hb dX3_sleep_6 rfl (lv_at hl 1 rfl) ?_
  refine lv_iload_n hx hb dX3_sleep_7 rfl (lv_at hl 2 rfl) ?_
  obtain ⟨v3, K4, hv3, h⟩ := bdE_some h
  refine call_VE (As := [.int p0, .int p1]) (rest := [.ref ob]) ⟨hx, hb, hml, hown, hts⟩ (tX3_sleeps (l := l) (dC := dC) (dI := dI) (cI := cI) (cC := cC) (ob := ob) (q := q) hv3) (cwV 2 hts gX3_sleep_X3_sleeps rfl rfl rfl (by decide +kernel) ⟨Nat.le_of_ble_eq_true rfl, Nat.le_of_ble_eq_true rfl⟩) hK hP hD hS (fun _ h9 => h9) 0 rfl rfl (by rfl) hl.1 rfl (Nat.le_of_ble_eq_true rfl) dX3_sleep_8 ⟨Nat.zero_le _, Nat.zero_le _⟩ (fun H locs hP hD _ hS => ?_)
  obtain ⟨v5, K6, hv5, h⟩ := bdE_some h
  refine call_VE (As := [.int v3]) (rest := []) ⟨hx, hb, hml, hown, hts⟩ (tX3_ends (l := l) (dC := dC) (dI := dI) (cI := cI) (cC := cC) (ob := ob) (q := q) hv5) (cwV 1 hts gX3_sleep_X3_ends rfl rfl rfl (by decide +kernel) ⟨Nat.le_of_ble_eq_true rfl, Nat.le_of_ble_eq_true rfl⟩) hK hP hD hS (fun _ h9 => h9) 0 rfl rfl (by rfl) hl.1 rfl (Nat.le_of_ble_eq_true rfl) dX3_sleep_11 ⟨Nat.zero_le _, Nat.zero_le _⟩ (fun H locs hP hD _ hS => ?_)
  exact W.iret hx hb hr (fun t ht _ => retE (w := mdW cI cC ob q) h hP hD hS ht) hS.2.2 dX3_sleep_14
def fX3_hour_31 (N : Nat) (k2 : KT → Int32 → Option (Int32 × KT)) (K : KT) (x1 : Int32) : Option (Int32 × KT) := k2 K (x1 + 1)
def fX3_hour_75 (N : Nat) (k39 : KT → Int32 → Option (Int32 × KT)) (K : KT) (x1 : Int32) : Option (Int32 × KT) := k39 K (x1 + 1)
def fX3_hour_123 (N : Nat) (k83 : KT → Int32 → Option (Int32 × KT)) (K : KT) (x1 : Int32) : Option (Int32 × KT) := k83 K (x1 + 1)
def fX3_hour_129 (N : Nat)  (K : KT)  : Option (Int32 × KT) := rdA (K 0) 186 5 (fun v1 => wrA K 0 186 5 (v1 + 1) (fun K3 => some (0, K3)))
def fX3_hour_83 (N : Nat)  : Nat → KT → Int32 → Option (Int32 × KT)
  | 0, _, _ => none
  | n + 1, K, x1 => (if 5 ≤ x1 then fX3_hour_129 N  K  else bdP (mX3_isAwake N K x1) (fun v6 => (if v6 = 0 then fX3_hour_123 N (fX3_hour_83 N  n) K x1 else bdP (mX3_of N K x1 2) (fun v8 => (if v8 = 0 then bdP (mX3_of N K x1 4) (fun v10 => (if v10 < (3 + x1) then fX3_hour_123 N (fX3_hour_83 N  n) K x1 else bdE (mX3_asks N K x1) (fun v12 K13 => fX3_hour_123 N (fX3_hour_83 N  n) K13 x1))) else fX3_hour_123 N (fX3_hour_83 N  n) K x1)))))
def fX3_hour_81 (N : Nat)  (K : KT)  : Option (Int32 × KT) := fX3_hour_83 N  N K 0
def fX3_hour_39 (N : Nat)  : Nat → KT → Int32 → Option (Int32 × KT)
  | 0, _, _ => none
  | n + 1, K, x1 => (if 5 ≤ x1 then fX3_hour_81 N  K  else bdP (mX3_isAwake N K x1) (fun v15 => (if v15 = 0 then fX3_hour_75 N (fX3_hour_39 N  n) K x1 else bdP (mX3_of N K x1 2) (fun v17 => (if v17 = 0 then bdP (mX3_of N K x1 4) (fun v19 => bdE (mX3_sets N K x1 4 (v19 + 1)) (fun v20 K21 => fX3_hour_75 N (fX3_hour_39 N  n) K21 x1)) else fX3_hour_75 N (fX3_hour_39 N  n) K x1)))))
def fX3_hour_37 (N : Nat)  (K : KT)  : Option (Int32 × KT) := fX3_hour_39 N  N K 0
def fX3_hour_2 (N : Nat)  : Nat → KT → Int32 → Option (Int32 × KT)
  | 0, _, _ => none
  | n + 1, K, x1 => (if 5 ≤ x1 then fX3_hour_37 N  K  else bdP (mX3_isAwake N K x1) (fun v23 => (if v23 = 0 then fX3_hour_31 N (fX3_hour_2 N  n) K x1 else bdP (mX3_of N K x1 2) (fun v25 => (if v25 = 1 then bdE (mX3_goes N K x1) (fun v27 K28 => fX3_hour_31 N (fX3_hour_2 N  n) K28 x1) else fX3_hour_31 N (fX3_hour_2 N  n) K x1)))))
def mX3_hour (N : Nat) (K : KT)  : Option (Int32 × KT) := fX3_hour_2 N  N K 0
def rmX3_hour : Room := { frames := 7, cells := 0, slots := 0, locals := 180 }
set_option maxHeartbeats 4000000 in
set_option maxRecDepth 100000 in
theorem tX3_hour {l : Launch} {dC : Nat → ClassId} {dI : Nat → Nat → Nat} {cI : ClassId} {cC : ClassId} {ob : Nat} {q : Nat → Nat} {N : Nat} {K : KT}  {rr : Int32} {KK : KT} (hf : mX3_hour N K  = some (rr, KK)) : Met l yX3_hour wsX3_hour rmX3_hour (cPe (dC, dI) vwCl [(cI, .int), (cC, .char)] (mdL ob q) (mdW cI cC ob q K) [.ref ob]) (cEv (dC, dI) vwCl (mdL ob q) (mdW cI cC ob q KK)) 0 0 (aL (mdL ob q)) := by
  refine Met.ofW (cc := cX3_hour) (maxL := 2) (ret := none) (by decide) rfl ?_
  intro p e s m args below meth c s₁ B hml hv
  obtain ⟨rfl, hP, hK, hD⟩ := hv
  have hx := B.exec
  have hb := B.bytes
  have hr := B.returns
  have hts := atoms_spec (ws := wsX3_hour) B.pre
  have hown : s.vm.findClass RX3 = some m.cls := findClass_of_methodNamed B.named
  have hlocks := B.notSynchronized
  have hwX3 : ∀ w ∈ u_ws RX3 TX3 17, w ∈ wsX3_hour := by decide +kernel
  have hf_9 := hts (.fieldLink RX3 9 "CaravanLogsModel" "now" "[I") (by decide +kernel)
  have t_31 : ∀ {k2 : KT → Int32 → Option (Int32 × KT)} (hk2 : ∀ {K : KT} {x1 : Int32} {H : Heap} {locs : List Loc} {ls : Array Slot} (h : k2 K x1 = some (rr, KK)) (hl : lv_has ls 2 [(0, .ref ob), (1, .int x1)]) (hP : va_P (dC, dI) vwCl (mdW cI cC ob q K) H) (hD : va_D (aL (mdL ob q)) (mdW cI cC ob q K)) (hS : va_S (aL (mdL ob q)) s.heap H locs), W p l e (headSpec wsX3_hour rmX3_hour).room s m ([.ref ob] : List Value).toArray below meth c H locs 0 0 (MQ below (cEv (dC, dI) vwCl (mdL ob q) (mdW cI cC ob q KK)) ([.ref ob] : List Value).toArray s 0 0 (aL (mdL ob q))) (F0 m 2 ls [])), ∀ {K : KT} {x1 : Int32} {H : Heap} {locs : List Loc} {ls : Array Slot} (h : fX3_hour_31 N k2 K x1 = some (rr, KK)) (hl : lv_has ls 2 [(0, .ref ob), (1, .int x1)]) (hP : va_P (dC, dI) vwCl (mdW cI cC ob q K) H) (hD : va_D (aL (mdL ob q)) (mdW cI cC ob q K)) (hS : va_S (aL (mdL ob q)) s.heap H locs), W p l e (headSpec wsX3_hour rmX3_hour).room s m ([.ref ob] : List Value).toArray below meth c H locs 0 0 (MQ below (cEv (dC, dI) vwCl (mdL ob q) (mdW cI cC ob q KK)) ([.ref ob] : List Value).toArray s 0 0 (aL (mdL ob q))) (F0 m 31 ls []) := by
    intro k2 hk2 K x1 H locs ls h hl hP hD hS
    unfold fX3_hour_31 at h
    refine lv_iinc (v := x1 + 1) (lv' := [(1, .int (x1 + 1)), (0, .ref ob)]) hx hb dX3_hour_31 hl (k := 1) rfl rfl (by decide) rfl (fun ls hl => ?_)
    refine lv_goto (tgt := 2) hx hb dX3_hour_34 (by decide) ?_
    exact hk2 h (lv_sub hl [1, 0] rfl) hP hD hS
  have t_75 : ∀ {k39 : KT → Int32 → Option (Int32 × KT)} (hk39 : ∀ {K : KT} {x1 : Int32} {H : Heap} {locs : List Loc} {ls : Array Slot} (h : k39 K x1 = some (rr, KK)) (hl : lv_has ls 2 [(0, .ref ob), (1, .int x1)]) (hP : va_P (dC, dI) vwCl (mdW cI cC ob q K) H) (hD : va_D (aL (mdL ob q)) (mdW cI cC ob q K)) (hS : va_S (aL (mdL ob q)) s.heap H locs), W p l e (headSpec wsX3_hour rmX3_hour).room s m ([.ref ob] : List Value).toArray below meth c H locs 0 0 (MQ below (cEv (dC, dI) vwCl (mdL ob q) (mdW cI cC ob q KK)) ([.ref ob] : List Value).toArray s 0 0 (aL (mdL ob q))) (F0 m 39 ls [])), ∀ {K : KT} {x1 : Int32} {H : Heap} {locs : List Loc} {ls : Array Slot} (h : fX3_hour_75 N k39 K x1 = some (rr, KK)) (hl : lv_has ls 2 [(0, .ref ob), (1, .int x1)]) (hP : va_P (dC, dI) vwCl (mdW cI cC ob q K) H) (hD : va_D (aL (mdL ob q)) (mdW cI cC ob q K)) (hS : va_S (aL (mdL ob q)) s.heap H locs), W p l e (headSpec wsX3_hour rmX3_hour).room s m ([.ref ob] : List Value).toArray below meth c H locs 0 0 (MQ below (cEv (dC, dI) vwCl (mdL ob q) (mdW cI cC ob q KK)) ([.ref ob] : List Value).toArray s 0 0 (aL (mdL ob q))) (F0 m 75 ls []) := by
    intro k39 hk39 K x1 H locs ls h hl hP hD hS
    unfold fX3_hour_75 at h
    refine lv_iinc (v := x1 + 1) (lv' := [(1, .int (x1 + 1)), (0, .ref ob)]) hx hb dX3_hour_75 hl (k := 1) rfl rfl (by decide) rfl (fun ls hl => ?_)
    refine lv_goto (tgt := 39) hx hb dX3_hour_78 (by decide) ?_
    exact hk39 h (lv_sub hl [1, 0] rfl) hP hD hS
  have t_123 : ∀ {k83 : KT → Int32 → Option (Int32 × KT)} (hk83 : ∀ {K : KT} {x1 : Int32} {H : Heap} {locs : List Loc} {ls : Array Slot} (h : k83 K x1 = some (rr, KK)) (hl : lv_has ls 2 [(0, .ref ob), (1, .int x1)]) (hP : va_P (dC, dI) vwCl (mdW cI cC ob q K) H) (hD : va_D (aL (mdL ob q)) (mdW cI cC ob q K)) (hS : va_S (aL (mdL ob q)) s.heap H locs), W p l e (headSpec wsX3_hour rmX3_hour).room s m ([.ref ob] : List Value).toArray below meth c H locs 0 0 (MQ below (cEv (dC, dI) vwCl (mdL ob q) (mdW cI cC ob q KK)) ([.ref ob] : List Value).toArray s 0 0 (aL (mdL ob q))) (F0 m 83 ls [])), ∀ {K : KT} {x1 : Int32} {H : Heap} {locs : List Loc} {ls : Array Slot} (h : fX3_hour_123 N k83 K x1 = some (rr, KK)) (hl : lv_has ls 2 [(0, .ref ob), (1, .int x1)]) (hP : va_P (dC, dI) vwCl (mdW cI cC ob q K) H) (hD : va_D (aL (mdL ob q)) (mdW cI cC ob q K)) (hS : va_S (aL (mdL ob q)) s.heap H locs), W p l e (headSpec wsX3_hour rmX3_hour).room s m ([.ref ob] : List Value).toArray below meth c H locs 0 0 (MQ below (cEv (dC, dI) vwCl (mdL ob q) (mdW cI cC ob q KK)) ([.ref ob] : List Value).toArray s 0 0 (aL (mdL ob q))) (F0 m 123 ls []) := by
    intro k83 hk83 K x1 H locs ls h hl hP hD hS
    unfold fX3_hour_123 at h
    refine lv_iinc (v := x1 + 1) (lv' := [(1, .int (x1 + 1)), (0, .ref ob)]) hx hb dX3_hour_123 hl (k := 1) rfl rfl (by decide) rfl (fun ls hl => ?_)
    refine lv_goto (tgt := 83) hx hb dX3_hour_126 (by decide) ?_
    exact hk83 h (lv_sub hl [1, 0] rfl) hP hD hS
  have t_129 : ∀ {K : KT}  {H : Heap} {locs : List Loc} {ls : Array Slot} (h : fX3_hour_129 N  K  = some (rr, KK)) (hl : lv_has ls 2 [(0, .ref ob)]) (hP : va_P (dC, dI) vwCl (mdW cI cC ob q K) H) (hD : va_D (aL (mdL ob q)) (mdW cI cC ob q K)) (hS : va_S (aL (mdL ob q)) s.heap H locs), W p l e (headSpec wsX3_hour rmX3_hour).room s m ([.ref ob] : List Value).toArray below meth c H locs 0 0 (MQ below (cEv (dC, dI) vwCl (mdL ob q) (mdW cI cC ob q KK)) ([.ref ob] : List Value).toArray s 0 0 (aL (mdL ob q))) (F0 m 129 ls []) := by
    intro  K H locs ls h hl hP hD hS
    unfold fX3_hour_129 at h
    refine lv_aload_n hx hb dX3_hour_129 rfl (lv_at hl 0 rfl) ?_
    refine va_get (D := (dC, dI)) (ci := 4) (v := .ref (q 0)) (C := RX3) (T := TX3) (N := 17) hx hb hts hwX3 hown hK hP 0 rfl rfl 0 (by decide) hf_9 (fun _ h9 => h9) rfl dX3_hour_130 ?_
    refine lv_iconst (v := 5) hx hb dX3_hour_133 (by decide) ?_
    refine lv_dup2_11 hx hb dX3_hour_134 rfl rfl ?_
    obtain ⟨hi2, v1, ev1, h⟩ := rdA_some h
    refine k_iald hx hb hK hP 1 0 rfl rfl hi2 ev1 dX3_hour_135 ?_
    refine lv_iconst (v := 1) hx hb dX3_hour_136 (by decide) ?_
    refine lv_iadd hx hb dX3_hour_137 ?_
    obtain ⟨hi4, K3, eK3, h⟩ := wrA_some h
    refine va_iast hx hb hK hP hD hS 1 0 rfl rfl hi4 dX3_hour_138 (fun H locs hP hD hS => ?_)
    have hP : va_P (dC, dI) vwCl (mdW cI cC ob q K3) H := by rw [eK3]; exact hP
    have hD : va_D (aL (mdL ob q)) (mdW cI cC ob q K3) := by rw [eK3]; exact hD
    exact W.vret hx hb hr (fun t ht _ => retEv (w := mdW cI cC ob q) h hP hD hS ht) hS.2.2 dX3_hour_139
  have t_83 : ∀ {n : Nat}, ∀ {K : KT} {x1 : Int32} {H : Heap} {locs : List Loc} {ls : Array Slot} (h : fX3_hour_83 N  n K x1 = some (rr, KK)) (hl : lv_has ls 2 [(0, .ref ob), (1, .int x1)]) (hP : va_P (dC, dI) vwCl (mdW cI cC ob q K) H) (hD : va_D (aL (mdL ob q)) (mdW cI cC ob q K)) (hS : va_S (aL (mdL ob q)) s.heap H locs), W p l e (headSpec wsX3_hour rmX3_hour).room s m ([.ref ob] : List Value).toArray below meth c H locs 0 0 (MQ below (cEv (dC, dI) vwCl (mdL ob q) (mdW cI cC ob q KK)) ([.ref ob] : List Value).toArray s 0 0 (aL (mdL ob q))) (F0 m 83 ls []) := by
    intro  n
    induction n with
    | zero =>
      intro K x1 H locs ls h hl hP hD hS
      unfold fX3_hour_83 at h
      cases h
    | succ n ih =>
      intro K x1 H locs ls h hl hP hD hS
      unfold fX3_hour_83 at h
      refine lv_iload_n hx hb dX3_hour_83 rfl (lv_at hl 1 rfl) ?_
      refine lv_iconst (v := 5) hx hb dX3_hour_84 (by decide) ?_
      refine lv_icmp_ge (tgt := 129) hx hb dX3_hour_85 (by decide) (fun c5 => ?_) (fun c5 => ?_)
      · replace h := if_p c5 h
        exact t_129  h (lv_sub hl [0] rfl) hP hD hS
      · replace h := if_n c5 h
        refine lv_aload_n hx hb dX3_hour_88 rfl (lv_at hl 0 rfl) ?_
        refine lv_iload_n hx hb dX3_hour_89 rfl (lv_at hl 1 rfl) ?_
        obtain ⟨v6, hv6, h⟩ := bdP_some h
        refine call_VP (As := [.int x1]) (rest := []) ⟨hx, hb, hml, hown, hts⟩ (tX3_isAwake (l := l) (dC := dC) (dI := dI) (cI := cI) (cC := cC) (ob := ob) (q := q) hv6) (cwV 1 hts gX3_hour_X3_isAwake rfl rfl rfl (by decide +kernel) ⟨Nat.le_of_ble_eq_true rfl, Nat.le_of_ble_eq_true rfl⟩) hK hP 0 rfl rfl (by rfl) hl.1 rfl (Nat.le_of_ble_eq_true rfl) dX3_hour_90 ⟨Nat.zero_le _, Nat.zero_le _⟩ ?_
        refine lv_if_eq (tgt := 123) hx hb dX3_hour_93 (by decide) (fun c7 => ?_) (fun c7 => ?_)
        · replace h := if_p c7 h
          exact t_123 @ih h (lv_sub hl [0, 1] rfl) hP hD hS
        · replace h := if_n c7 h
          refine lv_aload_n hx hb dX3_hour_96 rfl (lv_at hl 0 rfl) ?_
          refine lv_iload_n hx hb dX3_hour_97 rfl (lv_at hl 1 rfl) ?_
          refine lv_iconst (v := 2) hx hb dX3_hour_98 (by decide) ?_
          obtain ⟨v8, hv8, h⟩ := bdP_some h
          refine call_VP (As := [.int x1, .int 2]) (rest := []) ⟨hx, hb, hml, hown, hts⟩ (tX3_of (l := l) (dC := dC) (dI := dI) (cI := cI) (cC := cC) (ob := ob) (q := q) hv8) (cwV 2 hts gX3_hour_X3_of rfl rfl rfl (by decide +kernel) ⟨Nat.le_of_ble_eq_true rfl, Nat.le_of_ble_eq_true rfl⟩) hK hP 0 rfl rfl (by rfl) hl.1 rfl (Nat.le_of_ble_eq_true rfl) dX3_hour_99 ⟨Nat.zero_le _, Nat.zero_le _⟩ ?_
          refine lv_if_ne (tgt := 123) hx hb dX3_hour_102 (by decide) (fun c9 => ?_) (fun c9 => ?_)
          · replace h := if_n c9 h
            exact t_123 @ih h (lv_sub hl [0, 1] rfl) hP hD hS
          · replace h := if_p c9 h
            refine lv_aload_n hx hb dX3_hour_105 rfl (lv_at hl 0 rfl) ?_
            refine lv_iload_n hx hb dX3_hour_106 rfl (lv_at hl 1 rfl) ?_
            refine lv_iconst (v := 4) hx hb dX3_hour_107 (by decide) ?_
            obtain ⟨v10, hv10, h⟩ := bdP_some h
            refine call_VP (As := [.int x1, .int 4]) (rest := []) ⟨hx, hb, hml, hown, hts⟩ (tX3_of (l := l) (dC := dC) (dI := dI) (cI := cI) (cC := cC) (ob := ob) (q := q) hv10) (cwV 2 hts gX3_hour_X3_of rfl rfl rfl (by decide +kernel) ⟨Nat.le_of_ble_eq_true rfl, Nat.le_of_ble_eq_true rfl⟩) hK hP 0 rfl rfl (by rfl) hl.1 rfl (Nat.le_of_ble_eq_true rfl) dX3_hour_108 ⟨Nat.zero_le _, Nat.zero_le _⟩ ?_
            refine lv_iconst (v := 3) hx hb dX3_hour_111 (by decide) ?_
            refine lv_iload_n hx hb dX3_hour_112 rfl (lv_at hl 1 rfl) ?_
            refine lv_iadd hx hb dX3_hour_113 ?_
            refine lv_icmp_lt (tgt := 123) hx hb dX3_hour_114 (by decide) (fun c11 => ?_) (fun c11 => ?_)
            · replace h := if_p c11 h
              exact t_123 @ih h (lv_sub hl [0, 1] rfl) hP hD hS
            · replace h := if_n c11 h
              refine lv_aload_n hx hb dX3_hour_117 rfl (lv_at hl 0 rfl) ?_
              refine lv_iload_n hx hb dX3_hour_118 rfl (lv_at hl 1 rfl) ?_
              obtain ⟨v12, K13, hv12, h⟩ := bdE_some h
              refine call_VE (As := [.int x1]) (rest := []) ⟨hx, hb, hml, hown, hts⟩ (tX3_asks (l := l) (dC := dC) (dI := dI) (cI := cI) (cC := cC) (ob := ob) (q := q) hv12) (cwV 1 hts gX3_hour_X3_asks rfl rfl rfl (by decide +kernel) ⟨Nat.le_of_ble_eq_true rfl, Nat.le_of_ble_eq_true rfl⟩) hK hP hD hS (fun _ h9 => h9) 0 rfl rfl (by rfl) hl.1 rfl (Nat.le_of_ble_eq_true rfl) dX3_hour_119 ⟨Nat.zero_le _, Nat.zero_le _⟩ (fun H locs hP hD _ hS => ?_)
              refine lv_pop hx hb dX3_hour_122 rfl ?_
              exact t_123 @ih h (lv_sub hl [0, 1] rfl) hP hD hS
  have t_81 : ∀ {K : KT}  {H : Heap} {locs : List Loc} {ls : Array Slot} (h : fX3_hour_81 N  K  = some (rr, KK)) (hl : lv_has ls 2 [(0, .ref ob)]) (hP : va_P (dC, dI) vwCl (mdW cI cC ob q K) H) (hD : va_D (aL (mdL ob q)) (mdW cI cC ob q K)) (hS : va_S (aL (mdL ob q)) s.heap H locs), W p l e (headSpec wsX3_hour rmX3_hour).room s m ([.ref ob] : List Value).toArray below meth c H locs 0 0 (MQ below (cEv (dC, dI) vwCl (mdL ob q) (mdW cI cC ob q KK)) ([.ref ob] : List Value).toArray s 0 0 (aL (mdL ob q))) (F0 m 81 ls []) := by
    intro  K H locs ls h hl hP hD hS
    unfold fX3_hour_81 at h
    refine lv_iconst (v := 0) hx hb dX3_hour_81 (by decide) ?_
    refine lv_istore_n (lv' := [(1, .int 0), (0, .ref ob)]) hx hb dX3_hour_82 rfl hl (by decide) rfl (fun ls hl => ?_)
    exact t_83  h (lv_sub hl [1, 0] rfl) hP hD hS
  have t_39 : ∀ {n : Nat}, ∀ {K : KT} {x1 : Int32} {H : Heap} {locs : List Loc} {ls : Array Slot} (h : fX3_hour_39 N  n K x1 = some (rr, KK)) (hl : lv_has ls 2 [(0, .ref ob), (1, .int x1)]) (hP : va_P (dC, dI) vwCl (mdW cI cC ob q K) H) (hD : va_D (aL (mdL ob q)) (mdW cI cC ob q K)) (hS : va_S (aL (mdL ob q)) s.heap H locs), W p l e (headSpec wsX3_hour rmX3_hour).room s m ([.ref ob] : List Value).toArray below meth c H locs 0 0 (MQ below (cEv (dC, dI) vwCl (mdL ob q) (mdW cI cC ob q KK)) ([.ref ob] : List Value).toArray s 0 0 (aL (mdL ob q))) (F0 m 39 ls []) := by
    intro  n
    induction n with
    | zero =>
      intro K x1 H locs ls h hl hP hD hS
      unfold fX3_hour_39 at h
      cases h
    | succ n ih =>
      intro K x1 H locs ls h hl hP hD hS
      unfold fX3_hour_39 at h
      refine lv_iload_n hx hb dX3_hour_39 rfl (lv_at hl 1 rfl) ?_
      refine lv_iconst (v := 5) hx hb dX3_hour_40 (by decide) ?_
      refine lv_icmp_ge (tgt := 81) hx hb dX3_hour_41 (by decide) (fun c14 => ?_) (fun c14 => ?_)
      · replace h := if_p c14 h
        exact t_81  h (lv_sub hl [0] rfl) hP hD hS
      · replace h := if_n c14 h
        refine lv_aload_n hx hb dX3_hour_44 rfl (lv_at hl 0 rfl) ?_
        refine lv_iload_n hx hb dX3_hour_45 rfl (lv_at hl 1 rfl) ?_
        obtain ⟨v15, hv15, h⟩ := bdP_some h
        refine call_VP (As := [.int x1]) (rest := []) ⟨hx, hb, hml, hown, hts⟩ (tX3_isAwake (l := l) (dC := dC) (dI := dI) (cI := cI) (cC := cC) (ob := ob) (q := q) hv15) (cwV 1 hts gX3_hour_X3_isAwake rfl rfl rfl (by decide +kernel) ⟨Nat.le_of_ble_eq_true rfl, Nat.le_of_ble_eq_true rfl⟩) hK hP 0 rfl rfl (by rfl) hl.1 rfl (Nat.le_of_ble_eq_true rfl) dX3_hour_46 ⟨Nat.zero_le _, Nat.zero_le _⟩ ?_
        refine lv_if_eq (tgt := 75) hx hb dX3_hour_49 (by decide) (fun c16 => ?_) (fun c16 => ?_)
        · replace h := if_p c16 h
          exact t_75 @ih h (lv_sub hl [0, 1] rfl) hP hD hS
        · replace h := if_n c16 h
          refine lv_aload_n hx hb dX3_hour_52 rfl (lv_at hl 0 rfl) ?_
          refine lv_iload_n hx hb dX3_hour_53 rfl (lv_at hl 1 rfl) ?_
          refine lv_iconst (v := 2) hx hb dX3_hour_54 (by decide) ?_
          obtain ⟨v17, hv17, h⟩ := bdP_some h
          refine call_VP (As := [.int x1, .int 2]) (rest := []) ⟨hx, hb, hml, hown, hts⟩ (tX3_of (l := l) (dC := dC) (dI := dI) (cI := cI) (cC := cC) (ob := ob) (q := q) hv17) (cwV 2 hts gX3_hour_X3_of rfl rfl rfl (by decide +kernel) ⟨Nat.le_of_ble_eq_true rfl, Nat.le_of_ble_eq_true rfl⟩) hK hP 0 rfl rfl (by rfl) hl.1 rfl (Nat.le_of_ble_eq_true rfl) dX3_hour_55 ⟨Nat.zero_le _, Nat.zero_le _⟩ ?_
          refine lv_if_ne (tgt := 75) hx hb dX3_hour_58 (by decide) (fun c18 => ?_) (fun c18 => ?_)
          · replace h := if_n c18 h
            exact t_75 @ih h (lv_sub hl [0, 1] rfl) hP hD hS
          · replace h := if_p c18 h
            refine lv_aload_n hx hb dX3_hour_61 rfl (lv_at hl 0 rfl) ?_
            refine lv_iload_n hx hb dX3_hour_62 rfl (lv_at hl 1 rfl) ?_
            refine lv_iconst (v := 4) hx hb dX3_hour_63 (by decide) ?_
            refine lv_aload_n hx hb dX3_hour_64 rfl (lv_at hl 0 rfl) ?_
            refine lv_iload_n hx hb dX3_hour_65 rfl (lv_at hl 1 rfl) ?_
            refine lv_iconst (v := 4) hx hb dX3_hour_66 (by decide) ?_
            obtain ⟨v19, hv19, h⟩ := bdP_some h
            refine call_VP (As := [.int x1, .int 4]) (rest := [.int 4, .int x1, .ref ob]) ⟨hx, hb, hml, hown, hts⟩ (tX3_of (l := l) (dC := dC) (dI := dI) (cI := cI) (cC := cC) (ob := ob) (q := q) hv19) (cwV 2 hts gX3_hour_X3_of rfl rfl rfl (by decide +kernel) ⟨Nat.le_of_ble_eq_true rfl, Nat.le_of_ble_eq_true rfl⟩) hK hP 0 rfl rfl (by rfl) hl.1 rfl (Nat.le_of_ble_eq_true rfl) dX3_hour_67 ⟨Nat.zero_le _, Nat.zero_le _⟩ ?_
            refine lv_iconst (v := 1) hx hb dX3_hour_70 (by decide) ?_
            refine lv_iadd hx hb dX3_hour_71 ?_
            obtain ⟨v20, K21, hv20, h⟩ := bdE_some h
            refine call_VEv (As := [.int x1, .int 4, .int (v19 + 1)]) (rest := []) ⟨hx, hb, hml, hown, hts⟩ (tX3_sets (l := l) (dC := dC) (dI := dI) (cI := cI) (cC := cC) (ob := ob) (q := q) hv20) (cwV 3 hts gX3_hour_X3_sets rfl rfl rfl (by decide +kernel) ⟨Nat.le_of_ble_eq_true rfl, Nat.le_of_ble_eq_true rfl⟩) hK hP hD hS (fun _ h9 => h9) 0 rfl rfl (by rfl) hl.1 rfl (Nat.le_of_ble_eq_true rfl) dX3_hour_72 ⟨Nat.zero_le _, Nat.zero_le _⟩ (fun H locs hP hD _ hS => ?_)
            exact t_75 @ih h (lv_sub hl [0, 1] rfl) hP hD hS
  have t_37 : ∀ {K : KT}  {H : Heap} {locs : List Loc} {ls : Array Slot} (h : fX3_hour_37 N  K  = some (rr, KK)) (hl : lv_has ls 2 [(0, .ref ob)]) (hP : va_P (dC, dI) vwCl (mdW cI cC ob q K) H) (hD : va_D (aL (mdL ob q)) (mdW cI cC ob q K)) (hS : va_S (aL (mdL ob q)) s.heap H locs), W p l e (headSpec wsX3_hour rmX3_hour).room s m ([.ref ob] : List Value).toArray below meth c H locs 0 0 (MQ below (cEv (dC, dI) vwCl (mdL ob q) (mdW cI cC ob q KK)) ([.ref ob] : List Value).toArray s 0 0 (aL (mdL ob q))) (F0 m 37 ls []) := by
    intro  K H locs ls h hl hP hD hS
    unfold fX3_hour_37 at h
    refine lv_iconst (v := 0) hx hb dX3_hour_37 (by decide) ?_
    refine lv_istore_n (lv' := [(1, .int 0), (0, .ref ob)]) hx hb dX3_hour_38 rfl hl (by decide) rfl (fun ls hl => ?_)
    exact t_39  h (lv_sub hl [1, 0] rfl) hP hD hS
  have t_2 : ∀ {n : Nat}, ∀ {K : KT} {x1 : Int32} {H : Heap} {locs : List Loc} {ls : Array Slot} (h : fX3_hour_2 N  n K x1 = some (rr, KK)) (hl : lv_has ls 2 [(0, .ref ob), (1, .int x1)]) (hP : va_P (dC, dI) vwCl (mdW cI cC ob q K) H) (hD : va_D (aL (mdL ob q)) (mdW cI cC ob q K)) (hS : va_S (aL (mdL ob q)) s.heap H locs), W p l e (headSpec wsX3_hour rmX3_hour).room s m ([.ref ob] : List Value).toArray below meth c H locs 0 0 (MQ below (cEv (dC, dI) vwCl (mdL ob q) (mdW cI cC ob q KK)) ([.ref ob] : List Value).toArray s 0 0 (aL (mdL ob q))) (F0 m 2 ls []) := by
    intro  n
    induction n with
    | zero =>
      intro K x1 H locs ls h hl hP hD hS
      unfold fX3_hour_2 at h
      cases h
    | succ n ih =>
      intro K x1 H locs ls h hl hP hD hS
      unfold fX3_hour_2 at h
      refine lv_iload_n hx hb dX3_hour_2 rfl (lv_at hl 1 rfl) ?_
      refine lv_iconst (v := 5) hx hb dX3_hour_3 (by decide) ?_
      refine lv_icmp_ge (tgt := 37) hx hb dX3_hour_4 (by decide) (fun c22 => ?_) (fun c22 => ?_)
      · replace h := if_p c22 h
        exact t_37  h (lv_sub hl [0] rfl) hP hD hS
      · replace h := if_n c22 h
        refine lv_aload_n hx hb dX3_hour_7 rfl (lv_at hl 0 rfl) ?_
        refine lv_iload_n hx hb dX3_hour_8 rfl (lv_at hl 1 rfl) ?_
        obtain ⟨v23, hv23, h⟩ := bdP_some h
        refine call_VP (As := [.int x1]) (rest := []) ⟨hx, hb, hml, hown, hts⟩ (tX3_isAwake (l := l) (dC := dC) (dI := dI) (cI := cI) (cC := cC) (ob := ob) (q := q) hv23) (cwV 1 hts gX3_hour_X3_isAwake rfl rfl rfl (by decide +kernel) ⟨Nat.le_of_ble_eq_true rfl, Nat.le_of_ble_eq_true rfl⟩) hK hP 0 rfl rfl (by rfl) hl.1 rfl (Nat.le_of_ble_eq_true rfl) dX3_hour_9 ⟨Nat.zero_le _, Nat.zero_le _⟩ ?_
        refine lv_if_eq (tgt := 31) hx hb dX3_hour_12 (by decide) (fun c24 => ?_) (fun c24 => ?_)
        · replace h := if_p c24 h
          exact t_31 @ih h (lv_sub hl [0, 1] rfl) hP hD hS
        · replace h := if_n c24 h
          refine lv_aload_n hx hb dX3_hour_15 rfl (lv_at hl 0 rfl) ?_
          refine lv_iload_n hx hb dX3_hour_16 rfl (lv_at hl 1 rfl) ?_
          refine lv_iconst (v := 2) hx hb dX3_hour_17 (by decide) ?_
          obtain ⟨v25, hv25, h⟩ := bdP_some h
          refine call_VP (As := [.int x1, .int 2]) (rest := []) ⟨hx, hb, hml, hown, hts⟩ (tX3_of (l := l) (dC := dC) (dI := dI) (cI := cI) (cC := cC) (ob := ob) (q := q) hv25) (cwV 2 hts gX3_hour_X3_of rfl rfl rfl (by decide +kernel) ⟨Nat.le_of_ble_eq_true rfl, Nat.le_of_ble_eq_true rfl⟩) hK hP 0 rfl rfl (by rfl) hl.1 rfl (Nat.le_of_ble_eq_true rfl) dX3_hour_18 ⟨Nat.zero_le _, Nat.zero_le _⟩ ?_
          refine lv_iconst (v := 1) hx hb dX3_hour_21 (by decide) ?_
          refine lv_icmp_ne (tgt := 31) hx hb dX3_hour_22 (by decide) (fun c26 => ?_) (fun c26 => ?_)
          · replace h := if_n c26 h
            exact t_31 @ih h (lv_sub hl [0, 1] rfl) hP hD hS
          · replace h := if_p c26 h
            refine lv_aload_n hx hb dX3_hour_25 rfl (lv_at hl 0 rfl) ?_
            refine lv_iload_n hx hb dX3_hour_26 rfl (lv_at hl 1 rfl) ?_
            obtain ⟨v27, K28, hv27, h⟩ := bdE_some h
            refine call_VE (As := [.int x1]) (rest := []) ⟨hx, hb, hml, hown, hts⟩ (tX3_goes (l := l) (dC := dC) (dI := dI) (cI := cI) (cC := cC) (ob := ob) (q := q) hv27) (cwV 1 hts gX3_hour_X3_goes rfl rfl rfl (by decide +kernel) ⟨Nat.le_of_ble_eq_true rfl, Nat.le_of_ble_eq_true rfl⟩) hK hP hD hS (fun _ h9 => h9) 0 rfl rfl (by rfl) hl.1 rfl (Nat.le_of_ble_eq_true rfl) dX3_hour_27 ⟨Nat.zero_le _, Nat.zero_le _⟩ (fun H locs hP hD _ hS => ?_)
            refine lv_pop hx hb dX3_hour_30 rfl ?_
            exact t_31 @ih h (lv_sub hl [0, 1] rfl) hP hD hS
  have hS : va_S (aL (mdL ob q)) s.heap s.heap [] := va_S.rf
  have hl := lv_entry ([.ref ob]) (n := 2) (Nat.le_of_ble_eq_true rfl)
  rw [lg_entry_eq]
  generalize (lg_sl ([.ref ob]) ++ List.replicate (2 - (lg_sl ([.ref ob])).length) Slot.unset).toArray = ls at hl ⊢
  have hl : lv_has ls 2 [(0, .ref ob)] := hl
  have h := hf
  unfold mX3_hour at h
  refine lv_iconst (v := 0) hx hb dX3_hour_0 (by decide) ?_
  refine lv_istore_n (lv' := [(1, .int 0), (0, .ref ob)]) hx hb dX3_hour_1 rfl hl (by decide) rfl (fun ls hl => ?_)
  exact t_2  h (lv_sub hl [1, 0] rfl) hP hD hS
def fX3_passes_37 (N : Nat)  (K : KT) (x2 : Int32) : Option (Int32 × KT) := rdA (K 0) 186 1 (fun v1 => some (v1 - x2, K))
def fX3_passes_22 (N : Nat)  : Nat → KT → Int32 → Int32 → Int32 → Option (Int32 × KT)
  | 0, _, _, _, _ => none
  | n + 1, K, x1, x2, x3 => (if x1 ≤ x3 then fX3_passes_37 N  K x2 else bdE (mX3_hour N K ) (fun v4 K5 => (fX3_passes_22 N  n) K5 x1 x2 (x3 + 1)))
def mX3_passes (N : Nat) (K : KT) (p0 : Int32) : Option (Int32 × KT) := bdP (mX3_in N p0 1 30) (fun v6 => (if v6 = 0 then some ((-2), K) else rdA (K 0) 186 1 (fun v8 => fX3_passes_22 N  N K p0 v8 0)))
def rmX3_passes : Room := { frames := 8, cells := 0, slots := 0, locals := 201 }
set_option maxHeartbeats 4000000 in
set_option maxRecDepth 100000 in
theorem tX3_passes {l : Launch} {dC : Nat → ClassId} {dI : Nat → Nat → Nat} {cI : ClassId} {cC : ClassId} {ob : Nat} {q : Nat → Nat} {N : Nat} {K : KT} {p0 : Int32} {rr : Int32} {KK : KT} (hf : mX3_passes N K p0 = some (rr, KK)) : Met l yX3_passes wsX3_passes rmX3_passes (cPe (dC, dI) vwCl [(cI, .int), (cC, .char)] (mdL ob q) (mdW cI cC ob q K) [.ref ob, .int p0]) (cE (dC, dI) vwCl (mdL ob q) rr (mdW cI cC ob q KK)) 0 0 (aL (mdL ob q)) := by
  refine Met.ofW (cc := cX3_passes) (maxL := 4) (ret := (some .int)) (by decide) rfl ?_
  intro p e s m args below meth c s₁ B hml hv
  obtain ⟨rfl, hP, hK, hD⟩ := hv
  have hx := B.exec
  have hb := B.bytes
  have hr := B.returns
  have hts := atoms_spec (ws := wsX3_passes) B.pre
  have hown : s.vm.findClass RX3 = some m.cls := findClass_of_methodNamed B.named
  have hlocks := B.notSynchronized
  have hwX3 : ∀ w ∈ u_ws RX3 TX3 17, w ∈ wsX3_passes := by decide +kernel
  have hf_9 := hts (.fieldLink RX3 9 "CaravanLogsModel" "now" "[I") (by decide +kernel)
  have t_37 : ∀ {K : KT} {x2 : Int32} {H : Heap} {locs : List Loc} {ls : Array Slot} (h : fX3_passes_37 N  K x2 = some (rr, KK)) (hl : lv_has ls 4 [(0, .ref ob), (2, .int x2)]) (hP : va_P (dC, dI) vwCl (mdW cI cC ob q K) H) (hD : va_D (aL (mdL ob q)) (mdW cI cC ob q K)) (hS : va_S (aL (mdL ob q)) s.heap H locs), W p l e (headSpec wsX3_passes rmX3_passes).room s m ([.ref ob, .int p0] : List Value).toArray below meth c H locs 0 0 (MQ below (cE (dC, dI) vwCl (mdL ob q) rr (mdW cI cC ob q KK)) ([.ref ob, .int p0] : List Value).toArray s 0 0 (aL (mdL ob q))) (F0 m 37 ls []) := by
    intro  K x2 H locs ls h hl hP hD hS
    unfold fX3_passes_37 at h
    refine lv_aload_n hx hb dX3_passes_37 rfl (lv_at hl 0 rfl) ?_
    refine va_get (D := (dC, dI)) (ci := 4) (v := .ref (q 0)) (C := RX3) (T := TX3) (N := 17) hx hb hts hwX3 hown hK hP 0 rfl rfl 0 (by decide) hf_9 (fun _ h9 => h9) rfl dX3_passes_38 ?_
    refine lv_iconst (v := 1) hx hb dX3_passes_41 (by decide) ?_
    obtain ⟨hi2, v1, ev1, h⟩ := rdA_some h
    refine k_iald hx hb hK hP 1 0 rfl rfl hi2 ev1 dX3_passes_42 ?_
    refine lv_iload_n hx hb dX3_passes_43 rfl (lv_at hl 1 rfl) ?_
    refine lv_isub hx hb dX3_passes_44 ?_
    exact W.iret hx hb hr (fun t ht _ => retE (w := mdW cI cC ob q) h hP hD hS ht) hS.2.2 dX3_passes_45
  have t_22 : ∀ {n : Nat}, ∀ {K : KT} {x1 : Int32} {x2 : Int32} {x3 : Int32} {H : Heap} {locs : List Loc} {ls : Array Slot} (h : fX3_passes_22 N  n K x1 x2 x3 = some (rr, KK)) (hl : lv_has ls 4 [(0, .ref ob), (1, .int x1), (2, .int x2), (3, .int x3)]) (hP : va_P (dC, dI) vwCl (mdW cI cC ob q K) H) (hD : va_D (aL (mdL ob q)) (mdW cI cC ob q K)) (hS : va_S (aL (mdL ob q)) s.heap H locs), W p l e (headSpec wsX3_passes rmX3_passes).room s m ([.ref ob, .int p0] : List Value).toArray below meth c H locs 0 0 (MQ below (cE (dC, dI) vwCl (mdL ob q) rr (mdW cI cC ob q KK)) ([.ref ob, .int p0] : List Value).toArray s 0 0 (aL (mdL ob q))) (F0 m 22 ls []) := by
    intro  n
    induction n with
    | zero =>
      intro K x1 x2 x3 H locs ls h hl hP hD hS
      unfold fX3_passes_22 at h
      cases h
    | succ n ih =>
      intro K x1 x2 x3 H locs ls h hl hP hD hS
      unfold fX3_passes_22 at h
      refine lv_iload_n hx hb dX3_passes_22 rfl (lv_at hl 3 rfl) ?_
      refine lv_iload_n hx hb dX3_passes_23 rfl (lv_at hl 1 rfl) ?_
      refine lv_icmp_ge (tgt := 37) hx hb dX3_passes_24 (by decide) (fun c3 => ?_) (fun c3 => ?_)
      · replace h := if_p c3 h
        exact t_37  h (lv_sub hl [0, 2] rfl) hP hD hS
      · replace h := if_n c3 h
        refine lv_aload_n hx hb dX3_passes_27 rfl (lv_at hl 0 rfl) ?_
        obtain ⟨v4, K5, hv4, h⟩ := bdE_some h
        refine call_VEv (As := []) (rest := []) ⟨hx, hb, hml, hown, hts⟩ (tX3_hour (l := l) (dC := dC) (dI := dI) (cI := cI) (cC := cC) (ob := ob) (q := q) hv4) (cwV 0 hts gX3_passes_X3_hour rfl rfl rfl (by decide +kernel) ⟨Nat.le_of_ble_eq_true rfl, Nat.le_of_ble_eq_true rfl⟩) hK hP hD hS (fun _ h9 => h9) 0 rfl rfl (by rfl) hl.1 rfl (Nat.le_of_ble_eq_true rfl) dX3_passes_28 ⟨Nat.zero_le _, Nat.zero_le _⟩ (fun H locs hP hD _ hS => ?_)
        refine lv_iinc (v := x3 + 1) (lv' := [(3, .int (x3 + 1)), (0, .ref ob), (1, .int x1), (2, .int x2)]) hx hb dX3_passes_31 hl (k := 3) rfl rfl (by decide) rfl (fun ls hl => ?_)
        refine lv_goto (tgt := 22) hx hb dX3_passes_34 (by decide) ?_
        exact ih h (lv_sub hl [1, 2, 3, 0] rfl) hP hD hS
  have hS : va_S (aL (mdL ob q)) s.heap s.heap [] := va_S.rf
  have hl := lv_entry ([.ref ob, .int p0]) (n := 4) (Nat.le_of_ble_eq_true rfl)
  rw [lg_entry_eq]
  generalize (lg_sl ([.ref ob, .int p0]) ++ List.replicate (4 - (lg_sl ([.ref ob, .int p0])).length) Slot.unset).toArray = ls at hl ⊢
  have hl : lv_has ls 4 [(0, .ref ob), (1, .int p0)] := hl
  have h := hf
  unfold mX3_passes at h
  refine lv_iload_n hx hb dX3_passes_0 rfl (lv_at hl 1 rfl) ?_
  refine lv_iconst (v := 1) hx hb dX3_passes_1 (by decide) ?_
  refine lv_bipush (v := 30) hx hb dX3_passes_2 (by decide) ?_
  obtain ⟨v6, hv6, h⟩ := bdP_some h
  refine call_SP (As := [.int p0, .int 1, .int 30]) (rest := []) ⟨hx, hb, hml, hown, hts⟩ (tX3_in (l := l) hv6) (va_cwS 3 hts gX3_passes_X3_in rfl rfl rfl (by decide +kernel) ⟨Nat.le_of_ble_eq_true rfl, Nat.le_of_ble_eq_true rfl⟩) (by rfl) hl.1 rfl (Nat.le_of_ble_eq_true rfl) dX3_passes_4 ⟨Nat.zero_le _, Nat.zero_le _⟩ ?_
  refine lv_if_ne (tgt := 13) hx hb dX3_passes_7 (by decide) (fun c7 => ?_) (fun c7 => ?_)
  · replace h := if_n c7 h
    refine lv_aload_n hx hb dX3_passes_13 rfl (lv_at hl 0 rfl) ?_
    refine va_get (D := (dC, dI)) (ci := 4) (v := .ref (q 0)) (C := RX3) (T := TX3) (N := 17) hx hb hts hwX3 hown hK hP 0 rfl rfl 0 (by decide) hf_9 (fun _ h9 => h9) rfl dX3_passes_14 ?_
    refine lv_iconst (v := 1) hx hb dX3_passes_17 (by decide) ?_
    obtain ⟨hi9, v8, ev8, h⟩ := rdA_some h
    refine k_iald hx hb hK hP 1 0 rfl rfl hi9 ev8 dX3_passes_18 ?_
    refine lv_istore_n (lv' := [(2, .int v8), (0, .ref ob), (1, .int p0)]) hx hb dX3_passes_19 rfl hl (by decide) rfl (fun ls hl => ?_)
    refine lv_iconst (v := 0) hx hb dX3_passes_20 (by decide) ?_
    refine lv_istore_n (lv' := [(3, .int 0), (2, .int v8), (0, .ref ob), (1, .int p0)]) hx hb dX3_passes_21 rfl hl (by decide) rfl (fun ls hl => ?_)
    exact t_22  h (lv_sub hl [2, 3, 1, 0] rfl) hP hD hS
  · replace h := if_p c7 h
    refine lv_bipush (v := (-2)) hx hb dX3_passes_10 (by decide) ?_
    exact W.iret hx hb hr (fun t ht _ => retE (w := mdW cI cC ob q) h hP hD hS ht) hS.2.2 dX3_passes_12
def mX3_pass (N : Nat) (K : KT) (p0 : Int32) : Option (Int32 × KT) := bdE (mX3_tries N K ) (fun v1 K2 => bdE (mX3_passes N K2 p0) (fun v3 K4 => bdE (mX3_ends N K4 v3) (fun v5 K6 => some (v5, K6))))
def rmX3_pass : Room := { frames := 9, cells := 0, slots := 0, locals := 224 }
set_option maxHeartbeats 4000000 in
set_option maxRecDepth 100000 in
theorem tX3_pass {l : Launch} {dC : Nat → ClassId} {dI : Nat → Nat → Nat} {cI : ClassId} {cC : ClassId} {ob : Nat} {q : Nat → Nat} {N : Nat} {K : KT} {p0 : Int32} {rr : Int32} {KK : KT} (hf : mX3_pass N K p0 = some (rr, KK)) : Met l yX3_pass wsX3_pass rmX3_pass (cPe (dC, dI) vwCl [(cI, .int), (cC, .char)] (mdL ob q) (mdW cI cC ob q K) [.ref ob, .int p0]) (cE (dC, dI) vwCl (mdL ob q) rr (mdW cI cC ob q KK)) 0 0 (aL (mdL ob q)) := by
  refine Met.ofW (cc := cX3_pass) (maxL := 2) (ret := (some .int)) (by decide) rfl ?_
  intro p e s m args below meth c s₁ B hml hv
  obtain ⟨rfl, hP, hK, hD⟩ := hv
  have hx := B.exec
  have hb := B.bytes
  have hr := B.returns
  have hts := atoms_spec (ws := wsX3_pass) B.pre
  have hown : s.vm.findClass RX3 = some m.cls := findClass_of_methodNamed B.named
  have hlocks := B.notSynchronized
  have hS : va_S (aL (mdL ob q)) s.heap s.heap [] := va_S.rf
  have hl := lv_entry ([.ref ob, .int p0]) (n := 2) (Nat.le_of_ble_eq_true rfl)
  rw [lg_entry_eq]
  generalize (lg_sl ([.ref ob, .int p0]) ++ List.replicate (2 - (lg_sl ([.ref ob, .int p0])).length) Slot.unset).toArray = ls at hl ⊢
  have hl : lv_has ls 2 [(0, .ref ob), (1, .int p0)] := hl
  have h := hf
  unfold mX3_pass at h
  refine lv_aload_n hx hb dX3_pass_0 rfl (lv_at hl 0 rfl) ?_
  obtain ⟨v1, K2, hv1, h⟩ := bdE_some h
  refine call_VEv (As := []) (rest := []) ⟨hx, hb, hml, hown, hts⟩ (tX3_tries (l := l) (dC := dC) (dI := dI) (cI := cI) (cC := cC) (ob := ob) (q := q) hv1) (cwV 0 hts gX3_pass_X3_tries rfl rfl rfl (by decide +kernel) ⟨Nat.le_of_ble_eq_true rfl, Nat.le_of_ble_eq_true rfl⟩) hK hP hD hS (fun _ h9 => h9) 0 rfl rfl (by rfl) hl.1 rfl (Nat.le_of_ble_eq_true rfl) dX3_pass_1 ⟨Nat.zero_le _, Nat.zero_le _⟩ (fun H locs hP hD _ hS => ?_)
  refine lv_aload_n hx hb dX3_pass_4 rfl (lv_at hl 0 rfl) ?_
  refine lv_aload_n hx hb dX3_pass_5 rfl (lv_at hl 0 rfl) ?_
  refine lv_iload_n hx hb dX3_pass_6 rfl (lv_at hl 1 rfl) ?_
  obtain ⟨v3, K4, hv3, h⟩ := bdE_some h
  refine call_VE (As := [.int p0]) (rest := [.ref ob]) ⟨hx, hb, hml, hown, hts⟩ (tX3_passes (l := l) (dC := dC) (dI := dI) (cI := cI) (cC := cC) (ob := ob) (q := q) hv3) (cwV 1 hts gX3_pass_X3_passes rfl rfl rfl (by decide +kernel) ⟨Nat.le_of_ble_eq_true rfl, Nat.le_of_ble_eq_true rfl⟩) hK hP hD hS (fun _ h9 => h9) 0 rfl rfl (by rfl) hl.1 rfl (Nat.le_of_ble_eq_true rfl) dX3_pass_7 ⟨Nat.zero_le _, Nat.zero_le _⟩ (fun H locs hP hD _ hS => ?_)
  obtain ⟨v5, K6, hv5, h⟩ := bdE_some h
  refine call_VE (As := [.int v3]) (rest := []) ⟨hx, hb, hml, hown, hts⟩ (tX3_ends (l := l) (dC := dC) (dI := dI) (cI := cI) (cC := cC) (ob := ob) (q := q) hv5) (cwV 1 hts gX3_pass_X3_ends rfl rfl rfl (by decide +kernel) ⟨Nat.le_of_ble_eq_true rfl, Nat.le_of_ble_eq_true rfl⟩) hK hP hD hS (fun _ h9 => h9) 0 rfl rfl (by rfl) hl.1 rfl (Nat.le_of_ble_eq_true rfl) dX3_pass_10 ⟨Nat.zero_le _, Nat.zero_le _⟩ (fun H locs hP hD _ hS => ?_)
  exact W.iret hx hb hr (fun t ht _ => retE (w := mdW cI cC ob q) h hP hD hS ht) hS.2.2 dX3_pass_13
def fX3_campOf_89 (N : Nat) (K : KT)  (y0 : Int32) : Option Int32 := some y0
def fX3_campOf_110 (N : Nat) (K : KT)  (y0 : Int32) : Option Int32 := some y0
def mX3_campOf (N : Nat) (K : KT) (p0 : Int32) (p1 : Int32) : Option Int32 := bdP (mX3_isCamp N p0) (fun v1 => (if v1 = 0 then some ((-1)) else (if p1 = 0 then bdP (mX3_of N K p0 0) (fun v4 => some v4) else (if p1 = 1 then bdP (mX3_of N K p0 1) (fun v6 => (if v6 = 0 then fX3_campOf_89 N K  ((-4)) else bdP (mX3_of N K p0 1) (fun v8 => fX3_campOf_89 N K  (v8 - 1)))) else (if p1 = 2 then bdP (mX3_of N K p0 2) (fun v10 => some v10) else (if p1 = 3 then bdP (mX3_isAwake N K p0) (fun v12 => (if v12 = 0 then fX3_campOf_110 N K  0 else fX3_campOf_110 N K  1)) else (if p1 = 4 then bdP (mX3_of N K p0 6) (fun v15 => some v15) else (if p1 = 5 then bdP (mX3_of N K p0 5) (fun v17 => some v17) else (if p1 = 6 then bdP (mX3_of N K p0 4) (fun v19 => some v19) else (if p1 = 7 then some (3 + p0) else (if p1 = 8 then bdP (mX3_lastTerm N K p0) (fun v22 => some v22) else some ((-2)))))))))))))
def rmX3_campOf : Room := { frames := 4, cells := 0, slots := 0, locals := 106 }
set_option maxHeartbeats 4000000 in
set_option maxRecDepth 100000 in
theorem tX3_campOf {l : Launch} {dC : Nat → ClassId} {dI : Nat → Nat → Nat} {cI : ClassId} {cC : ClassId} {ob : Nat} {q : Nat → Nat} {N : Nat} {K : KT} {p0 : Int32} {p1 : Int32} {rr : Int32} (hf : mX3_campOf N K p0 p1 = some rr) : Met l yX3_campOf wsX3_campOf rmX3_campOf (cP (dC, dI) vwCl [(cI, .int), (cC, .char)] (mdW cI cC ob q K) [.ref ob, .int p0, .int p1]) (cQp rr) 0 0 (fun _ => False) := by
  refine Met.ofW (cc := cX3_campOf) (maxL := 3) (ret := (some .int)) (by decide) rfl ?_
  intro p e s m args below meth c s₁ B hml hv
  obtain ⟨rfl, hP, hK⟩ := hv
  have hx := B.exec
  have hb := B.bytes
  have hr := B.returns
  have hts := atoms_spec (ws := wsX3_campOf) B.pre
  have hown : s.vm.findClass RX3 = some m.cls := findClass_of_methodNamed B.named
  have hlocks := B.notSynchronized
  have t_89 : ∀ {y0 : Int32} {ls : Array Slot} (h : fX3_campOf_89 N K  y0 = some rr) (hl : lv_has ls 3 []), W p l e (headSpec wsX3_campOf rmX3_campOf).room s m ([.ref ob, .int p0, .int p1] : List Value).toArray below meth c s.heap [] 0 0 (MQ below (cQp rr) ([.ref ob, .int p0, .int p1] : List Value).toArray s 0 0 (fun _ => False)) (F0 m 89 ls [.int y0]) := by
    intro  y0 ls h hl
    unfold fX3_campOf_89 at h
    exact W.iret hx hb hr (fun t ht _ => retP h ht) (fun _ h9 => absurd h9 List.not_mem_nil) dX3_campOf_89
  have t_110 : ∀ {y0 : Int32} {ls : Array Slot} (h : fX3_campOf_110 N K  y0 = some rr) (hl : lv_has ls 3 []), W p l e (headSpec wsX3_campOf rmX3_campOf).room s m ([.ref ob, .int p0, .int p1] : List Value).toArray below meth c s.heap [] 0 0 (MQ below (cQp rr) ([.ref ob, .int p0, .int p1] : List Value).toArray s 0 0 (fun _ => False)) (F0 m 110 ls [.int y0]) := by
    intro  y0 ls h hl
    unfold fX3_campOf_110 at h
    exact W.iret hx hb hr (fun t ht _ => retP h ht) (fun _ h9 => absurd h9 List.not_mem_nil) dX3_campOf_110
  have hl := lv_entry ([.ref ob, .int p0, .int p1]) (n := 3) (Nat.le_of_ble_eq_true rfl)
  rw [lg_entry_eq]
  generalize (lg_sl ([.ref ob, .int p0, .int p1]) ++ List.replicate (3 - (lg_sl ([.ref ob, .int p0, .int p1])).length) Slot.unset).toArray = ls at hl ⊢
  have hl : lv_has ls 3 [(0, .ref ob), (1, .int p0), (2, .int p1)] := hl
  have h := hf
  unfold mX3_campOf at h
  refine lv_iload_n hx hb dX3_campOf_0 rfl (lv_at hl 1 rfl) ?_
  obtain ⟨v1, hv1, h⟩ := bdP_some h
  refine call_SP (As := [.int p0]) (rest := []) ⟨hx, hb, hml, hown, hts⟩ (tX3_isCamp (l := l) hv1) (va_cwS 1 hts gX3_campOf_X3_isCamp rfl rfl rfl (by decide +kernel) ⟨Nat.le_of_ble_eq_true rfl, Nat.le_of_ble_eq_true rfl⟩) (by rfl) hl.1 rfl (Nat.le_of_ble_eq_true rfl) dX3_campOf_1 ⟨Nat.zero_le _, Nat.zero_le _⟩ ?_
  refine lv_if_ne (tgt := 9) hx hb dX3_campOf_4 (by decide) (fun c2 => ?_) (fun c2 => ?_)
  · replace h := if_n c2 h
    refine lv_iload_n hx hb dX3_campOf_9 rfl (lv_at hl 2 rfl) ?_
    by_cases c3 : p1 = 0
    · replace h := if_p c3 h
      refine lv_tableIn (tgt := 60) hx hb dX3_campOf_10 (by rw [c3]; decide) (by rw [c3]; decide) (by rw [c3]; rfl) (by decide) ?_
      refine lv_aload_n hx hb dX3_campOf_60 rfl (lv_at hl 0 rfl) ?_
      refine lv_iload_n hx hb dX3_campOf_61 rfl (lv_at hl 1 rfl) ?_
      refine lv_iconst (v := 0) hx hb dX3_campOf_62 (by decide) ?_
      obtain ⟨v4, hv4, h⟩ := bdP_some h
      refine call_VP (As := [.int p0, .int 0]) (rest := []) ⟨hx, hb, hml, hown, hts⟩ (tX3_of (l := l) (dC := dC) (dI := dI) (cI := cI) (cC := cC) (ob := ob) (q := q) hv4) (cwV 2 hts gX3_campOf_X3_of rfl rfl rfl (by decide +kernel) ⟨Nat.le_of_ble_eq_true rfl, Nat.le_of_ble_eq_true rfl⟩) hK hP 0 rfl rfl (by rfl) hl.1 rfl (Nat.le_of_ble_eq_true rfl) dX3_campOf_63 ⟨Nat.zero_le _, Nat.zero_le _⟩ ?_
      exact W.iret hx hb hr (fun t ht _ => retP h ht) (fun _ h9 => absurd h9 List.not_mem_nil) dX3_campOf_66
    · replace h := if_n c3 h
      by_cases c5 : p1 = 1
      · replace h := if_p c5 h
        refine lv_tableIn (tgt := 67) hx hb dX3_campOf_10 (by rw [c5]; decide) (by rw [c5]; decide) (by rw [c5]; rfl) (by decide) ?_
        refine lv_aload_n hx hb dX3_campOf_67 rfl (lv_at hl 0 rfl) ?_
        refine lv_iload_n hx hb dX3_campOf_68 rfl (lv_at hl 1 rfl) ?_
        refine lv_iconst (v := 1) hx hb dX3_campOf_69 (by decide) ?_
        obtain ⟨v6, hv6, h⟩ := bdP_some h
        refine call_VP (As := [.int p0, .int 1]) (rest := []) ⟨hx, hb, hml, hown, hts⟩ (tX3_of (l := l) (dC := dC) (dI := dI) (cI := cI) (cC := cC) (ob := ob) (q := q) hv6) (cwV 2 hts gX3_campOf_X3_of rfl rfl rfl (by decide +kernel) ⟨Nat.le_of_ble_eq_true rfl, Nat.le_of_ble_eq_true rfl⟩) hK hP 0 rfl rfl (by rfl) hl.1 rfl (Nat.le_of_ble_eq_true rfl) dX3_campOf_70 ⟨Nat.zero_le _, Nat.zero_le _⟩ ?_
        refine lv_if_ne (tgt := 81) hx hb dX3_campOf_73 (by decide) (fun c7 => ?_) (fun c7 => ?_)
        · replace h := if_n c7 h
          refine lv_aload_n hx hb dX3_campOf_81 rfl (lv_at hl 0 rfl) ?_
          refine lv_iload_n hx hb dX3_campOf_82 rfl (lv_at hl 1 rfl) ?_
          refine lv_iconst (v := 1) hx hb dX3_campOf_83 (by decide) ?_
          obtain ⟨v8, hv8, h⟩ := bdP_some h
          refine call_VP (As := [.int p0, .int 1]) (rest := []) ⟨hx, hb, hml, hown, hts⟩ (tX3_of (l := l) (dC := dC) (dI := dI) (cI := cI) (cC := cC) (ob := ob) (q := q) hv8) (cwV 2 hts gX3_campOf_X3_of rfl rfl rfl (by decide +kernel) ⟨Nat.le_of_ble_eq_true rfl, Nat.le_of_ble_eq_true rfl⟩) hK hP 0 rfl rfl (by rfl) hl.1 rfl (Nat.le_of_ble_eq_true rfl) dX3_campOf_84 ⟨Nat.zero_le _, Nat.zero_le _⟩ ?_
          refine lv_iconst (v := 1) hx hb dX3_campOf_87 (by decide) ?_
          refine lv_isub hx hb dX3_campOf_88 ?_
          exact t_89  h (lv_sub hl [] rfl)
        · replace h := if_p c7 h
          refine lv_bipush (v := (-4)) hx hb dX3_campOf_76 (by decide) ?_
          refine lv_goto (tgt := 89) hx hb dX3_campOf_78 (by decide) ?_
          exact t_89  h (lv_sub hl [] rfl)
      · replace h := if_n c5 h
        by_cases c9 : p1 = 2
        · replace h := if_p c9 h
          refine lv_tableIn (tgt := 90) hx hb dX3_campOf_10 (by rw [c9]; decide) (by rw [c9]; decide) (by rw [c9]; rfl) (by decide) ?_
          refine lv_aload_n hx hb dX3_campOf_90 rfl (lv_at hl 0 rfl) ?_
          refine lv_iload_n hx hb dX3_campOf_91 rfl (lv_at hl 1 rfl) ?_
          refine lv_iconst (v := 2) hx hb dX3_campOf_92 (by decide) ?_
          obtain ⟨v10, hv10, h⟩ := bdP_some h
          refine call_VP (As := [.int p0, .int 2]) (rest := []) ⟨hx, hb, hml, hown, hts⟩ (tX3_of (l := l) (dC := dC) (dI := dI) (cI := cI) (cC := cC) (ob := ob) (q := q) hv10) (cwV 2 hts gX3_campOf_X3_of rfl rfl rfl (by decide +kernel) ⟨Nat.le_of_ble_eq_true rfl, Nat.le_of_ble_eq_true rfl⟩) hK hP 0 rfl rfl (by rfl) hl.1 rfl (Nat.le_of_ble_eq_true rfl) dX3_campOf_93 ⟨Nat.zero_le _, Nat.zero_le _⟩ ?_
          exact W.iret hx hb hr (fun t ht _ => retP h ht) (fun _ h9 => absurd h9 List.not_mem_nil) dX3_campOf_96
        · replace h := if_n c9 h
          by_cases c11 : p1 = 3
          · replace h := if_p c11 h
            refine lv_tableIn (tgt := 97) hx hb dX3_campOf_10 (by rw [c11]; decide) (by rw [c11]; decide) (by rw [c11]; rfl) (by decide) ?_
            refine lv_aload_n hx hb dX3_campOf_97 rfl (lv_at hl 0 rfl) ?_
            refine lv_iload_n hx hb dX3_campOf_98 rfl (lv_at hl 1 rfl) ?_
            obtain ⟨v12, hv12, h⟩ := bdP_some h
            refine call_VP (As := [.int p0]) (rest := []) ⟨hx, hb, hml, hown, hts⟩ (tX3_isAwake (l := l) (dC := dC) (dI := dI) (cI := cI) (cC := cC) (ob := ob) (q := q) hv12) (cwV 1 hts gX3_campOf_X3_isAwake rfl rfl rfl (by decide +kernel) ⟨Nat.le_of_ble_eq_true rfl, Nat.le_of_ble_eq_true rfl⟩) hK hP 0 rfl rfl (by rfl) hl.1 rfl (Nat.le_of_ble_eq_true rfl) dX3_campOf_99 ⟨Nat.zero_le _, Nat.zero_le _⟩ ?_
            refine lv_if_eq (tgt := 109) hx hb dX3_campOf_102 (by decide) (fun c13 => ?_) (fun c13 => ?_)
            · replace h := if_p c13 h
              refine lv_iconst (v := 0) hx hb dX3_campOf_109 (by decide) ?_
              exact t_110  h (lv_sub hl [] rfl)
            · replace h := if_n c13 h
              refine lv_iconst (v := 1) hx hb dX3_campOf_105 (by decide) ?_
              refine lv_goto (tgt := 110) hx hb dX3_campOf_106 (by decide) ?_
              exact t_110  h (lv_sub hl [] rfl)
          · replace h := if_n c11 h
            by_cases c14 : p1 = 4
            · replace h := if_p c14 h
              refine lv_tableIn (tgt := 111) hx hb dX3_campOf_10 (by rw [c14]; decide) (by rw [c14]; decide) (by rw [c14]; rfl) (by decide) ?_
              refine lv_aload_n hx hb dX3_campOf_111 rfl (lv_at hl 0 rfl) ?_
              refine lv_iload_n hx hb dX3_campOf_112 rfl (lv_at hl 1 rfl) ?_
              refine lv_bipush (v := 6) hx hb dX3_campOf_113 (by decide) ?_
              obtain ⟨v15, hv15, h⟩ := bdP_some h
              refine call_VP (As := [.int p0, .int 6]) (rest := []) ⟨hx, hb, hml, hown, hts⟩ (tX3_of (l := l) (dC := dC) (dI := dI) (cI := cI) (cC := cC) (ob := ob) (q := q) hv15) (cwV 2 hts gX3_campOf_X3_of rfl rfl rfl (by decide +kernel) ⟨Nat.le_of_ble_eq_true rfl, Nat.le_of_ble_eq_true rfl⟩) hK hP 0 rfl rfl (by rfl) hl.1 rfl (Nat.le_of_ble_eq_true rfl) dX3_campOf_115 ⟨Nat.zero_le _, Nat.zero_le _⟩ ?_
              exact W.iret hx hb hr (fun t ht _ => retP h ht) (fun _ h9 => absurd h9 List.not_mem_nil) dX3_campOf_118
            · replace h := if_n c14 h
              by_cases c16 : p1 = 5
              · replace h := if_p c16 h
                refine lv_tableIn (tgt := 119) hx hb dX3_campOf_10 (by rw [c16]; decide) (by rw [c16]; decide) (by rw [c16]; rfl) (by decide) ?_
                refine lv_aload_n hx hb dX3_campOf_119 rfl (lv_at hl 0 rfl) ?_
                refine lv_iload_n hx hb dX3_campOf_120 rfl (lv_at hl 1 rfl) ?_
                refine lv_iconst (v := 5) hx hb dX3_campOf_121 (by decide) ?_
                obtain ⟨v17, hv17, h⟩ := bdP_some h
                refine call_VP (As := [.int p0, .int 5]) (rest := []) ⟨hx, hb, hml, hown, hts⟩ (tX3_of (l := l) (dC := dC) (dI := dI) (cI := cI) (cC := cC) (ob := ob) (q := q) hv17) (cwV 2 hts gX3_campOf_X3_of rfl rfl rfl (by decide +kernel) ⟨Nat.le_of_ble_eq_true rfl, Nat.le_of_ble_eq_true rfl⟩) hK hP 0 rfl rfl (by rfl) hl.1 rfl (Nat.le_of_ble_eq_true rfl) dX3_campOf_122 ⟨Nat.zero_le _, Nat.zero_le _⟩ ?_
                exact W.iret hx hb hr (fun t ht _ => retP h ht) (fun _ h9 => absurd h9 List.not_mem_nil) dX3_campOf_125
              · replace h := if_n c16 h
                by_cases c18 : p1 = 6
                · replace h := if_p c18 h
                  refine lv_tableIn (tgt := 126) hx hb dX3_campOf_10 (by rw [c18]; decide) (by rw [c18]; decide) (by rw [c18]; rfl) (by decide) ?_
                  refine lv_aload_n hx hb dX3_campOf_126 rfl (lv_at hl 0 rfl) ?_
                  refine lv_iload_n hx hb dX3_campOf_127 rfl (lv_at hl 1 rfl) ?_
                  refine lv_iconst (v := 4) hx hb dX3_campOf_128 (by decide) ?_
                  obtain ⟨v19, hv19, h⟩ := bdP_some h
                  refine call_VP (As := [.int p0, .int 4]) (rest := []) ⟨hx, hb, hml, hown, hts⟩ (tX3_of (l := l) (dC := dC) (dI := dI) (cI := cI) (cC := cC) (ob := ob) (q := q) hv19) (cwV 2 hts gX3_campOf_X3_of rfl rfl rfl (by decide +kernel) ⟨Nat.le_of_ble_eq_true rfl, Nat.le_of_ble_eq_true rfl⟩) hK hP 0 rfl rfl (by rfl) hl.1 rfl (Nat.le_of_ble_eq_true rfl) dX3_campOf_129 ⟨Nat.zero_le _, Nat.zero_le _⟩ ?_
                  exact W.iret hx hb hr (fun t ht _ => retP h ht) (fun _ h9 => absurd h9 List.not_mem_nil) dX3_campOf_132
                · replace h := if_n c18 h
                  by_cases c20 : p1 = 7
                  · replace h := if_p c20 h
                    refine lv_tableIn (tgt := 133) hx hb dX3_campOf_10 (by rw [c20]; decide) (by rw [c20]; decide) (by rw [c20]; rfl) (by decide) ?_
                    refine lv_iconst (v := 3) hx hb dX3_campOf_133 (by decide) ?_
                    refine lv_iload_n hx hb dX3_campOf_134 rfl (lv_at hl 1 rfl) ?_
                    refine lv_iadd hx hb dX3_campOf_135 ?_
                    exact W.iret hx hb hr (fun t ht _ => retP h ht) (fun _ h9 => absurd h9 List.not_mem_nil) dX3_campOf_136
                  · replace h := if_n c20 h
                    by_cases c21 : p1 = 8
                    · replace h := if_p c21 h
                      refine lv_tableIn (tgt := 137) hx hb dX3_campOf_10 (by rw [c21]; decide) (by rw [c21]; decide) (by rw [c21]; rfl) (by decide) ?_
                      refine lv_aload_n hx hb dX3_campOf_137 rfl (lv_at hl 0 rfl) ?_
                      refine lv_iload_n hx hb dX3_campOf_138 rfl (lv_at hl 1 rfl) ?_
                      obtain ⟨v22, hv22, h⟩ := bdP_some h
                      refine call_VP (As := [.int p0]) (rest := []) ⟨hx, hb, hml, hown, hts⟩ (tX3_lastTerm (l := l) (dC := dC) (dI := dI) (cI := cI) (cC := cC) (ob := ob) (q := q) hv22) (cwV 1 hts gX3_campOf_X3_lastTerm rfl rfl rfl (by decide +kernel) ⟨Nat.le_of_ble_eq_true rfl, Nat.le_of_ble_eq_true rfl⟩) hK hP 0 rfl rfl (by rfl) hl.1 rfl (Nat.le_of_ble_eq_true rfl) dX3_campOf_139 ⟨Nat.zero_le _, Nat.zero_le _⟩ ?_
                      exact W.iret hx hb hr (fun t ht _ => retP h ht) (fun _ h9 => absurd h9 List.not_mem_nil) dX3_campOf_142
                    · replace h := if_n c21 h
                      -- default
                      have qc3 := i32_ne c3; rw [show (0 : Int32).toInt = 0 from by decide] at qc3
                      have qc5 := i32_ne c5; rw [show (1 : Int32).toInt = 1 from by decide] at qc5
                      have qc9 := i32_ne c9; rw [show (2 : Int32).toInt = 2 from by decide] at qc9
                      have qc11 := i32_ne c11; rw [show (3 : Int32).toInt = 3 from by decide] at qc11
                      have qc14 := i32_ne c14; rw [show (4 : Int32).toInt = 4 from by decide] at qc14
                      have qc16 := i32_ne c16; rw [show (5 : Int32).toInt = 5 from by decide] at qc16
                      have qc18 := i32_ne c18; rw [show (6 : Int32).toInt = 6 from by decide] at qc18
                      have qc20 := i32_ne c20; rw [show (7 : Int32).toInt = 7 from by decide] at qc20
                      have qc21 := i32_ne c21; rw [show (8 : Int32).toInt = 8 from by decide] at qc21
                      refine lv_tableOut (tgt := 143) hx hb dX3_campOf_10 (by omega) (by decide) ?_
                      refine lv_bipush (v := (-2)) hx hb dX3_campOf_143 (by decide) ?_
                      exact W.iret hx hb hr (fun t ht _ => retP h ht) (fun _ h9 => absurd h9 List.not_mem_nil) dX3_campOf_145
  · replace h := if_p c2 h
    refine lv_iconst (v := (-1)) hx hb dX3_campOf_7 (by decide) ?_
    exact W.iret hx hb hr (fun t ht _ => retP h ht) (fun _ h9 => absurd h9 List.not_mem_nil) dX3_campOf_8
