def fX3_in_15 (N : Nat)  (y0 : Int32) : Option Int32 := gd (y0 = 0 ∨ y0 = 1) (some y0)
def fX3_in_14 (N : Nat)   : Option Int32 := fX3_in_15 N  0
def mX3_in (N : Nat) (p0 : Int32) (p1 : Int32) (p2 : Int32) : Option Int32 := (if p0 < p1 then fX3_in_14 N   else (if p2 < p0 then fX3_in_14 N   else fX3_in_15 N  1))
def rmX3_in : Room := { frames := 1, cells := 0, slots := 0, locals := 40 }
set_option maxHeartbeats 4000000 in
set_option maxRecDepth 100000 in
theorem tX3_in {l : Launch} {N : Nat} {p0 : Int32} {p1 : Int32} {p2 : Int32} {rr : Int32} (hf : mX3_in N p0 p1 p2 = some rr) : Met l yX3_in wsX3_in rmX3_in (cS [.int p0, .int p1, .int p2]) (cQp rr) 0 0 (fun _ => False) := by
  refine Met.ofW (cc := cX3_in) (maxL := 3) (ret := (some .boolean)) (by decide) rfl ?_
  intro p e s m args below meth c s₁ B hml hv
  obtain rfl : args = ([.int p0, .int p1, .int p2] : List Value).toArray := hv
  have hx := B.exec
  have hb := B.bytes
  have hr := B.returns
  have hts := atoms_spec (ws := wsX3_in) B.pre
  have hown : s.vm.findClass RX3 = some m.cls := findClass_of_methodNamed B.named
  have hlocks := B.notSynchronized
  have t_15 : ∀ {y0 : Int32} {ls : Array Slot} (h : fX3_in_15 N  y0 = some rr) (hl : lv_has ls 3 []), W p l e (headSpec wsX3_in rmX3_in).room s m ([.int p0, .int p1, .int p2] : List Value).toArray below meth c s.heap [] 0 0 (MQ below (cQp rr) ([.int p0, .int p1, .int p2] : List Value).toArray s 0 0 (fun _ => False)) (F0 m 15 ls [.int y0]) := by
    intro  y0 ls h hl
    unfold fX3_in_15 at h
    obtain ⟨hz, h⟩ := gd_some h
    exact W.zret hx hb hr (zb_ok hz) (fun t ht _ => retP h ht) (fun _ h9 => absurd h9 List.not_mem_nil) dX3_in_15
  have t_14 : ∀  {ls : Array Slot} (h : fX3_in_14 N   = some rr) (hl : lv_has ls 3 []), W p l e (headSpec wsX3_in rmX3_in).room s m ([.int p0, .int p1, .int p2] : List Value).toArray below meth c s.heap [] 0 0 (MQ below (cQp rr) ([.int p0, .int p1, .int p2] : List Value).toArray s 0 0 (fun _ => False)) (F0 m 14 ls []) := by
    intro   ls h hl
    unfold fX3_in_14 at h
    refine lv_iconst (v := 0) hx hb dX3_in_14 (by decide) ?_
    exact t_15  h (lv_sub hl [] rfl)
  have hl := lv_entry ([.int p0, .int p1, .int p2]) (n := 3) (Nat.le_of_ble_eq_true rfl)
  rw [lg_entry_eq]
  generalize (lg_sl ([.int p0, .int p1, .int p2]) ++ List.replicate (3 - (lg_sl ([.int p0, .int p1, .int p2])).length) Slot.unset).toArray = ls at hl ⊢
  have hl : lv_has ls 3 [(0, .int p0), (1, .int p1), (2, .int p2)] := hl
  have h := hf
  unfold mX3_in at h
  refine lv_iload_n hx hb dX3_in_0 rfl (lv_at hl 0 rfl) ?_
  refine lv_iload_n hx hb dX3_in_1 rfl (lv_at hl 1 rfl) ?_
  refine lv_icmp_lt (tgt := 14) hx hb dX3_in_2 (by decide) (fun c1 => ?_) (fun c1 => ?_)
  · replace h := if_p c1 h
    exact t_14  h (lv_sub hl [] rfl)
  · replace h := if_n c1 h
    refine lv_iload_n hx hb dX3_in_5 rfl (lv_at hl 0 rfl) ?_
    refine lv_iload_n hx hb dX3_in_6 rfl (lv_at hl 2 rfl) ?_
    refine lv_icmp_gt (tgt := 14) hx hb dX3_in_7 (by decide) (fun c2 => ?_) (fun c2 => ?_)
    · replace h := if_p c2 h
      exact t_14  h (lv_sub hl [] rfl)
    · replace h := if_n c2 h
      refine lv_iconst (v := 1) hx hb dX3_in_10 (by decide) ?_
      refine lv_goto (tgt := 15) hx hb dX3_in_11 (by decide) ?_
      exact t_15  h (lv_sub hl [] rfl)
def fX3_tries_2 (N : Nat)  : Nat → KT → Int32 → Option (Int32 × KT)
  | 0, _, _ => none
  | n + 1, K, x1 => (if 186 ≤ x1 then some (0, K) else rdA (K 0) 186 x1 (fun v2 => wrA K 1 186 x1 v2 (fun K4 => (fX3_tries_2 N  n) K4 (x1 + 1))))
def mX3_tries (N : Nat) (K : KT)  : Option (Int32 × KT) := fX3_tries_2 N  N K 0
def rmX3_tries : Room := { frames := 1, cells := 0, slots := 0, locals := 40 }
set_option maxHeartbeats 4000000 in
set_option maxRecDepth 100000 in
theorem tX3_tries {l : Launch} {dC : Nat → ClassId} {dI : Nat → Nat → Nat} {cI : ClassId} {cC : ClassId} {ob : Nat} {q : Nat → Nat} {N : Nat} {K : KT}  {rr : Int32} {KK : KT} (hf : mX3_tries N K  = some (rr, KK)) : Met l yX3_tries wsX3_tries rmX3_tries (cPe (dC, dI) vwCl [(cI, .int), (cC, .char)] (mdL ob q) (mdW cI cC ob q K) [.ref ob]) (cEv (dC, dI) vwCl (mdL ob q) (mdW cI cC ob q KK)) 0 0 (aL (mdL ob q)) := by
  refine Met.ofW (cc := cX3_tries) (maxL := 2) (ret := none) (by decide) rfl ?_
  intro p e s m args below meth c s₁ B hml hv
  obtain ⟨rfl, hP, hK, hD⟩ := hv
  have hx := B.exec
  have hb := B.bytes
  have hr := B.returns
  have hts := atoms_spec (ws := wsX3_tries) B.pre
  have hown : s.vm.findClass RX3 = some m.cls := findClass_of_methodNamed B.named
  have hlocks := B.notSynchronized
  have hwX3 : ∀ w ∈ u_ws RX3 TX3 17, w ∈ wsX3_tries := by decide +kernel
  have hf_9 := hts (.fieldLink RX3 9 "CaravanLogsModel" "now" "[I") (by decide +kernel)
  have hf_13 := hts (.fieldLink RX3 13 "CaravanLogsModel" "tried" "[I") (by decide +kernel)
  have t_2 : ∀ {n : Nat}, ∀ {K : KT} {x1 : Int32} {H : Heap} {locs : List Loc} {ls : Array Slot} (h : fX3_tries_2 N  n K x1 = some (rr, KK)) (hl : lv_has ls 2 [(0, .ref ob), (1, .int x1)]) (hP : va_P (dC, dI) vwCl (mdW cI cC ob q K) H) (hD : va_D (aL (mdL ob q)) (mdW cI cC ob q K)) (hS : va_S (aL (mdL ob q)) s.heap H locs), W p l e (headSpec wsX3_tries rmX3_tries).room s m ([.ref ob] : List Value).toArray below meth c H locs 0 0 (MQ below (cEv (dC, dI) vwCl (mdL ob q) (mdW cI cC ob q KK)) ([.ref ob] : List Value).toArray s 0 0 (aL (mdL ob q))) (F0 m 2 ls []) := by
    intro  n
    induction n with
    | zero =>
      intro K x1 H locs ls h hl hP hD hS
      unfold fX3_tries_2 at h
      cases h
    | succ n ih =>
      intro K x1 H locs ls h hl hP hD hS
      unfold fX3_tries_2 at h
      refine lv_iload_n hx hb dX3_tries_2 rfl (lv_at hl 1 rfl) ?_
      refine lv_sipush (v := 186) hx hb dX3_tries_3 (by decide) ?_
      refine lv_icmp_ge (tgt := 27) hx hb dX3_tries_6 (by decide) (fun c1 => ?_) (fun c1 => ?_)
      · replace h := if_p c1 h
        exact W.vret hx hb hr (fun t ht _ => retEv (w := mdW cI cC ob q) h hP hD hS ht) hS.2.2 dX3_tries_27
      · replace h := if_n c1 h
        refine lv_aload_n hx hb dX3_tries_9 rfl (lv_at hl 0 rfl) ?_
        refine va_get (D := (dC, dI)) (ci := 4) (v := .ref (q 1)) (C := RX3) (T := TX3) (N := 17) hx hb hts hwX3 hown hK hP 0 rfl rfl 1 (by decide) hf_13 (fun _ h9 => h9) rfl dX3_tries_10 ?_
        refine lv_iload_n hx hb dX3_tries_13 rfl (lv_at hl 1 rfl) ?_
        refine lv_aload_n hx hb dX3_tries_14 rfl (lv_at hl 0 rfl) ?_
        refine va_get (D := (dC, dI)) (ci := 4) (v := .ref (q 0)) (C := RX3) (T := TX3) (N := 17) hx hb hts hwX3 hown hK hP 0 rfl rfl 0 (by decide) hf_9 (fun _ h9 => h9) rfl dX3_tries_15 ?_
        refine lv_iload_n hx hb dX3_tries_18 rfl (lv_at hl 1 rfl) ?_
        obtain ⟨hi3, v2, ev2, h⟩ := rdA_some h
        refine k_iald hx hb hK hP 1 0 rfl rfl hi3 ev2 dX3_tries_19 ?_
        obtain ⟨hi5, K4, eK4, h⟩ := wrA_some h
        refine va_iast hx hb hK hP hD hS 2 0 rfl rfl hi5 dX3_tries_20 (fun H locs hP hD hS => ?_)
        have hP : va_P (dC, dI) vwCl (mdW cI cC ob q K4) H := by rw [eK4]; exact hP
        have hD : va_D (aL (mdL ob q)) (mdW cI cC ob q K4) := by rw [eK4]; exact hD
        refine lv_iinc (v := x1 + 1) (lv' := [(1, .int (x1 + 1)), (0, .ref ob)]) hx hb dX3_tries_21 hl (k := 1) rfl rfl (by decide) rfl (fun ls hl => ?_)
        refine lv_goto (tgt := 2) hx hb dX3_tries_24 (by decide) ?_
        exact ih h (lv_sub hl [1, 0] rfl) hP hD hS
  have hS : va_S (aL (mdL ob q)) s.heap s.heap [] := va_S.rf
  have hl := lv_entry ([.ref ob]) (n := 2) (Nat.le_of_ble_eq_true rfl)
  rw [lg_entry_eq]
  generalize (lg_sl ([.ref ob]) ++ List.replicate (2 - (lg_sl ([.ref ob])).length) Slot.unset).toArray = ls at hl ⊢
  have hl : lv_has ls 2 [(0, .ref ob)] := hl
  have h := hf
  unfold mX3_tries at h
  refine lv_iconst (v := 0) hx hb dX3_tries_0 (by decide) ?_
  refine lv_istore_n (lv' := [(1, .int 0), (0, .ref ob)]) hx hb dX3_tries_1 rfl hl (by decide) rfl (fun ls hl => ?_)
  exact t_2  h (lv_sub hl [1, 0] rfl) hP hD hS
def fX3_ends_6 (N : Nat)  : Nat → KT → Int32 → Int32 → Option (Int32 × KT)
  | 0, _, _, _ => none
  | n + 1, K, x1, x2 => (if 186 ≤ x2 then some (x1, K) else rdA (K 1) 186 x2 (fun v2 => wrA K 0 186 x2 v2 (fun K4 => (fX3_ends_6 N  n) K4 x1 (x2 + 1))))
def fX3_ends_119 (N : Nat)  (K : KT) (x1 : Int32) : Option (Int32 × KT) := ptF K 8 0 ((K 8 0) + 1) (fun K6 => some (x1, K6))
def fX3_ends_85 (N : Nat)  : Nat → KT → Int32 → Int32 → Option (Int32 × KT)
  | 0, _, _, _ => none
  | n + 1, K, x1, x2 => (if 186 ≤ x2 then fX3_ends_119 N  K x1 else rdA (K 1) 186 x2 (fun v8 => wrA K 3 1488 ((186 * (K 8 0)) + x2) v8 (fun K10 => (fX3_ends_85 N  n) K10 x1 (x2 + 1))))
def fX3_ends_83 (N : Nat)  (K : KT) (x1 : Int32) : Option (Int32 × KT) := fX3_ends_85 N  N K x1 0
def fX3_ends_73 (N : Nat)  (K : KT) (x1 : Int32) : Option (Int32 × KT) := ptF K 8 0 ((K 8 0) - 1) (fun K12 => fX3_ends_83 N  K12 x1)
def fX3_ends_44 (N : Nat)  : Nat → KT → Int32 → Int32 → Option (Int32 × KT)
  | 0, _, _, _ => none
  | n + 1, K, x1, x2 => (if 1302 ≤ x2 then fX3_ends_73 N  K x1 else rdA (K 3) 1488 (186 + x2) (fun v14 => wrA K 3 1488 x2 v14 (fun K16 => (fX3_ends_44 N  n) K16 x1 (x2 + 1))))
def mX3_ends (N : Nat) (K : KT) (p0 : Int32) : Option (Int32 × KT) := (if 0 ≤ p0 then (if (K 8 0) = 8 then fX3_ends_44 N  N K p0 0 else fX3_ends_83 N  K p0) else fX3_ends_6 N  N K p0 0)
def rmX3_ends : Room := { frames := 1, cells := 0, slots := 0, locals := 40 }
set_option maxHeartbeats 4000000 in
set_option maxRecDepth 100000 in
theorem tX3_ends {l : Launch} {dC : Nat → ClassId} {dI : Nat → Nat → Nat} {cI : ClassId} {cC : ClassId} {ob : Nat} {q : Nat → Nat} {N : Nat} {K : KT} {p0 : Int32} {rr : Int32} {KK : KT} (hf : mX3_ends N K p0 = some (rr, KK)) : Met l yX3_ends wsX3_ends rmX3_ends (cPe (dC, dI) vwCl [(cI, .int), (cC, .char)] (mdL ob q) (mdW cI cC ob q K) [.ref ob, .int p0]) (cE (dC, dI) vwCl (mdL ob q) rr (mdW cI cC ob q KK)) 0 0 (aL (mdL ob q)) := by
  refine Met.ofW (cc := cX3_ends) (maxL := 3) (ret := (some .int)) (by decide) rfl ?_
  intro p e s m args below meth c s₁ B hml hv
  obtain ⟨rfl, hP, hK, hD⟩ := hv
  have hx := B.exec
  have hb := B.bytes
  have hr := B.returns
  have hts := atoms_spec (ws := wsX3_ends) B.pre
  have hown : s.vm.findClass RX3 = some m.cls := findClass_of_methodNamed B.named
  have hlocks := B.notSynchronized
  have hwX3 : ∀ w ∈ u_ws RX3 TX3 17, w ∈ wsX3_ends := by decide +kernel
  have hf_9 := hts (.fieldLink RX3 9 "CaravanLogsModel" "now" "[I") (by decide +kernel)
  have hf_13 := hts (.fieldLink RX3 13 "CaravanLogsModel" "tried" "[I") (by decide +kernel)
  have hf_19 := hts (.fieldLink RX3 19 "CaravanLogsModel" "kept" "[I") (by decide +kernel)
  have hf_39 := hts (.fieldLink RX3 39 "CaravanLogsModel" "undos" "I") (by decide +kernel)
  have t_6 : ∀ {n : Nat}, ∀ {K : KT} {x1 : Int32} {x2 : Int32} {H : Heap} {locs : List Loc} {ls : Array Slot} (h : fX3_ends_6 N  n K x1 x2 = some (rr, KK)) (hl : lv_has ls 3 [(0, .ref ob), (1, .int x1), (2, .int x2)]) (hP : va_P (dC, dI) vwCl (mdW cI cC ob q K) H) (hD : va_D (aL (mdL ob q)) (mdW cI cC ob q K)) (hS : va_S (aL (mdL ob q)) s.heap H locs), W p l e (headSpec wsX3_ends rmX3_ends).room s m ([.ref ob, .int p0] : List Value).toArray below meth c H locs 0 0 (MQ below (cE (dC, dI) vwCl (mdL ob q) rr (mdW cI cC ob q KK)) ([.ref ob, .int p0] : List Value).toArray s 0 0 (aL (mdL ob q))) (F0 m 6 ls []) := by
    intro  n
    induction n with
    | zero =>
      intro K x1 x2 H locs ls h hl hP hD hS
      unfold fX3_ends_6 at h
      cases h
    | succ n ih =>
      intro K x1 x2 H locs ls h hl hP hD hS
      unfold fX3_ends_6 at h
      refine lv_iload_n hx hb dX3_ends_6 rfl (lv_at hl 2 rfl) ?_
      refine lv_sipush (v := 186) hx hb dX3_ends_7 (by decide) ?_
      refine lv_icmp_ge (tgt := 31) hx hb dX3_ends_10 (by decide) (fun c1 => ?_) (fun c1 => ?_)
      · replace h := if_p c1 h
        refine lv_iload_n hx hb dX3_ends_31 rfl (lv_at hl 1 rfl) ?_
        exact W.iret hx hb hr (fun t ht _ => retE (w := mdW cI cC ob q) h hP hD hS ht) hS.2.2 dX3_ends_32
      · replace h := if_n c1 h
        refine lv_aload_n hx hb dX3_ends_13 rfl (lv_at hl 0 rfl) ?_
        refine va_get (D := (dC, dI)) (ci := 4) (v := .ref (q 0)) (C := RX3) (T := TX3) (N := 17) hx hb hts hwX3 hown hK hP 0 rfl rfl 0 (by decide) hf_9 (fun _ h9 => h9) rfl dX3_ends_14 ?_
        refine lv_iload_n hx hb dX3_ends_17 rfl (lv_at hl 2 rfl) ?_
        refine lv_aload_n hx hb dX3_ends_18 rfl (lv_at hl 0 rfl) ?_
        refine va_get (D := (dC, dI)) (ci := 4) (v := .ref (q 1)) (C := RX3) (T := TX3) (N := 17) hx hb hts hwX3 hown hK hP 0 rfl rfl 1 (by decide) hf_13 (fun _ h9 => h9) rfl dX3_ends_19 ?_
        refine lv_iload_n hx hb dX3_ends_22 rfl (lv_at hl 2 rfl) ?_
        obtain ⟨hi3, v2, ev2, h⟩ := rdA_some h
        refine k_iald hx hb hK hP 2 0 rfl rfl hi3 ev2 dX3_ends_23 ?_
        obtain ⟨hi5, K4, eK4, h⟩ := wrA_some h
        refine va_iast hx hb hK hP hD hS 1 0 rfl rfl hi5 dX3_ends_24 (fun H locs hP hD hS => ?_)
        have hP : va_P (dC, dI) vwCl (mdW cI cC ob q K4) H := by rw [eK4]; exact hP
        have hD : va_D (aL (mdL ob q)) (mdW cI cC ob q K4) := by rw [eK4]; exact hD
        refine lv_iinc (v := x2 + 1) (lv' := [(2, .int (x2 + 1)), (0, .ref ob), (1, .int x1)]) hx hb dX3_ends_25 hl (k := 2) rfl rfl (by decide) rfl (fun ls hl => ?_)
        refine lv_goto (tgt := 6) hx hb dX3_ends_28 (by decide) ?_
        exact ih h (lv_sub hl [1, 2, 0] rfl) hP hD hS
  have t_119 : ∀ {K : KT} {x1 : Int32} {H : Heap} {locs : List Loc} {ls : Array Slot} (h : fX3_ends_119 N  K x1 = some (rr, KK)) (hl : lv_has ls 3 [(0, .ref ob), (1, .int x1)]) (hP : va_P (dC, dI) vwCl (mdW cI cC ob q K) H) (hD : va_D (aL (mdL ob q)) (mdW cI cC ob q K)) (hS : va_S (aL (mdL ob q)) s.heap H locs), W p l e (headSpec wsX3_ends rmX3_ends).room s m ([.ref ob, .int p0] : List Value).toArray below meth c H locs 0 0 (MQ below (cE (dC, dI) vwCl (mdL ob q) rr (mdW cI cC ob q KK)) ([.ref ob, .int p0] : List Value).toArray s 0 0 (aL (mdL ob q))) (F0 m 119 ls []) := by
    intro  K x1 H locs ls h hl hP hD hS
    unfold fX3_ends_119 at h
    refine lv_aload_n hx hb dX3_ends_119 rfl (lv_at hl 0 rfl) ?_
    refine lv_dup hx hb dX3_ends_120 rfl ?_
    refine va_get (D := (dC, dI)) (ci := 4) (v := .int (K 8 0)) (C := RX3) (T := TX3) (N := 17) hx hb hts hwX3 hown hK hP 0 rfl rfl 4 (by decide) hf_39 (fun _ h9 => h9) rfl dX3_ends_121 ?_
    refine lv_iconst (v := 1) hx hb dX3_ends_124 (by decide) ?_
    refine lv_iadd hx hb dX3_ends_125 ?_
    obtain ⟨K6, eK6, h⟩ := ptF_some h
    refine va_put (D := (dC, dI)) (ci := 4) (v := .int ((K 8 0) + 1)) (ty := .int) (C := RX3) (T := TX3) (N := 17) hx hb hts hwX3 tyX3 tyX3_ok nmX3 hown hK hP hD hS 0 rfl rfl 4 (by decide) hf_39 (fun _ h9 => h9) rfl (by decide +kernel) rfl rfl (Nat.le_of_ble_eq_true rfl) dX3_ends_126 (fun H locs hP hD hS => ?_)
    have hP : va_P (dC, dI) vwCl (mdW cI cC ob q K6) H := by rw [eK6]; exact hP
    have hD : va_D (aL (mdL ob q)) (mdW cI cC ob q K6) := by rw [eK6]; exact hD
    refine lv_iload_n hx hb dX3_ends_129 rfl (lv_at hl 1 rfl) ?_
    exact W.iret hx hb hr (fun t ht _ => retE (w := mdW cI cC ob q) h hP hD hS ht) hS.2.2 dX3_ends_130
  have t_85 : ∀ {n : Nat}, ∀ {K : KT} {x1 : Int32} {x2 : Int32} {H : Heap} {locs : List Loc} {ls : Array Slot} (h : fX3_ends_85 N  n K x1 x2 = some (rr, KK)) (hl : lv_has ls 3 [(0, .ref ob), (1, .int x1), (2, .int x2)]) (hP : va_P (dC, dI) vwCl (mdW cI cC ob q K) H) (hD : va_D (aL (mdL ob q)) (mdW cI cC ob q K)) (hS : va_S (aL (mdL ob q)) s.heap H locs), W p l e (headSpec wsX3_ends rmX3_ends).room s m ([.ref ob, .int p0] : List Value).toArray below meth c H locs 0 0 (MQ below (cE (dC, dI) vwCl (mdL ob q) rr (mdW cI cC ob q KK)) ([.ref ob, .int p0] : List Value).toArray s 0 0 (aL (mdL ob q))) (F0 m 85 ls []) := by
    intro  n
    induction n with
    | zero =>
      intro K x1 x2 H locs ls h hl hP hD hS
      unfold fX3_ends_85 at h
      cases h
    | succ n ih =>
      intro K x1 x2 H locs ls h hl hP hD hS
      unfold fX3_ends_85 at h
      refine lv_iload_n hx hb dX3_ends_85 rfl (lv_at hl 2 rfl) ?_
      refine lv_sipush (v := 186) hx hb dX3_ends_86 (by decide) ?_
      refine lv_icmp_ge (tgt := 119) hx hb dX3_ends_89 (by decide) (fun c7 => ?_) (fun c7 => ?_)
      · replace h := if_p c7 h
        exact t_119  h (lv_sub hl [0, 1] rfl) hP hD hS
      · replace h := if_n c7 h
        refine lv_aload_n hx hb dX3_ends_92 rfl (lv_at hl 0 rfl) ?_
        refine va_get (D := (dC, dI)) (ci := 4) (v := .ref (q 3)) (C := RX3) (T := TX3) (N := 17) hx hb hts hwX3 hown hK hP 0 rfl rfl 3 (by decide) hf_19 (fun _ h9 => h9) rfl dX3_ends_93 ?_
        refine lv_sipush (v := 186) hx hb dX3_ends_96 (by decide) ?_
        refine lv_aload_n hx hb dX3_ends_99 rfl (lv_at hl 0 rfl) ?_
        refine va_get (D := (dC, dI)) (ci := 4) (v := .int (K 8 0)) (C := RX3) (T := TX3) (N := 17) hx hb hts hwX3 hown hK hP 0 rfl rfl 4 (by decide) hf_39 (fun _ h9 => h9) rfl dX3_ends_100 ?_
        refine lv_imul hx hb dX3_ends_103 ?_
        refine lv_iload_n hx hb dX3_ends_104 rfl (lv_at hl 2 rfl) ?_
        refine lv_iadd hx hb dX3_ends_105 ?_
        refine lv_aload_n hx hb dX3_ends_106 rfl (lv_at hl 0 rfl) ?_
        refine va_get (D := (dC, dI)) (ci := 4) (v := .ref (q 1)) (C := RX3) (T := TX3) (N := 17) hx hb hts hwX3 hown hK hP 0 rfl rfl 1 (by decide) hf_13 (fun _ h9 => h9) rfl dX3_ends_107 ?_
        refine lv_iload_n hx hb dX3_ends_110 rfl (lv_at hl 2 rfl) ?_
        obtain ⟨hi9, v8, ev8, h⟩ := rdA_some h
        refine k_iald hx hb hK hP 2 0 rfl rfl hi9 ev8 dX3_ends_111 ?_
        obtain ⟨hi11, K10, eK10, h⟩ := wrA_some h
        refine va_iast hx hb hK hP hD hS 4 0 rfl rfl hi11 dX3_ends_112 (fun H locs hP hD hS => ?_)
        have hP : va_P (dC, dI) vwCl (mdW cI cC ob q K10) H := by rw [eK10]; exact hP
        have hD : va_D (aL (mdL ob q)) (mdW cI cC ob q K10) := by rw [eK10]; exact hD
        refine lv_iinc (v := x2 + 1) (lv' := [(2, .int (x2 + 1)), (0, .ref ob), (1, .int x1)]) hx hb dX3_ends_113 hl (k := 2) rfl rfl (by decide) rfl (fun ls hl => ?_)
        refine lv_goto (tgt := 85) hx hb dX3_ends_116 (by decide) ?_
        exact ih h (lv_sub hl [1, 2, 0] rfl) hP hD hS
  have t_83 : ∀ {K : KT} {x1 : Int32} {H : Heap} {locs : List Loc} {ls : Array Slot} (h : fX3_ends_83 N  K x1 = some (rr, KK)) (hl : lv_has ls 3 [(0, .ref ob), (1, .int x1)]) (hP : va_P (dC, dI) vwCl (mdW cI cC ob q K) H) (hD : va_D (aL (mdL ob q)) (mdW cI cC ob q K)) (hS : va_S (aL (mdL ob q)) s.heap H locs), W p l e (headSpec wsX3_ends rmX3_ends).room s m ([.ref ob, .int p0] : List Value).toArray below meth c H locs 0 0 (MQ below (cE (dC, dI) vwCl (mdL ob q) rr (mdW cI cC ob q KK)) ([.ref ob, .int p0] : List Value).toArray s 0 0 (aL (mdL ob q))) (F0 m 83 ls []) := by
    intro  K x1 H locs ls h hl hP hD hS
    unfold fX3_ends_83 at h
    refine lv_iconst (v := 0) hx hb dX3_ends_83 (by decide) ?_
    refine lv_istore_n (lv' := [(2, .int 0), (0, .ref ob), (1, .int x1)]) hx hb dX3_ends_84 rfl hl (by decide) rfl (fun ls hl => ?_)
    exact t_85  h (lv_sub hl [1, 2, 0] rfl) hP hD hS
  have t_73 : ∀ {K : KT} {x1 : Int32} {H : Heap} {locs : List Loc} {ls : Array Slot} (h : fX3_ends_73 N  K x1 = some (rr, KK)) (hl : lv_has ls 3 [(0, .ref ob), (1, .int x1)]) (hP : va_P (dC, dI) vwCl (mdW cI cC ob q K) H) (hD : va_D (aL (mdL ob q)) (mdW cI cC ob q K)) (hS : va_S (aL (mdL ob q)) s.heap H locs), W p l e (headSpec wsX3_ends rmX3_ends).room s m ([.ref ob, .int p0] : List Value).toArray below meth c H locs 0 0 (MQ below (cE (dC, dI) vwCl (mdL ob q) rr (mdW cI cC ob q KK)) ([.ref ob, .int p0] : List Value).toArray s 0 0 (aL (mdL ob q))) (F0 m 73 ls []) := by
    intro  K x1 H locs ls h hl hP hD hS
    unfold fX3_ends_73 at h
    refine lv_aload_n hx hb dX3_ends_73 rfl (lv_at hl 0 rfl) ?_
    refine lv_dup hx hb dX3_ends_74 rfl ?_
    refine va_get (D := (dC, dI)) (ci := 4) (v := .int (K 8 0)) (C := RX3) (T := TX3) (N := 17) hx hb hts hwX3 hown hK hP 0 rfl rfl 4 (by decide) hf_39 (fun _ h9 => h9) rfl dX3_ends_75 ?_
    refine lv_iconst (v := 1) hx hb dX3_ends_78 (by decide) ?_
    refine lv_isub hx hb dX3_ends_79 ?_
    obtain ⟨K12, eK12, h⟩ := ptF_some h
    refine va_put (D := (dC, dI)) (ci := 4) (v := .int ((K 8 0) - 1)) (ty := .int) (C := RX3) (T := TX3) (N := 17) hx hb hts hwX3 tyX3 tyX3_ok nmX3 hown hK hP hD hS 0 rfl rfl 4 (by decide) hf_39 (fun _ h9 => h9) rfl (by decide +kernel) rfl rfl (Nat.le_of_ble_eq_true rfl) dX3_ends_80 (fun H locs hP hD hS => ?_)
    have hP : va_P (dC, dI) vwCl (mdW cI cC ob q K12) H := by rw [eK12]; exact hP
    have hD : va_D (aL (mdL ob q)) (mdW cI cC ob q K12) := by rw [eK12]; exact hD
    exact t_83  h (lv_sub hl [0, 1] rfl) hP hD hS
  have t_44 : ∀ {n : Nat}, ∀ {K : KT} {x1 : Int32} {x2 : Int32} {H : Heap} {locs : List Loc} {ls : Array Slot} (h : fX3_ends_44 N  n K x1 x2 = some (rr, KK)) (hl : lv_has ls 3 [(0, .ref ob), (1, .int x1), (2, .int x2)]) (hP : va_P (dC, dI) vwCl (mdW cI cC ob q K) H) (hD : va_D (aL (mdL ob q)) (mdW cI cC ob q K)) (hS : va_S (aL (mdL ob q)) s.heap H locs), W p l e (headSpec wsX3_ends rmX3_ends).room s m ([.ref ob, .int p0] : List Value).toArray below meth c H locs 0 0 (MQ below (cE (dC, dI) vwCl (mdL ob q) rr (mdW cI cC ob q KK)) ([.ref ob, .int p0] : List Value).toArray s 0 0 (aL (mdL ob q))) (F0 m 44 ls []) := by
    intro  n
    induction n with
    | zero =>
      intro K x1 x2 H locs ls h hl hP hD hS
      unfold fX3_ends_44 at h
      cases h
    | succ n ih =>
      intro K x1 x2 H locs ls h hl hP hD hS
      unfold fX3_ends_44 at h
      refine lv_iload_n hx hb dX3_ends_44 rfl (lv_at hl 2 rfl) ?_
      refine lv_sipush (v := 1302) hx hb dX3_ends_45 (by decide) ?_
      refine lv_icmp_ge (tgt := 73) hx hb dX3_ends_48 (by decide) (fun c13 => ?_) (fun c13 => ?_)
      · replace h := if_p c13 h
        exact t_73  h (lv_sub hl [0, 1] rfl) hP hD hS
      · replace h := if_n c13 h
        refine lv_aload_n hx hb dX3_ends_51 rfl (lv_at hl 0 rfl) ?_
        refine va_get (D := (dC, dI)) (ci := 4) (v := .ref (q 3)) (C := RX3) (T := TX3) (N := 17) hx hb hts hwX3 hown hK hP 0 rfl rfl 3 (by decide) hf_19 (fun _ h9 => h9) rfl dX3_ends_52 ?_
        refine lv_iload_n hx hb dX3_ends_55 rfl (lv_at hl 2 rfl) ?_
        refine lv_aload_n hx hb dX3_ends_56 rfl (lv_at hl 0 rfl) ?_
        refine va_get (D := (dC, dI)) (ci := 4) (v := .ref (q 3)) (C := RX3) (T := TX3) (N := 17) hx hb hts hwX3 hown hK hP 0 rfl rfl 3 (by decide) hf_19 (fun _ h9 => h9) rfl dX3_ends_57 ?_
        refine lv_sipush (v := 186) hx hb dX3_ends_60 (by decide) ?_
        refine lv_iload_n hx hb dX3_ends_63 rfl (lv_at hl 2 rfl) ?_
        refine lv_iadd hx hb dX3_ends_64 ?_
        obtain ⟨hi15, v14, ev14, h⟩ := rdA_some h
        refine k_iald hx hb hK hP 4 0 rfl rfl hi15 ev14 dX3_ends_65 ?_
        obtain ⟨hi17, K16, eK16, h⟩ := wrA_some h
        refine va_iast hx hb hK hP hD hS 4 0 rfl rfl hi17 dX3_ends_66 (fun H locs hP hD hS => ?_)
        have hP : va_P (dC, dI) vwCl (mdW cI cC ob q K16) H := by rw [eK16]; exact hP
        have hD : va_D (aL (mdL ob q)) (mdW cI cC ob q K16) := by rw [eK16]; exact hD
        refine lv_iinc (v := x2 + 1) (lv' := [(2, .int (x2 + 1)), (0, .ref ob), (1, .int x1)]) hx hb dX3_ends_67 hl (k := 2) rfl rfl (by decide) rfl (fun ls hl => ?_)
        refine lv_goto (tgt := 44) hx hb dX3_ends_70 (by decide) ?_
        exact ih h (lv_sub hl [1, 2, 0] rfl) hP hD hS
  have hS : va_S (aL (mdL ob q)) s.heap s.heap [] := va_S.rf
  have hl := lv_entry ([.ref ob, .int p0]) (n := 3) (Nat.le_of_ble_eq_true rfl)
  rw [lg_entry_eq]
  generalize (lg_sl ([.ref ob, .int p0]) ++ List.replicate (3 - (lg_sl ([.ref ob, .int p0])).length) Slot.unset).toArray = ls at hl ⊢
  have hl : lv_has ls 3 [(0, .ref ob), (1, .int p0)] := hl
  have h := hf
  unfold mX3_ends at h
  refine lv_iload_n hx hb dX3_ends_0 rfl (lv_at hl 1 rfl) ?_
  refine lv_if_ge (tgt := 33) hx hb dX3_ends_1 (by decide) (fun c18 => ?_) (fun c18 => ?_)
  · replace h := if_p c18 h
    refine lv_aload_n hx hb dX3_ends_33 rfl (lv_at hl 0 rfl) ?_
    refine va_get (D := (dC, dI)) (ci := 4) (v := .int (K 8 0)) (C := RX3) (T := TX3) (N := 17) hx hb hts hwX3 hown hK hP 0 rfl rfl 4 (by decide) hf_39 (fun _ h9 => h9) rfl dX3_ends_34 ?_
    refine lv_bipush (v := 8) hx hb dX3_ends_37 (by decide) ?_
    refine lv_icmp_ne (tgt := 83) hx hb dX3_ends_39 (by decide) (fun c19 => ?_) (fun c19 => ?_)
    · replace h := if_n c19 h
      exact t_83  h (lv_sub hl [0, 1] rfl) hP hD hS
    · replace h := if_p c19 h
      refine lv_iconst (v := 0) hx hb dX3_ends_42 (by decide) ?_
      refine lv_istore_n (lv' := [(2, .int 0), (0, .ref ob), (1, .int p0)]) hx hb dX3_ends_43 rfl hl (by decide) rfl (fun ls hl => ?_)
      exact t_44  h (lv_sub hl [1, 2, 0] rfl) hP hD hS
  · replace h := if_n c18 h
    refine lv_iconst (v := 0) hx hb dX3_ends_4 (by decide) ?_
    refine lv_istore_n (lv' := [(2, .int 0), (0, .ref ob), (1, .int p0)]) hx hb dX3_ends_5 rfl hl (by decide) rfl (fun ls hl => ?_)
    exact t_6  h (lv_sub hl [1, 2, 0] rfl) hP hD hS
def mX3_refuses (N : Nat) (K : KT) (p0 : Int32) (p1 : Int32) : Option (Int32 × KT) := ptF K 8 6 p0 (fun K1 => ptF K1 8 7 p1 (fun K2 => ptF K2 8 8 ((-4)) (fun K3 => some ((-3), K3))))
def rmX3_refuses : Room := { frames := 1, cells := 0, slots := 0, locals := 40 }
set_option maxHeartbeats 4000000 in
set_option maxRecDepth 100000 in
theorem tX3_refuses {l : Launch} {dC : Nat → ClassId} {dI : Nat → Nat → Nat} {cI : ClassId} {cC : ClassId} {ob : Nat} {q : Nat → Nat} {N : Nat} {K : KT} {p0 : Int32} {p1 : Int32} {rr : Int32} {KK : KT} (hf : mX3_refuses N K p0 p1 = some (rr, KK)) : Met l yX3_refuses wsX3_refuses rmX3_refuses (cPe (dC, dI) vwCl [(cI, .int), (cC, .char)] (mdL ob q) (mdW cI cC ob q K) [.ref ob, .int p0, .int p1]) (cE (dC, dI) vwCl (mdL ob q) rr (mdW cI cC ob q KK)) 0 0 (aL (mdL ob q)) := by
  refine Met.ofW (cc := cX3_refuses) (maxL := 3) (ret := (some .int)) (by decide) rfl ?_
  intro p e s m args below meth c s₁ B hml hv
  obtain ⟨rfl, hP, hK, hD⟩ := hv
  have hx := B.exec
  have hb := B.bytes
  have hr := B.returns
  have hts := atoms_spec (ws := wsX3_refuses) B.pre
  have hown : s.vm.findClass RX3 = some m.cls := findClass_of_methodNamed B.named
  have hlocks := B.notSynchronized
  have hwX3 : ∀ w ∈ u_ws RX3 TX3 17, w ∈ wsX3_refuses := by decide +kernel
  have hf_35 := hts (.fieldLink RX3 35 "CaravanLogsModel" "which" "I") (by decide +kernel)
  have hf_42 := hts (.fieldLink RX3 42 "CaravanLogsModel" "reason" "I") (by decide +kernel)
  have hf_45 := hts (.fieldLink RX3 45 "CaravanLogsModel" "detail" "I") (by decide +kernel)
  have hS : va_S (aL (mdL ob q)) s.heap s.heap [] := va_S.rf
  have hl := lv_entry ([.ref ob, .int p0, .int p1]) (n := 3) (Nat.le_of_ble_eq_true rfl)
  rw [lg_entry_eq]
  generalize (lg_sl ([.ref ob, .int p0, .int p1]) ++ List.replicate (3 - (lg_sl ([.ref ob, .int p0, .int p1])).length) Slot.unset).toArray = ls at hl ⊢
  have hl : lv_has ls 3 [(0, .ref ob), (1, .int p0), (2, .int p1)] := hl
  have h := hf
  unfold mX3_refuses at h
  refine lv_aload_n hx hb dX3_refuses_0 rfl (lv_at hl 0 rfl) ?_
  refine lv_iload_n hx hb dX3_refuses_1 rfl (lv_at hl 1 rfl) ?_
  obtain ⟨K1, eK1, h⟩ := ptF_some h
  refine va_put (D := (dC, dI)) (ci := 4) (v := .int p0) (ty := .int) (C := RX3) (T := TX3) (N := 17) hx hb hts hwX3 tyX3 tyX3_ok nmX3 hown hK hP hD hS 0 rfl rfl 14 (by decide) hf_42 (fun _ h9 => h9) rfl (by decide +kernel) rfl rfl (Nat.le_of_ble_eq_true rfl) dX3_refuses_2 (fun H locs hP hD hS => ?_)
  have hP : va_P (dC, dI) vwCl (mdW cI cC ob q K1) H := by rw [eK1]; exact hP
  have hD : va_D (aL (mdL ob q)) (mdW cI cC ob q K1) := by rw [eK1]; exact hD
  refine lv_aload_n hx hb dX3_refuses_5 rfl (lv_at hl 0 rfl) ?_
  refine lv_iload_n hx hb dX3_refuses_6 rfl (lv_at hl 2 rfl) ?_
  obtain ⟨K2, eK2, h⟩ := ptF_some h
  refine va_put (D := (dC, dI)) (ci := 4) (v := .int p1) (ty := .int) (C := RX3) (T := TX3) (N := 17) hx hb hts hwX3 tyX3 tyX3_ok nmX3 hown hK hP hD hS 0 rfl rfl 15 (by decide) hf_45 (fun _ h9 => h9) rfl (by decide +kernel) rfl rfl (Nat.le_of_ble_eq_true rfl) dX3_refuses_7 (fun H locs hP hD hS => ?_)
  have hP : va_P (dC, dI) vwCl (mdW cI cC ob q K2) H := by rw [eK2]; exact hP
  have hD : va_D (aL (mdL ob q)) (mdW cI cC ob q K2) := by rw [eK2]; exact hD
  refine lv_aload_n hx hb dX3_refuses_10 rfl (lv_at hl 0 rfl) ?_
  refine lv_bipush (v := (-4)) hx hb dX3_refuses_11 (by decide) ?_
  obtain ⟨K3, eK3, h⟩ := ptF_some h
  refine va_put (D := (dC, dI)) (ci := 4) (v := .int ((-4))) (ty := .int) (C := RX3) (T := TX3) (N := 17) hx hb hts hwX3 tyX3 tyX3_ok nmX3 hown hK hP hD hS 0 rfl rfl 16 (by decide) hf_35 (fun _ h9 => h9) rfl (by decide +kernel) rfl rfl (Nat.le_of_ble_eq_true rfl) dX3_refuses_13 (fun H locs hP hD hS => ?_)
  have hP : va_P (dC, dI) vwCl (mdW cI cC ob q K3) H := by rw [eK3]; exact hP
  have hD : va_D (aL (mdL ob q)) (mdW cI cC ob q K3) := by rw [eK3]; exact hD
  refine lv_bipush (v := (-3)) hx hb dX3_refuses_16 (by decide) ?_
  exact W.iret hx hb hr (fun t ht _ => retE (w := mdW cI cC ob q) h hP hD hS ht) hS.2.2 dX3_refuses_18
def mX3_isCamp (N : Nat) (p0 : Int32) : Option Int32 := bdP (mX3_in N p0 0 4) (fun v1 => gd (v1 = 0 ∨ v1 = 1) (some v1))
def rmX3_isCamp : Room := { frames := 2, cells := 0, slots := 0, locals := 62 }
set_option maxHeartbeats 4000000 in
set_option maxRecDepth 100000 in
theorem tX3_isCamp {l : Launch} {N : Nat} {p0 : Int32} {rr : Int32} (hf : mX3_isCamp N p0 = some rr) : Met l yX3_isCamp wsX3_isCamp rmX3_isCamp (cS [.int p0]) (cQp rr) 0 0 (fun _ => False) := by
  refine Met.ofW (cc := cX3_isCamp) (maxL := 1) (ret := (some .boolean)) (by decide) rfl ?_
  intro p e s m args below meth c s₁ B hml hv
  obtain rfl : args = ([.int p0] : List Value).toArray := hv
  have hx := B.exec
  have hb := B.bytes
  have hr := B.returns
  have hts := atoms_spec (ws := wsX3_isCamp) B.pre
  have hown : s.vm.findClass RX3 = some m.cls := findClass_of_methodNamed B.named
  have hlocks := B.notSynchronized
  have hl := lv_entry ([.int p0]) (n := 1) (Nat.le_of_ble_eq_true rfl)
  rw [lg_entry_eq]
  generalize (lg_sl ([.int p0]) ++ List.replicate (1 - (lg_sl ([.int p0])).length) Slot.unset).toArray = ls at hl ⊢
  have hl : lv_has ls 1 [(0, .int p0)] := hl
  have h := hf
  unfold mX3_isCamp at h
  refine lv_iload_n hx hb dX3_isCamp_0 rfl (lv_at hl 0 rfl) ?_
  refine lv_iconst (v := 0) hx hb dX3_isCamp_1 (by decide) ?_
  refine lv_iconst (v := 4) hx hb dX3_isCamp_2 (by decide) ?_
  obtain ⟨v1, hv1, h⟩ := bdP_some h
  refine call_SP (As := [.int p0, .int 0, .int 4]) (rest := []) ⟨hx, hb, hml, hown, hts⟩ (tX3_in (l := l) hv1) (va_cwS 3 hts gX3_isCamp_X3_in rfl rfl rfl (by decide +kernel) ⟨Nat.le_of_ble_eq_true rfl, Nat.le_of_ble_eq_true rfl⟩) (by rfl) hl.1 rfl (Nat.le_of_ble_eq_true rfl) dX3_isCamp_3 ⟨Nat.zero_le _, Nat.zero_le _⟩ ?_
  obtain ⟨hz, h⟩ := gd_some h
  exact W.zret hx hb hr (zb_ok hz) (fun t ht _ => retP h ht) (fun _ h9 => absurd h9 List.not_mem_nil) dX3_isCamp_6
def mX3_of (N : Nat) (K : KT) (p0 : Int32) (p1 : Int32) : Option Int32 := rdA (K 0) 186 ((31 + (31 * p0)) + p1) (fun v1 => some v1)
def rmX3_of : Room := { frames := 1, cells := 0, slots := 0, locals := 40 }
set_option maxHeartbeats 4000000 in
set_option maxRecDepth 100000 in
theorem tX3_of {l : Launch} {dC : Nat → ClassId} {dI : Nat → Nat → Nat} {cI : ClassId} {cC : ClassId} {ob : Nat} {q : Nat → Nat} {N : Nat} {K : KT} {p0 : Int32} {p1 : Int32} {rr : Int32} (hf : mX3_of N K p0 p1 = some rr) : Met l yX3_of wsX3_of rmX3_of (cP (dC, dI) vwCl [(cI, .int), (cC, .char)] (mdW cI cC ob q K) [.ref ob, .int p0, .int p1]) (cQp rr) 0 0 (fun _ => False) := by
  refine Met.ofW (cc := cX3_of) (maxL := 3) (ret := (some .int)) (by decide) rfl ?_
  intro p e s m args below meth c s₁ B hml hv
  obtain ⟨rfl, hP, hK⟩ := hv
  have hx := B.exec
  have hb := B.bytes
  have hr := B.returns
  have hts := atoms_spec (ws := wsX3_of) B.pre
  have hown : s.vm.findClass RX3 = some m.cls := findClass_of_methodNamed B.named
  have hlocks := B.notSynchronized
  have hwX3 : ∀ w ∈ u_ws RX3 TX3 17, w ∈ wsX3_of := by decide +kernel
  have hf_9 := hts (.fieldLink RX3 9 "CaravanLogsModel" "now" "[I") (by decide +kernel)
  have hl := lv_entry ([.ref ob, .int p0, .int p1]) (n := 3) (Nat.le_of_ble_eq_true rfl)
  rw [lg_entry_eq]
  generalize (lg_sl ([.ref ob, .int p0, .int p1]) ++ List.replicate (3 - (lg_sl ([.ref ob, .int p0, .int p1])).length) Slot.unset).toArray = ls at hl ⊢
  have hl : lv_has ls 3 [(0, .ref ob), (1, .int p0), (2, .int p1)] := hl
  have h := hf
  unfold mX3_of at h
  refine lv_aload_n hx hb dX3_of_0 rfl (lv_at hl 0 rfl) ?_
  refine va_get (D := (dC, dI)) (ci := 4) (v := .ref (q 0)) (C := RX3) (T := TX3) (N := 17) hx hb hts hwX3 hown hK hP 0 rfl rfl 0 (by decide) hf_9 (fun _ h9 => h9) rfl dX3_of_1 ?_
  refine lv_bipush (v := 31) hx hb dX3_of_4 (by decide) ?_
  refine lv_bipush (v := 31) hx hb dX3_of_6 (by decide) ?_
  refine lv_iload_n hx hb dX3_of_8 rfl (lv_at hl 1 rfl) ?_
  refine lv_imul hx hb dX3_of_9 ?_
  refine lv_iadd hx hb dX3_of_10 ?_
  refine lv_iload_n hx hb dX3_of_11 rfl (lv_at hl 2 rfl) ?_
  refine lv_iadd hx hb dX3_of_12 ?_
  obtain ⟨hi2, v1, ev1, h⟩ := rdA_some h
  refine k_iald hx hb hK hP 1 0 rfl rfl hi2 ev1 dX3_of_13 ?_
  exact W.iret hx hb hr (fun t ht _ => retP h ht) (fun _ h9 => absurd h9 List.not_mem_nil) dX3_of_14
def mX3_sets (N : Nat) (K : KT) (p0 : Int32) (p1 : Int32) (p2 : Int32) : Option (Int32 × KT) := wrA K 0 186 ((31 + (31 * p0)) + p1) p2 (fun K1 => some (0, K1))
def rmX3_sets : Room := { frames := 1, cells := 0, slots := 0, locals := 40 }
set_option maxHeartbeats 4000000 in
set_option maxRecDepth 100000 in
theorem tX3_sets {l : Launch} {dC : Nat → ClassId} {dI : Nat → Nat → Nat} {cI : ClassId} {cC : ClassId} {ob : Nat} {q : Nat → Nat} {N : Nat} {K : KT} {p0 : Int32} {p1 : Int32} {p2 : Int32} {rr : Int32} {KK : KT} (hf : mX3_sets N K p0 p1 p2 = some (rr, KK)) : Met l yX3_sets wsX3_sets rmX3_sets (cPe (dC, dI) vwCl [(cI, .int), (cC, .char)] (mdL ob q) (mdW cI cC ob q K) [.ref ob, .int p0, .int p1, .int p2]) (cEv (dC, dI) vwCl (mdL ob q) (mdW cI cC ob q KK)) 0 0 (aL (mdL ob q)) := by
  refine Met.ofW (cc := cX3_sets) (maxL := 4) (ret := none) (by decide) rfl ?_
  intro p e s m args below meth c s₁ B hml hv
  obtain ⟨rfl, hP, hK, hD⟩ := hv
  have hx := B.exec
  have hb := B.bytes
  have hr := B.returns
  have hts := atoms_spec (ws := wsX3_sets) B.pre
  have hown : s.vm.findClass RX3 = some m.cls := findClass_of_methodNamed B.named
  have hlocks := B.notSynchronized
  have hwX3 : ∀ w ∈ u_ws RX3 TX3 17, w ∈ wsX3_sets := by decide +kernel
  have hf_9 := hts (.fieldLink RX3 9 "CaravanLogsModel" "now" "[I") (by decide +kernel)
  have hS : va_S (aL (mdL ob q)) s.heap s.heap [] := va_S.rf
  have hl := lv_entry ([.ref ob, .int p0, .int p1, .int p2]) (n := 4) (Nat.le_of_ble_eq_true rfl)
  rw [lg_entry_eq]
  generalize (lg_sl ([.ref ob, .int p0, .int p1, .int p2]) ++ List.replicate (4 - (lg_sl ([.ref ob, .int p0, .int p1, .int p2])).length) Slot.unset).toArray = ls at hl ⊢
  have hl : lv_has ls 4 [(0, .ref ob), (1, .int p0), (2, .int p1), (3, .int p2)] := hl
  have h := hf
  unfold mX3_sets at h
  refine lv_aload_n hx hb dX3_sets_0 rfl (lv_at hl 0 rfl) ?_
  refine va_get (D := (dC, dI)) (ci := 4) (v := .ref (q 0)) (C := RX3) (T := TX3) (N := 17) hx hb hts hwX3 hown hK hP 0 rfl rfl 0 (by decide) hf_9 (fun _ h9 => h9) rfl dX3_sets_1 ?_
  refine lv_bipush (v := 31) hx hb dX3_sets_4 (by decide) ?_
  refine lv_bipush (v := 31) hx hb dX3_sets_6 (by decide) ?_
  refine lv_iload_n hx hb dX3_sets_8 rfl (lv_at hl 1 rfl) ?_
  refine lv_imul hx hb dX3_sets_9 ?_
  refine lv_iadd hx hb dX3_sets_10 ?_
  refine lv_iload_n hx hb dX3_sets_11 rfl (lv_at hl 2 rfl) ?_
  refine lv_iadd hx hb dX3_sets_12 ?_
  refine lv_iload_n hx hb dX3_sets_13 rfl (lv_at hl 3 rfl) ?_
  obtain ⟨hi2, K1, eK1, h⟩ := wrA_some h
  refine va_iast hx hb hK hP hD hS 1 0 rfl rfl hi2 dX3_sets_14 (fun H locs hP hD hS => ?_)
  have hP : va_P (dC, dI) vwCl (mdW cI cC ob q K1) H := by rw [eK1]; exact hP
  have hD : va_D (aL (mdL ob q)) (mdW cI cC ob q K1) := by rw [eK1]; exact hD
  exact W.vret hx hb hr (fun t ht _ => retEv (w := mdW cI cC ob q) h hP hD hS ht) hS.2.2 dX3_sets_15
def mX3_page (N : Nat) (K : KT) (p0 : Int32) (p1 : Int32) (p2 : Int32) : Option Int32 := bdP (mX3_of N K p0 ((7 + (2 * p1)) + p2)) (fun v1 => some v1)
def rmX3_page : Room := { frames := 2, cells := 0, slots := 0, locals := 62 }
set_option maxHeartbeats 4000000 in
set_option maxRecDepth 100000 in
theorem tX3_page {l : Launch} {dC : Nat → ClassId} {dI : Nat → Nat → Nat} {cI : ClassId} {cC : ClassId} {ob : Nat} {q : Nat → Nat} {N : Nat} {K : KT} {p0 : Int32} {p1 : Int32} {p2 : Int32} {rr : Int32} (hf : mX3_page N K p0 p1 p2 = some rr) : Met l yX3_page wsX3_page rmX3_page (cP (dC, dI) vwCl [(cI, .int), (cC, .char)] (mdW cI cC ob q K) [.ref ob, .int p0, .int p1, .int p2]) (cQp rr) 0 0 (fun _ => False) := by
  refine Met.ofW (cc := cX3_page) (maxL := 4) (ret := (some .int)) (by decide) rfl ?_
  intro p e s m args below meth c s₁ B hml hv
  obtain ⟨rfl, hP, hK⟩ := hv
  have hx := B.exec
  have hb := B.bytes
  have hr := B.returns
  have hts := atoms_spec (ws := wsX3_page) B.pre
  have hown : s.vm.findClass RX3 = some m.cls := findClass_of_methodNamed B.named
  have hlocks := B.notSynchronized
  have hl := lv_entry ([.ref ob, .int p0, .int p1, .int p2]) (n := 4) (Nat.le_of_ble_eq_true rfl)
  rw [lg_entry_eq]
  generalize (lg_sl ([.ref ob, .int p0, .int p1, .int p2]) ++ List.replicate (4 - (lg_sl ([.ref ob, .int p0, .int p1, .int p2])).length) Slot.unset).toArray = ls at hl ⊢
  have hl : lv_has ls 4 [(0, .ref ob), (1, .int p0), (2, .int p1), (3, .int p2)] := hl
  have h := hf
  unfold mX3_page at h
  refine lv_aload_n hx hb dX3_page_0 rfl (lv_at hl 0 rfl) ?_
  refine lv_iload_n hx hb dX3_page_1 rfl (lv_at hl 1 rfl) ?_
  refine lv_bipush (v := 7) hx hb dX3_page_2 (by decide) ?_
  refine lv_iconst (v := 2) hx hb dX3_page_4 (by decide) ?_
  refine lv_iload_n hx hb dX3_page_5 rfl (lv_at hl 2 rfl) ?_
  refine lv_imul hx hb dX3_page_6 ?_
  refine lv_iadd hx hb dX3_page_7 ?_
  refine lv_iload_n hx hb dX3_page_8 rfl (lv_at hl 3 rfl) ?_
  refine lv_iadd hx hb dX3_page_9 ?_
  obtain ⟨v1, hv1, h⟩ := bdP_some h
  refine call_VP (As := [.int p0, .int ((7 + (2 * p1)) + p2)]) (rest := []) ⟨hx, hb, hml, hown, hts⟩ (tX3_of (l := l) (dC := dC) (dI := dI) (cI := cI) (cC := cC) (ob := ob) (q := q) hv1) (cwV 2 hts gX3_page_X3_of rfl rfl rfl (by decide +kernel) ⟨Nat.le_of_ble_eq_true rfl, Nat.le_of_ble_eq_true rfl⟩) hK hP 0 rfl rfl (by rfl) hl.1 rfl (Nat.le_of_ble_eq_true rfl) dX3_page_10 ⟨Nat.zero_le _, Nat.zero_le _⟩ ?_
  exact W.iret hx hb hr (fun t ht _ => retP h ht) (fun _ h9 => absurd h9 List.not_mem_nil) dX3_page_13
def fX3_isAwake_14 (N : Nat) (K : KT)  (y0 : Int32) : Option Int32 := gd (y0 = 0 ∨ y0 = 1) (some y0)
def mX3_isAwake (N : Nat) (K : KT) (p0 : Int32) : Option Int32 := bdP (mX3_of N K p0 3) (fun v1 => (if v1 = 0 then fX3_isAwake_14 N K  1 else fX3_isAwake_14 N K  0))
def rmX3_isAwake : Room := { frames := 2, cells := 0, slots := 0, locals := 62 }
set_option maxHeartbeats 4000000 in
set_option maxRecDepth 100000 in
theorem tX3_isAwake {l : Launch} {dC : Nat → ClassId} {dI : Nat → Nat → Nat} {cI : ClassId} {cC : ClassId} {ob : Nat} {q : Nat → Nat} {N : Nat} {K : KT} {p0 : Int32} {rr : Int32} (hf : mX3_isAwake N K p0 = some rr) : Met l yX3_isAwake wsX3_isAwake rmX3_isAwake (cP (dC, dI) vwCl [(cI, .int), (cC, .char)] (mdW cI cC ob q K) [.ref ob, .int p0]) (cQp rr) 0 0 (fun _ => False) := by
  refine Met.ofW (cc := cX3_isAwake) (maxL := 2) (ret := (some .boolean)) (by decide) rfl ?_
  intro p e s m args below meth c s₁ B hml hv
  obtain ⟨rfl, hP, hK⟩ := hv
  have hx := B.exec
  have hb := B.bytes
  have hr := B.returns
  have hts := atoms_spec (ws := wsX3_isAwake) B.pre
  have hown : s.vm.findClass RX3 = some m.cls := findClass_of_methodNamed B.named
  have hlocks := B.notSynchronized
  have t_14 : ∀ {y0 : Int32} {ls : Array Slot} (h : fX3_isAwake_14 N K  y0 = some rr) (hl : lv_has ls 2 []), W p l e (headSpec wsX3_isAwake rmX3_isAwake).room s m ([.ref ob, .int p0] : List Value).toArray below meth c s.heap [] 0 0 (MQ below (cQp rr) ([.ref ob, .int p0] : List Value).toArray s 0 0 (fun _ => False)) (F0 m 14 ls [.int y0]) := by
    intro  y0 ls h hl
    unfold fX3_isAwake_14 at h
    obtain ⟨hz, h⟩ := gd_some h
    exact W.zret hx hb hr (zb_ok hz) (fun t ht _ => retP h ht) (fun _ h9 => absurd h9 List.not_mem_nil) dX3_isAwake_14
  have hl := lv_entry ([.ref ob, .int p0]) (n := 2) (Nat.le_of_ble_eq_true rfl)
  rw [lg_entry_eq]
  generalize (lg_sl ([.ref ob, .int p0]) ++ List.replicate (2 - (lg_sl ([.ref ob, .int p0])).length) Slot.unset).toArray = ls at hl ⊢
  have hl : lv_has ls 2 [(0, .ref ob), (1, .int p0)] := hl
  have h := hf
  unfold mX3_isAwake at h
  refine lv_aload_n hx hb dX3_isAwake_0 rfl (lv_at hl 0 rfl) ?_
  refine lv_iload_n hx hb dX3_isAwake_1 rfl (lv_at hl 1 rfl) ?_
  refine lv_iconst (v := 3) hx hb dX3_isAwake_2 (by decide) ?_
  obtain ⟨v1, hv1, h⟩ := bdP_some h
  refine call_VP (As := [.int p0, .int 3]) (rest := []) ⟨hx, hb, hml, hown, hts⟩ (tX3_of (l := l) (dC := dC) (dI := dI) (cI := cI) (cC := cC) (ob := ob) (q := q) hv1) (cwV 2 hts gX3_isAwake_X3_of rfl rfl rfl (by decide +kernel) ⟨Nat.le_of_ble_eq_true rfl, Nat.le_of_ble_eq_true rfl⟩) hK hP 0 rfl rfl (by rfl) hl.1 rfl (Nat.le_of_ble_eq_true rfl) dX3_isAwake_3 ⟨Nat.zero_le _, Nat.zero_le _⟩ ?_
  refine lv_if_ne (tgt := 13) hx hb dX3_isAwake_6 (by decide) (fun c2 => ?_) (fun c2 => ?_)
  · replace h := if_n c2 h
    refine lv_iconst (v := 0) hx hb dX3_isAwake_13 (by decide) ?_
    exact t_14  h (lv_sub hl [] rfl)
  · replace h := if_p c2 h
    refine lv_iconst (v := 1) hx hb dX3_isAwake_9 (by decide) ?_
    refine lv_goto (tgt := 14) hx hb dX3_isAwake_10 (by decide) ?_
    exact t_14  h (lv_sub hl [] rfl)
def mX3_road (N : Nat) (p0 : Int32) (p1 : Int32) : Option Int32 := some ((6 + (5 * ((if p1 < p0 then p1 else p0)))) + ((if p0 < p1 then p1 else p0)))
def rmX3_road : Room := { frames := 2, cells := 0, slots := 0, locals := 61 }
set_option maxHeartbeats 4000000 in
set_option maxRecDepth 100000 in
theorem tX3_road {l : Launch} {N : Nat} {p0 : Int32} {p1 : Int32} {rr : Int32} (hf : mX3_road N p0 p1 = some rr) : Met l yX3_road wsX3_road rmX3_road (cS [.int p0, .int p1]) (cQp rr) 0 0 (fun _ => False) := by
  refine Met.ofW (cc := cX3_road) (maxL := 2) (ret := (some .int)) (by decide) rfl ?_
  intro p e s m args below meth c s₁ B hml hv
  obtain rfl : args = ([.int p0, .int p1] : List Value).toArray := hv
  have hx := B.exec
  have hb := B.bytes
  have hr := B.returns
  have hts := atoms_spec (ws := wsX3_road) B.pre
  have hown : s.vm.findClass RX3 = some m.cls := findClass_of_methodNamed B.named
  have hlocks := B.notSynchronized
  have hl := lv_entry ([.int p0, .int p1]) (n := 2) (Nat.le_of_ble_eq_true rfl)
  rw [lg_entry_eq]
  generalize (lg_sl ([.int p0, .int p1]) ++ List.replicate (2 - (lg_sl ([.int p0, .int p1])).length) Slot.unset).toArray = ls at hl ⊢
  have hl : lv_has ls 2 [(0, .int p0), (1, .int p1)] := hl
  have h := hf
  unfold mX3_road at h
  refine lv_bipush (v := 6) hx hb dX3_road_0 (by decide) ?_
  refine lv_iconst (v := 5) hx hb dX3_road_2 (by decide) ?_
  refine lv_iload_n hx hb dX3_road_3 rfl (lv_at hl 0 rfl) ?_
  refine lv_iload_n hx hb dX3_road_4 rfl (lv_at hl 1 rfl) ?_
  refine va_mmin hx hb (hml.trans hl.1.symm) hown (hts (.methodLink RX3 56 Lib.Math.min.name) (by decide +kernel)) (hts (.static Lib.Math.min.name) (by decide +kernel)) (hts (.initialized "java/lang/Math") (by decide +kernel)) (hts (.code Lib.Math.min.name Lib.Math.min.code 2 (some .int)) (by decide +kernel)) (Nat.le_of_ble_eq_true rfl) (Nat.le_of_ble_eq_true rfl) (Nat.zero_le _) (Nat.zero_le _) dX3_road_5 ?_
  refine lv_imul hx hb dX3_road_8 ?_
  refine lv_iadd hx hb dX3_road_9 ?_
  refine lv_iload_n hx hb dX3_road_10 rfl (lv_at hl 0 rfl) ?_
  refine lv_iload_n hx hb dX3_road_11 rfl (lv_at hl 1 rfl) ?_
  refine va_mmax hx hb (hml.trans hl.1.symm) hown (hts (.methodLink RX3 61 Lib.Math.max.name) (by decide +kernel)) (hts (.static Lib.Math.max.name) (by decide +kernel)) (hts (.initialized "java/lang/Math") (by decide +kernel)) (hts (.code Lib.Math.max.name Lib.Math.max.code 2 (some .int)) (by decide +kernel)) (Nat.le_of_ble_eq_true rfl) (Nat.le_of_ble_eq_true rfl) (Nat.zero_le _) (Nat.zero_le _) dX3_road_12 ?_
  refine lv_iadd hx hb dX3_road_15 ?_
  exact W.iret hx hb hr (fun t ht _ => retP h ht) (fun _ h9 => absurd h9 List.not_mem_nil) dX3_road_16
def fX3_isReached_39 (N : Nat) (K : KT)  (y0 : Int32) : Option Int32 := gd (y0 = 0 ∨ y0 = 1) (some y0)
def fX3_isReached_38 (N : Nat) (K : KT)   : Option Int32 := fX3_isReached_39 N K  0
def mX3_isReached (N : Nat) (K : KT) (p0 : Int32) (p1 : Int32) : Option Int32 := (if p0 = p1 then fX3_isReached_38 N K   else bdP (mX3_isAwake N K p0) (fun v2 => (if v2 = 0 then fX3_isReached_38 N K   else bdP (mX3_isAwake N K p1) (fun v4 => (if v4 = 0 then fX3_isReached_38 N K   else bdP (mX3_road N p0 p1) (fun v6 => rdA (K 0) 186 v6 (fun v7 => (if v7 = 0 then fX3_isReached_39 N K  1 else fX3_isReached_38 N K  ))))))))
def rmX3_isReached : Room := { frames := 3, cells := 0, slots := 0, locals := 83 }
set_option maxHeartbeats 4000000 in
set_option maxRecDepth 100000 in
theorem tX3_isReached {l : Launch} {dC : Nat → ClassId} {dI : Nat → Nat → Nat} {cI : ClassId} {cC : ClassId} {ob : Nat} {q : Nat → Nat} {N : Nat} {K : KT} {p0 : Int32} {p1 : Int32} {rr : Int32} (hf : mX3_isReached N K p0 p1 = some rr) : Met l yX3_isReached wsX3_isReached rmX3_isReached (cP (dC, dI) vwCl [(cI, .int), (cC, .char)] (mdW cI cC ob q K) [.ref ob, .int p0, .int p1]) (cQp rr) 0 0 (fun _ => False) := by
  refine Met.ofW (cc := cX3_isReached) (maxL := 3) (ret := (some .boolean)) (by decide) rfl ?_
  intro p e s m args below meth c s₁ B hml hv
  obtain ⟨rfl, hP, hK⟩ := hv
  have hx := B.exec
  have hb := B.bytes
  have hr := B.returns
  have hts := atoms_spec (ws := wsX3_isReached) B.pre
  have hown : s.vm.findClass RX3 = some m.cls := findClass_of_methodNamed B.named
  have hlocks := B.notSynchronized
  have hwX3 : ∀ w ∈ u_ws RX3 TX3 17, w ∈ wsX3_isReached := by decide +kernel
  have hf_9 := hts (.fieldLink RX3 9 "CaravanLogsModel" "now" "[I") (by decide +kernel)
  have t_39 : ∀ {y0 : Int32} {ls : Array Slot} (h : fX3_isReached_39 N K  y0 = some rr) (hl : lv_has ls 3 []), W p l e (headSpec wsX3_isReached rmX3_isReached).room s m ([.ref ob, .int p0, .int p1] : List Value).toArray below meth c s.heap [] 0 0 (MQ below (cQp rr) ([.ref ob, .int p0, .int p1] : List Value).toArray s 0 0 (fun _ => False)) (F0 m 39 ls [.int y0]) := by
    intro  y0 ls h hl
    unfold fX3_isReached_39 at h
    obtain ⟨hz, h⟩ := gd_some h
    exact W.zret hx hb hr (zb_ok hz) (fun t ht _ => retP h ht) (fun _ h9 => absurd h9 List.not_mem_nil) dX3_isReached_39
  have t_38 : ∀  {ls : Array Slot} (h : fX3_isReached_38 N K   = some rr) (hl : lv_has ls 3 []), W p l e (headSpec wsX3_isReached rmX3_isReached).room s m ([.ref ob, .int p0, .int p1] : List Value).toArray below meth c s.heap [] 0 0 (MQ below (cQp rr) ([.ref ob, .int p0, .int p1] : List Value).toArray s 0 0 (fun _ => False)) (F0 m 38 ls []) := by
    intro   ls h hl
    unfold fX3_isReached_38 at h
    refine lv_iconst (v := 0) hx hb dX3_isReached_38 (by decide) ?_
    exact t_39  h (lv_sub hl [] rfl)
  have hl := lv_entry ([.ref ob, .int p0, .int p1]) (n := 3) (Nat.le_of_ble_eq_true rfl)
  rw [lg_entry_eq]
  generalize (lg_sl ([.ref ob, .int p0, .int p1]) ++ List.replicate (3 - (lg_sl ([.ref ob, .int p0, .int p1])).length) Slot.unset).toArray = ls at hl ⊢
  have hl : lv_has ls 3 [(0, .ref ob), (1, .int p0), (2, .int p1)] := hl
  have h := hf
  unfold mX3_isReached at h
  refine lv_iload_n hx hb dX3_isReached_0 rfl (lv_at hl 1 rfl) ?_
  refine lv_iload_n hx hb dX3_isReached_1 rfl (lv_at hl 2 rfl) ?_
  refine lv_icmp_eq (tgt := 38) hx hb dX3_isReached_2 (by decide) (fun c1 => ?_) (fun c1 => ?_)
  · replace h := if_p c1 h
    exact t_38  h (lv_sub hl [] rfl)
  · replace h := if_n c1 h
    refine lv_aload_n hx hb dX3_isReached_5 rfl (lv_at hl 0 rfl) ?_
    refine lv_iload_n hx hb dX3_isReached_6 rfl (lv_at hl 1 rfl) ?_
    obtain ⟨v2, hv2, h⟩ := bdP_some h
    refine call_VP (As := [.int p0]) (rest := []) ⟨hx, hb, hml, hown, hts⟩ (tX3_isAwake (l := l) (dC := dC) (dI := dI) (cI := cI) (cC := cC) (ob := ob) (q := q) hv2) (cwV 1 hts gX3_isReached_X3_isAwake rfl rfl rfl (by decide +kernel) ⟨Nat.le_of_ble_eq_true rfl, Nat.le_of_ble_eq_true rfl⟩) hK hP 0 rfl rfl (by rfl) hl.1 rfl (Nat.le_of_ble_eq_true rfl) dX3_isReached_7 ⟨Nat.zero_le _, Nat.zero_le _⟩ ?_
    refine lv_if_eq (tgt := 38) hx hb dX3_isReached_10 (by decide) (fun c3 => ?_) (fun c3 => ?_)
    · replace h := if_p c3 h
      exact t_38  h (lv_sub hl [] rfl)
    · replace h := if_n c3 h
      refine lv_aload_n hx hb dX3_isReached_13 rfl (lv_at hl 0 rfl) ?_
      refine lv_iload_n hx hb dX3_isReached_14 rfl (lv_at hl 2 rfl) ?_
      obtain ⟨v4, hv4, h⟩ := bdP_some h
      refine call_VP (As := [.int p1]) (rest := []) ⟨hx, hb, hml, hown, hts⟩ (tX3_isAwake (l := l) (dC := dC) (dI := dI) (cI := cI) (cC := cC) (ob := ob) (q := q) hv4) (cwV 1 hts gX3_isReached_X3_isAwake rfl rfl rfl (by decide +kernel) ⟨Nat.le_of_ble_eq_true rfl, Nat.le_of_ble_eq_true rfl⟩) hK hP 0 rfl rfl (by rfl) hl.1 rfl (Nat.le_of_ble_eq_true rfl) dX3_isReached_15 ⟨Nat.zero_le _, Nat.zero_le _⟩ ?_
      refine lv_if_eq (tgt := 38) hx hb dX3_isReached_18 (by decide) (fun c5 => ?_) (fun c5 => ?_)
      · replace h := if_p c5 h
        exact t_38  h (lv_sub hl [] rfl)
      · replace h := if_n c5 h
        refine lv_aload_n hx hb dX3_isReached_21 rfl (lv_at hl 0 rfl) ?_
        refine va_get (D := (dC, dI)) (ci := 4) (v := .ref (q 0)) (C := RX3) (T := TX3) (N := 17) hx hb hts hwX3 hown hK hP 0 rfl rfl 0 (by decide) hf_9 (fun _ h9 => h9) rfl dX3_isReached_22 ?_
        refine lv_iload_n hx hb dX3_isReached_25 rfl (lv_at hl 1 rfl) ?_
        refine lv_iload_n hx hb dX3_isReached_26 rfl (lv_at hl 2 rfl) ?_
        obtain ⟨v6, hv6, h⟩ := bdP_some h
        refine call_SP (As := [.int p0, .int p1]) (rest := [.ref (q 0)]) ⟨hx, hb, hml, hown, hts⟩ (tX3_road (l := l) hv6) (va_cwS 2 hts gX3_isReached_X3_road rfl rfl rfl (by decide +kernel) ⟨Nat.le_of_ble_eq_true rfl, Nat.le_of_ble_eq_true rfl⟩) (by rfl) hl.1 rfl (Nat.le_of_ble_eq_true rfl) dX3_isReached_27 ⟨Nat.zero_le _, Nat.zero_le _⟩ ?_
        obtain ⟨hi8, v7, ev7, h⟩ := rdA_some h
        refine k_iald hx hb hK hP 1 0 rfl rfl hi8 ev7 dX3_isReached_30 ?_
        refine lv_if_ne (tgt := 38) hx hb dX3_isReached_31 (by decide) (fun c9 => ?_) (fun c9 => ?_)
        · replace h := if_n c9 h
          exact t_38  h (lv_sub hl [] rfl)
        · replace h := if_p c9 h
          refine lv_iconst (v := 1) hx hb dX3_isReached_34 (by decide) ?_
          refine lv_goto (tgt := 39) hx hb dX3_isReached_35 (by decide) ?_
          exact t_39  h (lv_sub hl [] rfl)
def fX3_lastTerm_29 (N : Nat) (K : KT)  (y0 : Int32) : Option Int32 := some y0
def mX3_lastTerm (N : Nat) (K : KT) (p0 : Int32) : Option Int32 := bdP (mX3_of N K p0 6) (fun v1 => (if v1 = 0 then fX3_lastTerm_29 N K  0 else bdP (mX3_of N K p0 6) (fun v3 => bdP (mX3_page N K p0 (v3 - 1) 0) (fun v4 => fX3_lastTerm_29 N K  v4))))
def rmX3_lastTerm : Room := { frames := 3, cells := 0, slots := 0, locals := 85 }
set_option maxHeartbeats 4000000 in
set_option maxRecDepth 100000 in
theorem tX3_lastTerm {l : Launch} {dC : Nat → ClassId} {dI : Nat → Nat → Nat} {cI : ClassId} {cC : ClassId} {ob : Nat} {q : Nat → Nat} {N : Nat} {K : KT} {p0 : Int32} {rr : Int32} (hf : mX3_lastTerm N K p0 = some rr) : Met l yX3_lastTerm wsX3_lastTerm rmX3_lastTerm (cP (dC, dI) vwCl [(cI, .int), (cC, .char)] (mdW cI cC ob q K) [.ref ob, .int p0]) (cQp rr) 0 0 (fun _ => False) := by
  refine Met.ofW (cc := cX3_lastTerm) (maxL := 2) (ret := (some .int)) (by decide) rfl ?_
  intro p e s m args below meth c s₁ B hml hv
  obtain ⟨rfl, hP, hK⟩ := hv
  have hx := B.exec
  have hb := B.bytes
  have hr := B.returns
  have hts := atoms_spec (ws := wsX3_lastTerm) B.pre
  have hown : s.vm.findClass RX3 = some m.cls := findClass_of_methodNamed B.named
  have hlocks := B.notSynchronized
  have t_29 : ∀ {y0 : Int32} {ls : Array Slot} (h : fX3_lastTerm_29 N K  y0 = some rr) (hl : lv_has ls 2 []), W p l e (headSpec wsX3_lastTerm rmX3_lastTerm).room s m ([.ref ob, .int p0] : List Value).toArray below meth c s.heap [] 0 0 (MQ below (cQp rr) ([.ref ob, .int p0] : List Value).toArray s 0 0 (fun _ => False)) (F0 m 29 ls [.int y0]) := by
    intro  y0 ls h hl
    unfold fX3_lastTerm_29 at h
    exact W.iret hx hb hr (fun t ht _ => retP h ht) (fun _ h9 => absurd h9 List.not_mem_nil) dX3_lastTerm_29
  have hl := lv_entry ([.ref ob, .int p0]) (n := 2) (Nat.le_of_ble_eq_true rfl)
  rw [lg_entry_eq]
  generalize (lg_sl ([.ref ob, .int p0]) ++ List.replicate (2 - (lg_sl ([.ref ob, .int p0])).length) Slot.unset).toArray = ls at hl ⊢
  have hl : lv_has ls 2 [(0, .ref ob), (1, .int p0)] := hl
  have h := hf
  unfold mX3_lastTerm at h
  refine lv_aload_n hx hb dX3_lastTerm_0 rfl (lv_at hl 0 rfl) ?_
  refine lv_iload_n hx hb dX3_lastTerm_1 rfl (lv_at hl 1 rfl) ?_
  refine lv_bipush (v := 6) hx hb dX3_lastTerm_2 (by decide) ?_
  obtain ⟨v1, hv1, h⟩ := bdP_some h
  refine call_VP (As := [.int p0, .int 6]) (rest := []) ⟨hx, hb, hml, hown, hts⟩ (tX3_of (l := l) (dC := dC) (dI := dI) (cI := cI) (cC := cC) (ob := ob) (q := q) hv1) (cwV 2 hts gX3_lastTerm_X3_of rfl rfl rfl (by decide +kernel) ⟨Nat.le_of_ble_eq_true rfl, Nat.le_of_ble_eq_true rfl⟩) hK hP 0 rfl rfl (by rfl) hl.1 rfl (Nat.le_of_ble_eq_true rfl) dX3_lastTerm_4 ⟨Nat.zero_le _, Nat.zero_le _⟩ ?_
  refine lv_if_ne (tgt := 14) hx hb dX3_lastTerm_7 (by decide) (fun c2 => ?_) (fun c2 => ?_)
  · replace h := if_n c2 h
    refine lv_aload_n hx hb dX3_lastTerm_14 rfl (lv_at hl 0 rfl) ?_
    refine lv_iload_n hx hb dX3_lastTerm_15 rfl (lv_at hl 1 rfl) ?_
    refine lv_aload_n hx hb dX3_lastTerm_16 rfl (lv_at hl 0 rfl) ?_
    refine lv_iload_n hx hb dX3_lastTerm_17 rfl (lv_at hl 1 rfl) ?_
    refine lv_bipush (v := 6) hx hb dX3_lastTerm_18 (by decide) ?_
    obtain ⟨v3, hv3, h⟩ := bdP_some h
    refine call_VP (As := [.int p0, .int 6]) (rest := [.int p0, .ref ob]) ⟨hx, hb, hml, hown, hts⟩ (tX3_of (l := l) (dC := dC) (dI := dI) (cI := cI) (cC := cC) (ob := ob) (q := q) hv3) (cwV 2 hts gX3_lastTerm_X3_of rfl rfl rfl (by decide +kernel) ⟨Nat.le_of_ble_eq_true rfl, Nat.le_of_ble_eq_true rfl⟩) hK hP 0 rfl rfl (by rfl) hl.1 rfl (Nat.le_of_ble_eq_true rfl) dX3_lastTerm_20 ⟨Nat.zero_le _, Nat.zero_le _⟩ ?_
    refine lv_iconst (v := 1) hx hb dX3_lastTerm_23 (by decide) ?_
    refine lv_isub hx hb dX3_lastTerm_24 ?_
    refine lv_iconst (v := 0) hx hb dX3_lastTerm_25 (by decide) ?_
    obtain ⟨v4, hv4, h⟩ := bdP_some h
    refine call_VP (As := [.int p0, .int (v3 - 1), .int 0]) (rest := []) ⟨hx, hb, hml, hown, hts⟩ (tX3_page (l := l) (dC := dC) (dI := dI) (cI := cI) (cC := cC) (ob := ob) (q := q) hv4) (cwV 3 hts gX3_lastTerm_X3_page rfl rfl rfl (by decide +kernel) ⟨Nat.le_of_ble_eq_true rfl, Nat.le_of_ble_eq_true rfl⟩) hK hP 0 rfl rfl (by rfl) hl.1 rfl (Nat.le_of_ble_eq_true rfl) dX3_lastTerm_26 ⟨Nat.zero_le _, Nat.zero_le _⟩ ?_
    exact t_29  h (lv_sub hl [] rfl)
  · replace h := if_p c2 h
    refine lv_iconst (v := 0) hx hb dX3_lastTerm_10 (by decide) ?_
    refine lv_goto (tgt := 29) hx hb dX3_lastTerm_11 (by decide) ?_
    exact t_29  h (lv_sub hl [] rfl)
