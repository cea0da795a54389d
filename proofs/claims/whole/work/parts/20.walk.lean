def fX3_read_50 (N : Nat) (k14 : KT → Int32 → Option (Int32 × KT)) (K : KT) (y0 : Int32) : Option (Int32 × KT) := k14 K y0
def fX3_read_49 (N : Nat) (k14 : KT → Int32 → Option (Int32 × KT)) (K : KT)  : Option (Int32 × KT) := fX3_read_50 N k14 K 0
def fX3_read_123 (N : Nat) (k83 : KT → Int32 → Int32 → Int32 → Option (Int32 × KT)) (K : KT) (x2 : Int32) (x3 : Int32) (y0 : Int32) : Option (Int32 × KT) := k83 K x2 x3 y0
def fX3_read_122 (N : Nat) (k83 : KT → Int32 → Int32 → Int32 → Option (Int32 × KT)) (K : KT) (x2 : Int32) (x3 : Int32) : Option (Int32 × KT) := fX3_read_123 N k83 K x2 x3 0
def fX3_read_105 (N : Nat) (k83 : KT → Int32 → Int32 → Int32 → Option (Int32 × KT)) (K : KT) (x2 : Int32) (x3 : Int32) : Option (Int32 × KT) := (if x3 < 0 then fX3_read_122 N k83 K x2 x3 else bdE (mX3_takes N K 59) (fun v2 K3 => (if v2 = 0 then fX3_read_122 N k83 K3 x2 x3 else fX3_read_123 N k83 K3 x2 x3 1)))
def fX3_read_168 (N : Nat)  (K : KT) (y1 : Int32) : Option (Int32 × KT) := bdE (mX3_ends N K y1) (fun v5 K6 => some (v5, K6))
def fX3_read_154 (N : Nat)  (K : KT) (x3 : Int32) : Option (Int32 × KT) := (if x3 = ((-3)) then fX3_read_168 N  K ((-3)) else fX3_read_168 N  K ((-2)))
def fX3_read_128 (N : Nat)  (K : KT) (x2 : Int32) (x3 : Int32) : Option (Int32 × KT) := ptF K 8 3 0 (fun K8 => (if x3 < 0 then (if x3 = ((-3)) then ptF K8 8 8 x2 (fun K11 => fX3_read_154 N  K11 x3) else fX3_read_154 N  K8 x3) else bdE (mX3_ends N K8 x2) (fun v12 K13 => some (v12, K13))))
def fX3_read_83 (N : Nat)  : Nat → KT → Int32 → Int32 → Int32 → Option (Int32 × KT)
  | 0, _, _, _, _ => none
  | n + 1, K, x2, x3, x4 => (if x4 = 0 then fX3_read_128 N  K x2 x3 else bdE (mX3_isCommand N K ) (fun v15 K16 => bdE (mX3_carries N K16 ) (fun v17 K18 => (if v17 < 0 then fX3_read_105 N (fX3_read_83 N  n) K18 x2 v17 else fX3_read_105 N (fX3_read_83 N  n) K18 (x2 + 1) v17))))
def fX3_read_54 (N : Nat)  (K : KT) (x1 : Int32) : Option (Int32 × KT) := (if x1 = 0 then ptF K 8 3 0 (fun K22 => some (((-100)) - (K22 8 4), K22)) else ptF K 8 4 0 (fun K21 => fX3_read_83 N  N K21 0 0 1))
def fX3_read_14 (N : Nat)  : Nat → KT → Int32 → Option (Int32 × KT)
  | 0, _, _ => none
  | n + 1, K, x1 => (if x1 = 0 then fX3_read_54 N  K x1 else (if (K 8 3) ≤ (K 8 4) then fX3_read_54 N  K x1 else bdE (mX3_takes N K 59) (fun v25 K26 => (if v25 = 0 then fX3_read_49 N (fX3_read_14 N  n) K26  else bdE (mX3_isCommand N K26 ) (fun v28 K29 => (if v28 = 0 then fX3_read_49 N (fX3_read_14 N  n) K29  else fX3_read_50 N (fX3_read_14 N  n) K29 1))))))
def mX3_read (N : Nat) (K : KT)  : Option (Int32 × KT) := bdE (mX3_tries N K ) (fun v31 K32 => ptF K32 8 4 0 (fun K33 => bdE (mX3_isCommand N K33 ) (fun v34 K35 => fX3_read_14 N  N K35 v34)))
def rmX3_read : Room := { frames := 10, cells := 0, slots := 0, locals := 244 }
set_option maxHeartbeats 4000000 in
set_option maxRecDepth 100000 in
theorem tX3_read {l : Launch} {dC : Nat → ClassId} {dI : Nat → Nat → Nat} {cI : ClassId} {cC : ClassId} {ob : Nat} {q : Nat → Nat} {N : Nat} {K : KT}  {rr : Int32} {KK : KT} (hf : mX3_read N K  = some (rr, KK)) : Met l yX3_read wsX3_read rmX3_read (cPe (dC, dI) vwCl [(cI, .int), (cC, .char)] (mdL ob q) (mdW cI cC ob q K) [.ref ob]) (cE (dC, dI) vwCl (mdL ob q) rr (mdW cI cC ob q KK)) 0 0 (aL (mdL ob q)) := by
  refine Met.ofW (cc := cX3_read) (maxL := 5) (ret := (some .int)) (by decide) rfl ?_
  intro p e s m args below meth c s₁ B hml hv
  obtain ⟨rfl, hP, hK, hD⟩ := hv
  have hx := B.exec
  have hb := B.bytes
  have hr := B.returns
  have hts := atoms_spec (ws := wsX3_read) B.pre
  have hown : s.vm.findClass RX3 = some m.cls := findClass_of_methodNamed B.named
  have hlocks := B.notSynchronized
  have hwX3 : ∀ w ∈ u_ws RX3 TX3 17, w ∈ wsX3_read := by decide +kernel
  have hf_35 := hts (.fieldLink RX3 35 "CaravanLogsModel" "which" "I") (by decide +kernel)
  have hf_179 := hts (.fieldLink RX3 179 "CaravanLogsModel" "length" "I") (by decide +kernel)
  have hf_182 := hts (.fieldLink RX3 182 "CaravanLogsModel" "at" "I") (by decide +kernel)
  have t_50 : ∀ {k14 : KT → Int32 → Option (Int32 × KT)} (hk14 : ∀ {K : KT} {x1 : Int32} {H : Heap} {locs : List Loc} {ls : Array Slot} (h : k14 K x1 = some (rr, KK)) (hl : lv_has ls 5 [(0, .ref ob), (1, .int x1)]) (hP : va_P (dC, dI) vwCl (mdW cI cC ob q K) H) (hD : va_D (aL (mdL ob q)) (mdW cI cC ob q K)) (hS : va_S (aL (mdL ob q)) s.heap H locs), W p l e (headSpec wsX3_read rmX3_read).room s m ([.ref ob] : List Value).toArray below meth c H locs 0 0 (MQ below (cE (dC, dI) vwCl (mdL ob q) rr (mdW cI cC ob q KK)) ([.ref ob] : List Value).toArray s 0 0 (aL (mdL ob q))) (F0 m 14 ls [])), ∀ {K : KT} {y0 : Int32} {H : Heap} {locs : List Loc} {ls : Array Slot} (h : fX3_read_50 N k14 K y0 = some (rr, KK)) (hl : lv_has ls 5 [(0, .ref ob)]) (hP : va_P (dC, dI) vwCl (mdW cI cC ob q K) H) (hD : va_D (aL (mdL ob q)) (mdW cI cC ob q K)) (hS : va_S (aL (mdL ob q)) s.heap H locs), W p l e (headSpec wsX3_read rmX3_read).room s m ([.ref ob] : List Value).toArray below meth c H locs 0 0 (MQ below (cE (dC, dI) vwCl (mdL ob q) rr (mdW cI cC ob q KK)) ([.ref ob] : List Value).toArray s 0 0 (aL (mdL ob q))) (F0 m 50 ls [.int y0]) := by
    intro k14 hk14 K y0 H locs ls h hl hP hD hS
    unfold fX3_read_50 at h
    refine lv_istore_n (lv' := [(1, .int y0), (0, .ref ob)]) hx hb dX3_read_50 rfl hl (by decide) rfl (fun ls hl => ?_)
    refine lv_goto (tgt := 14) hx hb dX3_read_51 (by decide) ?_
    exact hk14 h (lv_sub hl [1, 0] rfl) hP hD hS
  have t_49 : ∀ {k14 : KT → Int32 → Option (Int32 × KT)} (hk14 : ∀ {K : KT} {x1 : Int32} {H : Heap} {locs : List Loc} {ls : Array Slot} (h : k14 K x1 = some (rr, KK)) (hl : lv_has ls 5 [(0, .ref ob), (1, .int x1)]) (hP : va_P (dC, dI) vwCl (mdW cI cC ob q K) H) (hD : va_D (aL (mdL ob q)) (mdW cI cC ob q K)) (hS : va_S (aL (mdL ob q)) s.heap H locs), W p l e (headSpec wsX3_read rmX3_read).room s m ([.ref ob] : List Value).toArray below meth c H locs 0 0 (MQ below (cE (dC, dI) vwCl (mdL ob q) rr (mdW cI cC ob q KK)) ([.ref ob] : List Value).toArray s 0 0 (aL (mdL ob q))) (F0 m 14 ls [])), ∀ {K : KT}  {H : Heap} {locs : List Loc} {ls : Array Slot} (h : fX3_read_49 N k14 K  = some (rr, KK)) (hl : lv_has ls 5 [(0, .ref ob)]) (hP : va_P (dC, dI) vwCl (mdW cI cC ob q K) H) (hD : va_D (aL (mdL ob q)) (mdW cI cC ob q K)) (hS : va_S (aL (mdL ob q)) s.heap H locs), W p l e (headSpec wsX3_read rmX3_read).room s m ([.ref ob] : List Value).toArray below meth c H locs 0 0 (MQ below (cE (dC, dI) vwCl (mdL ob q) rr (mdW cI cC ob q KK)) ([.ref ob] : List Value).toArray s 0 0 (aL (mdL ob q))) (F0 m 49 ls []) := by
    intro k14 hk14 K H locs ls h hl hP hD hS
    unfold fX3_read_49 at h
    refine lv_iconst (v := 0) hx hb dX3_read_49 (by decide) ?_
    exact t_50 @hk14 h (lv_sub hl [0] rfl) hP hD hS
  have t_123 : ∀ {k83 : KT → Int32 → Int32 → Int32 → Option (Int32 × KT)} (hk83 : ∀ {K : KT} {x2 : Int32} {x3 : Int32} {x4 : Int32} {H : Heap} {locs : List Loc} {ls : Array Slot} (h : k83 K x2 x3 x4 = some (rr, KK)) (hl : lv_has ls 5 [(0, .ref ob), (2, .int x2), (3, .int x3), (4, .int x4)]) (hP : va_P (dC, dI) vwCl (mdW cI cC ob q K) H) (hD : va_D (aL (mdL ob q)) (mdW cI cC ob q K)) (hS : va_S (aL (mdL ob q)) s.heap H locs), W p l e (headSpec wsX3_read rmX3_read).room s m ([.ref ob] : List Value).toArray below meth c H locs 0 0 (MQ below (cE (dC, dI) vwCl (mdL ob q) rr (mdW cI cC ob q KK)) ([.ref ob] : List Value).toArray s 0 0 (aL (mdL ob q))) (F0 m 83 ls [])), ∀ {K : KT} {x2 : Int32} {x3 : Int32} {y0 : Int32} {H : Heap} {locs : List Loc} {ls : Array Slot} (h : fX3_read_123 N k83 K x2 x3 y0 = some (rr, KK)) (hl : lv_has ls 5 [(0, .ref ob), (2, .int x2), (3, .int x3)]) (hP : va_P (dC, dI) vwCl (mdW cI cC ob q K) H) (hD : va_D (aL (mdL ob q)) (mdW cI cC ob q K)) (hS : va_S (aL (mdL ob q)) s.heap H locs), W p l e (headSpec wsX3_read rmX3_read).room s m ([.ref ob] : List Value).toArray below meth c H locs 0 0 (MQ below (cE (dC, dI) vwCl (mdL ob q) rr (mdW cI cC ob q KK)) ([.ref ob] : List Value).toArray s 0 0 (aL (mdL ob q))) (F0 m 123 ls [.int y0]) := by
    intro k83 hk83 K x2 x3 y0 H locs ls h hl hP hD hS
    unfold fX3_read_123 at h
    refine lv_istore (lv' := [(4, .int y0), (0, .ref ob), (2, .int x2), (3, .int x3)]) hx hb dX3_read_123 hl (by decide) rfl (fun ls hl => ?_)
    refine lv_goto (tgt := 83) hx hb dX3_read_125 (by decide) ?_
    exact hk83 h (lv_sub hl [1, 2, 3, 0] rfl) hP hD hS
  have t_122 : ∀ {k83 : KT → Int32 → Int32 → Int32 → Option (Int32 × KT)} (hk83 : ∀ {K : KT} {x2 : Int32} {x3 : Int32} {x4 : Int32} {H : Heap} {locs : List Loc} {ls : Array Slot} (h : k83 K x2 x3 x4 = some (rr, KK)) (hl : lv_has ls 5 [(0, .ref ob), (2, .int x2), (3, .int x3), (4, .int x4)]) (hP : va_P (dC, dI) vwCl (mdW cI cC ob q K) H) (hD : va_D (aL (mdL ob q)) (mdW cI cC ob q K)) (hS : va_S (aL (mdL ob q)) s.heap H locs), W p l e (headSpec wsX3_read rmX3_read).room s m ([.ref ob] : List Value).toArray below meth c H locs 0 0 (MQ below (cE (dC, dI) vwCl (mdL ob q) rr (mdW cI cC ob q KK)) ([.ref ob] : List Value).toArray s 0 0 (aL (mdL ob q))) (F0 m 83 ls [])), ∀ {K : KT} {x2 : Int32} {x3 : Int32} {H : Heap} {locs : List Loc} {ls : Array Slot} (h : fX3_read_122 N k83 K x2 x3 = some (rr, KK)) (hl : lv_has ls 5 [(0, .ref ob), (2, .int x2), (3, .int x3)]) (hP : va_P (dC, dI) vwCl (mdW cI cC ob q K) H) (hD : va_D (aL (mdL ob q)) (mdW cI cC ob q K)) (hS : va_S (aL (mdL ob q)) s.heap H locs), W p l e (headSpec wsX3_read rmX3_read).room s m ([.ref ob] : List Value).toArray below meth c H locs 0 0 (MQ below (cE (dC, dI) vwCl (mdL ob q) rr (mdW cI cC ob q KK)) ([.ref ob] : List Value).toArray s 0 0 (aL (mdL ob q))) (F0 m 122 ls []) := by
    intro k83 hk83 K x2 x3 H locs ls h hl hP hD hS
    unfold fX3_read_122 at h
    refine lv_iconst (v := 0) hx hb dX3_read_122 (by decide) ?_
    exact t_123 @hk83 h (lv_sub hl [0, 1, 2] rfl) hP hD hS
  have t_105 : ∀ {k83 : KT → Int32 → Int32 → Int32 → Option (Int32 × KT)} (hk83 : ∀ {K : KT} {x2 : Int32} {x3 : Int32} {x4 : Int32} {H : Heap} {locs : List Loc} {ls : Array Slot} (h : k83 K x2 x3 x4 = some (rr, KK)) (hl : lv_has ls 5 [(0, .ref ob), (2, .int x2), (3, .int x3), (4, .int x4)]) (hP : va_P (dC, dI) vwCl (mdW cI cC ob q K) H) (hD : va_D (aL (mdL ob q)) (mdW cI cC ob q K)) (hS : va_S (aL (mdL ob q)) s.heap H locs), W p l e (headSpec wsX3_read rmX3_read).room s m ([.ref ob] : List Value).toArray below meth c H locs 0 0 (MQ below (cE (dC, dI) vwCl (mdL ob q) rr (mdW cI cC ob q KK)) ([.ref ob] : List Value).toArray s 0 0 (aL (mdL ob q))) (F0 m 83 ls [])), ∀ {K : KT} {x2 : Int32} {x3 : Int32} {H : Heap} {locs : List Loc} {ls : Array Slot} (h : fX3_read_105 N k83 K x2 x3 = some (rr, KK)) (hl : lv_has ls 5 [(0, .ref ob), (2, .int x2), (3, .int x3)]) (hP : va_P (dC, dI) vwCl (mdW cI cC ob q K) H) (hD : va_D (aL (mdL ob q)) (mdW cI cC ob q K)) (hS : va_S (aL (mdL ob q)) s.heap H locs), W p l e (headSpec wsX3_read rmX3_read).room s m ([.ref ob] : List Value).toArray below meth c H locs 0 0 (MQ below (cE (dC, dI) vwCl (mdL ob q) rr (mdW cI cC ob q KK)) ([.ref ob] : List Value).toArray s 0 0 (aL (mdL ob q))) (F0 m 105 ls []) := by
    intro k83 hk83 K x2 x3 H locs ls h hl hP hD hS
    unfold fX3_read_105 at h
    refine lv_iload_n hx hb dX3_read_105 rfl (lv_at hl 2 rfl) ?_
    refine lv_if_lt (tgt := 122) hx hb dX3_read_106 (by decide) (fun c1 => ?_) (fun c1 => ?_)
    · replace h := if_p c1 h
      exact t_122 @hk83 h (lv_sub hl [0, 1, 2] rfl) hP hD hS
    · replace h := if_n c1 h
      refine lv_aload_n hx hb dX3_read_109 rfl (lv_at hl 0 rfl) ?_
      refine lv_bipush (v := 59) hx hb dX3_read_110 (by decide) ?_
      obtain ⟨v2, K3, hv2, h⟩ := bdE_some h
      refine call_VE (As := [.int 59]) (rest := []) ⟨hx, hb, hml, hown, hts⟩ (tX3_takes (l := l) (dC := dC) (dI := dI) (cI := cI) (cC := cC) (ob := ob) (q := q) hv2) (cwV 1 hts gX3_read_X3_takes rfl rfl rfl (by decide +kernel) ⟨Nat.le_of_ble_eq_true rfl, Nat.le_of_ble_eq_true rfl⟩) hK hP hD hS (fun _ h9 => h9) 0 rfl rfl (by rfl) hl.1 rfl (Nat.le_of_ble_eq_true rfl) dX3_read_112 ⟨Nat.zero_le _, Nat.zero_le _⟩ (fun H locs hP hD _ hS => ?_)
      refine lv_if_eq (tgt := 122) hx hb dX3_read_115 (by decide) (fun c4 => ?_) (fun c4 => ?_)
      · replace h := if_p c4 h
        exact t_122 @hk83 h (lv_sub hl [0, 1, 2] rfl) hP hD hS
      · replace h := if_n c4 h
        refine lv_iconst (v := 1) hx hb dX3_read_118 (by decide) ?_
        refine lv_goto (tgt := 123) hx hb dX3_read_119 (by decide) ?_
        exact t_123 @hk83 h (lv_sub hl [0, 1, 2] rfl) hP hD hS
  have t_168 : ∀ {K : KT} {y1 : Int32} {H : Heap} {locs : List Loc} {ls : Array Slot} (h : fX3_read_168 N  K y1 = some (rr, KK)) (hl : lv_has ls 5 []) (hP : va_P (dC, dI) vwCl (mdW cI cC ob q K) H) (hD : va_D (aL (mdL ob q)) (mdW cI cC ob q K)) (hS : va_S (aL (mdL ob q)) s.heap H locs), W p l e (headSpec wsX3_read rmX3_read).room s m ([.ref ob] : List Value).toArray below meth c H locs 0 0 (MQ below (cE (dC, dI) vwCl (mdL ob q) rr (mdW cI cC ob q KK)) ([.ref ob] : List Value).toArray s 0 0 (aL (mdL ob q))) (F0 m 168 ls [.int y1, .ref ob]) := by
    intro  K y1 H locs ls h hl hP hD hS
    unfold fX3_read_168 at h
    obtain ⟨v5, K6, hv5, h⟩ := bdE_some h
    refine call_VE (As := [.int y1]) (rest := []) ⟨hx, hb, hml, hown, hts⟩ (tX3_ends (l := l) (dC := dC) (dI := dI) (cI := cI) (cC := cC) (ob := ob) (q := q) hv5) (cwV 1 hts gX3_read_X3_ends rfl rfl rfl (by decide +kernel) ⟨Nat.le_of_ble_eq_true rfl, Nat.le_of_ble_eq_true rfl⟩) hK hP hD hS (fun _ h9 => h9) 0 rfl rfl (by rfl) hl.1 rfl (Nat.le_of_ble_eq_true rfl) dX3_read_168 ⟨Nat.zero_le _, Nat.zero_le _⟩ (fun H locs hP hD _ hS => ?_)
    exact W.iret hx hb hr (fun t ht _ => retE (w := mdW cI cC ob q) h hP hD hS ht) hS.2.2 dX3_read_171
  have t_154 : ∀ {K : KT} {x3 : Int32} {H : Heap} {locs : List Loc} {ls : Array Slot} (h : fX3_read_154 N  K x3 = some (rr, KK)) (hl : lv_has ls 5 [(0, .ref ob), (3, .int x3)]) (hP : va_P (dC, dI) vwCl (mdW cI cC ob q K) H) (hD : va_D (aL (mdL ob q)) (mdW cI cC ob q K)) (hS : va_S (aL (mdL ob q)) s.heap H locs), W p l e (headSpec wsX3_read rmX3_read).room s m ([.ref ob] : List Value).toArray below meth c H locs 0 0 (MQ below (cE (dC, dI) vwCl (mdL ob q) rr (mdW cI cC ob q KK)) ([.ref ob] : List Value).toArray s 0 0 (aL (mdL ob q))) (F0 m 154 ls []) := by
    intro  K x3 H locs ls h hl hP hD hS
    unfold fX3_read_154 at h
    refine lv_aload_n hx hb dX3_read_154 rfl (lv_at hl 0 rfl) ?_
    refine lv_iload_n hx hb dX3_read_155 rfl (lv_at hl 1 rfl) ?_
    refine lv_bipush (v := (-3)) hx hb dX3_read_156 (by decide) ?_
    refine lv_icmp_ne (tgt := 166) hx hb dX3_read_158 (by decide) (fun c7 => ?_) (fun c7 => ?_)
    · replace h := if_n c7 h
      refine lv_bipush (v := (-2)) hx hb dX3_read_166 (by decide) ?_
      exact t_168  h (lv_sub hl [] rfl) hP hD hS
    · replace h := if_p c7 h
      refine lv_bipush (v := (-3)) hx hb dX3_read_161 (by decide) ?_
      refine lv_goto (tgt := 168) hx hb dX3_read_163 (by decide) ?_
      exact t_168  h (lv_sub hl [] rfl) hP hD hS
  have t_128 : ∀ {K : KT} {x2 : Int32} {x3 : Int32} {H : Heap} {locs : List Loc} {ls : Array Slot} (h : fX3_read_128 N  K x2 x3 = some (rr, KK)) (hl : lv_has ls 5 [(0, .ref ob), (2, .int x2), (3, .int x3)]) (hP : va_P (dC, dI) vwCl (mdW cI cC ob q K) H) (hD : va_D (aL (mdL ob q)) (mdW cI cC ob q K)) (hS : va_S (aL (mdL ob q)) s.heap H locs), W p l e (headSpec wsX3_read rmX3_read).room s m ([.ref ob] : List Value).toArray below meth c H locs 0 0 (MQ below (cE (dC, dI) vwCl (mdL ob q) rr (mdW cI cC ob q KK)) ([.ref ob] : List Value).toArray s 0 0 (aL (mdL ob q))) (F0 m 128 ls []) := by
    intro  K x2 x3 H locs ls h hl hP hD hS
    unfold fX3_read_128 at h
    refine lv_aload_n hx hb dX3_read_128 rfl (lv_at hl 0 rfl) ?_
    refine lv_iconst (v := 0) hx hb dX3_read_129 (by decide) ?_
    obtain ⟨K8, eK8, h⟩ := ptF_some h
    refine va_put (D := (dC, dI)) (ci := 4) (v := .int 0) (ty := .int) (C := RX3) (T := TX3) (N := 17) hx hb hts hwX3 tyX3 tyX3_ok nmX3 hown hK hP hD hS 0 rfl rfl 10 (by decide) hf_179 (fun _ h9 => h9) rfl (by decide +kernel) rfl rfl (Nat.le_of_ble_eq_true rfl) dX3_read_130 (fun H locs hP hD hS => ?_)
    have hP : va_P (dC, dI) vwCl (mdW cI cC ob q K8) H := by rw [eK8]; exact hP
    have hD : va_D (aL (mdL ob q)) (mdW cI cC ob q K8) := by rw [eK8]; exact hD
    refine lv_iload_n hx hb dX3_read_133 rfl (lv_at hl 2 rfl) ?_
    refine lv_if_lt (tgt := 143) hx hb dX3_read_134 (by decide) (fun c9 => ?_) (fun c9 => ?_)
    · replace h := if_p c9 h
      refine lv_iload_n hx hb dX3_read_143 rfl (lv_at hl 2 rfl) ?_
      refine lv_bipush (v := (-3)) hx hb dX3_read_144 (by decide) ?_
      refine lv_icmp_ne (tgt := 154) hx hb dX3_read_146 (by decide) (fun c10 => ?_) (fun c10 => ?_)
      · replace h := if_n c10 h
        exact t_154  h (lv_sub hl [0, 2] rfl) hP hD hS
      · replace h := if_p c10 h
        refine lv_aload_n hx hb dX3_read_149 rfl (lv_at hl 0 rfl) ?_
        refine lv_iload_n hx hb dX3_read_150 rfl (lv_at hl 1 rfl) ?_
        obtain ⟨K11, eK11, h⟩ := ptF_some h
        refine va_put (D := (dC, dI)) (ci := 4) (v := .int x2) (ty := .int) (C := RX3) (T := TX3) (N := 17) hx hb hts hwX3 tyX3 tyX3_ok nmX3 hown hK hP hD hS 0 rfl rfl 16 (by decide) hf_35 (fun _ h9 => h9) rfl (by decide +kernel) rfl rfl (Nat.le_of_ble_eq_true rfl) dX3_read_151 (fun H locs hP hD hS => ?_)
        have hP : va_P (dC, dI) vwCl (mdW cI cC ob q K11) H := by rw [eK11]; exact hP
        have hD : va_D (aL (mdL ob q)) (mdW cI cC ob q K11) := by rw [eK11]; exact hD
        exact t_154  h (lv_sub hl [0, 2] rfl) hP hD hS
    · replace h := if_n c9 h
      refine lv_aload_n hx hb dX3_read_137 rfl (lv_at hl 0 rfl) ?_
      refine lv_iload_n hx hb dX3_read_138 rfl (lv_at hl 1 rfl) ?_
      obtain ⟨v12, K13, hv12, h⟩ := bdE_some h
      refine call_VE (As := [.int x2]) (rest := []) ⟨hx, hb, hml, hown, hts⟩ (tX3_ends (l := l) (dC := dC) (dI := dI) (cI := cI) (cC := cC) (ob := ob) (q := q) hv12) (cwV 1 hts gX3_read_X3_ends rfl rfl rfl (by decide +kernel) ⟨Nat.le_of_ble_eq_true rfl, Nat.le_of_ble_eq_true rfl⟩) hK hP hD hS (fun _ h9 => h9) 0 rfl rfl (by rfl) hl.1 rfl (Nat.le_of_ble_eq_true rfl) dX3_read_139 ⟨Nat.zero_le _, Nat.zero_le _⟩ (fun H locs hP hD _ hS => ?_)
      exact W.iret hx hb hr (fun t ht _ => retE (w := mdW cI cC ob q) h hP hD hS ht) hS.2.2 dX3_read_142
  have t_83 : ∀ {n : Nat}, ∀ {K : KT} {x2 : Int32} {x3 : Int32} {x4 : Int32} {H : Heap} {locs : List Loc} {ls : Array Slot} (h : fX3_read_83 N  n K x2 x3 x4 = some (rr, KK)) (hl : lv_has ls 5 [(0, .ref ob), (2, .int x2), (3, .int x3), (4, .int x4)]) (hP : va_P (dC, dI) vwCl (mdW cI cC ob q K) H) (hD : va_D (aL (mdL ob q)) (mdW cI cC ob q K)) (hS : va_S (aL (mdL ob q)) s.heap H locs), W p l e (headSpec wsX3_read rmX3_read).room s m ([.ref ob] : List Value).toArray below meth c H locs 0 0 (MQ below (cE (dC, dI) vwCl (mdL ob q) rr (mdW cI cC ob q KK)) ([.ref ob] : List Value).toArray s 0 0 (aL (mdL ob q))) (F0 m 83 ls []) := by
    intro  n
    induction n with
    | zero =>
      intro K x2 x3 x4 H locs ls h hl hP hD hS
      unfold fX3_read_83 at h
      cases h
    | succ n ih =>
      intro K x2 x3 x4 H locs ls h hl hP hD hS
      unfold fX3_read_83 at h
      refine lv_iload hx hb dX3_read_83 (lv_at hl 3 rfl) ?_
      refine lv_if_eq (tgt := 128) hx hb dX3_read_85 (by decide) (fun c14 => ?_) (fun c14 => ?_)
      · replace h := if_p c14 h
        exact t_128  h (lv_sub hl [0, 1, 2] rfl) hP hD hS
      · replace h := if_n c14 h
        refine lv_aload_n hx hb dX3_read_88 rfl (lv_at hl 0 rfl) ?_
        obtain ⟨v15, K16, hv15, h⟩ := bdE_some h
        refine call_VE (As := []) (rest := []) ⟨hx, hb, hml, hown, hts⟩ (tX3_isCommand (l := l) (dC := dC) (dI := dI) (cI := cI) (cC := cC) (ob := ob) (q := q) hv15) (cwV 0 hts gX3_read_X3_isCommand rfl rfl rfl (by decide +kernel) ⟨Nat.le_of_ble_eq_true rfl, Nat.le_of_ble_eq_true rfl⟩) hK hP hD hS (fun _ h9 => h9) 0 rfl rfl (by rfl) hl.1 rfl (Nat.le_of_ble_eq_true rfl) dX3_read_89 ⟨Nat.zero_le _, Nat.zero_le _⟩ (fun H locs hP hD _ hS => ?_)
        refine lv_istore_n (lv' := [(1, .int v15), (0, .ref ob), (2, .int x2), (3, .int x3), (4, .int x4)]) hx hb dX3_read_92 rfl hl (by decide) rfl (fun ls hl => ?_)
        refine lv_aload_n hx hb dX3_read_93 rfl (lv_at hl 1 rfl) ?_
        obtain ⟨v17, K18, hv17, h⟩ := bdE_some h
        refine call_VE (As := []) (rest := []) ⟨hx, hb, hml, hown, hts⟩ (tX3_carries (l := l) (dC := dC) (dI := dI) (cI := cI) (cC := cC) (ob := ob) (q := q) hv17) (cwV 0 hts gX3_read_X3_carries rfl rfl rfl (by decide +kernel) ⟨Nat.le_of_ble_eq_true rfl, Nat.le_of_ble_eq_true rfl⟩) hK hP hD hS (fun _ h9 => h9) 0 rfl rfl (by rfl) hl.1 rfl (Nat.le_of_ble_eq_true rfl) dX3_read_94 ⟨Nat.zero_le _, Nat.zero_le _⟩ (fun H locs hP hD _ hS => ?_)
        refine lv_istore_n (lv' := [(3, .int v17), (1, .int v15), (0, .ref ob), (2, .int x2), (4, .int x4)]) hx hb dX3_read_97 rfl hl (by decide) rfl (fun ls hl => ?_)
        refine lv_iload_n hx hb dX3_read_98 rfl (lv_at hl 0 rfl) ?_
        refine lv_if_lt (tgt := 105) hx hb dX3_read_99 (by decide) (fun c19 => ?_) (fun c19 => ?_)
        · replace h := if_p c19 h
          exact t_105 @ih h (lv_sub hl [2, 3, 0] rfl) hP hD hS
        · replace h := if_n c19 h
          refine lv_iinc (v := x2 + 1) (lv' := [(2, .int (x2 + 1)), (3, .int v17), (1, .int v15), (0, .ref ob), (4, .int x4)]) hx hb dX3_read_102 hl (k := 3) rfl rfl (by decide) rfl (fun ls hl => ?_)
          exact t_105 @ih h (lv_sub hl [3, 0, 1] rfl) hP hD hS
  have t_54 : ∀ {K : KT} {x1 : Int32} {H : Heap} {locs : List Loc} {ls : Array Slot} (h : fX3_read_54 N  K x1 = some (rr, KK)) (hl : lv_has ls 5 [(0, .ref ob), (1, .int x1)]) (hP : va_P (dC, dI) vwCl (mdW cI cC ob q K) H) (hD : va_D (aL (mdL ob q)) (mdW cI cC ob q K)) (hS : va_S (aL (mdL ob q)) s.heap H locs), W p l e (headSpec wsX3_read rmX3_read).room s m ([.ref ob] : List Value).toArray below meth c H locs 0 0 (MQ below (cE (dC, dI) vwCl (mdL ob q) rr (mdW cI cC ob q KK)) ([.ref ob] : List Value).toArray s 0 0 (aL (mdL ob q))) (F0 m 54 ls []) := by
    intro  K x1 H locs ls h hl hP hD hS
    unfold fX3_read_54 at h
    refine lv_iload_n hx hb dX3_read_54 rfl (lv_at hl 1 rfl) ?_
    refine lv_if_ne (tgt := 71) hx hb dX3_read_55 (by decide) (fun c20 => ?_) (fun c20 => ?_)
    · replace h := if_n c20 h
      refine lv_aload_n hx hb dX3_read_71 rfl (lv_at hl 0 rfl) ?_
      refine lv_iconst (v := 0) hx hb dX3_read_72 (by decide) ?_
      obtain ⟨K21, eK21, h⟩ := ptF_some h
      refine va_put (D := (dC, dI)) (ci := 4) (v := .int 0) (ty := .int) (C := RX3) (T := TX3) (N := 17) hx hb hts hwX3 tyX3 tyX3_ok nmX3 hown hK hP hD hS 0 rfl rfl 11 (by decide) hf_182 (fun _ h9 => h9) rfl (by decide +kernel) rfl rfl (Nat.le_of_ble_eq_true rfl) dX3_read_73 (fun H locs hP hD hS => ?_)
      have hP : va_P (dC, dI) vwCl (mdW cI cC ob q K21) H := by rw [eK21]; exact hP
      have hD : va_D (aL (mdL ob q)) (mdW cI cC ob q K21) := by rw [eK21]; exact hD
      refine lv_iconst (v := 0) hx hb dX3_read_76 (by decide) ?_
      refine lv_istore_n (lv' := [(2, .int 0), (0, .ref ob), (1, .int x1)]) hx hb dX3_read_77 rfl hl (by decide) rfl (fun ls hl => ?_)
      refine lv_iconst (v := 0) hx hb dX3_read_78 (by decide) ?_
      refine lv_istore_n (lv' := [(3, .int 0), (2, .int 0), (0, .ref ob), (1, .int x1)]) hx hb dX3_read_79 rfl hl (by decide) rfl (fun ls hl => ?_)
      refine lv_iconst (v := 1) hx hb dX3_read_80 (by decide) ?_
      refine lv_istore (lv' := [(4, .int 1), (3, .int 0), (2, .int 0), (0, .ref ob), (1, .int x1)]) hx hb dX3_read_81 hl (by decide) rfl (fun ls hl => ?_)
      exact t_83  h (lv_sub hl [3, 2, 1, 0] rfl) hP hD hS
    · replace h := if_p c20 h
      refine lv_aload_n hx hb dX3_read_58 rfl (lv_at hl 0 rfl) ?_
      refine lv_iconst (v := 0) hx hb dX3_read_59 (by decide) ?_
      obtain ⟨K22, eK22, h⟩ := ptF_some h
      refine va_put (D := (dC, dI)) (ci := 4) (v := .int 0) (ty := .int) (C := RX3) (T := TX3) (N := 17) hx hb hts hwX3 tyX3 tyX3_ok nmX3 hown hK hP hD hS 0 rfl rfl 10 (by decide) hf_179 (fun _ h9 => h9) rfl (by decide +kernel) rfl rfl (Nat.le_of_ble_eq_true rfl) dX3_read_60 (fun H locs hP hD hS => ?_)
      have hP : va_P (dC, dI) vwCl (mdW cI cC ob q K22) H := by rw [eK22]; exact hP
      have hD : va_D (aL (mdL ob q)) (mdW cI cC ob q K22) := by rw [eK22]; exact hD
      refine lv_bipush (v := (-100)) hx hb dX3_read_63 (by decide) ?_
      refine lv_aload_n hx hb dX3_read_65 rfl (lv_at hl 0 rfl) ?_
      refine va_get (D := (dC, dI)) (ci := 4) (v := .int (K22 8 4)) (C := RX3) (T := TX3) (N := 17) hx hb hts hwX3 hown hK hP 0 rfl rfl 11 (by decide) hf_182 (fun _ h9 => h9) rfl dX3_read_66 ?_
      refine lv_isub hx hb dX3_read_69 ?_
      exact W.iret hx hb hr (fun t ht _ => retE (w := mdW cI cC ob q) h hP hD hS ht) hS.2.2 dX3_read_70
  have t_14 : ∀ {n : Nat}, ∀ {K : KT} {x1 : Int32} {H : Heap} {locs : List Loc} {ls : Array Slot} (h : fX3_read_14 N  n K x1 = some (rr, KK)) (hl : lv_has ls 5 [(0, .ref ob), (1, .int x1)]) (hP : va_P (dC, dI) vwCl (mdW cI cC ob q K) H) (hD : va_D (aL (mdL ob q)) (mdW cI cC ob q K)) (hS : va_S (aL (mdL ob q)) s.heap H locs), W p l e (headSpec wsX3_read rmX3_read).room s m ([.ref ob] : List Value).toArray below meth c H locs 0 0 (MQ below (cE (dC, dI) vwCl (mdL ob q) rr (mdW cI cC ob q KK)) ([.ref ob] : List Value).toArray s 0 0 (aL (mdL ob q))) (F0 m 14 ls []) := by
    intro  n
    induction n with
    | zero =>
      intro K x1 H locs ls h hl hP hD hS
      unfold fX3_read_14 at h
      cases h
    | succ n ih =>
      intro K x1 H locs ls h hl hP hD hS
      unfold fX3_read_14 at h
      refine lv_iload_n hx hb dX3_read_14 rfl (lv_at hl 1 rfl) ?_
      refine lv_if_eq (tgt := 54) hx hb dX3_read_15 (by decide) (fun c23 => ?_) (fun c23 => ?_)
      · replace h := if_p c23 h
        exact t_54  h (lv_sub hl [0, 1] rfl) hP hD hS
      · replace h := if_n c23 h
        refine lv_aload_n hx hb dX3_read_18 rfl (lv_at hl 0 rfl) ?_
        refine va_get (D := (dC, dI)) (ci := 4) (v := .int (K 8 4)) (C := RX3) (T := TX3) (N := 17) hx hb hts hwX3 hown hK hP 0 rfl rfl 11 (by decide) hf_182 (fun _ h9 => h9) rfl dX3_read_19 ?_
        refine lv_aload_n hx hb dX3_read_22 rfl (lv_at hl 0 rfl) ?_
        refine va_get (D := (dC, dI)) (ci := 4) (v := .int (K 8 3)) (C := RX3) (T := TX3) (N := 17) hx hb hts hwX3 hown hK hP 0 rfl rfl 10 (by decide) hf_179 (fun _ h9 => h9) rfl dX3_read_23 ?_
        refine lv_icmp_ge (tgt := 54) hx hb dX3_read_26 (by decide) (fun c24 => ?_) (fun c24 => ?_)
        · replace h := if_p c24 h
          exact t_54  h (lv_sub hl [0, 1] rfl) hP hD hS
        · replace h := if_n c24 h
          refine lv_aload_n hx hb dX3_read_29 rfl (lv_at hl 0 rfl) ?_
          refine lv_bipush (v := 59) hx hb dX3_read_30 (by decide) ?_
          obtain ⟨v25, K26, hv25, h⟩ := bdE_some h
          refine call_VE (As := [.int 59]) (rest := []) ⟨hx, hb, hml, hown, hts⟩ (tX3_takes (l := l) (dC := dC) (dI := dI) (cI := cI) (cC := cC) (ob := ob) (q := q) hv25) (cwV 1 hts gX3_read_X3_takes rfl rfl rfl (by decide +kernel) ⟨Nat.le_of_ble_eq_true rfl, Nat.le_of_ble_eq_true rfl⟩) hK hP hD hS (fun _ h9 => h9) 0 rfl rfl (by rfl) hl.1 rfl (Nat.le_of_ble_eq_true rfl) dX3_read_32 ⟨Nat.zero_le _, Nat.zero_le _⟩ (fun H locs hP hD _ hS => ?_)
          refine lv_if_eq (tgt := 49) hx hb dX3_read_35 (by decide) (fun c27 => ?_) (fun c27 => ?_)
          · replace h := if_p c27 h
            exact t_49 @ih h (lv_sub hl [0] rfl) hP hD hS
          · replace h := if_n c27 h
            refine lv_aload_n hx hb dX3_read_38 rfl (lv_at hl 0 rfl) ?_
            obtain ⟨v28, K29, hv28, h⟩ := bdE_some h
            refine call_VE (As := []) (rest := []) ⟨hx, hb, hml, hown, hts⟩ (tX3_isCommand (l := l) (dC := dC) (dI := dI) (cI := cI) (cC := cC) (ob := ob) (q := q) hv28) (cwV 0 hts gX3_read_X3_isCommand rfl rfl rfl (by decide +kernel) ⟨Nat.le_of_ble_eq_true rfl, Nat.le_of_ble_eq_true rfl⟩) hK hP hD hS (fun _ h9 => h9) 0 rfl rfl (by rfl) hl.1 rfl (Nat.le_of_ble_eq_true rfl) dX3_read_39 ⟨Nat.zero_le _, Nat.zero_le _⟩ (fun H locs hP hD _ hS => ?_)
            refine lv_if_eq (tgt := 49) hx hb dX3_read_42 (by decide) (fun c30 => ?_) (fun c30 => ?_)
            · replace h := if_p c30 h
              exact t_49 @ih h (lv_sub hl [0] rfl) hP hD hS
            · replace h := if_n c30 h
              refine lv_iconst (v := 1) hx hb dX3_read_45 (by decide) ?_
              refine lv_goto (tgt := 50) hx hb dX3_read_46 (by decide) ?_
              exact t_50 @ih h (lv_sub hl [0] rfl) hP hD hS
  have hS : va_S (aL (mdL ob q)) s.heap s.heap [] := va_S.rf
  have hl := lv_entry ([.ref ob]) (n := 5) (Nat.le_of_ble_eq_true rfl)
  rw [lg_entry_eq]
  generalize (lg_sl ([.ref ob]) ++ List.replicate (5 - (lg_sl ([.ref ob])).length) Slot.unset).toArray = ls at hl ⊢
  have hl : lv_has ls 5 [(0, .ref ob)] := hl
  have h := hf
  unfold mX3_read at h
  refine lv_aload_n hx hb dX3_read_0 rfl (lv_at hl 0 rfl) ?_
  obtain ⟨v31, K32, hv31, h⟩ := bdE_some h
  refine call_VEv (As := []) (rest := []) ⟨hx, hb, hml, hown, hts⟩ (tX3_tries (l := l) (dC := dC) (dI := dI) (cI := cI) (cC := cC) (ob := ob) (q := q) hv31) (cwV 0 hts gX3_read_X3_tries rfl rfl rfl (by decide +kernel) ⟨Nat.le_of_ble_eq_true rfl, Nat.le_of_ble_eq_true rfl⟩) hK hP hD hS (fun _ h9 => h9) 0 rfl rfl (by rfl) hl.1 rfl (Nat.le_of_ble_eq_true rfl) dX3_read_1 ⟨Nat.zero_le _, Nat.zero_le _⟩ (fun H locs hP hD _ hS => ?_)
  refine lv_aload_n hx hb dX3_read_4 rfl (lv_at hl 0 rfl) ?_
  refine lv_iconst (v := 0) hx hb dX3_read_5 (by decide) ?_
  obtain ⟨K33, eK33, h⟩ := ptF_some h
  refine va_put (D := (dC, dI)) (ci := 4) (v := .int 0) (ty := .int) (C := RX3) (T := TX3) (N := 17) hx hb hts hwX3 tyX3 tyX3_ok nmX3 hown hK hP hD hS 0 rfl rfl 11 (by decide) hf_182 (fun _ h9 => h9) rfl (by decide +kernel) rfl rfl (Nat.le_of_ble_eq_true rfl) dX3_read_6 (fun H locs hP hD hS => ?_)
  have hP : va_P (dC, dI) vwCl (mdW cI cC ob q K33) H := by rw [eK33]; exact hP
  have hD : va_D (aL (mdL ob q)) (mdW cI cC ob q K33) := by rw [eK33]; exact hD
  refine lv_aload_n hx hb dX3_read_9 rfl (lv_at hl 0 rfl) ?_
  obtain ⟨v34, K35, hv34, h⟩ := bdE_some h
  refine call_VE (As := []) (rest := []) ⟨hx, hb, hml, hown, hts⟩ (tX3_isCommand (l := l) (dC := dC) (dI := dI) (cI := cI) (cC := cC) (ob := ob) (q := q) hv34) (cwV 0 hts gX3_read_X3_isCommand rfl rfl rfl (by decide +kernel) ⟨Nat.le_of_ble_eq_true rfl, Nat.le_of_ble_eq_true rfl⟩) hK hP hD hS (fun _ h9 => h9) 0 rfl rfl (by rfl) hl.1 rfl (Nat.le_of_ble_eq_true rfl) dX3_read_10 ⟨Nat.zero_le _, Nat.zero_le _⟩ (fun H locs hP hD _ hS => ?_)
  refine lv_istore_n (lv' := [(1, .int v34), (0, .ref ob)]) hx hb dX3_read_13 rfl hl (by decide) rfl (fun ls hl => ?_)
  exact t_14  h (lv_sub hl [1, 0] rfl) hP hD hS
def fX3_refusal_49 (N : Nat) (K : KT)  (y0 : Int32) : Option Int32 := some y0
def mX3_refusal (N : Nat) (K : KT) (p0 : Int32) : Option Int32 := bdP (mX3_in N p0 0 2) (fun v1 => (if v1 = 0 then some ((-2)) else (if (K 8 6) = 0 then some ((-4)) else (if p0 = 0 then fX3_refusal_49 N K  (K 8 6) else (if p0 = 1 then fX3_refusal_49 N K  (K 8 7) else fX3_refusal_49 N K  (K 8 8))))))
def rmX3_refusal : Room := { frames := 2, cells := 0, slots := 0, locals := 62 }
set_option maxHeartbeats 4000000 in
set_option maxRecDepth 100000 in
theorem tX3_refusal {l : Launch} {dC : Nat → ClassId} {dI : Nat → Nat → Nat} {cI : ClassId} {cC : ClassId} {ob : Nat} {q : Nat → Nat} {N : Nat} {K : KT} {p0 : Int32} {rr : Int32} (hf : mX3_refusal N K p0 = some rr) : Met l yX3_refusal wsX3_refusal rmX3_refusal (cP (dC, dI) vwCl [(cI, .int), (cC, .char)] (mdW cI cC ob q K) [.ref ob, .int p0]) (cQp rr) 0 0 (fun _ => False) := by
  refine Met.ofW (cc := cX3_refusal) (maxL := 2) (ret := (some .int)) (by decide) rfl ?_
  intro p e s m args below meth c s₁ B hml hv
  obtain ⟨rfl, hP, hK⟩ := hv
  have hx := B.exec
  have hb := B.bytes
  have hr := B.returns
  have hts := atoms_spec (ws := wsX3_refusal) B.pre
  have hown : s.vm.findClass RX3 = some m.cls := findClass_of_methodNamed B.named
  have hlocks := B.notSynchronized
  have hwX3 : ∀ w ∈ u_ws RX3 TX3 17, w ∈ wsX3_refusal := by decide +kernel
  have hf_35 := hts (.fieldLink RX3 35 "CaravanLogsModel" "which" "I") (by decide +kernel)
  have hf_42 := hts (.fieldLink RX3 42 "CaravanLogsModel" "reason" "I") (by decide +kernel)
  have hf_45 := hts (.fieldLink RX3 45 "CaravanLogsModel" "detail" "I") (by decide +kernel)
  have t_49 : ∀ {y0 : Int32} {ls : Array Slot} (h : fX3_refusal_49 N K  y0 = some rr) (hl : lv_has ls 2 []), W p l e (headSpec wsX3_refusal rmX3_refusal).room s m ([.ref ob, .int p0] : List Value).toArray below meth c s.heap [] 0 0 (MQ below (cQp rr) ([.ref ob, .int p0] : List Value).toArray s 0 0 (fun _ => False)) (F0 m 49 ls [.int y0]) := by
    intro  y0 ls h hl
    unfold fX3_refusal_49 at h
    exact W.iret hx hb hr (fun t ht _ => retP h ht) (fun _ h9 => absurd h9 List.not_mem_nil) dX3_refusal_49
  have hl := lv_entry ([.ref ob, .int p0]) (n := 2) (Nat.le_of_ble_eq_true rfl)
  rw [lg_entry_eq]
  generalize (lg_sl ([.ref ob, .int p0]) ++ List.replicate (2 - (lg_sl ([.ref ob, .int p0])).length) Slot.unset).toArray = ls at hl ⊢
  have hl : lv_has ls 2 [(0, .ref ob), (1, .int p0)] := hl
  have h := hf
  unfold mX3_refusal at h
  refine lv_iload_n hx hb dX3_refusal_0 rfl (lv_at hl 1 rfl) ?_
  refine lv_iconst (v := 0) hx hb dX3_refusal_1 (by decide) ?_
  refine lv_iconst (v := 2) hx hb dX3_refusal_2 (by decide) ?_
  obtain ⟨v1, hv1, h⟩ := bdP_some h
  refine call_SP (As := [.int p0, .int 0, .int 2]) (rest := []) ⟨hx, hb, hml, hown, hts⟩ (tX3_in (l := l) hv1) (va_cwS 3 hts gX3_refusal_X3_in rfl rfl rfl (by decide +kernel) ⟨Nat.le_of_ble_eq_true rfl, Nat.le_of_ble_eq_true rfl⟩) (by rfl) hl.1 rfl (Nat.le_of_ble_eq_true rfl) dX3_refusal_3 ⟨Nat.zero_le _, Nat.zero_le _⟩ ?_
  refine lv_if_ne (tgt := 12) hx hb dX3_refusal_6 (by decide) (fun c2 => ?_) (fun c2 => ?_)
  · replace h := if_n c2 h
    refine lv_aload_n hx hb dX3_refusal_12 rfl (lv_at hl 0 rfl) ?_
    refine va_get (D := (dC, dI)) (ci := 4) (v := .int (K 8 6)) (C := RX3) (T := TX3) (N := 17) hx hb hts hwX3 hown hK hP 0 rfl rfl 14 (by decide) hf_42 (fun _ h9 => h9) rfl dX3_refusal_13 ?_
    refine lv_if_ne (tgt := 22) hx hb dX3_refusal_16 (by decide) (fun c3 => ?_) (fun c3 => ?_)
    · replace h := if_n c3 h
      refine lv_iload_n hx hb dX3_refusal_22 rfl (lv_at hl 1 rfl) ?_
      refine lv_if_ne (tgt := 33) hx hb dX3_refusal_23 (by decide) (fun c4 => ?_) (fun c4 => ?_)
      · replace h := if_n c4 h
        refine lv_iload_n hx hb dX3_refusal_33 rfl (lv_at hl 1 rfl) ?_
        refine lv_iconst (v := 1) hx hb dX3_refusal_34 (by decide) ?_
        refine lv_icmp_ne (tgt := 45) hx hb dX3_refusal_35 (by decide) (fun c5 => ?_) (fun c5 => ?_)
        · replace h := if_n c5 h
          refine lv_aload_n hx hb dX3_refusal_45 rfl (lv_at hl 0 rfl) ?_
          refine va_get (D := (dC, dI)) (ci := 4) (v := .int (K 8 8)) (C := RX3) (T := TX3) (N := 17) hx hb hts hwX3 hown hK hP 0 rfl rfl 16 (by decide) hf_35 (fun _ h9 => h9) rfl dX3_refusal_46 ?_
          exact t_49  h (lv_sub hl [] rfl)
        · replace h := if_p c5 h
          refine lv_aload_n hx hb dX3_refusal_38 rfl (lv_at hl 0 rfl) ?_
          refine va_get (D := (dC, dI)) (ci := 4) (v := .int (K 8 7)) (C := RX3) (T := TX3) (N := 17) hx hb hts hwX3 hown hK hP 0 rfl rfl 15 (by decide) hf_45 (fun _ h9 => h9) rfl dX3_refusal_39 ?_
          refine lv_goto (tgt := 49) hx hb dX3_refusal_42 (by decide) ?_
          exact t_49  h (lv_sub hl [] rfl)
      · replace h := if_p c4 h
        refine lv_aload_n hx hb dX3_refusal_26 rfl (lv_at hl 0 rfl) ?_
        refine va_get (D := (dC, dI)) (ci := 4) (v := .int (K 8 6)) (C := RX3) (T := TX3) (N := 17) hx hb hts hwX3 hown hK hP 0 rfl rfl 14 (by decide) hf_42 (fun _ h9 => h9) rfl dX3_refusal_27 ?_
        refine lv_goto (tgt := 49) hx hb dX3_refusal_30 (by decide) ?_
        exact t_49  h (lv_sub hl [] rfl)
    · replace h := if_p c3 h
      refine lv_bipush (v := (-4)) hx hb dX3_refusal_19 (by decide) ?_
      exact W.iret hx hb hr (fun t ht _ => retP h ht) (fun _ h9 => absurd h9 List.not_mem_nil) dX3_refusal_21
  · replace h := if_p c2 h
    refine lv_bipush (v := (-2)) hx hb dX3_refusal_9 (by decide) ?_
    exact W.iret hx hb hr (fun t ht _ => retP h ht) (fun _ h9 => absurd h9 List.not_mem_nil) dX3_refusal_11
def fX3_account_70 (N : Nat) (K : KT)  : Nat → Int32 → Int32 → Option Int32
  | 0, _, _ => none
  | n + 1, x2, x3 => (if 5 ≤ x3 then some x2 else bdP (mX3_of N K x3 0) (fun v2 => (fX3_account_70 N K  n) ((if x2 < v2 then v2 else x2)) (x3 + 1)))
def fX3_account_96 (N : Nat) (K : KT)  : Nat → Int32 → Int32 → Option Int32
  | 0, _, _ => none
  | n + 1, x2, x3 => (if 5 ≤ x3 then some x2 else bdP (mX3_of N K x3 2) (fun v4 => (fX3_account_96 N K  n) (x2 + v4) (x3 + 1)))
def fX3_account_128 (N : Nat) (K : KT)  (x1 : Int32) : Option Int32 := rdA (K 0) 186 (x1 - 4) (fun v5 => some v5)
def fX3_account_139 (N : Nat) (K : KT)  : Nat → Int32 → Int32 → Option Int32
  | 0, _, _ => none
  | n + 1, x2, x3 => (if 5 ≤ x3 then some x2 else bdP (mX3_of N K x3 5) (fun v8 => (fX3_account_139 N K  n) ((if x2 < v8 then v8 else x2)) (x3 + 1)))
def mX3_account (N : Nat) (K : KT) (p0 : Int32) : Option Int32 := (if p0 = 0 then fX3_account_70 N K  N 0 0 else (if p0 = 1 then fX3_account_96 N K  N 0 0 else (if p0 = 2 then bdP (mX3_awake N K ) (fun v12 => some v12) else (if p0 = 3 then bdP (mX3_openRoads N K ) (fun v14 => some v14) else (if p0 = 4 then fX3_account_128 N K  p0 else (if p0 = 5 then fX3_account_128 N K  p0 else (if p0 = 6 then fX3_account_128 N K  p0 else (if p0 = 7 then fX3_account_128 N K  p0 else (if p0 = 8 then fX3_account_128 N K  p0 else (if p0 = 9 then fX3_account_139 N K  N 0 0 else (if p0 = 10 then rdA (K 0) 186 5 (fun v22 => some v22) else (if p0 = 11 then some (K 8 3) else (if p0 = 12 then some (K 8 0) else some ((-2)))))))))))))))
def rmX3_account : Room := { frames := 4, cells := 0, slots := 0, locals := 105 }
set_option maxHeartbeats 4000000 in
set_option maxRecDepth 100000 in
theorem tX3_account {l : Launch} {dC : Nat → ClassId} {dI : Nat → Nat → Nat} {cI : ClassId} {cC : ClassId} {ob : Nat} {q : Nat → Nat} {N : Nat} {K : KT} {p0 : Int32} {rr : Int32} (hf : mX3_account N K p0 = some rr) : Met l yX3_account wsX3_account rmX3_account (cP (dC, dI) vwCl [(cI, .int), (cC, .char)] (mdW cI cC ob q K) [.ref ob, .int p0]) (cQp rr) 0 0 (fun _ => False) := by
  refine Met.ofW (cc := cX3_account) (maxL := 4) (ret := (some .int)) (by decide) rfl ?_
  intro p e s m args below meth c s₁ B hml hv
  obtain ⟨rfl, hP, hK⟩ := hv
  have hx := B.exec
  have hb := B.bytes
  have hr := B.returns
  have hts := atoms_spec (ws := wsX3_account) B.pre
  have hown : s.vm.findClass RX3 = some m.cls := findClass_of_methodNamed B.named
  have hlocks := B.notSynchronized
  have hwX3 : ∀ w ∈ u_ws RX3 TX3 17, w ∈ wsX3_account := by decide +kernel
  have hf_9 := hts (.fieldLink RX3 9 "CaravanLogsModel" "now" "[I") (by decide +kernel)
  have hf_39 := hts (.fieldLink RX3 39 "CaravanLogsModel" "undos" "I") (by decide +kernel)
  have hf_179 := hts (.fieldLink RX3 179 "CaravanLogsModel" "length" "I") (by decide +kernel)
  have t_70 : ∀ {n : Nat}, ∀ {x2 : Int32} {x3 : Int32} {ls : Array Slot} (h : fX3_account_70 N K  n x2 x3 = some rr) (hl : lv_has ls 4 [(0, .ref ob), (2, .int x2), (3, .int x3)]), W p l e (headSpec wsX3_account rmX3_account).room s m ([.ref ob, .int p0] : List Value).toArray below meth c s.heap [] 0 0 (MQ below (cQp rr) ([.ref ob, .int p0] : List Value).toArray s 0 0 (fun _ => False)) (F0 m 70 ls []) := by
    intro  n
    induction n with
    | zero =>
      intro x2 x3 ls h hl
      unfold fX3_account_70 at h
      cases h
    | succ n ih =>
      intro x2 x3 ls h hl
      unfold fX3_account_70 at h
      refine lv_iload_n hx hb dX3_account_70 rfl (lv_at hl 2 rfl) ?_
      refine lv_iconst (v := 5) hx hb dX3_account_71 (by decide) ?_
      refine lv_icmp_ge (tgt := 92) hx hb dX3_account_72 (by decide) (fun c1 => ?_) (fun c1 => ?_)
      · replace h := if_p c1 h
        refine lv_iload_n hx hb dX3_account_92 rfl (lv_at hl 1 rfl) ?_
        exact W.iret hx hb hr (fun t ht _ => retP h ht) (fun _ h9 => absurd h9 List.not_mem_nil) dX3_account_93
      · replace h := if_n c1 h
        refine lv_iload_n hx hb dX3_account_75 rfl (lv_at hl 1 rfl) ?_
        refine lv_aload_n hx hb dX3_account_76 rfl (lv_at hl 0 rfl) ?_
        refine lv_iload_n hx hb dX3_account_77 rfl (lv_at hl 2 rfl) ?_
        refine lv_iconst (v := 0) hx hb dX3_account_78 (by decide) ?_
        obtain ⟨v2, hv2, h⟩ := bdP_some h
        refine call_VP (As := [.int x3, .int 0]) (rest := [.int x2]) ⟨hx, hb, hml, hown, hts⟩ (tX3_of (l := l) (dC := dC) (dI := dI) (cI := cI) (cC := cC) (ob := ob) (q := q) hv2) (cwV 2 hts gX3_account_X3_of rfl rfl rfl (by decide +kernel) ⟨Nat.le_of_ble_eq_true rfl, Nat.le_of_ble_eq_true rfl⟩) hK hP 0 rfl rfl (by rfl) hl.1 rfl (Nat.le_of_ble_eq_true rfl) dX3_account_79 ⟨Nat.zero_le _, Nat.zero_le _⟩ ?_
        refine va_mmax hx hb (hml.trans hl.1.symm) hown (hts (.methodLink RX3 61 Lib.Math.max.name) (by decide +kernel)) (hts (.static Lib.Math.max.name) (by decide +kernel)) (hts (.initialized "java/lang/Math") (by decide +kernel)) (hts (.code Lib.Math.max.name Lib.Math.max.code 2 (some .int)) (by decide +kernel)) (Nat.le_of_ble_eq_true rfl) (Nat.le_of_ble_eq_true rfl) (Nat.zero_le _) (Nat.zero_le _) dX3_account_82 ?_
        refine lv_istore_n (lv' := [(2, .int ((if x2 < v2 then v2 else x2))), (0, .ref ob), (3, .int x3)]) hx hb dX3_account_85 rfl hl (by decide) rfl (fun ls hl => ?_)
        refine lv_iinc (v := x3 + 1) (lv' := [(3, .int (x3 + 1)), (2, .int ((if x2 < v2 then v2 else x2))), (0, .ref ob)]) hx hb dX3_account_86 hl (k := 2) rfl rfl (by decide) rfl (fun ls hl => ?_)
        refine lv_goto (tgt := 70) hx hb dX3_account_89 (by decide) ?_
        exact ih h (lv_sub hl [2, 1, 0] rfl)
  have t_96 : ∀ {n : Nat}, ∀ {x2 : Int32} {x3 : Int32} {ls : Array Slot} (h : fX3_account_96 N K  n x2 x3 = some rr) (hl : lv_has ls 4 [(0, .ref ob), (2, .int x2), (3, .int x3)]), W p l e (headSpec wsX3_account rmX3_account).room s m ([.ref ob, .int p0] : List Value).toArray below meth c s.heap [] 0 0 (MQ below (cQp rr) ([.ref ob, .int p0] : List Value).toArray s 0 0 (fun _ => False)) (F0 m 96 ls []) := by
    intro  n
    induction n with
    | zero =>
      intro x2 x3 ls h hl
      unfold fX3_account_96 at h
      cases h
    | succ n ih =>
      intro x2 x3 ls h hl
      unfold fX3_account_96 at h
      refine lv_iload_n hx hb dX3_account_96 rfl (lv_at hl 2 rfl) ?_
      refine lv_iconst (v := 5) hx hb dX3_account_97 (by decide) ?_
      refine lv_icmp_ge (tgt := 116) hx hb dX3_account_98 (by decide) (fun c3 => ?_) (fun c3 => ?_)
      · replace h := if_p c3 h
        refine lv_iload_n hx hb dX3_account_116 rfl (lv_at hl 1 rfl) ?_
        exact W.iret hx hb hr (fun t ht _ => retP h ht) (fun _ h9 => absurd h9 List.not_mem_nil) dX3_account_117
      · replace h := if_n c3 h
        refine lv_iload_n hx hb dX3_account_101 rfl (lv_at hl 1 rfl) ?_
        refine lv_aload_n hx hb dX3_account_102 rfl (lv_at hl 0 rfl) ?_
        refine lv_iload_n hx hb dX3_account_103 rfl (lv_at hl 2 rfl) ?_
        refine lv_iconst (v := 2) hx hb dX3_account_104 (by decide) ?_
        obtain ⟨v4, hv4, h⟩ := bdP_some h
        refine call_VP (As := [.int x3, .int 2]) (rest := [.int x2]) ⟨hx, hb, hml, hown, hts⟩ (tX3_of (l := l) (dC := dC) (dI := dI) (cI := cI) (cC := cC) (ob := ob) (q := q) hv4) (cwV 2 hts gX3_account_X3_of rfl rfl rfl (by decide +kernel) ⟨Nat.le_of_ble_eq_true rfl, Nat.le_of_ble_eq_true rfl⟩) hK hP 0 rfl rfl (by rfl) hl.1 rfl (Nat.le_of_ble_eq_true rfl) dX3_account_105 ⟨Nat.zero_le _, Nat.zero_le _⟩ ?_
        refine lv_iadd hx hb dX3_account_108 ?_
        refine lv_istore_n (lv' := [(2, .int (x2 + v4)), (0, .ref ob), (3, .int x3)]) hx hb dX3_account_109 rfl hl (by decide) rfl (fun ls hl => ?_)
        refine lv_iinc (v := x3 + 1) (lv' := [(3, .int (x3 + 1)), (2, .int (x2 + v4)), (0, .ref ob)]) hx hb dX3_account_110 hl (k := 2) rfl rfl (by decide) rfl (fun ls hl => ?_)
        refine lv_goto (tgt := 96) hx hb dX3_account_113 (by decide) ?_
        exact ih h (lv_sub hl [2, 1, 0] rfl)
  have t_128 : ∀ {x1 : Int32} {ls : Array Slot} (h : fX3_account_128 N K  x1 = some rr) (hl : lv_has ls 4 [(0, .ref ob), (1, .int x1)]), W p l e (headSpec wsX3_account rmX3_account).room s m ([.ref ob, .int p0] : List Value).toArray below meth c s.heap [] 0 0 (MQ below (cQp rr) ([.ref ob, .int p0] : List Value).toArray s 0 0 (fun _ => False)) (F0 m 128 ls []) := by
    intro  x1 ls h hl
    unfold fX3_account_128 at h
    refine lv_aload_n hx hb dX3_account_128 rfl (lv_at hl 0 rfl) ?_
    refine va_get (D := (dC, dI)) (ci := 4) (v := .ref (q 0)) (C := RX3) (T := TX3) (N := 17) hx hb hts hwX3 hown hK hP 0 rfl rfl 0 (by decide) hf_9 (fun _ h9 => h9) rfl dX3_account_129 ?_
    refine lv_iload_n hx hb dX3_account_132 rfl (lv_at hl 1 rfl) ?_
    refine lv_iconst (v := 4) hx hb dX3_account_133 (by decide) ?_
    refine lv_isub hx hb dX3_account_134 ?_
    obtain ⟨hi6, v5, ev5, h⟩ := rdA_some h
    refine k_iald hx hb hK hP 1 0 rfl rfl hi6 ev5 dX3_account_135 ?_
    exact W.iret hx hb hr (fun t ht _ => retP h ht) (fun _ h9 => absurd h9 List.not_mem_nil) dX3_account_136
  have t_139 : ∀ {n : Nat}, ∀ {x2 : Int32} {x3 : Int32} {ls : Array Slot} (h : fX3_account_139 N K  n x2 x3 = some rr) (hl : lv_has ls 4 [(0, .ref ob), (2, .int x2), (3, .int x3)]), W p l e (headSpec wsX3_account rmX3_account).room s m ([.ref ob, .int p0] : List Value).toArray below meth c s.heap [] 0 0 (MQ below (cQp rr) ([.ref ob, .int p0] : List Value).toArray s 0 0 (fun _ => False)) (F0 m 139 ls []) := by
    intro  n
    induction n with
    | zero =>
      intro x2 x3 ls h hl
      unfold fX3_account_139 at h
      cases h
    | succ n ih =>
      intro x2 x3 ls h hl
      unfold fX3_account_139 at h
      refine lv_iload_n hx hb dX3_account_139 rfl (lv_at hl 2 rfl) ?_
      refine lv_iconst (v := 5) hx hb dX3_account_140 (by decide) ?_
      refine lv_icmp_ge (tgt := 161) hx hb dX3_account_141 (by decide) (fun c7 => ?_) (fun c7 => ?_)
      · replace h := if_p c7 h
        refine lv_iload_n hx hb dX3_account_161 rfl (lv_at hl 1 rfl) ?_
        exact W.iret hx hb hr (fun t ht _ => retP h ht) (fun _ h9 => absurd h9 List.not_mem_nil) dX3_account_162
      · replace h := if_n c7 h
        refine lv_iload_n hx hb dX3_account_144 rfl (lv_at hl 1 rfl) ?_
        refine lv_aload_n hx hb dX3_account_145 rfl (lv_at hl 0 rfl) ?_
        refine lv_iload_n hx hb dX3_account_146 rfl (lv_at hl 2 rfl) ?_
        refine lv_iconst (v := 5) hx hb dX3_account_147 (by decide) ?_
        obtain ⟨v8, hv8, h⟩ := bdP_some h
        refine call_VP (As := [.int x3, .int 5]) (rest := [.int x2]) ⟨hx, hb, hml, hown, hts⟩ (tX3_of (l := l) (dC := dC) (dI := dI) (cI := cI) (cC := cC) (ob := ob) (q := q) hv8) (cwV 2 hts gX3_account_X3_of rfl rfl rfl (by decide +kernel) ⟨Nat.le_of_ble_eq_true rfl, Nat.le_of_ble_eq_true rfl⟩) hK hP 0 rfl rfl (by rfl) hl.1 rfl (Nat.le_of_ble_eq_true rfl) dX3_account_148 ⟨Nat.zero_le _, Nat.zero_le _⟩ ?_
        refine va_mmax hx hb (hml.trans hl.1.symm) hown (hts (.methodLink RX3 61 Lib.Math.max.name) (by decide +kernel)) (hts (.static Lib.Math.max.name) (by decide +kernel)) (hts (.initialized "java/lang/Math") (by decide +kernel)) (hts (.code Lib.Math.max.name Lib.Math.max.code 2 (some .int)) (by decide +kernel)) (Nat.le_of_ble_eq_true rfl) (Nat.le_of_ble_eq_true rfl) (Nat.zero_le _) (Nat.zero_le _) dX3_account_151 ?_
        refine lv_istore_n (lv' := [(2, .int ((if x2 < v8 then v8 else x2))), (0, .ref ob), (3, .int x3)]) hx hb dX3_account_154 rfl hl (by decide) rfl (fun ls hl => ?_)
        refine lv_iinc (v := x3 + 1) (lv' := [(3, .int (x3 + 1)), (2, .int ((if x2 < v8 then v8 else x2))), (0, .ref ob)]) hx hb dX3_account_155 hl (k := 2) rfl rfl (by decide) rfl (fun ls hl => ?_)
        refine lv_goto (tgt := 139) hx hb dX3_account_158 (by decide) ?_
        exact ih h (lv_sub hl [2, 1, 0] rfl)
  have hl := lv_entry ([.ref ob, .int p0]) (n := 4) (Nat.le_of_ble_eq_true rfl)
  rw [lg_entry_eq]
  generalize (lg_sl ([.ref ob, .int p0]) ++ List.replicate (4 - (lg_sl ([.ref ob, .int p0])).length) Slot.unset).toArray = ls at hl ⊢
  have hl : lv_has ls 4 [(0, .ref ob), (1, .int p0)] := hl
  have h := hf
  unfold mX3_account at h
  refine lv_iconst (v := 0) hx hb dX3_account_0 (by decide) ?_
  refine lv_istore_n (lv' := [(2, .int 0), (0, .ref ob), (1, .int p0)]) hx hb dX3_account_1 rfl hl (by decide) rfl (fun ls hl => ?_)
  refine lv_iload_n hx hb dX3_account_2 rfl (lv_at hl 2 rfl) ?_
  by_cases c9 : p0 = 0
  · replace h := if_p c9 h
    refine lv_tableIn (tgt := 68) hx hb dX3_account_3 (by rw [c9]; decide) (by rw [c9]; decide) (by rw [c9]; rfl) (by decide) ?_
    refine lv_iconst (v := 0) hx hb dX3_account_68 (by decide) ?_
    refine lv_istore_n (lv' := [(3, .int 0), (2, .int 0), (0, .ref ob), (1, .int p0)]) hx hb dX3_account_69 rfl hl (by decide) rfl (fun ls hl => ?_)
    exact t_70  h (lv_sub hl [2, 1, 0] rfl)
  · replace h := if_n c9 h
    by_cases c10 : p0 = 1
    · replace h := if_p c10 h
      refine lv_tableIn (tgt := 94) hx hb dX3_account_3 (by rw [c10]; decide) (by rw [c10]; decide) (by rw [c10]; rfl) (by decide) ?_
      refine lv_iconst (v := 0) hx hb dX3_account_94 (by decide) ?_
      refine lv_istore_n (lv' := [(3, .int 0), (2, .int 0), (0, .ref ob), (1, .int p0)]) hx hb dX3_account_95 rfl hl (by decide) rfl (fun ls hl => ?_)
      exact t_96  h (lv_sub hl [2, 1, 0] rfl)
    · replace h := if_n c10 h
      by_cases c11 : p0 = 2
      · replace h := if_p c11 h
        refine lv_tableIn (tgt := 118) hx hb dX3_account_3 (by rw [c11]; decide) (by rw [c11]; decide) (by rw [c11]; rfl) (by decide) ?_
        refine lv_aload_n hx hb dX3_account_118 rfl (lv_at hl 1 rfl) ?_
        obtain ⟨v12, hv12, h⟩ := bdP_some h
        refine call_VP (As := []) (rest := []) ⟨hx, hb, hml, hown, hts⟩ (tX3_awake (l := l) (dC := dC) (dI := dI) (cI := cI) (cC := cC) (ob := ob) (q := q) hv12) (cwV 0 hts gX3_account_X3_awake rfl rfl rfl (by decide +kernel) ⟨Nat.le_of_ble_eq_true rfl, Nat.le_of_ble_eq_true rfl⟩) hK hP 0 rfl rfl (by rfl) hl.1 rfl (Nat.le_of_ble_eq_true rfl) dX3_account_119 ⟨Nat.zero_le _, Nat.zero_le _⟩ ?_
        exact W.iret hx hb hr (fun t ht _ => retP h ht) (fun _ h9 => absurd h9 List.not_mem_nil) dX3_account_122
      · replace h := if_n c11 h
        by_cases c13 : p0 = 3
        · replace h := if_p c13 h
          refine lv_tableIn (tgt := 123) hx hb dX3_account_3 (by rw [c13]; decide) (by rw [c13]; decide) (by rw [c13]; rfl) (by decide) ?_
          refine lv_aload_n hx hb dX3_account_123 rfl (lv_at hl 1 rfl) ?_
          obtain ⟨v14, hv14, h⟩ := bdP_some h
          refine call_VP (As := []) (rest := []) ⟨hx, hb, hml, hown, hts⟩ (tX3_openRoads (l := l) (dC := dC) (dI := dI) (cI := cI) (cC := cC) (ob := ob) (q := q) hv14) (cwV 0 hts gX3_account_X3_openRoads rfl rfl rfl (by decide +kernel) ⟨Nat.le_of_ble_eq_true rfl, Nat.le_of_ble_eq_true rfl⟩) hK hP 0 rfl rfl (by rfl) hl.1 rfl (Nat.le_of_ble_eq_true rfl) dX3_account_124 ⟨Nat.zero_le _, Nat.zero_le _⟩ ?_
          exact W.iret hx hb hr (fun t ht _ => retP h ht) (fun _ h9 => absurd h9 List.not_mem_nil) dX3_account_127
        · replace h := if_n c13 h
          by_cases c15 : p0 = 4
          · replace h := if_p c15 h
            refine lv_tableIn (tgt := 128) hx hb dX3_account_3 (by rw [c15]; decide) (by rw [c15]; decide) (by rw [c15]; rfl) (by decide) ?_
            exact t_128  h (lv_sub hl [1, 2] rfl)
          · replace h := if_n c15 h
            by_cases c16 : p0 = 5
            · replace h := if_p c16 h
              refine lv_tableIn (tgt := 128) hx hb dX3_account_3 (by rw [c16]; decide) (by rw [c16]; decide) (by rw [c16]; rfl) (by decide) ?_
              exact t_128  h (lv_sub hl [1, 2] rfl)
            · replace h := if_n c16 h
              by_cases c17 : p0 = 6
              · replace h := if_p c17 h
                refine lv_tableIn (tgt := 128) hx hb dX3_account_3 (by rw [c17]; decide) (by rw [c17]; decide) (by rw [c17]; rfl) (by decide) ?_
                exact t_128  h (lv_sub hl [1, 2] rfl)
              · replace h := if_n c17 h
                by_cases c18 : p0 = 7
                · replace h := if_p c18 h
                  refine lv_tableIn (tgt := 128) hx hb dX3_account_3 (by rw [c18]; decide) (by rw [c18]; decide) (by rw [c18]; rfl) (by decide) ?_
                  exact t_128  h (lv_sub hl [1, 2] rfl)
                · replace h := if_n c18 h
                  by_cases c19 : p0 = 8
                  · replace h := if_p c19 h
                    refine lv_tableIn (tgt := 128) hx hb dX3_account_3 (by rw [c19]; decide) (by rw [c19]; decide) (by rw [c19]; rfl) (by decide) ?_
                    exact t_128  h (lv_sub hl [1, 2] rfl)
                  · replace h := if_n c19 h
                    by_cases c20 : p0 = 9
                    · replace h := if_p c20 h
                      refine lv_tableIn (tgt := 137) hx hb dX3_account_3 (by rw [c20]; decide) (by rw [c20]; decide) (by rw [c20]; rfl) (by decide) ?_
                      refine lv_iconst (v := 0) hx hb dX3_account_137 (by decide) ?_
                      refine lv_istore_n (lv' := [(3, .int 0), (2, .int 0), (0, .ref ob), (1, .int p0)]) hx hb dX3_account_138 rfl hl (by decide) rfl (fun ls hl => ?_)
                      exact t_139  h (lv_sub hl [2, 1, 0] rfl)
                    · replace h := if_n c20 h
                      by_cases c21 : p0 = 10
                      · replace h := if_p c21 h
                        refine lv_tableIn (tgt := 163) hx hb dX3_account_3 (by rw [c21]; decide) (by rw [c21]; decide) (by rw [c21]; rfl) (by decide) ?_
                        refine lv_aload_n hx hb dX3_account_163 rfl (lv_at hl 1 rfl) ?_
                        refine va_get (D := (dC, dI)) (ci := 4) (v := .ref (q 0)) (C := RX3) (T := TX3) (N := 17) hx hb hts hwX3 hown hK hP 0 rfl rfl 0 (by decide) hf_9 (fun _ h9 => h9) rfl dX3_account_164 ?_
                        refine lv_iconst (v := 5) hx hb dX3_account_167 (by decide) ?_
                        obtain ⟨hi23, v22, ev22, h⟩ := rdA_some h
                        refine k_iald hx hb hK hP 1 0 rfl rfl hi23 ev22 dX3_account_168 ?_
                        exact W.iret hx hb hr (fun t ht _ => retP h ht) (fun _ h9 => absurd h9 List.not_mem_nil) dX3_account_169
                      · replace h := if_n c21 h
                        by_cases c24 : p0 = 11
                        · replace h := if_p c24 h
                          refine lv_tableIn (tgt := 170) hx hb dX3_account_3 (by rw [c24]; decide) (by rw [c24]; decide) (by rw [c24]; rfl) (by decide) ?_
                          refine lv_aload_n hx hb dX3_account_170 rfl (lv_at hl 1 rfl) ?_
                          refine va_get (D := (dC, dI)) (ci := 4) (v := .int (K 8 3)) (C := RX3) (T := TX3) (N := 17) hx hb hts hwX3 hown hK hP 0 rfl rfl 10 (by decide) hf_179 (fun _ h9 => h9) rfl dX3_account_171 ?_
                          exact W.iret hx hb hr (fun t ht _ => retP h ht) (fun _ h9 => absurd h9 List.not_mem_nil) dX3_account_174
                        · replace h := if_n c24 h
                          by_cases c25 : p0 = 12
                          · replace h := if_p c25 h
                            refine lv_tableIn (tgt := 175) hx hb dX3_account_3 (by rw [c25]; decide) (by rw [c25]; decide) (by rw [c25]; rfl) (by decide) ?_
                            refine lv_aload_n hx hb dX3_account_175 rfl (lv_at hl 1 rfl) ?_
                            refine va_get (D := (dC, dI)) (ci := 4) (v := .int (K 8 0)) (C := RX3) (T := TX3) (N := 17) hx hb hts hwX3 hown hK hP 0 rfl rfl 4 (by decide) hf_39 (fun _ h9 => h9) rfl dX3_account_176 ?_
                            exact W.iret hx hb hr (fun t ht _ => retP h ht) (fun _ h9 => absurd h9 List.not_mem_nil) dX3_account_179
                          · replace h := if_n c25 h
                            -- default
                            have qc9 := i32_ne c9; rw [show (0 : Int32).toInt = 0 from by decide] at qc9
                            have qc10 := i32_ne c10; rw [show (1 : Int32).toInt = 1 from by decide] at qc10
                            have qc11 := i32_ne c11; rw [show (2 : Int32).toInt = 2 from by decide] at qc11
                            have qc13 := i32_ne c13; rw [show (3 : Int32).toInt = 3 from by decide] at qc13
                            have qc15 := i32_ne c15; rw [show (4 : Int32).toInt = 4 from by decide] at qc15
                            have qc16 := i32_ne c16; rw [show (5 : Int32).toInt = 5 from by decide] at qc16
                            have qc17 := i32_ne c17; rw [show (6 : Int32).toInt = 6 from by decide] at qc17
                            have qc18 := i32_ne c18; rw [show (7 : Int32).toInt = 7 from by decide] at qc18
                            have qc19 := i32_ne c19; rw [show (8 : Int32).toInt = 8 from by decide] at qc19
                            have qc20 := i32_ne c20; rw [show (9 : Int32).toInt = 9 from by decide] at qc20
                            have qc21 := i32_ne c21; rw [show (10 : Int32).toInt = 10 from by decide] at qc21
                            have qc24 := i32_ne c24; rw [show (11 : Int32).toInt = 11 from by decide] at qc24
                            have qc25 := i32_ne c25; rw [show (12 : Int32).toInt = 12 from by decide] at qc25
                            refine lv_tableOut (tgt := 180) hx hb dX3_account_3 (by omega) (by decide) ?_
                            refine lv_bipush (v := (-2)) hx hb dX3_account_180 (by decide) ?_
                            exact W.iret hx hb hr (fun t ht _ => retP h ht) (fun _ h9 => absurd h9 List.not_mem_nil) dX3_account_182
def mX3_isWell (N : Nat) (K : KT)  : Option Int32 := some 1
def rmX3_isWell : Room := { frames := 1, cells := 0, slots := 0, locals := 40 }
set_option maxHeartbeats 4000000 in
set_option maxRecDepth 100000 in
theorem tX3_isWell {l : Launch} {dC : Nat → ClassId} {dI : Nat → Nat → Nat} {cI : ClassId} {cC : ClassId} {ob : Nat} {q : Nat → Nat} {N : Nat} {K : KT}  {rr : Int32} (hf : mX3_isWell N K  = some rr) : Met l yX3_isWell wsX3_isWell rmX3_isWell (cP (dC, dI) vwCl [(cI, .int), (cC, .char)] (mdW cI cC ob q K) [.ref ob]) (cQp rr) 0 0 (fun _ => False) := by
  refine Met.ofW (cc := cX3_isWell) (maxL := 1) (ret := (some .int)) (by decide) rfl ?_
  intro p e s m args below meth c s₁ B hml hv
  obtain ⟨rfl, hP, hK⟩ := hv
  have hx := B.exec
  have hb := B.bytes
  have hr := B.returns
  have hts := atoms_spec (ws := wsX3_isWell) B.pre
  have hown : s.vm.findClass RX3 = some m.cls := findClass_of_methodNamed B.named
  have hlocks := B.notSynchronized
  have hl := lv_entry ([.ref ob]) (n := 1) (Nat.le_of_ble_eq_true rfl)
  rw [lg_entry_eq]
  generalize (lg_sl ([.ref ob]) ++ List.replicate (1 - (lg_sl ([.ref ob])).length) Slot.unset).toArray = ls at hl ⊢
  have hl : lv_has ls 1 [(0, .ref ob)] := hl
  have h := hf
  unfold mX3_isWell at h
  refine lv_iconst (v := 1) hx hb dX3_isWell_0 (by decide) ?_
  exact W.iret hx hb hr (fun t ht _ => retP h ht) (fun _ h9 => absurd h9 List.not_mem_nil) dX3_isWell_1
def fX3_undo_22 (N : Nat)  : Nat → KT → Int32 → Option (Int32 × KT)
  | 0, _, _ => none
  | n + 1, K, x1 => (if 186 ≤ x1 then some (K 8 0, K) else rdA (K 3) 1488 ((186 * (K 8 0)) + x1) (fun v2 => wrA K 0 186 x1 v2 (fun K4 => (fX3_undo_22 N  n) K4 (x1 + 1))))
def mX3_undo (N : Nat) (K : KT)  : Option (Int32 × KT) := (if (K 8 0) = 0 then some ((-4), K) else ptF K 8 0 ((K 8 0) - 1) (fun K7 => fX3_undo_22 N  N K7 0))
def rmX3_undo : Room := { frames := 1, cells := 0, slots := 0, locals := 40 }
set_option maxHeartbeats 4000000 in
set_option maxRecDepth 100000 in
theorem tX3_undo {l : Launch} {dC : Nat → ClassId} {dI : Nat → Nat → Nat} {cI : ClassId} {cC : ClassId} {ob : Nat} {q : Nat → Nat} {N : Nat} {K : KT}  {rr : Int32} {KK : KT} (hf : mX3_undo N K  = some (rr, KK)) : Met l yX3_undo wsX3_undo rmX3_undo (cPe (dC, dI) vwCl [(cI, .int), (cC, .char)] (mdL ob q) (mdW cI cC ob q K) [.ref ob]) (cE (dC, dI) vwCl (mdL ob q) rr (mdW cI cC ob q KK)) 0 0 (aL (mdL ob q)) := by
  refine Met.ofW (cc := cX3_undo) (maxL := 2) (ret := (some .int)) (by decide) rfl ?_
  intro p e s m args below meth c s₁ B hml hv
  obtain ⟨rfl, hP, hK, hD⟩ := hv
  have hx := B.exec
  have hb := B.bytes
  have hr := B.returns
  have hts := atoms_spec (ws := wsX3_undo) B.pre
  have hown : s.vm.findClass RX3 = some m.cls := findClass_of_methodNamed B.named
  have hlocks := B.notSynchronized
  have hwX3 : ∀ w ∈ u_ws RX3 TX3 17, w ∈ wsX3_undo := by decide +kernel
  have hf_9 := hts (.fieldLink RX3 9 "CaravanLogsModel" "now" "[I") (by decide +kernel)
  have hf_19 := hts (.fieldLink RX3 19 "CaravanLogsModel" "kept" "[I") (by decide +kernel)
  have hf_39 := hts (.fieldLink RX3 39 "CaravanLogsModel" "undos" "I") (by decide +kernel)
  have t_22 : ∀ {n : Nat}, ∀ {K : KT} {x1 : Int32} {H : Heap} {locs : List Loc} {ls : Array Slot} (h : fX3_undo_22 N  n K x1 = some (rr, KK)) (hl : lv_has ls 2 [(0, .ref ob), (1, .int x1)]) (hP : va_P (dC, dI) vwCl (mdW cI cC ob q K) H) (hD : va_D (aL (mdL ob q)) (mdW cI cC ob q K)) (hS : va_S (aL (mdL ob q)) s.heap H locs), W p l e (headSpec wsX3_undo rmX3_undo).room s m ([.ref ob] : List Value).toArray below meth c H locs 0 0 (MQ below (cE (dC, dI) vwCl (mdL ob q) rr (mdW cI cC ob q KK)) ([.ref ob] : List Value).toArray s 0 0 (aL (mdL ob q))) (F0 m 22 ls []) := by
    intro  n
    induction n with
    | zero =>
      intro K x1 H locs ls h hl hP hD hS
      unfold fX3_undo_22 at h
      cases h
    | succ n ih =>
      intro K x1 H locs ls h hl hP hD hS
      unfold fX3_undo_22 at h
      refine lv_iload_n hx hb dX3_undo_22 rfl (lv_at hl 1 rfl) ?_
      refine lv_sipush (v := 186) hx hb dX3_undo_23 (by decide) ?_
      refine lv_icmp_ge (tgt := 56) hx hb dX3_undo_26 (by decide) (fun c1 => ?_) (fun c1 => ?_)
      · replace h := if_p c1 h
        refine lv_aload_n hx hb dX3_undo_56 rfl (lv_at hl 0 rfl) ?_
        refine va_get (D := (dC, dI)) (ci := 4) (v := .int (K 8 0)) (C := RX3) (T := TX3) (N := 17) hx hb hts hwX3 hown hK hP 0 rfl rfl 4 (by decide) hf_39 (fun _ h9 => h9) rfl dX3_undo_57 ?_
        exact W.iret hx hb hr (fun t ht _ => retE (w := mdW cI cC ob q) h hP hD hS ht) hS.2.2 dX3_undo_60
      · replace h := if_n c1 h
        refine lv_aload_n hx hb dX3_undo_29 rfl (lv_at hl 0 rfl) ?_
        refine va_get (D := (dC, dI)) (ci := 4) (v := .ref (q 0)) (C := RX3) (T := TX3) (N := 17) hx hb hts hwX3 hown hK hP 0 rfl rfl 0 (by decide) hf_9 (fun _ h9 => h9) rfl dX3_undo_30 ?_
        refine lv_iload_n hx hb dX3_undo_33 rfl (lv_at hl 1 rfl) ?_
        refine lv_aload_n hx hb dX3_undo_34 rfl (lv_at hl 0 rfl) ?_
        refine va_get (D := (dC, dI)) (ci := 4) (v := .ref (q 3)) (C := RX3) (T := TX3) (N := 17) hx hb hts hwX3 hown hK hP 0 rfl rfl 3 (by decide) hf_19 (fun _ h9 => h9) rfl dX3_undo_35 ?_
        refine lv_sipush (v := 186) hx hb dX3_undo_38 (by decide) ?_
        refine lv_aload_n hx hb dX3_undo_41 rfl (lv_at hl 0 rfl) ?_
        refine va_get (D := (dC, dI)) (ci := 4) (v := .int (K 8 0)) (C := RX3) (T := TX3) (N := 17) hx hb hts hwX3 hown hK hP 0 rfl rfl 4 (by decide) hf_39 (fun _ h9 => h9) rfl dX3_undo_42 ?_
        refine lv_imul hx hb dX3_undo_45 ?_
        refine lv_iload_n hx hb dX3_undo_46 rfl (lv_at hl 1 rfl) ?_
        refine lv_iadd hx hb dX3_undo_47 ?_
        obtain ⟨hi3, v2, ev2, h⟩ := rdA_some h
        refine k_iald hx hb hK hP 4 0 rfl rfl hi3 ev2 dX3_undo_48 ?_
        obtain ⟨hi5, K4, eK4, h⟩ := wrA_some h
        refine va_iast hx hb hK hP hD hS 1 0 rfl rfl hi5 dX3_undo_49 (fun H locs hP hD hS => ?_)
        have hP : va_P (dC, dI) vwCl (mdW cI cC ob q K4) H := by rw [eK4]; exact hP
        have hD : va_D (aL (mdL ob q)) (mdW cI cC ob q K4) := by rw [eK4]; exact hD
        refine lv_iinc (v := x1 + 1) (lv' := [(1, .int (x1 + 1)), (0, .ref ob)]) hx hb dX3_undo_50 hl (k := 1) rfl rfl (by decide) rfl (fun ls hl => ?_)
        refine lv_goto (tgt := 22) hx hb dX3_undo_53 (by decide) ?_
        exact ih h (lv_sub hl [1, 0] rfl) hP hD hS
  have hS : va_S (aL (mdL ob q)) s.heap s.heap [] := va_S.rf
  have hl := lv_entry ([.ref ob]) (n := 2) (Nat.le_of_ble_eq_true rfl)
  rw [lg_entry_eq]
  generalize (lg_sl ([.ref ob]) ++ List.replicate (2 - (lg_sl ([.ref ob])).length) Slot.unset).toArray = ls at hl ⊢
  have hl : lv_has ls 2 [(0, .ref ob)] := hl
  have h := hf
  unfold mX3_undo at h
  refine lv_aload_n hx hb dX3_undo_0 rfl (lv_at hl 0 rfl) ?_
  refine va_get (D := (dC, dI)) (ci := 4) (v := .int (K 8 0)) (C := RX3) (T := TX3) (N := 17) hx hb hts hwX3 hown hK hP 0 rfl rfl 4 (by decide) hf_39 (fun _ h9 => h9) rfl dX3_undo_1 ?_
  refine lv_if_ne (tgt := 10) hx hb dX3_undo_4 (by decide) (fun c6 => ?_) (fun c6 => ?_)
  · replace h := if_n c6 h
    refine lv_aload_n hx hb dX3_undo_10 rfl (lv_at hl 0 rfl) ?_
    refine lv_dup hx hb dX3_undo_11 rfl ?_
    refine va_get (D := (dC, dI)) (ci := 4) (v := .int (K 8 0)) (C := RX3) (T := TX3) (N := 17) hx hb hts hwX3 hown hK hP 0 rfl rfl 4 (by decide) hf_39 (fun _ h9 => h9) rfl dX3_undo_12 ?_
    refine lv_iconst (v := 1) hx hb dX3_undo_15 (by decide) ?_
    refine lv_isub hx hb dX3_undo_16 ?_
    obtain ⟨K7, eK7, h⟩ := ptF_some h
    refine va_put (D := (dC, dI)) (ci := 4) (v := .int ((K 8 0) - 1)) (ty := .int) (C := RX3) (T := TX3) (N := 17) hx hb hts hwX3 tyX3 tyX3_ok nmX3 hown hK hP hD hS 0 rfl rfl 4 (by decide) hf_39 (fun _ h9 => h9) rfl (by decide +kernel) rfl rfl (Nat.le_of_ble_eq_true rfl) dX3_undo_17 (fun H locs hP hD hS => ?_)
    have hP : va_P (dC, dI) vwCl (mdW cI cC ob q K7) H := by rw [eK7]; exact hP
    have hD : va_D (aL (mdL ob q)) (mdW cI cC ob q K7) := by rw [eK7]; exact hD
    refine lv_iconst (v := 0) hx hb dX3_undo_20 (by decide) ?_
    refine lv_istore_n (lv' := [(1, .int 0), (0, .ref ob)]) hx hb dX3_undo_21 rfl hl (by decide) rfl (fun ls hl => ?_)
    exact t_22  h (lv_sub hl [1, 0] rfl) hP hD hS
  · replace h := if_p c6 h
    refine lv_bipush (v := (-4)) hx hb dX3_undo_7 (by decide) ?_
    exact W.iret hx hb hr (fun t ht _ => retE (w := mdW cI cC ob q) h hP hD hS ht) hS.2.2 dX3_undo_9
def fX3_save_32 (N : Nat)  (K : KT)  : Option (Int32 × KT) := rdA (K 0) 186 5 (fun v1 => some (v1, K))
def fX3_save_7 (N : Nat)  : Nat → KT → Int32 → Option (Int32 × KT)
  | 0, _, _ => none
  | n + 1, K, x1 => (if 186 ≤ x1 then fX3_save_32 N  K  else rdA (K 0) 186 x1 (fun v4 => wrA K 4 186 x1 v4 (fun K6 => (fX3_save_7 N  n) K6 (x1 + 1))))
def mX3_save (N : Nat) (K : KT)  : Option (Int32 × KT) := ptF K 8 1 1 (fun K8 => fX3_save_7 N  N K8 0)
def rmX3_save : Room := { frames := 1, cells := 0, slots := 0, locals := 40 }
set_option maxHeartbeats 4000000 in
set_option maxRecDepth 100000 in
theorem tX3_save {l : Launch} {dC : Nat → ClassId} {dI : Nat → Nat → Nat} {cI : ClassId} {cC : ClassId} {ob : Nat} {q : Nat → Nat} {N : Nat} {K : KT}  {rr : Int32} {KK : KT} (hf : mX3_save N K  = some (rr, KK)) : Met l yX3_save wsX3_save rmX3_save (cPe (dC, dI) vwCl [(cI, .int), (cC, .char)] (mdL ob q) (mdW cI cC ob q K) [.ref ob]) (cE (dC, dI) vwCl (mdL ob q) rr (mdW cI cC ob q KK)) 0 0 (aL (mdL ob q)) := by
  refine Met.ofW (cc := cX3_save) (maxL := 2) (ret := (some .int)) (by decide) rfl ?_
  intro p e s m args below meth c s₁ B hml hv
  obtain ⟨rfl, hP, hK, hD⟩ := hv
  have hx := B.exec
  have hb := B.bytes
  have hr := B.returns
  have hts := atoms_spec (ws := wsX3_save) B.pre
  have hown : s.vm.findClass RX3 = some m.cls := findClass_of_methodNamed B.named
  have hlocks := B.notSynchronized
  have hwX3 : ∀ w ∈ u_ws RX3 TX3 17, w ∈ wsX3_save := by decide +kernel
  have hf_9 := hts (.fieldLink RX3 9 "CaravanLogsModel" "now" "[I") (by decide +kernel)
  have hf_22 := hts (.fieldLink RX3 22 "CaravanLogsModel" "saved" "[I") (by decide +kernel)
  have hf_208 := hts (.fieldLink RX3 208 "CaravanLogsModel" "isSaved" "Z") (by decide +kernel)
  have t_32 : ∀ {K : KT}  {H : Heap} {locs : List Loc} {ls : Array Slot} (h : fX3_save_32 N  K  = some (rr, KK)) (hl : lv_has ls 2 [(0, .ref ob)]) (hP : va_P (dC, dI) vwCl (mdW cI cC ob q K) H) (hD : va_D (aL (mdL ob q)) (mdW cI cC ob q K)) (hS : va_S (aL (mdL ob q)) s.heap H locs), W p l e (headSpec wsX3_save rmX3_save).room s m ([.ref ob] : List Value).toArray below meth c H locs 0 0 (MQ below (cE (dC, dI) vwCl (mdL ob q) rr (mdW cI cC ob q KK)) ([.ref ob] : List Value).toArray s 0 0 (aL (mdL ob q))) (F0 m 32 ls []) := by
    intro  K H locs ls h hl hP hD hS
    unfold fX3_save_32 at h
    refine lv_aload_n hx hb dX3_save_32 rfl (lv_at hl 0 rfl) ?_
    refine va_get (D := (dC, dI)) (ci := 4) (v := .ref (q 0)) (C := RX3) (T := TX3) (N := 17) hx hb hts hwX3 hown hK hP 0 rfl rfl 0 (by decide) hf_9 (fun _ h9 => h9) rfl dX3_save_33 ?_
    refine lv_iconst (v := 5) hx hb dX3_save_36 (by decide) ?_
    obtain ⟨hi2, v1, ev1, h⟩ := rdA_some h
    refine k_iald hx hb hK hP 1 0 rfl rfl hi2 ev1 dX3_save_37 ?_
    exact W.iret hx hb hr (fun t ht _ => retE (w := mdW cI cC ob q) h hP hD hS ht) hS.2.2 dX3_save_38
  have t_7 : ∀ {n : Nat}, ∀ {K : KT} {x1 : Int32} {H : Heap} {locs : List Loc} {ls : Array Slot} (h : fX3_save_7 N  n K x1 = some (rr, KK)) (hl : lv_has ls 2 [(0, .ref ob), (1, .int x1)]) (hP : va_P (dC, dI) vwCl (mdW cI cC ob q K) H) (hD : va_D (aL (mdL ob q)) (mdW cI cC ob q K)) (hS : va_S (aL (mdL ob q)) s.heap H locs), W p l e (headSpec wsX3_save rmX3_save).room s m ([.ref ob] : List Value).toArray below meth c H locs 0 0 (MQ below (cE (dC, dI) vwCl (mdL ob q) rr (mdW cI cC ob q KK)) ([.ref ob] : List Value).toArray s 0 0 (aL (mdL ob q))) (F0 m 7 ls []) := by
    intro  n
    induction n with
    | zero =>
      intro K x1 H locs ls h hl hP hD hS
      unfold fX3_save_7 at h
      cases h
    | succ n ih =>
      intro K x1 H locs ls h hl hP hD hS
      unfold fX3_save_7 at h
      refine lv_iload_n hx hb dX3_save_7 rfl (lv_at hl 1 rfl) ?_
      refine lv_sipush (v := 186) hx hb dX3_save_8 (by decide) ?_
      refine lv_icmp_ge (tgt := 32) hx hb dX3_save_11 (by decide) (fun c3 => ?_) (fun c3 => ?_)
      · replace h := if_p c3 h
        exact t_32  h (lv_sub hl [0] rfl) hP hD hS
      · replace h := if_n c3 h
        refine lv_aload_n hx hb dX3_save_14 rfl (lv_at hl 0 rfl) ?_
        refine va_get (D := (dC, dI)) (ci := 4) (v := .ref (q 4)) (C := RX3) (T := TX3) (N := 17) hx hb hts hwX3 hown hK hP 0 rfl rfl 5 (by decide) hf_22 (fun _ h9 => h9) rfl dX3_save_15 ?_
        refine lv_iload_n hx hb dX3_save_18 rfl (lv_at hl 1 rfl) ?_
        refine lv_aload_n hx hb dX3_save_19 rfl (lv_at hl 0 rfl) ?_
        refine va_get (D := (dC, dI)) (ci := 4) (v := .ref (q 0)) (C := RX3) (T := TX3) (N := 17) hx hb hts hwX3 hown hK hP 0 rfl rfl 0 (by decide) hf_9 (fun _ h9 => h9) rfl dX3_save_20 ?_
        refine lv_iload_n hx hb dX3_save_23 rfl (lv_at hl 1 rfl) ?_
        obtain ⟨hi5, v4, ev4, h⟩ := rdA_some h
        refine k_iald hx hb hK hP 1 0 rfl rfl hi5 ev4 dX3_save_24 ?_
        obtain ⟨hi7, K6, eK6, h⟩ := wrA_some h
        refine va_iast hx hb hK hP hD hS 5 0 rfl rfl hi7 dX3_save_25 (fun H locs hP hD hS => ?_)
        have hP : va_P (dC, dI) vwCl (mdW cI cC ob q K6) H := by rw [eK6]; exact hP
        have hD : va_D (aL (mdL ob q)) (mdW cI cC ob q K6) := by rw [eK6]; exact hD
        refine lv_iinc (v := x1 + 1) (lv' := [(1, .int (x1 + 1)), (0, .ref ob)]) hx hb dX3_save_26 hl (k := 1) rfl rfl (by decide) rfl (fun ls hl => ?_)
        refine lv_goto (tgt := 7) hx hb dX3_save_29 (by decide) ?_
        exact ih h (lv_sub hl [1, 0] rfl) hP hD hS
  have hS : va_S (aL (mdL ob q)) s.heap s.heap [] := va_S.rf
  have hl := lv_entry ([.ref ob]) (n := 2) (Nat.le_of_ble_eq_true rfl)
  rw [lg_entry_eq]
  generalize (lg_sl ([.ref ob]) ++ List.replicate (2 - (lg_sl ([.ref ob])).length) Slot.unset).toArray = ls at hl ⊢
  have hl : lv_has ls 2 [(0, .ref ob)] := hl
  have h := hf
  unfold mX3_save at h
  refine lv_aload_n hx hb dX3_save_0 rfl (lv_at hl 0 rfl) ?_
  refine lv_iconst (v := 1) hx hb dX3_save_1 (by decide) ?_
  obtain ⟨K8, eK8, h⟩ := ptF_some h
  refine va_put (D := (dC, dI)) (ci := 4) (v := .int 1) (ty := .boolean) (C := RX3) (T := TX3) (N := 17) hx hb hts hwX3 tyX3 tyX3_ok nmX3 hown hK hP hD hS 0 rfl rfl 6 (by decide) hf_208 (fun _ h9 => h9) rfl (by decide +kernel) rfl rfl (Nat.le_of_ble_eq_true rfl) dX3_save_2 (fun H locs hP hD hS => ?_)
  have hP : va_P (dC, dI) vwCl (mdW cI cC ob q K8) H := by rw [eK8]; exact hP
  have hD : va_D (aL (mdL ob q)) (mdW cI cC ob q K8) := by rw [eK8]; exact hD
  refine lv_iconst (v := 0) hx hb dX3_save_5 (by decide) ?_
  refine lv_istore_n (lv' := [(1, .int 0), (0, .ref ob)]) hx hb dX3_save_6 rfl hl (by decide) rfl (fun ls hl => ?_)
  exact t_7  h (lv_sub hl [1, 0] rfl) hP hD hS
def fX3_restore_37 (N : Nat)  (K : KT)  : Option (Int32 × KT) := ptF K 8 0 0 (fun K1 => rdA (K1 0) 186 5 (fun v2 => some (v2, K1)))
def fX3_restore_12 (N : Nat)  : Nat → KT → Int32 → Option (Int32 × KT)
  | 0, _, _ => none
  | n + 1, K, x1 => (if 186 ≤ x1 then fX3_restore_37 N  K  else rdA (K 4) 186 x1 (fun v5 => wrA K 0 186 x1 v5 (fun K7 => (fX3_restore_12 N  n) K7 (x1 + 1))))
def mX3_restore (N : Nat) (K : KT)  : Option (Int32 × KT) := (if (K 8 1) = 0 then some ((-4), K) else fX3_restore_12 N  N K 0)
def rmX3_restore : Room := { frames := 1, cells := 0, slots := 0, locals := 40 }
set_option maxHeartbeats 4000000 in
set_option maxRecDepth 100000 in
theorem tX3_restore {l : Launch} {dC : Nat → ClassId} {dI : Nat → Nat → Nat} {cI : ClassId} {cC : ClassId} {ob : Nat} {q : Nat → Nat} {N : Nat} {K : KT}  {rr : Int32} {KK : KT} (hf : mX3_restore N K  = some (rr, KK)) : Met l yX3_restore wsX3_restore rmX3_restore (cPe (dC, dI) vwCl [(cI, .int), (cC, .char)] (mdL ob q) (mdW cI cC ob q K) [.ref ob]) (cE (dC, dI) vwCl (mdL ob q) rr (mdW cI cC ob q KK)) 0 0 (aL (mdL ob q)) := by
  refine Met.ofW (cc := cX3_restore) (maxL := 2) (ret := (some .int)) (by decide) rfl ?_
  intro p e s m args below meth c s₁ B hml hv
  obtain ⟨rfl, hP, hK, hD⟩ := hv
  have hx := B.exec
  have hb := B.bytes
  have hr := B.returns
  have hts := atoms_spec (ws := wsX3_restore) B.pre
  have hown : s.vm.findClass RX3 = some m.cls := findClass_of_methodNamed B.named
  have hlocks := B.notSynchronized
  have hwX3 : ∀ w ∈ u_ws RX3 TX3 17, w ∈ wsX3_restore := by decide +kernel
  have hf_9 := hts (.fieldLink RX3 9 "CaravanLogsModel" "now" "[I") (by decide +kernel)
  have hf_22 := hts (.fieldLink RX3 22 "CaravanLogsModel" "saved" "[I") (by decide +kernel)
  have hf_39 := hts (.fieldLink RX3 39 "CaravanLogsModel" "undos" "I") (by decide +kernel)
  have hf_208 := hts (.fieldLink RX3 208 "CaravanLogsModel" "isSaved" "Z") (by decide +kernel)
  have t_37 : ∀ {K : KT}  {H : Heap} {locs : List Loc} {ls : Array Slot} (h : fX3_restore_37 N  K  = some (rr, KK)) (hl : lv_has ls 2 [(0, .ref ob)]) (hP : va_P (dC, dI) vwCl (mdW cI cC ob q K) H) (hD : va_D (aL (mdL ob q)) (mdW cI cC ob q K)) (hS : va_S (aL (mdL ob q)) s.heap H locs), W p l e (headSpec wsX3_restore rmX3_restore).room s m ([.ref ob] : List Value).toArray below meth c H locs 0 0 (MQ below (cE (dC, dI) vwCl (mdL ob q) rr (mdW cI cC ob q KK)) ([.ref ob] : List Value).toArray s 0 0 (aL (mdL ob q))) (F0 m 37 ls []) := by
    intro  K H locs ls h hl hP hD hS
    unfold fX3_restore_37 at h
    refine lv_aload_n hx hb dX3_restore_37 rfl (lv_at hl 0 rfl) ?_
    refine lv_iconst (v := 0) hx hb dX3_restore_38 (by decide) ?_
    obtain ⟨K1, eK1, h⟩ := ptF_some h
    refine va_put (D := (dC, dI)) (ci := 4) (v := .int 0) (ty := .int) (C := RX3) (T := TX3) (N := 17) hx hb hts hwX3 tyX3 tyX3_ok nmX3 hown hK hP hD hS 0 rfl rfl 4 (by decide) hf_39 (fun _ h9 => h9) rfl (by decide +kernel) rfl rfl (Nat.le_of_ble_eq_true rfl) dX3_restore_39 (fun H locs hP hD hS => ?_)
    have hP : va_P (dC, dI) vwCl (mdW cI cC ob q K1) H := by rw [eK1]; exact hP
    have hD : va_D (aL (mdL ob q)) (mdW cI cC ob q K1) := by rw [eK1]; exact hD
    refine lv_aload_n hx hb dX3_restore_42 rfl (lv_at hl 0 rfl) ?_
    refine va_get (D := (dC, dI)) (ci := 4) (v := .ref (q 0)) (C := RX3) (T := TX3) (N := 17) hx hb hts hwX3 hown hK hP 0 rfl rfl 0 (by decide) hf_9 (fun _ h9 => h9) rfl dX3_restore_43 ?_
    refine lv_iconst (v := 5) hx hb dX3_restore_46 (by decide) ?_
    obtain ⟨hi3, v2, ev2, h⟩ := rdA_some h
    refine k_iald hx hb hK hP 1 0 rfl rfl hi3 ev2 dX3_restore_47 ?_
    exact W.iret hx hb hr (fun t ht _ => retE (w := mdW cI cC ob q) h hP hD hS ht) hS.2.2 dX3_restore_48
  have t_12 : ∀ {n : Nat}, ∀ {K : KT} {x1 : Int32} {H : Heap} {locs : List Loc} {ls : Array Slot} (h : fX3_restore_12 N  n K x1 = some (rr, KK)) (hl : lv_has ls 2 [(0, .ref ob), (1, .int x1)]) (hP : va_P (dC, dI) vwCl (mdW cI cC ob q K) H) (hD : va_D (aL (mdL ob q)) (mdW cI cC ob q K)) (hS : va_S (aL (mdL ob q)) s.heap H locs), W p l e (headSpec wsX3_restore rmX3_restore).room s m ([.ref ob] : List Value).toArray below meth c H locs 0 0 (MQ below (cE (dC, dI) vwCl (mdL ob q) rr (mdW cI cC ob q KK)) ([.ref ob] : List Value).toArray s 0 0 (aL (mdL ob q))) (F0 m 12 ls []) := by
    intro  n
    induction n with
    | zero =>
      intro K x1 H locs ls h hl hP hD hS
      unfold fX3_restore_12 at h
      cases h
    | succ n ih =>
      intro K x1 H locs ls h hl hP hD hS
      unfold fX3_restore_12 at h
      refine lv_iload_n hx hb dX3_restore_12 rfl (lv_at hl 1 rfl) ?_
      refine lv_sipush (v := 186) hx hb dX3_restore_13 (by decide) ?_
      refine lv_icmp_ge (tgt := 37) hx hb dX3_restore_16 (by decide) (fun c4 => ?_) (fun c4 => ?_)
      · replace h := if_p c4 h
        exact t_37  h (lv_sub hl [0] rfl) hP hD hS
      · replace h := if_n c4 h
        refine lv_aload_n hx hb dX3_restore_19 rfl (lv_at hl 0 rfl) ?_
        refine va_get (D := (dC, dI)) (ci := 4) (v := .ref (q 0)) (C := RX3) (T := TX3) (N := 17) hx hb hts hwX3 hown hK hP 0 rfl rfl 0 (by decide) hf_9 (fun _ h9 => h9) rfl dX3_restore_20 ?_
        refine lv_iload_n hx hb dX3_restore_23 rfl (lv_at hl 1 rfl) ?_
        refine lv_aload_n hx hb dX3_restore_24 rfl (lv_at hl 0 rfl) ?_
        refine va_get (D := (dC, dI)) (ci := 4) (v := .ref (q 4)) (C := RX3) (T := TX3) (N := 17) hx hb hts hwX3 hown hK hP 0 rfl rfl 5 (by decide) hf_22 (fun _ h9 => h9) rfl dX3_restore_25 ?_
        refine lv_iload_n hx hb dX3_restore_28 rfl (lv_at hl 1 rfl) ?_
        obtain ⟨hi6, v5, ev5, h⟩ := rdA_some h
        refine k_iald hx hb hK hP 5 0 rfl rfl hi6 ev5 dX3_restore_29 ?_
        obtain ⟨hi8, K7, eK7, h⟩ := wrA_some h
        refine va_iast hx hb hK hP hD hS 1 0 rfl rfl hi8 dX3_restore_30 (fun H locs hP hD hS => ?_)
        have hP : va_P (dC, dI) vwCl (mdW cI cC ob q K7) H := by rw [eK7]; exact hP
        have hD : va_D (aL (mdL ob q)) (mdW cI cC ob q K7) := by rw [eK7]; exact hD
        refine lv_iinc (v := x1 + 1) (lv' := [(1, .int (x1 + 1)), (0, .ref ob)]) hx hb dX3_restore_31 hl (k := 1) rfl rfl (by decide) rfl (fun ls hl => ?_)
        refine lv_goto (tgt := 12) hx hb dX3_restore_34 (by decide) ?_
        exact ih h (lv_sub hl [1, 0] rfl) hP hD hS
  have hS : va_S (aL (mdL ob q)) s.heap s.heap [] := va_S.rf
  have hl := lv_entry ([.ref ob]) (n := 2) (Nat.le_of_ble_eq_true rfl)
  rw [lg_entry_eq]
  generalize (lg_sl ([.ref ob]) ++ List.replicate (2 - (lg_sl ([.ref ob])).length) Slot.unset).toArray = ls at hl ⊢
  have hl : lv_has ls 2 [(0, .ref ob)] := hl
  have h := hf
  unfold mX3_restore at h
  refine lv_aload_n hx hb dX3_restore_0 rfl (lv_at hl 0 rfl) ?_
  refine va_get (D := (dC, dI)) (ci := 4) (v := .int (K 8 1)) (C := RX3) (T := TX3) (N := 17) hx hb hts hwX3 hown hK hP 0 rfl rfl 6 (by decide) hf_208 (fun _ h9 => h9) rfl dX3_restore_1 ?_
  refine lv_if_ne (tgt := 10) hx hb dX3_restore_4 (by decide) (fun c9 => ?_) (fun c9 => ?_)
  · replace h := if_n c9 h
    refine lv_iconst (v := 0) hx hb dX3_restore_10 (by decide) ?_
    refine lv_istore_n (lv' := [(1, .int 0), (0, .ref ob)]) hx hb dX3_restore_11 rfl hl (by decide) rfl (fun ls hl => ?_)
    exact t_12  h (lv_sub hl [1, 0] rfl) hP hD hS
  · replace h := if_p c9 h
    refine lv_bipush (v := (-4)) hx hb dX3_restore_7 (by decide) ?_
    exact W.iret hx hb hr (fun t ht _ => retE (w := mdW cI cC ob q) h hP hD hS ht) hS.2.2 dX3_restore_9
