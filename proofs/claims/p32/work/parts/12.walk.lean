def fX0_askForVotes_70 (N : Nat)  (K : KT) (x1 : Int32) (x3 : Int32) : Option (Int32 × KT) := rdA (K 0) 5 x3 (fun v1 => bdE (mX0_takeTerm N K x1 v1) (fun v3 K4 => some (0, K4)))
def fX0_askForVotes_146 (N : Nat) (k38 : KT → Int32 → Int32 → Int32 → Option (Int32 × KT)) (K : KT) (x1 : Int32) (x2 : Int32) (x3 : Int32) : Option (Int32 × KT) := k38 K x1 x2 (x3 + 1)
def fX0_askForVotes_109 (N : Nat) (k38 : KT → Int32 → Int32 → Int32 → Option (Int32 × KT)) (K : KT) (x1 : Int32) (x2 : Int32) (x3 : Int32) : Option (Int32 × KT) := rdA (K 1) 5 x3 (fun v5 => (if v5 = ((-4)) then bdP (mX0_isAsFar N K x1 x3) (fun v8 => (if v8 = 0 then fX0_askForVotes_146 N k38 K x1 x2 x3 else wrA K 1 5 x3 x1 (fun K10 => wrA K10 4 5 x3 0 (fun K12 => fX0_askForVotes_146 N k38 K12 x1 (x2 + 1) x3)))) else fX0_askForVotes_146 N k38 K x1 x2 x3))
def fX0_askForVotes_174 (N : Nat)  (K : KT) (x2 : Int32) : Option (Int32 × KT) := some (x2, K)
def fX0_askForVotes_152 (N : Nat)  (K : KT) (x1 : Int32) (x2 : Int32) : Option (Int32 × KT) := (if x2 < 3 then fX0_askForVotes_174 N  K x2 else wrA K 2 5 x1 1 (fun K15 => ptF K15 10 1 ((K15 10 1) + 1) (fun K17 => fX0_askForVotes_174 N  K17 x2)))
def fX0_askForVotes_38 (N : Nat)  : Nat → KT → Int32 → Int32 → Int32 → Option (Int32 × KT)
  | 0, _, _, _, _ => none
  | n + 1, K, x1, x2, x3 => (if 5 ≤ x3 then fX0_askForVotes_152 N  K x1 x2 else bdP (mX0_isReached N K x1 x3) (fun v19 => (if v19 = 0 then fX0_askForVotes_146 N (fX0_askForVotes_38 N  n) K x1 x2 x3 else rdA (K 0) 5 x3 (fun v21 => rdA (K 0) 5 x1 (fun v23 => (if v21 ≤ v23 then rdA (K 0) 5 x3 (fun v26 => rdA (K 0) 5 x1 (fun v28 => (if v28 ≤ v26 then fX0_askForVotes_109 N (fX0_askForVotes_38 N  n) K x1 x2 x3 else rdA (K 0) 5 x1 (fun v31 => bdE (mX0_takeTerm N K x3 v31) (fun v33 K34 => fX0_askForVotes_109 N (fX0_askForVotes_38 N  n) K34 x1 x2 x3))))) else fX0_askForVotes_70 N  K x1 x3))))))
def mX0_askForVotes (N : Nat) (K : KT) (p0 : Int32) : Option (Int32 × KT) := ptF K 10 0 ((K 10 0) + 1) (fun K35 => rdA (K35 0) 5 p0 (fun v36 => wrA K35 0 5 p0 (v36 + 1) (fun K38 => wrA K38 1 5 p0 p0 (fun K40 => wrA K40 4 5 p0 0 (fun K42 => fX0_askForVotes_38 N  N K42 p0 1 0)))))
def rmX0_askForVotes : Room := { frames := 3, cells := 0, slots := 0, locals := 85 }
set_option maxHeartbeats 4000000 in
set_option maxRecDepth 100000 in
theorem tX0_askForVotes {l : Launch} {dC : Nat → ClassId} {dI : Nat → Nat → Nat} {cI : ClassId} {ob : Nat} {q : Nat → Nat} {N : Nat} {K : KT} {p0 : Int32} {rr : Int32} {KK : KT} (hf : mX0_askForVotes N K p0 = some (rr, KK)) : Met l yX0_askForVotes wsX0_askForVotes rmX0_askForVotes (cPe (dC, dI) vwCl [(cI, .int)] (cvL ob q) (cvW cI ob q K) [.ref ob, .int p0]) (cE (dC, dI) vwCl (cvL ob q) rr (cvW cI ob q KK)) 0 0 (aL (cvL ob q)) := by
  refine Met.ofW (cc := cX0_askForVotes) (maxL := 4) (ret := (some .int)) (by decide) rfl ?_
  intro p e s m args below meth c s₁ B hml hv
  obtain ⟨rfl, hP, hK, hD⟩ := hv
  have hx := B.exec
  have hb := B.bytes
  have hr := B.returns
  have hts := atoms_spec (ws := wsX0_askForVotes) B.pre
  have hown : s.vm.findClass RX0 = some m.cls := findClass_of_methodNamed B.named
  have hlocks := B.notSynchronized
  have hwX0 : ∀ w ∈ u_ws RX0 TX0 16, w ∈ wsX0_askForVotes := by decide +kernel
  have hf_9 := hts (.fieldLink RX0 9 "CaravanLogs$Caravan" "term" "[I") (by decide +kernel)
  have hf_15 := hts (.fieldLink RX0 15 "CaravanLogs$Caravan" "vote" "[I") (by decide +kernel)
  have hf_18 := hts (.fieldLink RX0 18 "CaravanLogs$Caravan" "isCaptain" "[I") (by decide +kernel)
  have hf_24 := hts (.fieldLink RX0 24 "CaravanLogs$Caravan" "silence" "[I") (by decide +kernel)
  have hf_42 := hts (.fieldLink RX0 42 "CaravanLogs$Caravan" "dusks" "I") (by decide +kernel)
  have hf_46 := hts (.fieldLink RX0 46 "CaravanLogs$Caravan" "captainsMade" "I") (by decide +kernel)
  have t_70 : ∀ {K : KT} {x1 : Int32} {x3 : Int32} {H : Heap} {locs : List Loc} {ls : Array Slot} (h : fX0_askForVotes_70 N  K x1 x3 = some (rr, KK)) (hl : lv_has ls 4 [(0, .ref ob), (1, .int x1), (3, .int x3)]) (hP : va_P (dC, dI) vwCl (cvW cI ob q K) H) (hD : va_D (aL (cvL ob q)) (cvW cI ob q K)) (hS : va_S (aL (cvL ob q)) s.heap H locs), W p l e (headSpec wsX0_askForVotes rmX0_askForVotes).room s m ([.ref ob, .int p0] : List Value).toArray below meth c H locs 0 0 (MQ below (cE (dC, dI) vwCl (cvL ob q) rr (cvW cI ob q KK)) ([.ref ob, .int p0] : List Value).toArray s 0 0 (aL (cvL ob q))) (F0 m 70 ls []) := by
    intro  K x1 x3 H locs ls h hl hP hD hS
    unfold fX0_askForVotes_70 at h
    refine lv_aload_n hx hb dX0_askForVotes_70 rfl (lv_at hl 0 rfl) ?_
    refine lv_iload_n hx hb dX0_askForVotes_71 rfl (lv_at hl 1 rfl) ?_
    refine lv_aload_n hx hb dX0_askForVotes_72 rfl (lv_at hl 0 rfl) ?_
    refine va_get (D := (dC, dI)) (ci := 1) (v := .ref (q 0)) (C := RX0) (T := TX0) (N := 16) hx hb hts hwX0 hown hK hP 0 rfl rfl 0 (by decide) hf_9 (fun _ h9 => h9) rfl dX0_askForVotes_73 ?_
    refine lv_iload_n hx hb dX0_askForVotes_76 rfl (lv_at hl 2 rfl) ?_
    obtain ⟨hi2, v1, ev1, h⟩ := rdA_some h
    refine k_iald hx hb hK hP 1 0 rfl rfl hi2 ev1 dX0_askForVotes_77 ?_
    obtain ⟨v3, K4, hv3, h⟩ := bdE_some h
    refine call_VEv (As := [.int x1, .int v1]) (rest := []) ⟨hx, hb, hml, hown, hts⟩ (tX0_takeTerm (l := l) (dC := dC) (dI := dI) (cI := cI) (ob := ob) (q := q) hv3) (cwV 2 hts gX0_askForVotes_X0_takeTerm rfl rfl rfl (by decide +kernel) ⟨Nat.le_of_ble_eq_true rfl, Nat.le_of_ble_eq_true rfl⟩) hK hP hD hS (fun _ h9 => h9) 0 rfl rfl (by rfl) hl.1 rfl (Nat.le_of_ble_eq_true rfl) dX0_askForVotes_78 ⟨Nat.zero_le _, Nat.zero_le _⟩ (fun H locs hP hD _ hS => ?_)
    refine lv_iconst (v := 0) hx hb dX0_askForVotes_81 (by decide) ?_
    exact W.iret hx hb hr (fun t ht _ => retE (w := cvW cI ob q) h hP hD hS ht) hS.2.2 dX0_askForVotes_82
  have t_146 : ∀ {k38 : KT → Int32 → Int32 → Int32 → Option (Int32 × KT)} (hk38 : ∀ {K : KT} {x1 : Int32} {x2 : Int32} {x3 : Int32} {H : Heap} {locs : List Loc} {ls : Array Slot} (h : k38 K x1 x2 x3 = some (rr, KK)) (hl : lv_has ls 4 [(0, .ref ob), (1, .int x1), (2, .int x2), (3, .int x3)]) (hP : va_P (dC, dI) vwCl (cvW cI ob q K) H) (hD : va_D (aL (cvL ob q)) (cvW cI ob q K)) (hS : va_S (aL (cvL ob q)) s.heap H locs), W p l e (headSpec wsX0_askForVotes rmX0_askForVotes).room s m ([.ref ob, .int p0] : List Value).toArray below meth c H locs 0 0 (MQ below (cE (dC, dI) vwCl (cvL ob q) rr (cvW cI ob q KK)) ([.ref ob, .int p0] : List Value).toArray s 0 0 (aL (cvL ob q))) (F0 m 38 ls [])), ∀ {K : KT} {x1 : Int32} {x2 : Int32} {x3 : Int32} {H : Heap} {locs : List Loc} {ls : Array Slot} (h : fX0_askForVotes_146 N k38 K x1 x2 x3 = some (rr, KK)) (hl : lv_has ls 4 [(0, .ref ob), (1, .int x1), (2, .int x2), (3, .int x3)]) (hP : va_P (dC, dI) vwCl (cvW cI ob q K) H) (hD : va_D (aL (cvL ob q)) (cvW cI ob q K)) (hS : va_S (aL (cvL ob q)) s.heap H locs), W p l e (headSpec wsX0_askForVotes rmX0_askForVotes).room s m ([.ref ob, .int p0] : List Value).toArray below meth c H locs 0 0 (MQ below (cE (dC, dI) vwCl (cvL ob q) rr (cvW cI ob q KK)) ([.ref ob, .int p0] : List Value).toArray s 0 0 (aL (cvL ob q))) (F0 m 146 ls []) := by
    intro k38 hk38 K x1 x2 x3 H locs ls h hl hP hD hS
    unfold fX0_askForVotes_146 at h
    refine lv_iinc (v := x3 + 1) (lv' := [(3, .int (x3 + 1)), (0, .ref ob), (1, .int x1), (2, .int x2)]) hx hb dX0_askForVotes_146 hl (k := 3) rfl rfl (by decide) rfl (fun ls hl => ?_)
    refine lv_goto (tgt := 38) hx hb dX0_askForVotes_149 (by decide) ?_
    exact hk38 h (lv_sub hl [1, 2, 3, 0] rfl) hP hD hS
  have t_109 : ∀ {k38 : KT → Int32 → Int32 → Int32 → Option (Int32 × KT)} (hk38 : ∀ {K : KT} {x1 : Int32} {x2 : Int32} {x3 : Int32} {H : Heap} {locs : List Loc} {ls : Array Slot} (h : k38 K x1 x2 x3 = some (rr, KK)) (hl : lv_has ls 4 [(0, .ref ob), (1, .int x1), (2, .int x2), (3, .int x3)]) (hP : va_P (dC, dI) vwCl (cvW cI ob q K) H) (hD : va_D (aL (cvL ob q)) (cvW cI ob q K)) (hS : va_S (aL (cvL ob q)) s.heap H locs), W p l e (headSpec wsX0_askForVotes rmX0_askForVotes).room s m ([.ref ob, .int p0] : List Value).toArray below meth c H locs 0 0 (MQ below (cE (dC, dI) vwCl (cvL ob q) rr (cvW cI ob q KK)) ([.ref ob, .int p0] : List Value).toArray s 0 0 (aL (cvL ob q))) (F0 m 38 ls [])), ∀ {K : KT} {x1 : Int32} {x2 : Int32} {x3 : Int32} {H : Heap} {locs : List Loc} {ls : Array Slot} (h : fX0_askForVotes_109 N k38 K x1 x2 x3 = some (rr, KK)) (hl : lv_has ls 4 [(0, .ref ob), (1, .int x1), (2, .int x2), (3, .int x3)]) (hP : va_P (dC, dI) vwCl (cvW cI ob q K) H) (hD : va_D (aL (cvL ob q)) (cvW cI ob q K)) (hS : va_S (aL (cvL ob q)) s.heap H locs), W p l e (headSpec wsX0_askForVotes rmX0_askForVotes).room s m ([.ref ob, .int p0] : List Value).toArray below meth c H locs 0 0 (MQ below (cE (dC, dI) vwCl (cvL ob q) rr (cvW cI ob q KK)) ([.ref ob, .int p0] : List Value).toArray s 0 0 (aL (cvL ob q))) (F0 m 109 ls []) := by
    intro k38 hk38 K x1 x2 x3 H locs ls h hl hP hD hS
    unfold fX0_askForVotes_109 at h
    refine lv_aload_n hx hb dX0_askForVotes_109 rfl (lv_at hl 0 rfl) ?_
    refine va_get (D := (dC, dI)) (ci := 1) (v := .ref (q 1)) (C := RX0) (T := TX0) (N := 16) hx hb hts hwX0 hown hK hP 0 rfl rfl 1 (by decide) hf_15 (fun _ h9 => h9) rfl dX0_askForVotes_110 ?_
    refine lv_iload_n hx hb dX0_askForVotes_113 rfl (lv_at hl 3 rfl) ?_
    obtain ⟨hi6, v5, ev5, h⟩ := rdA_some h
    refine k_iald hx hb hK hP 2 0 rfl rfl hi6 ev5 dX0_askForVotes_114 ?_
    refine lv_bipush (v := (-4)) hx hb dX0_askForVotes_115 (by decide) ?_
    refine lv_icmp_ne (tgt := 146) hx hb dX0_askForVotes_117 (by decide) (fun c7 => ?_) (fun c7 => ?_)
    · replace h := if_n c7 h
      exact t_146 @hk38 h (lv_sub hl [0, 1, 2, 3] rfl) hP hD hS
    · replace h := if_p c7 h
      refine lv_aload_n hx hb dX0_askForVotes_120 rfl (lv_at hl 0 rfl) ?_
      refine lv_iload_n hx hb dX0_askForVotes_121 rfl (lv_at hl 1 rfl) ?_
      refine lv_iload_n hx hb dX0_askForVotes_122 rfl (lv_at hl 3 rfl) ?_
      obtain ⟨v8, hv8, h⟩ := bdP_some h
      refine call_VP (As := [.int x1, .int x3]) (rest := []) ⟨hx, hb, hml, hown, hts⟩ (tX0_isAsFar (l := l) (dC := dC) (dI := dI) (cI := cI) (ob := ob) (q := q) hv8) (cwV 2 hts gX0_askForVotes_X0_isAsFar rfl rfl rfl (by decide +kernel) ⟨Nat.le_of_ble_eq_true rfl, Nat.le_of_ble_eq_true rfl⟩) hK hP 0 rfl rfl (by rfl) hl.1 rfl (Nat.le_of_ble_eq_true rfl) dX0_askForVotes_123 ⟨Nat.zero_le _, Nat.zero_le _⟩ ?_
      refine lv_if_eq (tgt := 146) hx hb dX0_askForVotes_126 (by decide) (fun c9 => ?_) (fun c9 => ?_)
      · replace h := if_p c9 h
        exact t_146 @hk38 h (lv_sub hl [0, 1, 2, 3] rfl) hP hD hS
      · replace h := if_n c9 h
        refine lv_aload_n hx hb dX0_askForVotes_129 rfl (lv_at hl 0 rfl) ?_
        refine va_get (D := (dC, dI)) (ci := 1) (v := .ref (q 1)) (C := RX0) (T := TX0) (N := 16) hx hb hts hwX0 hown hK hP 0 rfl rfl 1 (by decide) hf_15 (fun _ h9 => h9) rfl dX0_askForVotes_130 ?_
        refine lv_iload_n hx hb dX0_askForVotes_133 rfl (lv_at hl 3 rfl) ?_
        refine lv_iload_n hx hb dX0_askForVotes_134 rfl (lv_at hl 1 rfl) ?_
        obtain ⟨hi11, K10, eK10, h⟩ := wrA_some h
        refine va_iast hx hb hK hP hD hS 2 0 rfl rfl hi11 dX0_askForVotes_135 (fun H locs hP hD hS => ?_)
        have hP : va_P (dC, dI) vwCl (cvW cI ob q K10) H := by rw [eK10]; exact hP
        have hD : va_D (aL (cvL ob q)) (cvW cI ob q K10) := by rw [eK10]; exact hD
        refine lv_aload_n hx hb dX0_askForVotes_136 rfl (lv_at hl 0 rfl) ?_
        refine va_get (D := (dC, dI)) (ci := 1) (v := .ref (q 4)) (C := RX0) (T := TX0) (N := 16) hx hb hts hwX0 hown hK hP 0 rfl rfl 4 (by decide) hf_24 (fun _ h9 => h9) rfl dX0_askForVotes_137 ?_
        refine lv_iload_n hx hb dX0_askForVotes_140 rfl (lv_at hl 3 rfl) ?_
        refine lv_iconst (v := 0) hx hb dX0_askForVotes_141 (by decide) ?_
        obtain ⟨hi13, K12, eK12, h⟩ := wrA_some h
        refine va_iast hx hb hK hP hD hS 5 0 rfl rfl hi13 dX0_askForVotes_142 (fun H locs hP hD hS => ?_)
        have hP : va_P (dC, dI) vwCl (cvW cI ob q K12) H := by rw [eK12]; exact hP
        have hD : va_D (aL (cvL ob q)) (cvW cI ob q K12) := by rw [eK12]; exact hD
        refine lv_iinc (v := x2 + 1) (lv' := [(2, .int (x2 + 1)), (0, .ref ob), (1, .int x1), (3, .int x3)]) hx hb dX0_askForVotes_143 hl (k := 2) rfl rfl (by decide) rfl (fun ls hl => ?_)
        exact t_146 @hk38 h (lv_sub hl [1, 2, 0, 3] rfl) hP hD hS
  have t_174 : ∀ {K : KT} {x2 : Int32} {H : Heap} {locs : List Loc} {ls : Array Slot} (h : fX0_askForVotes_174 N  K x2 = some (rr, KK)) (hl : lv_has ls 4 [(2, .int x2)]) (hP : va_P (dC, dI) vwCl (cvW cI ob q K) H) (hD : va_D (aL (cvL ob q)) (cvW cI ob q K)) (hS : va_S (aL (cvL ob q)) s.heap H locs), W p l e (headSpec wsX0_askForVotes rmX0_askForVotes).room s m ([.ref ob, .int p0] : List Value).toArray below meth c H locs 0 0 (MQ below (cE (dC, dI) vwCl (cvL ob q) rr (cvW cI ob q KK)) ([.ref ob, .int p0] : List Value).toArray s 0 0 (aL (cvL ob q))) (F0 m 174 ls []) := by
    intro  K x2 H locs ls h hl hP hD hS
    unfold fX0_askForVotes_174 at h
    refine lv_iload_n hx hb dX0_askForVotes_174 rfl (lv_at hl 0 rfl) ?_
    exact W.iret hx hb hr (fun t ht _ => retE (w := cvW cI ob q) h hP hD hS ht) hS.2.2 dX0_askForVotes_175
  have t_152 : ∀ {K : KT} {x1 : Int32} {x2 : Int32} {H : Heap} {locs : List Loc} {ls : Array Slot} (h : fX0_askForVotes_152 N  K x1 x2 = some (rr, KK)) (hl : lv_has ls 4 [(0, .ref ob), (1, .int x1), (2, .int x2)]) (hP : va_P (dC, dI) vwCl (cvW cI ob q K) H) (hD : va_D (aL (cvL ob q)) (cvW cI ob q K)) (hS : va_S (aL (cvL ob q)) s.heap H locs), W p l e (headSpec wsX0_askForVotes rmX0_askForVotes).room s m ([.ref ob, .int p0] : List Value).toArray below meth c H locs 0 0 (MQ below (cE (dC, dI) vwCl (cvL ob q) rr (cvW cI ob q KK)) ([.ref ob, .int p0] : List Value).toArray s 0 0 (aL (cvL ob q))) (F0 m 152 ls []) := by
    intro  K x1 x2 H locs ls h hl hP hD hS
    unfold fX0_askForVotes_152 at h
    refine lv_iload_n hx hb dX0_askForVotes_152 rfl (lv_at hl 2 rfl) ?_
    refine lv_iconst (v := 3) hx hb dX0_askForVotes_153 (by decide) ?_
    refine lv_icmp_lt (tgt := 174) hx hb dX0_askForVotes_154 (by decide) (fun c14 => ?_) (fun c14 => ?_)
    · replace h := if_p c14 h
      exact t_174  h (lv_sub hl [2] rfl) hP hD hS
    · replace h := if_n c14 h
      refine lv_aload_n hx hb dX0_askForVotes_157 rfl (lv_at hl 0 rfl) ?_
      refine va_get (D := (dC, dI)) (ci := 1) (v := .ref (q 2)) (C := RX0) (T := TX0) (N := 16) hx hb hts hwX0 hown hK hP 0 rfl rfl 2 (by decide) hf_18 (fun _ h9 => h9) rfl dX0_askForVotes_158 ?_
      refine lv_iload_n hx hb dX0_askForVotes_161 rfl (lv_at hl 1 rfl) ?_
      refine lv_iconst (v := 1) hx hb dX0_askForVotes_162 (by decide) ?_
      obtain ⟨hi16, K15, eK15, h⟩ := wrA_some h
      refine va_iast hx hb hK hP hD hS 3 0 rfl rfl hi16 dX0_askForVotes_163 (fun H locs hP hD hS => ?_)
      have hP : va_P (dC, dI) vwCl (cvW cI ob q K15) H := by rw [eK15]; exact hP
      have hD : va_D (aL (cvL ob q)) (cvW cI ob q K15) := by rw [eK15]; exact hD
      refine lv_aload_n hx hb dX0_askForVotes_164 rfl (lv_at hl 0 rfl) ?_
      refine lv_dup hx hb dX0_askForVotes_165 rfl ?_
      refine va_get (D := (dC, dI)) (ci := 1) (v := .int (K15 10 1)) (C := RX0) (T := TX0) (N := 16) hx hb hts hwX0 hown hK hP 0 rfl rfl 11 (by decide) hf_46 (fun _ h9 => h9) rfl dX0_askForVotes_166 ?_
      refine lv_iconst (v := 1) hx hb dX0_askForVotes_169 (by decide) ?_
      refine lv_iadd hx hb dX0_askForVotes_170 ?_
      obtain ⟨K17, eK17, h⟩ := ptF_some h
      refine va_put (D := (dC, dI)) (ci := 1) (v := .int ((K15 10 1) + 1)) (ty := .int) (C := RX0) (T := TX0) (N := 16) hx hb hts hwX0 tyX0 tyX0_ok nmX0 hown hK hP hD hS 0 rfl rfl 11 (by decide) hf_46 (fun _ h9 => h9) rfl (by decide +kernel) rfl rfl (Nat.le_of_ble_eq_true rfl) dX0_askForVotes_171 (fun H locs hP hD hS => ?_)
      have hP : va_P (dC, dI) vwCl (cvW cI ob q K17) H := by rw [eK17]; exact hP
      have hD : va_D (aL (cvL ob q)) (cvW cI ob q K17) := by rw [eK17]; exact hD
      exact t_174  h (lv_sub hl [2] rfl) hP hD hS
  have t_38 : ∀ {n : Nat}, ∀ {K : KT} {x1 : Int32} {x2 : Int32} {x3 : Int32} {H : Heap} {locs : List Loc} {ls : Array Slot} (h : fX0_askForVotes_38 N  n K x1 x2 x3 = some (rr, KK)) (hl : lv_has ls 4 [(0, .ref ob), (1, .int x1), (2, .int x2), (3, .int x3)]) (hP : va_P (dC, dI) vwCl (cvW cI ob q K) H) (hD : va_D (aL (cvL ob q)) (cvW cI ob q K)) (hS : va_S (aL (cvL ob q)) s.heap H locs), W p l e (headSpec wsX0_askForVotes rmX0_askForVotes).room s m ([.ref ob, .int p0] : List Value).toArray below meth c H locs 0 0 (MQ below (cE (dC, dI) vwCl (cvL ob q) rr (cvW cI ob q KK)) ([.ref ob, .int p0] : List Value).toArray s 0 0 (aL (cvL ob q))) (F0 m 38 ls []) := by
    intro  n
    induction n with
    | zero =>
      intro K x1 x2 x3 H locs ls h hl hP hD hS
      unfold fX0_askForVotes_38 at h
      cases h
    | succ n ih =>
      intro K x1 x2 x3 H locs ls h hl hP hD hS
      unfold fX0_askForVotes_38 at h
      refine lv_iload_n hx hb dX0_askForVotes_38 rfl (lv_at hl 3 rfl) ?_
      refine lv_iconst (v := 5) hx hb dX0_askForVotes_39 (by decide) ?_
      refine lv_icmp_ge (tgt := 152) hx hb dX0_askForVotes_40 (by decide) (fun c18 => ?_) (fun c18 => ?_)
      · replace h := if_p c18 h
        exact t_152  h (lv_sub hl [0, 1, 2] rfl) hP hD hS
      · replace h := if_n c18 h
        refine lv_aload_n hx hb dX0_askForVotes_43 rfl (lv_at hl 0 rfl) ?_
        refine lv_iload_n hx hb dX0_askForVotes_44 rfl (lv_at hl 1 rfl) ?_
        refine lv_iload_n hx hb dX0_askForVotes_45 rfl (lv_at hl 3 rfl) ?_
        obtain ⟨v19, hv19, h⟩ := bdP_some h
        refine call_VP (As := [.int x1, .int x3]) (rest := []) ⟨hx, hb, hml, hown, hts⟩ (tX0_isReached (l := l) (dC := dC) (dI := dI) (cI := cI) (ob := ob) (q := q) hv19) (cwV 2 hts gX0_askForVotes_X0_isReached rfl rfl rfl (by decide +kernel) ⟨Nat.le_of_ble_eq_true rfl, Nat.le_of_ble_eq_true rfl⟩) hK hP 0 rfl rfl (by rfl) hl.1 rfl (Nat.le_of_ble_eq_true rfl) dX0_askForVotes_46 ⟨Nat.zero_le _, Nat.zero_le _⟩ ?_
        refine lv_if_ne (tgt := 55) hx hb dX0_askForVotes_49 (by decide) (fun c20 => ?_) (fun c20 => ?_)
        · replace h := if_n c20 h
          refine lv_aload_n hx hb dX0_askForVotes_55 rfl (lv_at hl 0 rfl) ?_
          refine va_get (D := (dC, dI)) (ci := 1) (v := .ref (q 0)) (C := RX0) (T := TX0) (N := 16) hx hb hts hwX0 hown hK hP 0 rfl rfl 0 (by decide) hf_9 (fun _ h9 => h9) rfl dX0_askForVotes_56 ?_
          refine lv_iload_n hx hb dX0_askForVotes_59 rfl (lv_at hl 3 rfl) ?_
          obtain ⟨hi22, v21, ev21, h⟩ := rdA_some h
          refine k_iald hx hb hK hP 1 0 rfl rfl hi22 ev21 dX0_askForVotes_60 ?_
          refine lv_aload_n hx hb dX0_askForVotes_61 rfl (lv_at hl 0 rfl) ?_
          refine va_get (D := (dC, dI)) (ci := 1) (v := .ref (q 0)) (C := RX0) (T := TX0) (N := 16) hx hb hts hwX0 hown hK hP 0 rfl rfl 0 (by decide) hf_9 (fun _ h9 => h9) rfl dX0_askForVotes_62 ?_
          refine lv_iload_n hx hb dX0_askForVotes_65 rfl (lv_at hl 1 rfl) ?_
          obtain ⟨hi24, v23, ev23, h⟩ := rdA_some h
          refine k_iald hx hb hK hP 1 0 rfl rfl hi24 ev23 dX0_askForVotes_66 ?_
          refine lv_icmp_le (tgt := 83) hx hb dX0_askForVotes_67 (by decide) (fun c25 => ?_) (fun c25 => ?_)
          · replace h := if_p c25 h
            refine lv_aload_n hx hb dX0_askForVotes_83 rfl (lv_at hl 0 rfl) ?_
            refine va_get (D := (dC, dI)) (ci := 1) (v := .ref (q 0)) (C := RX0) (T := TX0) (N := 16) hx hb hts hwX0 hown hK hP 0 rfl rfl 0 (by decide) hf_9 (fun _ h9 => h9) rfl dX0_askForVotes_84 ?_
            refine lv_iload_n hx hb dX0_askForVotes_87 rfl (lv_at hl 3 rfl) ?_
            obtain ⟨hi27, v26, ev26, h⟩ := rdA_some h
            refine k_iald hx hb hK hP 1 0 rfl rfl hi27 ev26 dX0_askForVotes_88 ?_
            refine lv_aload_n hx hb dX0_askForVotes_89 rfl (lv_at hl 0 rfl) ?_
            refine va_get (D := (dC, dI)) (ci := 1) (v := .ref (q 0)) (C := RX0) (T := TX0) (N := 16) hx hb hts hwX0 hown hK hP 0 rfl rfl 0 (by decide) hf_9 (fun _ h9 => h9) rfl dX0_askForVotes_90 ?_
            refine lv_iload_n hx hb dX0_askForVotes_93 rfl (lv_at hl 1 rfl) ?_
            obtain ⟨hi29, v28, ev28, h⟩ := rdA_some h
            refine k_iald hx hb hK hP 1 0 rfl rfl hi29 ev28 dX0_askForVotes_94 ?_
            refine lv_icmp_ge (tgt := 109) hx hb dX0_askForVotes_95 (by decide) (fun c30 => ?_) (fun c30 => ?_)
            · replace h := if_p c30 h
              exact t_109 @ih h (lv_sub hl [0, 1, 2, 3] rfl) hP hD hS
            · replace h := if_n c30 h
              refine lv_aload_n hx hb dX0_askForVotes_98 rfl (lv_at hl 0 rfl) ?_
              refine lv_iload_n hx hb dX0_askForVotes_99 rfl (lv_at hl 3 rfl) ?_
              refine lv_aload_n hx hb dX0_askForVotes_100 rfl (lv_at hl 0 rfl) ?_
              refine va_get (D := (dC, dI)) (ci := 1) (v := .ref (q 0)) (C := RX0) (T := TX0) (N := 16) hx hb hts hwX0 hown hK hP 0 rfl rfl 0 (by decide) hf_9 (fun _ h9 => h9) rfl dX0_askForVotes_101 ?_
              refine lv_iload_n hx hb dX0_askForVotes_104 rfl (lv_at hl 1 rfl) ?_
              obtain ⟨hi32, v31, ev31, h⟩ := rdA_some h
              refine k_iald hx hb hK hP 1 0 rfl rfl hi32 ev31 dX0_askForVotes_105 ?_
              obtain ⟨v33, K34, hv33, h⟩ := bdE_some h
              refine call_VEv (As := [.int x3, .int v31]) (rest := []) ⟨hx, hb, hml, hown, hts⟩ (tX0_takeTerm (l := l) (dC := dC) (dI := dI) (cI := cI) (ob := ob) (q := q) hv33) (cwV 2 hts gX0_askForVotes_X0_takeTerm rfl rfl rfl (by decide +kernel) ⟨Nat.le_of_ble_eq_true rfl, Nat.le_of_ble_eq_true rfl⟩) hK hP hD hS (fun _ h9 => h9) 0 rfl rfl (by rfl) hl.1 rfl (Nat.le_of_ble_eq_true rfl) dX0_askForVotes_106 ⟨Nat.zero_le _, Nat.zero_le _⟩ (fun H locs hP hD _ hS => ?_)
              exact t_109 @ih h (lv_sub hl [0, 1, 2, 3] rfl) hP hD hS
          · replace h := if_n c25 h
            exact t_70  h (lv_sub hl [0, 1, 3] rfl) hP hD hS
        · replace h := if_p c20 h
          refine lv_goto (tgt := 146) hx hb dX0_askForVotes_52 (by decide) ?_
          exact t_146 @ih h (lv_sub hl [0, 1, 2, 3] rfl) hP hD hS
  have hS : va_S (aL (cvL ob q)) s.heap s.heap [] := va_S.rf
  have hl := lv_entry ([.ref ob, .int p0]) (n := 4) (Nat.le_of_ble_eq_true rfl)
  rw [lg_entry_eq]
  generalize (lg_sl ([.ref ob, .int p0]) ++ List.replicate (4 - (lg_sl ([.ref ob, .int p0])).length) Slot.unset).toArray = ls at hl ⊢
  have hl : lv_has ls 4 [(0, .ref ob), (1, .int p0)] := hl
  have h := hf
  unfold mX0_askForVotes at h
  refine lv_aload_n hx hb dX0_askForVotes_0 rfl (lv_at hl 0 rfl) ?_
  refine lv_dup hx hb dX0_askForVotes_1 rfl ?_
  refine va_get (D := (dC, dI)) (ci := 1) (v := .int (K 10 0)) (C := RX0) (T := TX0) (N := 16) hx hb hts hwX0 hown hK hP 0 rfl rfl 10 (by decide) hf_42 (fun _ h9 => h9) rfl dX0_askForVotes_2 ?_
  refine lv_iconst (v := 1) hx hb dX0_askForVotes_5 (by decide) ?_
  refine lv_iadd hx hb dX0_askForVotes_6 ?_
  obtain ⟨K35, eK35, h⟩ := ptF_some h
  refine va_put (D := (dC, dI)) (ci := 1) (v := .int ((K 10 0) + 1)) (ty := .int) (C := RX0) (T := TX0) (N := 16) hx hb hts hwX0 tyX0 tyX0_ok nmX0 hown hK hP hD hS 0 rfl rfl 10 (by decide) hf_42 (fun _ h9 => h9) rfl (by decide +kernel) rfl rfl (Nat.le_of_ble_eq_true rfl) dX0_askForVotes_7 (fun H locs hP hD hS => ?_)
  have hP : va_P (dC, dI) vwCl (cvW cI ob q K35) H := by rw [eK35]; exact hP
  have hD : va_D (aL (cvL ob q)) (cvW cI ob q K35) := by rw [eK35]; exact hD
  refine lv_aload_n hx hb dX0_askForVotes_10 rfl (lv_at hl 0 rfl) ?_
  refine va_get (D := (dC, dI)) (ci := 1) (v := .ref (q 0)) (C := RX0) (T := TX0) (N := 16) hx hb hts hwX0 hown hK hP 0 rfl rfl 0 (by decide) hf_9 (fun _ h9 => h9) rfl dX0_askForVotes_11 ?_
  refine lv_iload_n hx hb dX0_askForVotes_14 rfl (lv_at hl 1 rfl) ?_
  refine lv_dup2_11 hx hb dX0_askForVotes_15 rfl rfl ?_
  obtain ⟨hi37, v36, ev36, h⟩ := rdA_some h
  refine k_iald hx hb hK hP 1 0 rfl rfl hi37 ev36 dX0_askForVotes_16 ?_
  refine lv_iconst (v := 1) hx hb dX0_askForVotes_17 (by decide) ?_
  refine lv_iadd hx hb dX0_askForVotes_18 ?_
  obtain ⟨hi39, K38, eK38, h⟩ := wrA_some h
  refine va_iast hx hb hK hP hD hS 1 0 rfl rfl hi39 dX0_askForVotes_19 (fun H locs hP hD hS => ?_)
  have hP : va_P (dC, dI) vwCl (cvW cI ob q K38) H := by rw [eK38]; exact hP
  have hD : va_D (aL (cvL ob q)) (cvW cI ob q K38) := by rw [eK38]; exact hD
  refine lv_aload_n hx hb dX0_askForVotes_20 rfl (lv_at hl 0 rfl) ?_
  refine va_get (D := (dC, dI)) (ci := 1) (v := .ref (q 1)) (C := RX0) (T := TX0) (N := 16) hx hb hts hwX0 hown hK hP 0 rfl rfl 1 (by decide) hf_15 (fun _ h9 => h9) rfl dX0_askForVotes_21 ?_
  refine lv_iload_n hx hb dX0_askForVotes_24 rfl (lv_at hl 1 rfl) ?_
  refine lv_iload_n hx hb dX0_askForVotes_25 rfl (lv_at hl 1 rfl) ?_
  obtain ⟨hi41, K40, eK40, h⟩ := wrA_some h
  refine va_iast hx hb hK hP hD hS 2 0 rfl rfl hi41 dX0_askForVotes_26 (fun H locs hP hD hS => ?_)
  have hP : va_P (dC, dI) vwCl (cvW cI ob q K40) H := by rw [eK40]; exact hP
  have hD : va_D (aL (cvL ob q)) (cvW cI ob q K40) := by rw [eK40]; exact hD
  refine lv_aload_n hx hb dX0_askForVotes_27 rfl (lv_at hl 0 rfl) ?_
  refine va_get (D := (dC, dI)) (ci := 1) (v := .ref (q 4)) (C := RX0) (T := TX0) (N := 16) hx hb hts hwX0 hown hK hP 0 rfl rfl 4 (by decide) hf_24 (fun _ h9 => h9) rfl dX0_askForVotes_28 ?_
  refine lv_iload_n hx hb dX0_askForVotes_31 rfl (lv_at hl 1 rfl) ?_
  refine lv_iconst (v := 0) hx hb dX0_askForVotes_32 (by decide) ?_
  obtain ⟨hi43, K42, eK42, h⟩ := wrA_some h
  refine va_iast hx hb hK hP hD hS 5 0 rfl rfl hi43 dX0_askForVotes_33 (fun H locs hP hD hS => ?_)
  have hP : va_P (dC, dI) vwCl (cvW cI ob q K42) H := by rw [eK42]; exact hP
  have hD : va_D (aL (cvL ob q)) (cvW cI ob q K42) := by rw [eK42]; exact hD
  refine lv_iconst (v := 1) hx hb dX0_askForVotes_34 (by decide) ?_
  refine lv_istore_n (lv' := [(2, .int 1), (0, .ref ob), (1, .int p0)]) hx hb dX0_askForVotes_35 rfl hl (by decide) rfl (fun ls hl => ?_)
  refine lv_iconst (v := 0) hx hb dX0_askForVotes_36 (by decide) ?_
  refine lv_istore_n (lv' := [(3, .int 0), (2, .int 1), (0, .ref ob), (1, .int p0)]) hx hb dX0_askForVotes_37 rfl hl (by decide) rfl (fun ls hl => ?_)
  exact t_38  h (lv_sub hl [2, 3, 1, 0] rfl) hP hD hS
def mX0_addPage (N : Nat) (K : KT) (p0 : Int32) (p1 : Int32) : Option (Int32 × KT) := rdA (K 5) 5 p0 (fun v1 => rdA (K 0) 5 p0 (fun v3 => wrA K 7 60 ((p0 * 12) + v1) v3 (fun K5 => wrA K5 8 60 ((p0 * 12) + v1) p1 (fun K7 => rdA (K7 5) 5 p0 (fun v9 => wrA K7 5 5 p0 (v9 + 1) (fun K11 => ptF K11 10 2 ((K11 10 2) + 1) (fun K13 => rdA (K13 5) 5 p0 (fun v14 => some (v14, K13)))))))))
def rmX0_addPage : Room := { frames := 1, cells := 0, slots := 0, locals := 40 }
set_option maxHeartbeats 4000000 in
set_option maxRecDepth 100000 in
theorem tX0_addPage {l : Launch} {dC : Nat → ClassId} {dI : Nat → Nat → Nat} {cI : ClassId} {ob : Nat} {q : Nat → Nat} {N : Nat} {K : KT} {p0 : Int32} {p1 : Int32} {rr : Int32} {KK : KT} (hf : mX0_addPage N K p0 p1 = some (rr, KK)) : Met l yX0_addPage wsX0_addPage rmX0_addPage (cPe (dC, dI) vwCl [(cI, .int)] (cvL ob q) (cvW cI ob q K) [.ref ob, .int p0, .int p1]) (cE (dC, dI) vwCl (cvL ob q) rr (cvW cI ob q KK)) 0 0 (aL (cvL ob q)) := by
  refine Met.ofW (cc := cX0_addPage) (maxL := 4) (ret := (some .int)) (by decide) rfl ?_
  intro p e s m args below meth c s₁ B hml hv
  obtain ⟨rfl, hP, hK, hD⟩ := hv
  have hx := B.exec
  have hb := B.bytes
  have hr := B.returns
  have hts := atoms_spec (ws := wsX0_addPage) B.pre
  have hown : s.vm.findClass RX0 = some m.cls := findClass_of_methodNamed B.named
  have hlocks := B.notSynchronized
  have hwX0 : ∀ w ∈ u_ws RX0 TX0 16, w ∈ wsX0_addPage := by decide +kernel
  have hf_9 := hts (.fieldLink RX0 9 "CaravanLogs$Caravan" "term" "[I") (by decide +kernel)
  have hf_27 := hts (.fieldLink RX0 27 "CaravanLogs$Caravan" "pages" "[I") (by decide +kernel)
  have hf_33 := hts (.fieldLink RX0 33 "CaravanLogs$Caravan" "pageTerm" "[I") (by decide +kernel)
  have hf_36 := hts (.fieldLink RX0 36 "CaravanLogs$Caravan" "pageLetter" "[I") (by decide +kernel)
  have hf_49 := hts (.fieldLink RX0 49 "CaravanLogs$Caravan" "pagesWritten" "I") (by decide +kernel)
  have hS : va_S (aL (cvL ob q)) s.heap s.heap [] := va_S.rf
  have hl := lv_entry ([.ref ob, .int p0, .int p1]) (n := 4) (Nat.le_of_ble_eq_true rfl)
  rw [lg_entry_eq]
  generalize (lg_sl ([.ref ob, .int p0, .int p1]) ++ List.replicate (4 - (lg_sl ([.ref ob, .int p0, .int p1])).length) Slot.unset).toArray = ls at hl ⊢
  have hl : lv_has ls 4 [(0, .ref ob), (1, .int p0), (2, .int p1)] := hl
  have h := hf
  unfold mX0_addPage at h
  refine lv_iload_n hx hb dX0_addPage_0 rfl (lv_at hl 1 rfl) ?_
  refine lv_bipush (v := 12) hx hb dX0_addPage_1 (by decide) ?_
  refine lv_imul hx hb dX0_addPage_3 ?_
  refine lv_aload_n hx hb dX0_addPage_4 rfl (lv_at hl 0 rfl) ?_
  refine va_get (D := (dC, dI)) (ci := 1) (v := .ref (q 5)) (C := RX0) (T := TX0) (N := 16) hx hb hts hwX0 hown hK hP 0 rfl rfl 5 (by decide) hf_27 (fun _ h9 => h9) rfl dX0_addPage_5 ?_
  refine lv_iload_n hx hb dX0_addPage_8 rfl (lv_at hl 1 rfl) ?_
  obtain ⟨hi2, v1, ev1, h⟩ := rdA_some h
  refine k_iald hx hb hK hP 6 0 rfl rfl hi2 ev1 dX0_addPage_9 ?_
  refine lv_iadd hx hb dX0_addPage_10 ?_
  refine lv_istore_n (lv' := [(3, .int ((p0 * 12) + v1)), (0, .ref ob), (1, .int p0), (2, .int p1)]) hx hb dX0_addPage_11 rfl hl (by decide) rfl (fun ls hl => ?_)
  refine lv_aload_n hx hb dX0_addPage_12 rfl (lv_at hl 1 rfl) ?_
  refine va_get (D := (dC, dI)) (ci := 1) (v := .ref (q 7)) (C := RX0) (T := TX0) (N := 16) hx hb hts hwX0 hown hK hP 0 rfl rfl 7 (by decide) hf_33 (fun _ h9 => h9) rfl dX0_addPage_13 ?_
  refine lv_iload_n hx hb dX0_addPage_16 rfl (lv_at hl 0 rfl) ?_
  refine lv_aload_n hx hb dX0_addPage_17 rfl (lv_at hl 1 rfl) ?_
  refine va_get (D := (dC, dI)) (ci := 1) (v := .ref (q 0)) (C := RX0) (T := TX0) (N := 16) hx hb hts hwX0 hown hK hP 0 rfl rfl 0 (by decide) hf_9 (fun _ h9 => h9) rfl dX0_addPage_18 ?_
  refine lv_iload_n hx hb dX0_addPage_21 rfl (lv_at hl 2 rfl) ?_
  obtain ⟨hi4, v3, ev3, h⟩ := rdA_some h
  refine k_iald hx hb hK hP 1 0 rfl rfl hi4 ev3 dX0_addPage_22 ?_
  obtain ⟨hi6, K5, eK5, h⟩ := wrA_some h
  refine va_iast hx hb hK hP hD hS 8 0 rfl rfl hi6 dX0_addPage_23 (fun H locs hP hD hS => ?_)
  have hP : va_P (dC, dI) vwCl (cvW cI ob q K5) H := by rw [eK5]; exact hP
  have hD : va_D (aL (cvL ob q)) (cvW cI ob q K5) := by rw [eK5]; exact hD
  refine lv_aload_n hx hb dX0_addPage_24 rfl (lv_at hl 1 rfl) ?_
  refine va_get (D := (dC, dI)) (ci := 1) (v := .ref (q 8)) (C := RX0) (T := TX0) (N := 16) hx hb hts hwX0 hown hK hP 0 rfl rfl 8 (by decide) hf_36 (fun _ h9 => h9) rfl dX0_addPage_25 ?_
  refine lv_iload_n hx hb dX0_addPage_28 rfl (lv_at hl 0 rfl) ?_
  refine lv_iload_n hx hb dX0_addPage_29 rfl (lv_at hl 3 rfl) ?_
  obtain ⟨hi8, K7, eK7, h⟩ := wrA_some h
  refine va_iast hx hb hK hP hD hS 9 0 rfl rfl hi8 dX0_addPage_30 (fun H locs hP hD hS => ?_)
  have hP : va_P (dC, dI) vwCl (cvW cI ob q K7) H := by rw [eK7]; exact hP
  have hD : va_D (aL (cvL ob q)) (cvW cI ob q K7) := by rw [eK7]; exact hD
  refine lv_aload_n hx hb dX0_addPage_31 rfl (lv_at hl 1 rfl) ?_
  refine va_get (D := (dC, dI)) (ci := 1) (v := .ref (q 5)) (C := RX0) (T := TX0) (N := 16) hx hb hts hwX0 hown hK hP 0 rfl rfl 5 (by decide) hf_27 (fun _ h9 => h9) rfl dX0_addPage_32 ?_
  refine lv_iload_n hx hb dX0_addPage_35 rfl (lv_at hl 2 rfl) ?_
  refine lv_dup2_11 hx hb dX0_addPage_36 rfl rfl ?_
  obtain ⟨hi10, v9, ev9, h⟩ := rdA_some h
  refine k_iald hx hb hK hP 6 0 rfl rfl hi10 ev9 dX0_addPage_37 ?_
  refine lv_iconst (v := 1) hx hb dX0_addPage_38 (by decide) ?_
  refine lv_iadd hx hb dX0_addPage_39 ?_
  obtain ⟨hi12, K11, eK11, h⟩ := wrA_some h
  refine va_iast hx hb hK hP hD hS 6 0 rfl rfl hi12 dX0_addPage_40 (fun H locs hP hD hS => ?_)
  have hP : va_P (dC, dI) vwCl (cvW cI ob q K11) H := by rw [eK11]; exact hP
  have hD : va_D (aL (cvL ob q)) (cvW cI ob q K11) := by rw [eK11]; exact hD
  refine lv_aload_n hx hb dX0_addPage_41 rfl (lv_at hl 1 rfl) ?_
  refine lv_dup hx hb dX0_addPage_42 rfl ?_
  refine va_get (D := (dC, dI)) (ci := 1) (v := .int (K11 10 2)) (C := RX0) (T := TX0) (N := 16) hx hb hts hwX0 hown hK hP 0 rfl rfl 12 (by decide) hf_49 (fun _ h9 => h9) rfl dX0_addPage_43 ?_
  refine lv_iconst (v := 1) hx hb dX0_addPage_46 (by decide) ?_
  refine lv_iadd hx hb dX0_addPage_47 ?_
  obtain ⟨K13, eK13, h⟩ := ptF_some h
  refine va_put (D := (dC, dI)) (ci := 1) (v := .int ((K11 10 2) + 1)) (ty := .int) (C := RX0) (T := TX0) (N := 16) hx hb hts hwX0 tyX0 tyX0_ok nmX0 hown hK hP hD hS 0 rfl rfl 12 (by decide) hf_49 (fun _ h9 => h9) rfl (by decide +kernel) rfl rfl (Nat.le_of_ble_eq_true rfl) dX0_addPage_48 (fun H locs hP hD hS => ?_)
  have hP : va_P (dC, dI) vwCl (cvW cI ob q K13) H := by rw [eK13]; exact hP
  have hD : va_D (aL (cvL ob q)) (cvW cI ob q K13) := by rw [eK13]; exact hD
  refine lv_aload_n hx hb dX0_addPage_51 rfl (lv_at hl 1 rfl) ?_
  refine va_get (D := (dC, dI)) (ci := 1) (v := .ref (q 5)) (C := RX0) (T := TX0) (N := 16) hx hb hts hwX0 hown hK hP 0 rfl rfl 5 (by decide) hf_27 (fun _ h9 => h9) rfl dX0_addPage_52 ?_
  refine lv_iload_n hx hb dX0_addPage_55 rfl (lv_at hl 2 rfl) ?_
  obtain ⟨hi15, v14, ev14, h⟩ := rdA_some h
  refine k_iald hx hb hK hP 6 0 rfl rfl hi15 ev14 dX0_addPage_56 ?_
  exact W.iret hx hb hr (fun t ht _ => retE (w := cvW cI ob q) h hP hD hS ht) hS.2.2 dX0_addPage_57
def fX0_pagesAlike_92 (N : Nat) (K : KT)  (x4 : Int32) : Option Int32 := some x4
def fX0_pagesAlike_34 (N : Nat) (K : KT)  : Nat → Int32 → Int32 → Int32 → Int32 → Option Int32
  | 0, _, _, _, _ => none
  | n + 1, x1, x2, x3, x4 => (if x3 ≤ x4 then some x3 else rdA (K 7) 60 ((x1 * 12) + x4) (fun v2 => rdA (K 7) 60 ((x2 * 12) + x4) (fun v4 => (if v2 = v4 then rdA (K 8) 60 ((x1 * 12) + x4) (fun v7 => rdA (K 8) 60 ((x2 * 12) + x4) (fun v9 => (if v7 = v9 then (fX0_pagesAlike_34 N K  n) x1 x2 x3 (x4 + 1) else fX0_pagesAlike_92 N K  x4))) else fX0_pagesAlike_92 N K  x4))))
def fX0_pagesAlike_30 (N : Nat) (K : KT)  (x1 : Int32) (x2 : Int32) (y0 : Int32) : Option Int32 := fX0_pagesAlike_34 N K  N x1 x2 y0 0
def mX0_pagesAlike (N : Nat) (K : KT) (p0 : Int32) (p1 : Int32) : Option Int32 := rdA (K 5) 5 p0 (fun v12 => rdA (K 5) 5 p1 (fun v14 => (if v14 ≤ v12 then rdA (K 5) 5 p1 (fun v17 => fX0_pagesAlike_30 N K  p0 p1 v17) else rdA (K 5) 5 p0 (fun v19 => fX0_pagesAlike_30 N K  p0 p1 v19))))
def rmX0_pagesAlike : Room := { frames := 1, cells := 0, slots := 0, locals := 40 }
set_option maxHeartbeats 4000000 in
set_option maxRecDepth 100000 in
theorem tX0_pagesAlike {l : Launch} {dC : Nat → ClassId} {dI : Nat → Nat → Nat} {cI : ClassId} {ob : Nat} {q : Nat → Nat} {N : Nat} {K : KT} {p0 : Int32} {p1 : Int32} {rr : Int32} (hf : mX0_pagesAlike N K p0 p1 = some rr) : Met l yX0_pagesAlike wsX0_pagesAlike rmX0_pagesAlike (cP (dC, dI) vwCl [(cI, .int)] (cvW cI ob q K) [.ref ob, .int p0, .int p1]) (cQp rr) 0 0 (fun _ => False) := by
  refine Met.ofW (cc := cX0_pagesAlike) (maxL := 7) (ret := (some .int)) (by decide) rfl ?_
  intro p e s m args below meth c s₁ B hml hv
  obtain ⟨rfl, hP, hK⟩ := hv
  have hx := B.exec
  have hb := B.bytes
  have hr := B.returns
  have hts := atoms_spec (ws := wsX0_pagesAlike) B.pre
  have hown : s.vm.findClass RX0 = some m.cls := findClass_of_methodNamed B.named
  have hlocks := B.notSynchronized
  have hwX0 : ∀ w ∈ u_ws RX0 TX0 16, w ∈ wsX0_pagesAlike := by decide +kernel
  have hf_27 := hts (.fieldLink RX0 27 "CaravanLogs$Caravan" "pages" "[I") (by decide +kernel)
  have hf_33 := hts (.fieldLink RX0 33 "CaravanLogs$Caravan" "pageTerm" "[I") (by decide +kernel)
  have hf_36 := hts (.fieldLink RX0 36 "CaravanLogs$Caravan" "pageLetter" "[I") (by decide +kernel)
  have t_92 : ∀ {x4 : Int32} {ls : Array Slot} (h : fX0_pagesAlike_92 N K  x4 = some rr) (hl : lv_has ls 7 [(4, .int x4)]), W p l e (headSpec wsX0_pagesAlike rmX0_pagesAlike).room s m ([.ref ob, .int p0, .int p1] : List Value).toArray below meth c s.heap [] 0 0 (MQ below (cQp rr) ([.ref ob, .int p0, .int p1] : List Value).toArray s 0 0 (fun _ => False)) (F0 m 92 ls []) := by
    intro  x4 ls h hl
    unfold fX0_pagesAlike_92 at h
    refine lv_iload hx hb dX0_pagesAlike_92 (lv_at hl 0 rfl) ?_
    exact W.iret hx hb hr (fun t ht _ => retP h ht) (fun _ h9 => absurd h9 List.not_mem_nil) dX0_pagesAlike_94
  have t_34 : ∀ {n : Nat}, ∀ {x1 : Int32} {x2 : Int32} {x3 : Int32} {x4 : Int32} {ls : Array Slot} (h : fX0_pagesAlike_34 N K  n x1 x2 x3 x4 = some rr) (hl : lv_has ls 7 [(0, .ref ob), (1, .int x1), (2, .int x2), (3, .int x3), (4, .int x4)]), W p l e (headSpec wsX0_pagesAlike rmX0_pagesAlike).room s m ([.ref ob, .int p0, .int p1] : List Value).toArray below meth c s.heap [] 0 0 (MQ below (cQp rr) ([.ref ob, .int p0, .int p1] : List Value).toArray s 0 0 (fun _ => False)) (F0 m 34 ls []) := by
    intro  n
    induction n with
    | zero =>
      intro x1 x2 x3 x4 ls h hl
      unfold fX0_pagesAlike_34 at h
      cases h
    | succ n ih =>
      intro x1 x2 x3 x4 ls h hl
      unfold fX0_pagesAlike_34 at h
      refine lv_iload hx hb dX0_pagesAlike_34 (lv_at hl 4 rfl) ?_
      refine lv_iload_n hx hb dX0_pagesAlike_36 rfl (lv_at hl 3 rfl) ?_
      refine lv_icmp_ge (tgt := 101) hx hb dX0_pagesAlike_37 (by decide) (fun c1 => ?_) (fun c1 => ?_)
      · replace h := if_p c1 h
        refine lv_iload_n hx hb dX0_pagesAlike_101 rfl (lv_at hl 3 rfl) ?_
        exact W.iret hx hb hr (fun t ht _ => retP h ht) (fun _ h9 => absurd h9 List.not_mem_nil) dX0_pagesAlike_102
      · replace h := if_n c1 h
        refine lv_iload_n hx hb dX0_pagesAlike_40 rfl (lv_at hl 1 rfl) ?_
        refine lv_bipush (v := 12) hx hb dX0_pagesAlike_41 (by decide) ?_
        refine lv_imul hx hb dX0_pagesAlike_43 ?_
        refine lv_iload hx hb dX0_pagesAlike_44 (lv_at hl 4 rfl) ?_
        refine lv_iadd hx hb dX0_pagesAlike_46 ?_
        refine lv_istore (lv' := [(5, .int ((x1 * 12) + x4)), (0, .ref ob), (1, .int x1), (2, .int x2), (3, .int x3), (4, .int x4)]) hx hb dX0_pagesAlike_47 hl (by decide) rfl (fun ls hl => ?_)
        refine lv_iload_n hx hb dX0_pagesAlike_49 rfl (lv_at hl 3 rfl) ?_
        refine lv_bipush (v := 12) hx hb dX0_pagesAlike_50 (by decide) ?_
        refine lv_imul hx hb dX0_pagesAlike_52 ?_
        refine lv_iload hx hb dX0_pagesAlike_53 (lv_at hl 5 rfl) ?_
        refine lv_iadd hx hb dX0_pagesAlike_55 ?_
        refine lv_istore (lv' := [(6, .int ((x2 * 12) + x4)), (5, .int ((x1 * 12) + x4)), (0, .ref ob), (1, .int x1), (2, .int x2), (3, .int x3), (4, .int x4)]) hx hb dX0_pagesAlike_56 hl (by decide) rfl (fun ls hl => ?_)
        refine lv_aload_n hx hb dX0_pagesAlike_58 rfl (lv_at hl 2 rfl) ?_
        refine va_get (D := (dC, dI)) (ci := 1) (v := .ref (q 7)) (C := RX0) (T := TX0) (N := 16) hx hb hts hwX0 hown hK hP 0 rfl rfl 7 (by decide) hf_33 (fun _ h9 => h9) rfl dX0_pagesAlike_59 ?_
        refine lv_iload hx hb dX0_pagesAlike_62 (lv_at hl 1 rfl) ?_
        obtain ⟨hi3, v2, ev2, h⟩ := rdA_some h
        refine k_iald hx hb hK hP 8 0 rfl rfl hi3 ev2 dX0_pagesAlike_64 ?_
        refine lv_aload_n hx hb dX0_pagesAlike_65 rfl (lv_at hl 2 rfl) ?_
        refine va_get (D := (dC, dI)) (ci := 1) (v := .ref (q 7)) (C := RX0) (T := TX0) (N := 16) hx hb hts hwX0 hown hK hP 0 rfl rfl 7 (by decide) hf_33 (fun _ h9 => h9) rfl dX0_pagesAlike_66 ?_
        refine lv_iload hx hb dX0_pagesAlike_69 (lv_at hl 0 rfl) ?_
        obtain ⟨hi5, v4, ev4, h⟩ := rdA_some h
        refine k_iald hx hb hK hP 8 0 rfl rfl hi5 ev4 dX0_pagesAlike_71 ?_
        refine lv_icmp_ne (tgt := 92) hx hb dX0_pagesAlike_72 (by decide) (fun c6 => ?_) (fun c6 => ?_)
        · replace h := if_n c6 h
          exact t_92  h (lv_sub hl [6] rfl)
        · replace h := if_p c6 h
          refine lv_aload_n hx hb dX0_pagesAlike_75 rfl (lv_at hl 2 rfl) ?_
          refine va_get (D := (dC, dI)) (ci := 1) (v := .ref (q 8)) (C := RX0) (T := TX0) (N := 16) hx hb hts hwX0 hown hK hP 0 rfl rfl 8 (by decide) hf_36 (fun _ h9 => h9) rfl dX0_pagesAlike_76 ?_
          refine lv_iload hx hb dX0_pagesAlike_79 (lv_at hl 1 rfl) ?_
          obtain ⟨hi8, v7, ev7, h⟩ := rdA_some h
          refine k_iald hx hb hK hP 9 0 rfl rfl hi8 ev7 dX0_pagesAlike_81 ?_
          refine lv_aload_n hx hb dX0_pagesAlike_82 rfl (lv_at hl 2 rfl) ?_
          refine va_get (D := (dC, dI)) (ci := 1) (v := .ref (q 8)) (C := RX0) (T := TX0) (N := 16) hx hb hts hwX0 hown hK hP 0 rfl rfl 8 (by decide) hf_36 (fun _ h9 => h9) rfl dX0_pagesAlike_83 ?_
          refine lv_iload hx hb dX0_pagesAlike_86 (lv_at hl 0 rfl) ?_
          obtain ⟨hi10, v9, ev9, h⟩ := rdA_some h
          refine k_iald hx hb hK hP 9 0 rfl rfl hi10 ev9 dX0_pagesAlike_88 ?_
          refine lv_icmp_eq (tgt := 95) hx hb dX0_pagesAlike_89 (by decide) (fun c11 => ?_) (fun c11 => ?_)
          · replace h := if_p c11 h
            refine lv_iinc (v := x4 + 1) (lv' := [(4, .int (x4 + 1)), (6, .int ((x2 * 12) + x4)), (5, .int ((x1 * 12) + x4)), (0, .ref ob), (1, .int x1), (2, .int x2), (3, .int x3)]) hx hb dX0_pagesAlike_95 hl (k := 6) rfl rfl (by decide) rfl (fun ls hl => ?_)
            refine lv_goto (tgt := 34) hx hb dX0_pagesAlike_98 (by decide) ?_
            exact ih h (lv_sub hl [3, 4, 5, 6, 0] rfl)
          · replace h := if_n c11 h
            exact t_92  h (lv_sub hl [6] rfl)
  have t_30 : ∀ {x1 : Int32} {x2 : Int32} {y0 : Int32} {ls : Array Slot} (h : fX0_pagesAlike_30 N K  x1 x2 y0 = some rr) (hl : lv_has ls 7 [(0, .ref ob), (1, .int x1), (2, .int x2)]), W p l e (headSpec wsX0_pagesAlike rmX0_pagesAlike).room s m ([.ref ob, .int p0, .int p1] : List Value).toArray below meth c s.heap [] 0 0 (MQ below (cQp rr) ([.ref ob, .int p0, .int p1] : List Value).toArray s 0 0 (fun _ => False)) (F0 m 30 ls [.int y0]) := by
    intro  x1 x2 y0 ls h hl
    unfold fX0_pagesAlike_30 at h
    refine lv_istore_n (lv' := [(3, .int y0), (0, .ref ob), (1, .int x1), (2, .int x2)]) hx hb dX0_pagesAlike_30 rfl hl (by decide) rfl (fun ls hl => ?_)
    refine lv_iconst (v := 0) hx hb dX0_pagesAlike_31 (by decide) ?_
    refine lv_istore (lv' := [(4, .int 0), (3, .int y0), (0, .ref ob), (1, .int x1), (2, .int x2)]) hx hb dX0_pagesAlike_32 hl (by decide) rfl (fun ls hl => ?_)
    exact t_34  h (lv_sub hl [2, 3, 4, 1, 0] rfl)
  have hl := lv_entry ([.ref ob, .int p0, .int p1]) (n := 7) (Nat.le_of_ble_eq_true rfl)
  rw [lg_entry_eq]
  generalize (lg_sl ([.ref ob, .int p0, .int p1]) ++ List.replicate (7 - (lg_sl ([.ref ob, .int p0, .int p1])).length) Slot.unset).toArray = ls at hl ⊢
  have hl : lv_has ls 7 [(0, .ref ob), (1, .int p0), (2, .int p1)] := hl
  have h := hf
  unfold mX0_pagesAlike at h
  refine lv_aload_n hx hb dX0_pagesAlike_0 rfl (lv_at hl 0 rfl) ?_
  refine va_get (D := (dC, dI)) (ci := 1) (v := .ref (q 5)) (C := RX0) (T := TX0) (N := 16) hx hb hts hwX0 hown hK hP 0 rfl rfl 5 (by decide) hf_27 (fun _ h9 => h9) rfl dX0_pagesAlike_1 ?_
  refine lv_iload_n hx hb dX0_pagesAlike_4 rfl (lv_at hl 1 rfl) ?_
  obtain ⟨hi13, v12, ev12, h⟩ := rdA_some h
  refine k_iald hx hb hK hP 6 0 rfl rfl hi13 ev12 dX0_pagesAlike_5 ?_
  refine lv_aload_n hx hb dX0_pagesAlike_6 rfl (lv_at hl 0 rfl) ?_
  refine va_get (D := (dC, dI)) (ci := 1) (v := .ref (q 5)) (C := RX0) (T := TX0) (N := 16) hx hb hts hwX0 hown hK hP 0 rfl rfl 5 (by decide) hf_27 (fun _ h9 => h9) rfl dX0_pagesAlike_7 ?_
  refine lv_iload_n hx hb dX0_pagesAlike_10 rfl (lv_at hl 2 rfl) ?_
  obtain ⟨hi15, v14, ev14, h⟩ := rdA_some h
  refine k_iald hx hb hK hP 6 0 rfl rfl hi15 ev14 dX0_pagesAlike_11 ?_
  refine lv_icmp_ge (tgt := 24) hx hb dX0_pagesAlike_12 (by decide) (fun c16 => ?_) (fun c16 => ?_)
  · replace h := if_p c16 h
    refine lv_aload_n hx hb dX0_pagesAlike_24 rfl (lv_at hl 0 rfl) ?_
    refine va_get (D := (dC, dI)) (ci := 1) (v := .ref (q 5)) (C := RX0) (T := TX0) (N := 16) hx hb hts hwX0 hown hK hP 0 rfl rfl 5 (by decide) hf_27 (fun _ h9 => h9) rfl dX0_pagesAlike_25 ?_
    refine lv_iload_n hx hb dX0_pagesAlike_28 rfl (lv_at hl 2 rfl) ?_
    obtain ⟨hi18, v17, ev17, h⟩ := rdA_some h
    refine k_iald hx hb hK hP 6 0 rfl rfl hi18 ev17 dX0_pagesAlike_29 ?_
    exact t_30  h (lv_sub hl [0, 1, 2] rfl)
  · replace h := if_n c16 h
    refine lv_aload_n hx hb dX0_pagesAlike_15 rfl (lv_at hl 0 rfl) ?_
    refine va_get (D := (dC, dI)) (ci := 1) (v := .ref (q 5)) (C := RX0) (T := TX0) (N := 16) hx hb hts hwX0 hown hK hP 0 rfl rfl 5 (by decide) hf_27 (fun _ h9 => h9) rfl dX0_pagesAlike_16 ?_
    refine lv_iload_n hx hb dX0_pagesAlike_19 rfl (lv_at hl 1 rfl) ?_
    obtain ⟨hi20, v19, ev19, h⟩ := rdA_some h
    refine k_iald hx hb hK hP 6 0 rfl rfl hi20 ev19 dX0_pagesAlike_20 ?_
    refine lv_goto (tgt := 30) hx hb dX0_pagesAlike_21 (by decide) ?_
    exact t_30  h (lv_sub hl [0, 1, 2] rfl)
def fX0_visit_164 (N : Nat)  (K : KT) (x1 : Int32) (x2 : Int32) : Option (Int32 × KT) := rdA (K 5) 5 x2 (fun v1 => rdA (K 5) 5 x1 (fun v3 => wrA K 5 5 x2 ((if v1 < v3 then v3 else v1)) (fun K5 => some (0, K5))))
def fX0_visit_99 (N : Nat)  : Nat → KT → Int32 → Int32 → Int32 → Option (Int32 × KT)
  | 0, _, _, _, _ => none
  | n + 1, K, x1, x2, x4 => rdA (K 5) 5 x1 (fun v7 => (if v7 ≤ x4 then fX0_visit_164 N  K x1 x2 else rdA (K 7) 60 ((x1 * 12) + x4) (fun v10 => wrA K 7 60 ((x2 * 12) + x4) v10 (fun K12 => rdA (K12 8) 60 ((x1 * 12) + x4) (fun v14 => wrA K12 8 60 ((x2 * 12) + x4) v14 (fun K16 => (fX0_visit_99 N  n) K16 x1 x2 (x4 + 1)))))))
def fX0_visit_91 (N : Nat)  (K : KT) (x1 : Int32) (x2 : Int32) : Option (Int32 × KT) := rdA (K 5) 5 x2 (fun v18 => fX0_visit_99 N  N K x1 x2 v18)
def fX0_visit_26 (N : Nat)  (K : KT) (x1 : Int32) (x2 : Int32) : Option (Int32 × KT) := wrA K 2 5 x2 0 (fun K20 => wrA K20 4 5 x2 0 (fun K22 => bdP (mX0_pagesAlike N K22 x1 x2) (fun v24 => rdA (K22 5) 5 x1 (fun v25 => (if v25 ≤ v24 then fX0_visit_91 N  K22 x1 x2 else rdA (K22 5) 5 x2 (fun v28 => (if v28 ≤ v24 then fX0_visit_91 N  K22 x1 x2 else rdA (K22 5) 5 x2 (fun v31 => ptF K22 10 3 ((K22 10 3) + (v31 - v24)) (fun K33 => wrA K33 5 5 x2 v24 (fun K34 => fX0_visit_91 N  K34 x1 x2))))))))))
def mX0_visit (N : Nat) (K : KT) (p0 : Int32) (p1 : Int32) : Option (Int32 × KT) := rdA (K 0) 5 p1 (fun v36 => rdA (K 0) 5 p0 (fun v38 => (if v38 ≤ v36 then fX0_visit_26 N  K p0 p1 else rdA (K 0) 5 p0 (fun v41 => bdE (mX0_takeTerm N K p1 v41) (fun v43 K44 => fX0_visit_26 N  K44 p0 p1)))))
def rmX0_visit : Room := { frames := 2, cells := 0, slots := 0, locals := 66 }
set_option maxHeartbeats 4000000 in
set_option maxRecDepth 100000 in
theorem tX0_visit {l : Launch} {dC : Nat → ClassId} {dI : Nat → Nat → Nat} {cI : ClassId} {ob : Nat} {q : Nat → Nat} {N : Nat} {K : KT} {p0 : Int32} {p1 : Int32} {rr : Int32} {KK : KT} (hf : mX0_visit N K p0 p1 = some (rr, KK)) : Met l yX0_visit wsX0_visit rmX0_visit (cPe (dC, dI) vwCl [(cI, .int)] (cvL ob q) (cvW cI ob q K) [.ref ob, .int p0, .int p1]) (cEv (dC, dI) vwCl (cvL ob q) (cvW cI ob q KK)) 0 0 (aL (cvL ob q)) := by
  refine Met.ofW (cc := cX0_visit) (maxL := 5) (ret := none) (by decide) rfl ?_
  intro p e s m args below meth c s₁ B hml hv
  obtain ⟨rfl, hP, hK, hD⟩ := hv
  have hx := B.exec
  have hb := B.bytes
  have hr := B.returns
  have hts := atoms_spec (ws := wsX0_visit) B.pre
  have hown : s.vm.findClass RX0 = some m.cls := findClass_of_methodNamed B.named
  have hlocks := B.notSynchronized
  have hwX0 : ∀ w ∈ u_ws RX0 TX0 16, w ∈ wsX0_visit := by decide +kernel
  have hf_9 := hts (.fieldLink RX0 9 "CaravanLogs$Caravan" "term" "[I") (by decide +kernel)
  have hf_18 := hts (.fieldLink RX0 18 "CaravanLogs$Caravan" "isCaptain" "[I") (by decide +kernel)
  have hf_24 := hts (.fieldLink RX0 24 "CaravanLogs$Caravan" "silence" "[I") (by decide +kernel)
  have hf_27 := hts (.fieldLink RX0 27 "CaravanLogs$Caravan" "pages" "[I") (by decide +kernel)
  have hf_33 := hts (.fieldLink RX0 33 "CaravanLogs$Caravan" "pageTerm" "[I") (by decide +kernel)
  have hf_36 := hts (.fieldLink RX0 36 "CaravanLogs$Caravan" "pageLetter" "[I") (by decide +kernel)
  have hf_52 := hts (.fieldLink RX0 52 "CaravanLogs$Caravan" "pagesTorn" "I") (by decide +kernel)
  have t_164 : ∀ {K : KT} {x1 : Int32} {x2 : Int32} {H : Heap} {locs : List Loc} {ls : Array Slot} (h : fX0_visit_164 N  K x1 x2 = some (rr, KK)) (hl : lv_has ls 5 [(0, .ref ob), (1, .int x1), (2, .int x2)]) (hP : va_P (dC, dI) vwCl (cvW cI ob q K) H) (hD : va_D (aL (cvL ob q)) (cvW cI ob q K)) (hS : va_S (aL (cvL ob q)) s.heap H locs), W p l e (headSpec wsX0_visit rmX0_visit).room s m ([.ref ob, .int p0, .int p1] : List Value).toArray below meth c H locs 0 0 (MQ below (cEv (dC, dI) vwCl (cvL ob q) (cvW cI ob q KK)) ([.ref ob, .int p0, .int p1] : List Value).toArray s 0 0 (aL (cvL ob q))) (F0 m 164 ls []) := by
    intro  K x1 x2 H locs ls h hl hP hD hS
    unfold fX0_visit_164 at h
    refine lv_aload_n hx hb dX0_visit_164 rfl (lv_at hl 0 rfl) ?_
    refine va_get (D := (dC, dI)) (ci := 1) (v := .ref (q 5)) (C := RX0) (T := TX0) (N := 16) hx hb hts hwX0 hown hK hP 0 rfl rfl 5 (by decide) hf_27 (fun _ h9 => h9) rfl dX0_visit_165 ?_
    refine lv_iload_n hx hb dX0_visit_168 rfl (lv_at hl 2 rfl) ?_
    refine lv_aload_n hx hb dX0_visit_169 rfl (lv_at hl 0 rfl) ?_
    refine va_get (D := (dC, dI)) (ci := 1) (v := .ref (q 5)) (C := RX0) (T := TX0) (N := 16) hx hb hts hwX0 hown hK hP 0 rfl rfl 5 (by decide) hf_27 (fun _ h9 => h9) rfl dX0_visit_170 ?_
    refine lv_iload_n hx hb dX0_visit_173 rfl (lv_at hl 2 rfl) ?_
    obtain ⟨hi2, v1, ev1, h⟩ := rdA_some h
    refine k_iald hx hb hK hP 6 0 rfl rfl hi2 ev1 dX0_visit_174 ?_
    refine lv_aload_n hx hb dX0_visit_175 rfl (lv_at hl 0 rfl) ?_
    refine va_get (D := (dC, dI)) (ci := 1) (v := .ref (q 5)) (C := RX0) (T := TX0) (N := 16) hx hb hts hwX0 hown hK hP 0 rfl rfl 5 (by decide) hf_27 (fun _ h9 => h9) rfl dX0_visit_176 ?_
    refine lv_iload_n hx hb dX0_visit_179 rfl (lv_at hl 1 rfl) ?_
    obtain ⟨hi4, v3, ev3, h⟩ := rdA_some h
    refine k_iald hx hb hK hP 6 0 rfl rfl hi4 ev3 dX0_visit_180 ?_
    refine va_mmax hx hb (hml.trans hl.1.symm) hown (hts (.methodLink RX0 88 Lib.Math.max.name) (by decide +kernel)) (hts (.static Lib.Math.max.name) (by decide +kernel)) (hts (.initialized "java/lang/Math") (by decide +kernel)) (hts (.code Lib.Math.max.name Lib.Math.max.code 2 (some .int)) (by decide +kernel)) (Nat.le_of_ble_eq_true rfl) (Nat.le_of_ble_eq_true rfl) (Nat.zero_le _) (Nat.zero_le _) dX0_visit_181 ?_
    obtain ⟨hi6, K5, eK5, h⟩ := wrA_some h
    refine va_iast hx hb hK hP hD hS 6 0 rfl rfl hi6 dX0_visit_184 (fun H locs hP hD hS => ?_)
    have hP : va_P (dC, dI) vwCl (cvW cI ob q K5) H := by rw [eK5]; exact hP
    have hD : va_D (aL (cvL ob q)) (cvW cI ob q K5) := by rw [eK5]; exact hD
    exact W.vret hx hb hr (fun t ht _ => retEv (w := cvW cI ob q) h hP hD hS ht) hS.2.2 dX0_visit_185
  have t_99 : ∀ {n : Nat}, ∀ {K : KT} {x1 : Int32} {x2 : Int32} {x4 : Int32} {H : Heap} {locs : List Loc} {ls : Array Slot} (h : fX0_visit_99 N  n K x1 x2 x4 = some (rr, KK)) (hl : lv_has ls 5 [(0, .ref ob), (1, .int x1), (2, .int x2), (4, .int x4)]) (hP : va_P (dC, dI) vwCl (cvW cI ob q K) H) (hD : va_D (aL (cvL ob q)) (cvW cI ob q K)) (hS : va_S (aL (cvL ob q)) s.heap H locs), W p l e (headSpec wsX0_visit rmX0_visit).room s m ([.ref ob, .int p0, .int p1] : List Value).toArray below meth c H locs 0 0 (MQ below (cEv (dC, dI) vwCl (cvL ob q) (cvW cI ob q KK)) ([.ref ob, .int p0, .int p1] : List Value).toArray s 0 0 (aL (cvL ob q))) (F0 m 99 ls []) := by
    intro  n
    induction n with
    | zero =>
      intro K x1 x2 x4 H locs ls h hl hP hD hS
      unfold fX0_visit_99 at h
      cases h
    | succ n ih =>
      intro K x1 x2 x4 H locs ls h hl hP hD hS
      unfold fX0_visit_99 at h
      refine lv_iload hx hb dX0_visit_99 (lv_at hl 3 rfl) ?_
      refine lv_aload_n hx hb dX0_visit_101 rfl (lv_at hl 0 rfl) ?_
      refine va_get (D := (dC, dI)) (ci := 1) (v := .ref (q 5)) (C := RX0) (T := TX0) (N := 16) hx hb hts hwX0 hown hK hP 0 rfl rfl 5 (by decide) hf_27 (fun _ h9 => h9) rfl dX0_visit_102 ?_
      refine lv_iload_n hx hb dX0_visit_105 rfl (lv_at hl 1 rfl) ?_
      obtain ⟨hi8, v7, ev7, h⟩ := rdA_some h
      refine k_iald hx hb hK hP 6 0 rfl rfl hi8 ev7 dX0_visit_106 ?_
      refine lv_icmp_ge (tgt := 164) hx hb dX0_visit_107 (by decide) (fun c9 => ?_) (fun c9 => ?_)
      · replace h := if_p c9 h
        exact t_164  h (lv_sub hl [0, 1, 2] rfl) hP hD hS
      · replace h := if_n c9 h
        refine lv_aload_n hx hb dX0_visit_110 rfl (lv_at hl 0 rfl) ?_
        refine va_get (D := (dC, dI)) (ci := 1) (v := .ref (q 7)) (C := RX0) (T := TX0) (N := 16) hx hb hts hwX0 hown hK hP 0 rfl rfl 7 (by decide) hf_33 (fun _ h9 => h9) rfl dX0_visit_111 ?_
        refine lv_iload_n hx hb dX0_visit_114 rfl (lv_at hl 2 rfl) ?_
        refine lv_bipush (v := 12) hx hb dX0_visit_115 (by decide) ?_
        refine lv_imul hx hb dX0_visit_117 ?_
        refine lv_iload hx hb dX0_visit_118 (lv_at hl 3 rfl) ?_
        refine lv_iadd hx hb dX0_visit_120 ?_
        refine lv_aload_n hx hb dX0_visit_121 rfl (lv_at hl 0 rfl) ?_
        refine va_get (D := (dC, dI)) (ci := 1) (v := .ref (q 7)) (C := RX0) (T := TX0) (N := 16) hx hb hts hwX0 hown hK hP 0 rfl rfl 7 (by decide) hf_33 (fun _ h9 => h9) rfl dX0_visit_122 ?_
        refine lv_iload_n hx hb dX0_visit_125 rfl (lv_at hl 1 rfl) ?_
        refine lv_bipush (v := 12) hx hb dX0_visit_126 (by decide) ?_
        refine lv_imul hx hb dX0_visit_128 ?_
        refine lv_iload hx hb dX0_visit_129 (lv_at hl 3 rfl) ?_
        refine lv_iadd hx hb dX0_visit_131 ?_
        obtain ⟨hi11, v10, ev10, h⟩ := rdA_some h
        refine k_iald hx hb hK hP 8 0 rfl rfl hi11 ev10 dX0_visit_132 ?_
        obtain ⟨hi13, K12, eK12, h⟩ := wrA_some h
        refine va_iast hx hb hK hP hD hS 8 0 rfl rfl hi13 dX0_visit_133 (fun H locs hP hD hS => ?_)
        have hP : va_P (dC, dI) vwCl (cvW cI ob q K12) H := by rw [eK12]; exact hP
        have hD : va_D (aL (cvL ob q)) (cvW cI ob q K12) := by rw [eK12]; exact hD
        refine lv_aload_n hx hb dX0_visit_134 rfl (lv_at hl 0 rfl) ?_
        refine va_get (D := (dC, dI)) (ci := 1) (v := .ref (q 8)) (C := RX0) (T := TX0) (N := 16) hx hb hts hwX0 hown hK hP 0 rfl rfl 8 (by decide) hf_36 (fun _ h9 => h9) rfl dX0_visit_135 ?_
        refine lv_iload_n hx hb dX0_visit_138 rfl (lv_at hl 2 rfl) ?_
        refine lv_bipush (v := 12) hx hb dX0_visit_139 (by decide) ?_
        refine lv_imul hx hb dX0_visit_141 ?_
        refine lv_iload hx hb dX0_visit_142 (lv_at hl 3 rfl) ?_
        refine lv_iadd hx hb dX0_visit_144 ?_
        refine lv_aload_n hx hb dX0_visit_145 rfl (lv_at hl 0 rfl) ?_
        refine va_get (D := (dC, dI)) (ci := 1) (v := .ref (q 8)) (C := RX0) (T := TX0) (N := 16) hx hb hts hwX0 hown hK hP 0 rfl rfl 8 (by decide) hf_36 (fun _ h9 => h9) rfl dX0_visit_146 ?_
        refine lv_iload_n hx hb dX0_visit_149 rfl (lv_at hl 1 rfl) ?_
        refine lv_bipush (v := 12) hx hb dX0_visit_150 (by decide) ?_
        refine lv_imul hx hb dX0_visit_152 ?_
        refine lv_iload hx hb dX0_visit_153 (lv_at hl 3 rfl) ?_
        refine lv_iadd hx hb dX0_visit_155 ?_
        obtain ⟨hi15, v14, ev14, h⟩ := rdA_some h
        refine k_iald hx hb hK hP 9 0 rfl rfl hi15 ev14 dX0_visit_156 ?_
        obtain ⟨hi17, K16, eK16, h⟩ := wrA_some h
        refine va_iast hx hb hK hP hD hS 9 0 rfl rfl hi17 dX0_visit_157 (fun H locs hP hD hS => ?_)
        have hP : va_P (dC, dI) vwCl (cvW cI ob q K16) H := by rw [eK16]; exact hP
        have hD : va_D (aL (cvL ob q)) (cvW cI ob q K16) := by rw [eK16]; exact hD
        refine lv_iinc (v := x4 + 1) (lv' := [(4, .int (x4 + 1)), (0, .ref ob), (1, .int x1), (2, .int x2)]) hx hb dX0_visit_158 hl (k := 3) rfl rfl (by decide) rfl (fun ls hl => ?_)
        refine lv_goto (tgt := 99) hx hb dX0_visit_161 (by decide) ?_
        exact ih h (lv_sub hl [1, 2, 3, 0] rfl) hP hD hS
  have t_91 : ∀ {K : KT} {x1 : Int32} {x2 : Int32} {H : Heap} {locs : List Loc} {ls : Array Slot} (h : fX0_visit_91 N  K x1 x2 = some (rr, KK)) (hl : lv_has ls 5 [(0, .ref ob), (1, .int x1), (2, .int x2)]) (hP : va_P (dC, dI) vwCl (cvW cI ob q K) H) (hD : va_D (aL (cvL ob q)) (cvW cI ob q K)) (hS : va_S (aL (cvL ob q)) s.heap H locs), W p l e (headSpec wsX0_visit rmX0_visit).room s m ([.ref ob, .int p0, .int p1] : List Value).toArray below meth c H locs 0 0 (MQ below (cEv (dC, dI) vwCl (cvL ob q) (cvW cI ob q KK)) ([.ref ob, .int p0, .int p1] : List Value).toArray s 0 0 (aL (cvL ob q))) (F0 m 91 ls []) := by
    intro  K x1 x2 H locs ls h hl hP hD hS
    unfold fX0_visit_91 at h
    refine lv_aload_n hx hb dX0_visit_91 rfl (lv_at hl 0 rfl) ?_
    refine va_get (D := (dC, dI)) (ci := 1) (v := .ref (q 5)) (C := RX0) (T := TX0) (N := 16) hx hb hts hwX0 hown hK hP 0 rfl rfl 5 (by decide) hf_27 (fun _ h9 => h9) rfl dX0_visit_92 ?_
    refine lv_iload_n hx hb dX0_visit_95 rfl (lv_at hl 2 rfl) ?_
    obtain ⟨hi19, v18, ev18, h⟩ := rdA_some h
    refine k_iald hx hb hK hP 6 0 rfl rfl hi19 ev18 dX0_visit_96 ?_
    refine lv_istore (lv' := [(4, .int v18), (0, .ref ob), (1, .int x1), (2, .int x2)]) hx hb dX0_visit_97 hl (by decide) rfl (fun ls hl => ?_)
    exact t_99  h (lv_sub hl [1, 2, 3, 0] rfl) hP hD hS
  have t_26 : ∀ {K : KT} {x1 : Int32} {x2 : Int32} {H : Heap} {locs : List Loc} {ls : Array Slot} (h : fX0_visit_26 N  K x1 x2 = some (rr, KK)) (hl : lv_has ls 5 [(0, .ref ob), (1, .int x1), (2, .int x2)]) (hP : va_P (dC, dI) vwCl (cvW cI ob q K) H) (hD : va_D (aL (cvL ob q)) (cvW cI ob q K)) (hS : va_S (aL (cvL ob q)) s.heap H locs), W p l e (headSpec wsX0_visit rmX0_visit).room s m ([.ref ob, .int p0, .int p1] : List Value).toArray below meth c H locs 0 0 (MQ below (cEv (dC, dI) vwCl (cvL ob q) (cvW cI ob q KK)) ([.ref ob, .int p0, .int p1] : List Value).toArray s 0 0 (aL (cvL ob q))) (F0 m 26 ls []) := by
    intro  K x1 x2 H locs ls h hl hP hD hS
    unfold fX0_visit_26 at h
    refine lv_aload_n hx hb dX0_visit_26 rfl (lv_at hl 0 rfl) ?_
    refine va_get (D := (dC, dI)) (ci := 1) (v := .ref (q 2)) (C := RX0) (T := TX0) (N := 16) hx hb hts hwX0 hown hK hP 0 rfl rfl 2 (by decide) hf_18 (fun _ h9 => h9) rfl dX0_visit_27 ?_
    refine lv_iload_n hx hb dX0_visit_30 rfl (lv_at hl 2 rfl) ?_
    refine lv_iconst (v := 0) hx hb dX0_visit_31 (by decide) ?_
    obtain ⟨hi21, K20, eK20, h⟩ := wrA_some h
    refine va_iast hx hb hK hP hD hS 3 0 rfl rfl hi21 dX0_visit_32 (fun H locs hP hD hS => ?_)
    have hP : va_P (dC, dI) vwCl (cvW cI ob q K20) H := by rw [eK20]; exact hP
    have hD : va_D (aL (cvL ob q)) (cvW cI ob q K20) := by rw [eK20]; exact hD
    refine lv_aload_n hx hb dX0_visit_33 rfl (lv_at hl 0 rfl) ?_
    refine va_get (D := (dC, dI)) (ci := 1) (v := .ref (q 4)) (C := RX0) (T := TX0) (N := 16) hx hb hts hwX0 hown hK hP 0 rfl rfl 4 (by decide) hf_24 (fun _ h9 => h9) rfl dX0_visit_34 ?_
    refine lv_iload_n hx hb dX0_visit_37 rfl (lv_at hl 2 rfl) ?_
    refine lv_iconst (v := 0) hx hb dX0_visit_38 (by decide) ?_
    obtain ⟨hi23, K22, eK22, h⟩ := wrA_some h
    refine va_iast hx hb hK hP hD hS 5 0 rfl rfl hi23 dX0_visit_39 (fun H locs hP hD hS => ?_)
    have hP : va_P (dC, dI) vwCl (cvW cI ob q K22) H := by rw [eK22]; exact hP
    have hD : va_D (aL (cvL ob q)) (cvW cI ob q K22) := by rw [eK22]; exact hD
    refine lv_aload_n hx hb dX0_visit_40 rfl (lv_at hl 0 rfl) ?_
    refine lv_iload_n hx hb dX0_visit_41 rfl (lv_at hl 1 rfl) ?_
    refine lv_iload_n hx hb dX0_visit_42 rfl (lv_at hl 2 rfl) ?_
    obtain ⟨v24, hv24, h⟩ := bdP_some h
    refine call_VP (As := [.int x1, .int x2]) (rest := []) ⟨hx, hb, hml, hown, hts⟩ (tX0_pagesAlike (l := l) (dC := dC) (dI := dI) (cI := cI) (ob := ob) (q := q) hv24) (cwV 2 hts gX0_visit_X0_pagesAlike rfl rfl rfl (by decide +kernel) ⟨Nat.le_of_ble_eq_true rfl, Nat.le_of_ble_eq_true rfl⟩) hK hP 0 rfl rfl (by rfl) hl.1 rfl (Nat.le_of_ble_eq_true rfl) dX0_visit_43 ⟨Nat.zero_le _, Nat.zero_le _⟩ ?_
    refine lv_istore_n (lv' := [(3, .int v24), (0, .ref ob), (1, .int x1), (2, .int x2)]) hx hb dX0_visit_46 rfl hl (by decide) rfl (fun ls hl => ?_)
    refine lv_iload_n hx hb dX0_visit_47 rfl (lv_at hl 0 rfl) ?_
    refine lv_aload_n hx hb dX0_visit_48 rfl (lv_at hl 1 rfl) ?_
    refine va_get (D := (dC, dI)) (ci := 1) (v := .ref (q 5)) (C := RX0) (T := TX0) (N := 16) hx hb hts hwX0 hown hK hP 0 rfl rfl 5 (by decide) hf_27 (fun _ h9 => h9) rfl dX0_visit_49 ?_
    refine lv_iload_n hx hb dX0_visit_52 rfl (lv_at hl 2 rfl) ?_
    obtain ⟨hi26, v25, ev25, h⟩ := rdA_some h
    refine k_iald hx hb hK hP 6 0 rfl rfl hi26 ev25 dX0_visit_53 ?_
    refine lv_icmp_ge (tgt := 91) hx hb dX0_visit_54 (by decide) (fun c27 => ?_) (fun c27 => ?_)
    · replace h := if_p c27 h
      exact t_91  h (lv_sub hl [1, 2, 3] rfl) hP hD hS
    · replace h := if_n c27 h
      refine lv_iload_n hx hb dX0_visit_57 rfl (lv_at hl 0 rfl) ?_
      refine lv_aload_n hx hb dX0_visit_58 rfl (lv_at hl 1 rfl) ?_
      refine va_get (D := (dC, dI)) (ci := 1) (v := .ref (q 5)) (C := RX0) (T := TX0) (N := 16) hx hb hts hwX0 hown hK hP 0 rfl rfl 5 (by decide) hf_27 (fun _ h9 => h9) rfl dX0_visit_59 ?_
      refine lv_iload_n hx hb dX0_visit_62 rfl (lv_at hl 3 rfl) ?_
      obtain ⟨hi29, v28, ev28, h⟩ := rdA_some h
      refine k_iald hx hb hK hP 6 0 rfl rfl hi29 ev28 dX0_visit_63 ?_
      refine lv_icmp_ge (tgt := 91) hx hb dX0_visit_64 (by decide) (fun c30 => ?_) (fun c30 => ?_)
      · replace h := if_p c30 h
        exact t_91  h (lv_sub hl [1, 2, 3] rfl) hP hD hS
      · replace h := if_n c30 h
        refine lv_aload_n hx hb dX0_visit_67 rfl (lv_at hl 1 rfl) ?_
        refine lv_dup hx hb dX0_visit_68 rfl ?_
        refine va_get (D := (dC, dI)) (ci := 1) (v := .int (K22 10 3)) (C := RX0) (T := TX0) (N := 16) hx hb hts hwX0 hown hK hP 0 rfl rfl 13 (by decide) hf_52 (fun _ h9 => h9) rfl dX0_visit_69 ?_
        refine lv_aload_n hx hb dX0_visit_72 rfl (lv_at hl 1 rfl) ?_
        refine va_get (D := (dC, dI)) (ci := 1) (v := .ref (q 5)) (C := RX0) (T := TX0) (N := 16) hx hb hts hwX0 hown hK hP 0 rfl rfl 5 (by decide) hf_27 (fun _ h9 => h9) rfl dX0_visit_73 ?_
        refine lv_iload_n hx hb dX0_visit_76 rfl (lv_at hl 3 rfl) ?_
        obtain ⟨hi32, v31, ev31, h⟩ := rdA_some h
        refine k_iald hx hb hK hP 6 0 rfl rfl hi32 ev31 dX0_visit_77 ?_
        refine lv_iload_n hx hb dX0_visit_78 rfl (lv_at hl 0 rfl) ?_
        refine lv_isub hx hb dX0_visit_79 ?_
        refine lv_iadd hx hb dX0_visit_80 ?_
        obtain ⟨K33, eK33, h⟩ := ptF_some h
        refine va_put (D := (dC, dI)) (ci := 1) (v := .int ((K22 10 3) + (v31 - v24))) (ty := .int) (C := RX0) (T := TX0) (N := 16) hx hb hts hwX0 tyX0 tyX0_ok nmX0 hown hK hP hD hS 0 rfl rfl 13 (by decide) hf_52 (fun _ h9 => h9) rfl (by decide +kernel) rfl rfl (Nat.le_of_ble_eq_true rfl) dX0_visit_81 (fun H locs hP hD hS => ?_)
        have hP : va_P (dC, dI) vwCl (cvW cI ob q K33) H := by rw [eK33]; exact hP
        have hD : va_D (aL (cvL ob q)) (cvW cI ob q K33) := by rw [eK33]; exact hD
        refine lv_aload_n hx hb dX0_visit_84 rfl (lv_at hl 1 rfl) ?_
        refine va_get (D := (dC, dI)) (ci := 1) (v := .ref (q 5)) (C := RX0) (T := TX0) (N := 16) hx hb hts hwX0 hown hK hP 0 rfl rfl 5 (by decide) hf_27 (fun _ h9 => h9) rfl dX0_visit_85 ?_
        refine lv_iload_n hx hb dX0_visit_88 rfl (lv_at hl 3 rfl) ?_
        refine lv_iload_n hx hb dX0_visit_89 rfl (lv_at hl 0 rfl) ?_
        obtain ⟨hi35, K34, eK34, h⟩ := wrA_some h
        refine va_iast hx hb hK hP hD hS 6 0 rfl rfl hi35 dX0_visit_90 (fun H locs hP hD hS => ?_)
        have hP : va_P (dC, dI) vwCl (cvW cI ob q K34) H := by rw [eK34]; exact hP
        have hD : va_D (aL (cvL ob q)) (cvW cI ob q K34) := by rw [eK34]; exact hD
        exact t_91  h (lv_sub hl [1, 2, 3] rfl) hP hD hS
  have hS : va_S (aL (cvL ob q)) s.heap s.heap [] := va_S.rf
  have hl := lv_entry ([.ref ob, .int p0, .int p1]) (n := 5) (Nat.le_of_ble_eq_true rfl)
  rw [lg_entry_eq]
  generalize (lg_sl ([.ref ob, .int p0, .int p1]) ++ List.replicate (5 - (lg_sl ([.ref ob, .int p0, .int p1])).length) Slot.unset).toArray = ls at hl ⊢
  have hl : lv_has ls 5 [(0, .ref ob), (1, .int p0), (2, .int p1)] := hl
  have h := hf
  unfold mX0_visit at h
  refine lv_aload_n hx hb dX0_visit_0 rfl (lv_at hl 0 rfl) ?_
  refine va_get (D := (dC, dI)) (ci := 1) (v := .ref (q 0)) (C := RX0) (T := TX0) (N := 16) hx hb hts hwX0 hown hK hP 0 rfl rfl 0 (by decide) hf_9 (fun _ h9 => h9) rfl dX0_visit_1 ?_
  refine lv_iload_n hx hb dX0_visit_4 rfl (lv_at hl 2 rfl) ?_
  obtain ⟨hi37, v36, ev36, h⟩ := rdA_some h
  refine k_iald hx hb hK hP 1 0 rfl rfl hi37 ev36 dX0_visit_5 ?_
  refine lv_aload_n hx hb dX0_visit_6 rfl (lv_at hl 0 rfl) ?_
  refine va_get (D := (dC, dI)) (ci := 1) (v := .ref (q 0)) (C := RX0) (T := TX0) (N := 16) hx hb hts hwX0 hown hK hP 0 rfl rfl 0 (by decide) hf_9 (fun _ h9 => h9) rfl dX0_visit_7 ?_
  refine lv_iload_n hx hb dX0_visit_10 rfl (lv_at hl 1 rfl) ?_
  obtain ⟨hi39, v38, ev38, h⟩ := rdA_some h
  refine k_iald hx hb hK hP 1 0 rfl rfl hi39 ev38 dX0_visit_11 ?_
  refine lv_icmp_ge (tgt := 26) hx hb dX0_visit_12 (by decide) (fun c40 => ?_) (fun c40 => ?_)
  · replace h := if_p c40 h
    exact t_26  h (lv_sub hl [0, 1, 2] rfl) hP hD hS
  · replace h := if_n c40 h
    refine lv_aload_n hx hb dX0_visit_15 rfl (lv_at hl 0 rfl) ?_
    refine lv_iload_n hx hb dX0_visit_16 rfl (lv_at hl 2 rfl) ?_
    refine lv_aload_n hx hb dX0_visit_17 rfl (lv_at hl 0 rfl) ?_
    refine va_get (D := (dC, dI)) (ci := 1) (v := .ref (q 0)) (C := RX0) (T := TX0) (N := 16) hx hb hts hwX0 hown hK hP 0 rfl rfl 0 (by decide) hf_9 (fun _ h9 => h9) rfl dX0_visit_18 ?_
    refine lv_iload_n hx hb dX0_visit_21 rfl (lv_at hl 1 rfl) ?_
    obtain ⟨hi42, v41, ev41, h⟩ := rdA_some h
    refine k_iald hx hb hK hP 1 0 rfl rfl hi42 ev41 dX0_visit_22 ?_
    obtain ⟨v43, K44, hv43, h⟩ := bdE_some h
    refine call_VEv (As := [.int p1, .int v41]) (rest := []) ⟨hx, hb, hml, hown, hts⟩ (tX0_takeTerm (l := l) (dC := dC) (dI := dI) (cI := cI) (ob := ob) (q := q) hv43) (cwV 2 hts gX0_visit_X0_takeTerm rfl rfl rfl (by decide +kernel) ⟨Nat.le_of_ble_eq_true rfl, Nat.le_of_ble_eq_true rfl⟩) hK hP hD hS (fun _ h9 => h9) 0 rfl rfl (by rfl) hl.1 rfl (Nat.le_of_ble_eq_true rfl) dX0_visit_23 ⟨Nat.zero_le _, Nat.zero_le _⟩ (fun H locs hP hD _ hS => ?_)
    exact t_26  h (lv_sub hl [0, 1, 2] rfl) hP hD hS
def fX0_settle_77 (N : Nat) (k42 : KT → Int32 → Int32 → Option (Int32 × KT)) (K : KT) (x1 : Int32) (x3 : Int32) : Option (Int32 × KT) := k42 K x1 (x3 + 1)
def fX0_settle_42 (N : Nat)  : Nat → KT → Int32 → Int32 → Option (Int32 × KT)
  | 0, _, _, _ => none
  | n + 1, K, x1, x3 => (if 5 ≤ x3 then some (0, K) else bdP (mX0_isReached N K x1 x3) (fun v2 => (if v2 = 0 then fX0_settle_77 N (fX0_settle_42 N  n) K x1 x3 else rdA (K 6) 5 x3 (fun v4 => rdA (K 6) 5 x1 (fun v6 => wrA K 6 5 x3 ((if v4 < v6 then v6 else v4)) (fun K8 => fX0_settle_77 N (fX0_settle_42 N  n) K8 x1 x3))))))
def fX0_settle_40 (N : Nat)  (K : KT) (x1 : Int32) : Option (Int32 × KT) := fX0_settle_42 N  N K x1 0
def mX0_settle (N : Nat) (K : KT) (p0 : Int32) (p1 : Int32) : Option (Int32 × KT) := (if p1 < 3 then fX0_settle_40 N  K p0 else bdP (mX0_lastTerm N K p0) (fun v11 => rdA (K 0) 5 p0 (fun v12 => (if v11 = v12 then rdA (K 6) 5 p0 (fun v15 => rdA (K 5) 5 p0 (fun v17 => wrA K 6 5 p0 ((if v15 < v17 then v17 else v15)) (fun K19 => fX0_settle_40 N  K19 p0))) else fX0_settle_40 N  K p0))))
def rmX0_settle : Room := { frames := 2, cells := 0, slots := 0, locals := 62 }
set_option maxHeartbeats 4000000 in
set_option maxRecDepth 100000 in
theorem tX0_settle {l : Launch} {dC : Nat → ClassId} {dI : Nat → Nat → Nat} {cI : ClassId} {ob : Nat} {q : Nat → Nat} {N : Nat} {K : KT} {p0 : Int32} {p1 : Int32} {rr : Int32} {KK : KT} (hf : mX0_settle N K p0 p1 = some (rr, KK)) : Met l yX0_settle wsX0_settle rmX0_settle (cPe (dC, dI) vwCl [(cI, .int)] (cvL ob q) (cvW cI ob q K) [.ref ob, .int p0, .int p1]) (cEv (dC, dI) vwCl (cvL ob q) (cvW cI ob q KK)) 0 0 (aL (cvL ob q)) := by
  refine Met.ofW (cc := cX0_settle) (maxL := 4) (ret := none) (by decide) rfl ?_
  intro p e s m args below meth c s₁ B hml hv
  obtain ⟨rfl, hP, hK, hD⟩ := hv
  have hx := B.exec
  have hb := B.bytes
  have hr := B.returns
  have hts := atoms_spec (ws := wsX0_settle) B.pre
  have hown : s.vm.findClass RX0 = some m.cls := findClass_of_methodNamed B.named
  have hlocks := B.notSynchronized
  have hwX0 : ∀ w ∈ u_ws RX0 TX0 16, w ∈ wsX0_settle := by decide +kernel
  have hf_9 := hts (.fieldLink RX0 9 "CaravanLogs$Caravan" "term" "[I") (by decide +kernel)
  have hf_27 := hts (.fieldLink RX0 27 "CaravanLogs$Caravan" "pages" "[I") (by decide +kernel)
  have hf_30 := hts (.fieldLink RX0 30 "CaravanLogs$Caravan" "settled" "[I") (by decide +kernel)
  have t_77 : ∀ {k42 : KT → Int32 → Int32 → Option (Int32 × KT)} (hk42 : ∀ {K : KT} {x1 : Int32} {x3 : Int32} {H : Heap} {locs : List Loc} {ls : Array Slot} (h : k42 K x1 x3 = some (rr, KK)) (hl : lv_has ls 4 [(0, .ref ob), (1, .int x1), (3, .int x3)]) (hP : va_P (dC, dI) vwCl (cvW cI ob q K) H) (hD : va_D (aL (cvL ob q)) (cvW cI ob q K)) (hS : va_S (aL (cvL ob q)) s.heap H locs), W p l e (headSpec wsX0_settle rmX0_settle).room s m ([.ref ob, .int p0, .int p1] : List Value).toArray below meth c H locs 0 0 (MQ below (cEv (dC, dI) vwCl (cvL ob q) (cvW cI ob q KK)) ([.ref ob, .int p0, .int p1] : List Value).toArray s 0 0 (aL (cvL ob q))) (F0 m 42 ls [])), ∀ {K : KT} {x1 : Int32} {x3 : Int32} {H : Heap} {locs : List Loc} {ls : Array Slot} (h : fX0_settle_77 N k42 K x1 x3 = some (rr, KK)) (hl : lv_has ls 4 [(0, .ref ob), (1, .int x1), (3, .int x3)]) (hP : va_P (dC, dI) vwCl (cvW cI ob q K) H) (hD : va_D (aL (cvL ob q)) (cvW cI ob q K)) (hS : va_S (aL (cvL ob q)) s.heap H locs), W p l e (headSpec wsX0_settle rmX0_settle).room s m ([.ref ob, .int p0, .int p1] : List Value).toArray below meth c H locs 0 0 (MQ below (cEv (dC, dI) vwCl (cvL ob q) (cvW cI ob q KK)) ([.ref ob, .int p0, .int p1] : List Value).toArray s 0 0 (aL (cvL ob q))) (F0 m 77 ls []) := by
    intro k42 hk42 K x1 x3 H locs ls h hl hP hD hS
    unfold fX0_settle_77 at h
    refine lv_iinc (v := x3 + 1) (lv' := [(3, .int (x3 + 1)), (0, .ref ob), (1, .int x1)]) hx hb dX0_settle_77 hl (k := 2) rfl rfl (by decide) rfl (fun ls hl => ?_)
    refine lv_goto (tgt := 42) hx hb dX0_settle_80 (by decide) ?_
    exact hk42 h (lv_sub hl [1, 2, 0] rfl) hP hD hS
  have t_42 : ∀ {n : Nat}, ∀ {K : KT} {x1 : Int32} {x3 : Int32} {H : Heap} {locs : List Loc} {ls : Array Slot} (h : fX0_settle_42 N  n K x1 x3 = some (rr, KK)) (hl : lv_has ls 4 [(0, .ref ob), (1, .int x1), (3, .int x3)]) (hP : va_P (dC, dI) vwCl (cvW cI ob q K) H) (hD : va_D (aL (cvL ob q)) (cvW cI ob q K)) (hS : va_S (aL (cvL ob q)) s.heap H locs), W p l e (headSpec wsX0_settle rmX0_settle).room s m ([.ref ob, .int p0, .int p1] : List Value).toArray below meth c H locs 0 0 (MQ below (cEv (dC, dI) vwCl (cvL ob q) (cvW cI ob q KK)) ([.ref ob, .int p0, .int p1] : List Value).toArray s 0 0 (aL (cvL ob q))) (F0 m 42 ls []) := by
    intro  n
    induction n with
    | zero =>
      intro K x1 x3 H locs ls h hl hP hD hS
      unfold fX0_settle_42 at h
      cases h
    | succ n ih =>
      intro K x1 x3 H locs ls h hl hP hD hS
      unfold fX0_settle_42 at h
      refine lv_iload_n hx hb dX0_settle_42 rfl (lv_at hl 2 rfl) ?_
      refine lv_iconst (v := 5) hx hb dX0_settle_43 (by decide) ?_
      refine lv_icmp_ge (tgt := 83) hx hb dX0_settle_44 (by decide) (fun c1 => ?_) (fun c1 => ?_)
      · replace h := if_p c1 h
        exact W.vret hx hb hr (fun t ht _ => retEv (w := cvW cI ob q) h hP hD hS ht) hS.2.2 dX0_settle_83
      · replace h := if_n c1 h
        refine lv_aload_n hx hb dX0_settle_47 rfl (lv_at hl 0 rfl) ?_
        refine lv_iload_n hx hb dX0_settle_48 rfl (lv_at hl 1 rfl) ?_
        refine lv_iload_n hx hb dX0_settle_49 rfl (lv_at hl 2 rfl) ?_
        obtain ⟨v2, hv2, h⟩ := bdP_some h
        refine call_VP (As := [.int x1, .int x3]) (rest := []) ⟨hx, hb, hml, hown, hts⟩ (tX0_isReached (l := l) (dC := dC) (dI := dI) (cI := cI) (ob := ob) (q := q) hv2) (cwV 2 hts gX0_settle_X0_isReached rfl rfl rfl (by decide +kernel) ⟨Nat.le_of_ble_eq_true rfl, Nat.le_of_ble_eq_true rfl⟩) hK hP 0 rfl rfl (by rfl) hl.1 rfl (Nat.le_of_ble_eq_true rfl) dX0_settle_50 ⟨Nat.zero_le _, Nat.zero_le _⟩ ?_
        refine lv_if_eq (tgt := 77) hx hb dX0_settle_53 (by decide) (fun c3 => ?_) (fun c3 => ?_)
        · replace h := if_p c3 h
          exact t_77 @ih h (lv_sub hl [0, 1, 2] rfl) hP hD hS
        · replace h := if_n c3 h
          refine lv_aload_n hx hb dX0_settle_56 rfl (lv_at hl 0 rfl) ?_
          refine va_get (D := (dC, dI)) (ci := 1) (v := .ref (q 6)) (C := RX0) (T := TX0) (N := 16) hx hb hts hwX0 hown hK hP 0 rfl rfl 6 (by decide) hf_30 (fun _ h9 => h9) rfl dX0_settle_57 ?_
          refine lv_iload_n hx hb dX0_settle_60 rfl (lv_at hl 2 rfl) ?_
          refine lv_aload_n hx hb dX0_settle_61 rfl (lv_at hl 0 rfl) ?_
          refine va_get (D := (dC, dI)) (ci := 1) (v := .ref (q 6)) (C := RX0) (T := TX0) (N := 16) hx hb hts hwX0 hown hK hP 0 rfl rfl 6 (by decide) hf_30 (fun _ h9 => h9) rfl dX0_settle_62 ?_
          refine lv_iload_n hx hb dX0_settle_65 rfl (lv_at hl 2 rfl) ?_
          obtain ⟨hi5, v4, ev4, h⟩ := rdA_some h
          refine k_iald hx hb hK hP 7 0 rfl rfl hi5 ev4 dX0_settle_66 ?_
          refine lv_aload_n hx hb dX0_settle_67 rfl (lv_at hl 0 rfl) ?_
          refine va_get (D := (dC, dI)) (ci := 1) (v := .ref (q 6)) (C := RX0) (T := TX0) (N := 16) hx hb hts hwX0 hown hK hP 0 rfl rfl 6 (by decide) hf_30 (fun _ h9 => h9) rfl dX0_settle_68 ?_
          refine lv_iload_n hx hb dX0_settle_71 rfl (lv_at hl 1 rfl) ?_
          obtain ⟨hi7, v6, ev6, h⟩ := rdA_some h
          refine k_iald hx hb hK hP 7 0 rfl rfl hi7 ev6 dX0_settle_72 ?_
          refine va_mmax hx hb (hml.trans hl.1.symm) hown (hts (.methodLink RX0 88 Lib.Math.max.name) (by decide +kernel)) (hts (.static Lib.Math.max.name) (by decide +kernel)) (hts (.initialized "java/lang/Math") (by decide +kernel)) (hts (.code Lib.Math.max.name Lib.Math.max.code 2 (some .int)) (by decide +kernel)) (Nat.le_of_ble_eq_true rfl) (Nat.le_of_ble_eq_true rfl) (Nat.zero_le _) (Nat.zero_le _) dX0_settle_73 ?_
          obtain ⟨hi9, K8, eK8, h⟩ := wrA_some h
          refine va_iast hx hb hK hP hD hS 7 0 rfl rfl hi9 dX0_settle_76 (fun H locs hP hD hS => ?_)
          have hP : va_P (dC, dI) vwCl (cvW cI ob q K8) H := by rw [eK8]; exact hP
          have hD : va_D (aL (cvL ob q)) (cvW cI ob q K8) := by rw [eK8]; exact hD
          exact t_77 @ih h (lv_sub hl [0, 1, 2] rfl) hP hD hS
  have t_40 : ∀ {K : KT} {x1 : Int32} {H : Heap} {locs : List Loc} {ls : Array Slot} (h : fX0_settle_40 N  K x1 = some (rr, KK)) (hl : lv_has ls 4 [(0, .ref ob), (1, .int x1)]) (hP : va_P (dC, dI) vwCl (cvW cI ob q K) H) (hD : va_D (aL (cvL ob q)) (cvW cI ob q K)) (hS : va_S (aL (cvL ob q)) s.heap H locs), W p l e (headSpec wsX0_settle rmX0_settle).room s m ([.ref ob, .int p0, .int p1] : List Value).toArray below meth c H locs 0 0 (MQ below (cEv (dC, dI) vwCl (cvL ob q) (cvW cI ob q KK)) ([.ref ob, .int p0, .int p1] : List Value).toArray s 0 0 (aL (cvL ob q))) (F0 m 40 ls []) := by
    intro  K x1 H locs ls h hl hP hD hS
    unfold fX0_settle_40 at h
    refine lv_iconst (v := 0) hx hb dX0_settle_40 (by decide) ?_
    refine lv_istore_n (lv' := [(3, .int 0), (0, .ref ob), (1, .int x1)]) hx hb dX0_settle_41 rfl hl (by decide) rfl (fun ls hl => ?_)
    exact t_42  h (lv_sub hl [1, 2, 0] rfl) hP hD hS
  have hS : va_S (aL (cvL ob q)) s.heap s.heap [] := va_S.rf
  have hl := lv_entry ([.ref ob, .int p0, .int p1]) (n := 4) (Nat.le_of_ble_eq_true rfl)
  rw [lg_entry_eq]
  generalize (lg_sl ([.ref ob, .int p0, .int p1]) ++ List.replicate (4 - (lg_sl ([.ref ob, .int p0, .int p1])).length) Slot.unset).toArray = ls at hl ⊢
  have hl : lv_has ls 4 [(0, .ref ob), (1, .int p0), (2, .int p1)] := hl
  have h := hf
  unfold mX0_settle at h
  refine lv_iload_n hx hb dX0_settle_0 rfl (lv_at hl 2 rfl) ?_
  refine lv_iconst (v := 3) hx hb dX0_settle_1 (by decide) ?_
  refine lv_icmp_lt (tgt := 40) hx hb dX0_settle_2 (by decide) (fun c10 => ?_) (fun c10 => ?_)
  · replace h := if_p c10 h
    exact t_40  h (lv_sub hl [0, 1] rfl) hP hD hS
  · replace h := if_n c10 h
    refine lv_aload_n hx hb dX0_settle_5 rfl (lv_at hl 0 rfl) ?_
    refine lv_iload_n hx hb dX0_settle_6 rfl (lv_at hl 1 rfl) ?_
    obtain ⟨v11, hv11, h⟩ := bdP_some h
    refine call_VP (As := [.int p0]) (rest := []) ⟨hx, hb, hml, hown, hts⟩ (tX0_lastTerm (l := l) (dC := dC) (dI := dI) (cI := cI) (ob := ob) (q := q) hv11) (cwV 1 hts gX0_settle_X0_lastTerm rfl rfl rfl (by decide +kernel) ⟨Nat.le_of_ble_eq_true rfl, Nat.le_of_ble_eq_true rfl⟩) hK hP 0 rfl rfl (by rfl) hl.1 rfl (Nat.le_of_ble_eq_true rfl) dX0_settle_7 ⟨Nat.zero_le _, Nat.zero_le _⟩ ?_
    refine lv_aload_n hx hb dX0_settle_10 rfl (lv_at hl 0 rfl) ?_
    refine va_get (D := (dC, dI)) (ci := 1) (v := .ref (q 0)) (C := RX0) (T := TX0) (N := 16) hx hb hts hwX0 hown hK hP 0 rfl rfl 0 (by decide) hf_9 (fun _ h9 => h9) rfl dX0_settle_11 ?_
    refine lv_iload_n hx hb dX0_settle_14 rfl (lv_at hl 1 rfl) ?_
    obtain ⟨hi13, v12, ev12, h⟩ := rdA_some h
    refine k_iald hx hb hK hP 1 0 rfl rfl hi13 ev12 dX0_settle_15 ?_
    refine lv_icmp_ne (tgt := 40) hx hb dX0_settle_16 (by decide) (fun c14 => ?_) (fun c14 => ?_)
    · replace h := if_n c14 h
      exact t_40  h (lv_sub hl [0, 1] rfl) hP hD hS
    · replace h := if_p c14 h
      refine lv_aload_n hx hb dX0_settle_19 rfl (lv_at hl 0 rfl) ?_
      refine va_get (D := (dC, dI)) (ci := 1) (v := .ref (q 6)) (C := RX0) (T := TX0) (N := 16) hx hb hts hwX0 hown hK hP 0 rfl rfl 6 (by decide) hf_30 (fun _ h9 => h9) rfl dX0_settle_20 ?_
      refine lv_iload_n hx hb dX0_settle_23 rfl (lv_at hl 1 rfl) ?_
      refine lv_aload_n hx hb dX0_settle_24 rfl (lv_at hl 0 rfl) ?_
      refine va_get (D := (dC, dI)) (ci := 1) (v := .ref (q 6)) (C := RX0) (T := TX0) (N := 16) hx hb hts hwX0 hown hK hP 0 rfl rfl 6 (by decide) hf_30 (fun _ h9 => h9) rfl dX0_settle_25 ?_
      refine lv_iload_n hx hb dX0_settle_28 rfl (lv_at hl 1 rfl) ?_
      obtain ⟨hi16, v15, ev15, h⟩ := rdA_some h
      refine k_iald hx hb hK hP 7 0 rfl rfl hi16 ev15 dX0_settle_29 ?_
      refine lv_aload_n hx hb dX0_settle_30 rfl (lv_at hl 0 rfl) ?_
      refine va_get (D := (dC, dI)) (ci := 1) (v := .ref (q 5)) (C := RX0) (T := TX0) (N := 16) hx hb hts hwX0 hown hK hP 0 rfl rfl 5 (by decide) hf_27 (fun _ h9 => h9) rfl dX0_settle_31 ?_
      refine lv_iload_n hx hb dX0_settle_34 rfl (lv_at hl 1 rfl) ?_
      obtain ⟨hi18, v17, ev17, h⟩ := rdA_some h
      refine k_iald hx hb hK hP 6 0 rfl rfl hi18 ev17 dX0_settle_35 ?_
      refine va_mmax hx hb (hml.trans hl.1.symm) hown (hts (.methodLink RX0 88 Lib.Math.max.name) (by decide +kernel)) (hts (.static Lib.Math.max.name) (by decide +kernel)) (hts (.initialized "java/lang/Math") (by decide +kernel)) (hts (.code Lib.Math.max.name Lib.Math.max.code 2 (some .int)) (by decide +kernel)) (Nat.le_of_ble_eq_true rfl) (Nat.le_of_ble_eq_true rfl) (Nat.zero_le _) (Nat.zero_le _) dX0_settle_36 ?_
      obtain ⟨hi20, K19, eK19, h⟩ := wrA_some h
      refine va_iast hx hb hK hP hD hS 7 0 rfl rfl hi20 dX0_settle_39 (fun H locs hP hD hS => ?_)
      have hP : va_P (dC, dI) vwCl (cvW cI ob q K19) H := by rw [eK19]; exact hP
      have hD : va_D (aL (cvL ob q)) (cvW cI ob q K19) := by rw [eK19]; exact hD
      exact t_40  h (lv_sub hl [0, 1] rfl) hP hD hS
def fX0_goRound_46 (N : Nat)  (K : KT) (x1 : Int32) (x3 : Int32) : Option (Int32 × KT) := rdA (K 0) 5 x3 (fun v1 => bdE (mX0_takeTerm N K x1 v1) (fun v3 K4 => some (0, K4)))
def fX0_goRound_67 (N : Nat) (k14 : KT → Int32 → Int32 → Int32 → Option (Int32 × KT)) (K : KT) (x1 : Int32) (x2 : Int32) (x3 : Int32) : Option (Int32 × KT) := k14 K x1 x2 (x3 + 1)
def fX0_goRound_73 (N : Nat)  (K : KT) (x1 : Int32) (x2 : Int32) : Option (Int32 × KT) := bdE (mX0_settle N K x1 x2) (fun v5 K6 => some (0, K6))
def fX0_goRound_14 (N : Nat)  : Nat → KT → Int32 → Int32 → Int32 → Option (Int32 × KT)
  | 0, _, _, _, _ => none
  | n + 1, K, x1, x2, x3 => (if 5 ≤ x3 then fX0_goRound_73 N  K x1 x2 else bdP (mX0_isReached N K x1 x3) (fun v8 => (if v8 = 0 then fX0_goRound_67 N (fX0_goRound_14 N  n) K x1 x2 x3 else rdA (K 0) 5 x3 (fun v10 => rdA (K 0) 5 x1 (fun v12 => (if v10 ≤ v12 then bdE (mX0_visit N K x1 x3) (fun v15 K16 => fX0_goRound_67 N (fX0_goRound_14 N  n) K16 x1 (x2 + 1) x3) else fX0_goRound_46 N  K x1 x3))))))
def mX0_goRound (N : Nat) (K : KT) (p0 : Int32) : Option (Int32 × KT) := ptF K 10 4 ((K 10 4) + 1) (fun K17 => fX0_goRound_14 N  N K17 p0 1 0)
def rmX0_goRound : Room := { frames := 3, cells := 0, slots := 0, locals := 90 }
set_option maxHeartbeats 4000000 in
set_option maxRecDepth 100000 in
theorem tX0_goRound {l : Launch} {dC : Nat → ClassId} {dI : Nat → Nat → Nat} {cI : ClassId} {ob : Nat} {q : Nat → Nat} {N : Nat} {K : KT} {p0 : Int32} {rr : Int32} {KK : KT} (hf : mX0_goRound N K p0 = some (rr, KK)) : Met l yX0_goRound wsX0_goRound rmX0_goRound (cPe (dC, dI) vwCl [(cI, .int)] (cvL ob q) (cvW cI ob q K) [.ref ob, .int p0]) (cEv (dC, dI) vwCl (cvL ob q) (cvW cI ob q KK)) 0 0 (aL (cvL ob q)) := by
  refine Met.ofW (cc := cX0_goRound) (maxL := 4) (ret := none) (by decide) rfl ?_
  intro p e s m args below meth c s₁ B hml hv
  obtain ⟨rfl, hP, hK, hD⟩ := hv
  have hx := B.exec
  have hb := B.bytes
  have hr := B.returns
  have hts := atoms_spec (ws := wsX0_goRound) B.pre
  have hown : s.vm.findClass RX0 = some m.cls := findClass_of_methodNamed B.named
  have hlocks := B.notSynchronized
  have hwX0 : ∀ w ∈ u_ws RX0 TX0 16, w ∈ wsX0_goRound := by decide +kernel
  have hf_9 := hts (.fieldLink RX0 9 "CaravanLogs$Caravan" "term" "[I") (by decide +kernel)
  have hf_55 := hts (.fieldLink RX0 55 "CaravanLogs$Caravan" "marches" "I") (by decide +kernel)
  have t_46 : ∀ {K : KT} {x1 : Int32} {x3 : Int32} {H : Heap} {locs : List Loc} {ls : Array Slot} (h : fX0_goRound_46 N  K x1 x3 = some (rr, KK)) (hl : lv_has ls 4 [(0, .ref ob), (1, .int x1), (3, .int x3)]) (hP : va_P (dC, dI) vwCl (cvW cI ob q K) H) (hD : va_D (aL (cvL ob q)) (cvW cI ob q K)) (hS : va_S (aL (cvL ob q)) s.heap H locs), W p l e (headSpec wsX0_goRound rmX0_goRound).room s m ([.ref ob, .int p0] : List Value).toArray below meth c H locs 0 0 (MQ below (cEv (dC, dI) vwCl (cvL ob q) (cvW cI ob q KK)) ([.ref ob, .int p0] : List Value).toArray s 0 0 (aL (cvL ob q))) (F0 m 46 ls []) := by
    intro  K x1 x3 H locs ls h hl hP hD hS
    unfold fX0_goRound_46 at h
    refine lv_aload_n hx hb dX0_goRound_46 rfl (lv_at hl 0 rfl) ?_
    refine lv_iload_n hx hb dX0_goRound_47 rfl (lv_at hl 1 rfl) ?_
    refine lv_aload_n hx hb dX0_goRound_48 rfl (lv_at hl 0 rfl) ?_
    refine va_get (D := (dC, dI)) (ci := 1) (v := .ref (q 0)) (C := RX0) (T := TX0) (N := 16) hx hb hts hwX0 hown hK hP 0 rfl rfl 0 (by decide) hf_9 (fun _ h9 => h9) rfl dX0_goRound_49 ?_
    refine lv_iload_n hx hb dX0_goRound_52 rfl (lv_at hl 2 rfl) ?_
    obtain ⟨hi2, v1, ev1, h⟩ := rdA_some h
    refine k_iald hx hb hK hP 1 0 rfl rfl hi2 ev1 dX0_goRound_53 ?_
    obtain ⟨v3, K4, hv3, h⟩ := bdE_some h
    refine call_VEv (As := [.int x1, .int v1]) (rest := []) ⟨hx, hb, hml, hown, hts⟩ (tX0_takeTerm (l := l) (dC := dC) (dI := dI) (cI := cI) (ob := ob) (q := q) hv3) (cwV 2 hts gX0_goRound_X0_takeTerm rfl rfl rfl (by decide +kernel) ⟨Nat.le_of_ble_eq_true rfl, Nat.le_of_ble_eq_true rfl⟩) hK hP hD hS (fun _ h9 => h9) 0 rfl rfl (by rfl) hl.1 rfl (Nat.le_of_ble_eq_true rfl) dX0_goRound_54 ⟨Nat.zero_le _, Nat.zero_le _⟩ (fun H locs hP hD _ hS => ?_)
    exact W.vret hx hb hr (fun t ht _ => retEv (w := cvW cI ob q) h hP hD hS ht) hS.2.2 dX0_goRound_57
  have t_67 : ∀ {k14 : KT → Int32 → Int32 → Int32 → Option (Int32 × KT)} (hk14 : ∀ {K : KT} {x1 : Int32} {x2 : Int32} {x3 : Int32} {H : Heap} {locs : List Loc} {ls : Array Slot} (h : k14 K x1 x2 x3 = some (rr, KK)) (hl : lv_has ls 4 [(0, .ref ob), (1, .int x1), (2, .int x2), (3, .int x3)]) (hP : va_P (dC, dI) vwCl (cvW cI ob q K) H) (hD : va_D (aL (cvL ob q)) (cvW cI ob q K)) (hS : va_S (aL (cvL ob q)) s.heap H locs), W p l e (headSpec wsX0_goRound rmX0_goRound).room s m ([.ref ob, .int p0] : List Value).toArray below meth c H locs 0 0 (MQ below (cEv (dC, dI) vwCl (cvL ob q) (cvW cI ob q KK)) ([.ref ob, .int p0] : List Value).toArray s 0 0 (aL (cvL ob q))) (F0 m 14 ls [])), ∀ {K : KT} {x1 : Int32} {x2 : Int32} {x3 : Int32} {H : Heap} {locs : List Loc} {ls : Array Slot} (h : fX0_goRound_67 N k14 K x1 x2 x3 = some (rr, KK)) (hl : lv_has ls 4 [(0, .ref ob), (1, .int x1), (2, .int x2), (3, .int x3)]) (hP : va_P (dC, dI) vwCl (cvW cI ob q K) H) (hD : va_D (aL (cvL ob q)) (cvW cI ob q K)) (hS : va_S (aL (cvL ob q)) s.heap H locs), W p l e (headSpec wsX0_goRound rmX0_goRound).room s m ([.ref ob, .int p0] : List Value).toArray below meth c H locs 0 0 (MQ below (cEv (dC, dI) vwCl (cvL ob q) (cvW cI ob q KK)) ([.ref ob, .int p0] : List Value).toArray s 0 0 (aL (cvL ob q))) (F0 m 67 ls []) := by
    intro k14 hk14 K x1 x2 x3 H locs ls h hl hP hD hS
    unfold fX0_goRound_67 at h
    refine lv_iinc (v := x3 + 1) (lv' := [(3, .int (x3 + 1)), (0, .ref ob), (1, .int x1), (2, .int x2)]) hx hb dX0_goRound_67 hl (k := 3) rfl rfl (by decide) rfl (fun ls hl => ?_)
    refine lv_goto (tgt := 14) hx hb dX0_goRound_70 (by decide) ?_
    exact hk14 h (lv_sub hl [1, 2, 3, 0] rfl) hP hD hS
  have t_73 : ∀ {K : KT} {x1 : Int32} {x2 : Int32} {H : Heap} {locs : List Loc} {ls : Array Slot} (h : fX0_goRound_73 N  K x1 x2 = some (rr, KK)) (hl : lv_has ls 4 [(0, .ref ob), (1, .int x1), (2, .int x2)]) (hP : va_P (dC, dI) vwCl (cvW cI ob q K) H) (hD : va_D (aL (cvL ob q)) (cvW cI ob q K)) (hS : va_S (aL (cvL ob q)) s.heap H locs), W p l e (headSpec wsX0_goRound rmX0_goRound).room s m ([.ref ob, .int p0] : List Value).toArray below meth c H locs 0 0 (MQ below (cEv (dC, dI) vwCl (cvL ob q) (cvW cI ob q KK)) ([.ref ob, .int p0] : List Value).toArray s 0 0 (aL (cvL ob q))) (F0 m 73 ls []) := by
    intro  K x1 x2 H locs ls h hl hP hD hS
    unfold fX0_goRound_73 at h
    refine lv_aload_n hx hb dX0_goRound_73 rfl (lv_at hl 0 rfl) ?_
    refine lv_iload_n hx hb dX0_goRound_74 rfl (lv_at hl 1 rfl) ?_
    refine lv_iload_n hx hb dX0_goRound_75 rfl (lv_at hl 2 rfl) ?_
    obtain ⟨v5, K6, hv5, h⟩ := bdE_some h
    refine call_VEv (As := [.int x1, .int x2]) (rest := []) ⟨hx, hb, hml, hown, hts⟩ (tX0_settle (l := l) (dC := dC) (dI := dI) (cI := cI) (ob := ob) (q := q) hv5) (cwV 2 hts gX0_goRound_X0_settle rfl rfl rfl (by decide +kernel) ⟨Nat.le_of_ble_eq_true rfl, Nat.le_of_ble_eq_true rfl⟩) hK hP hD hS (fun _ h9 => h9) 0 rfl rfl (by rfl) hl.1 rfl (Nat.le_of_ble_eq_true rfl) dX0_goRound_76 ⟨Nat.zero_le _, Nat.zero_le _⟩ (fun H locs hP hD _ hS => ?_)
    exact W.vret hx hb hr (fun t ht _ => retEv (w := cvW cI ob q) h hP hD hS ht) hS.2.2 dX0_goRound_79
  have t_14 : ∀ {n : Nat}, ∀ {K : KT} {x1 : Int32} {x2 : Int32} {x3 : Int32} {H : Heap} {locs : List Loc} {ls : Array Slot} (h : fX0_goRound_14 N  n K x1 x2 x3 = some (rr, KK)) (hl : lv_has ls 4 [(0, .ref ob), (1, .int x1), (2, .int x2), (3, .int x3)]) (hP : va_P (dC, dI) vwCl (cvW cI ob q K) H) (hD : va_D (aL (cvL ob q)) (cvW cI ob q K)) (hS : va_S (aL (cvL ob q)) s.heap H locs), W p l e (headSpec wsX0_goRound rmX0_goRound).room s m ([.ref ob, .int p0] : List Value).toArray below meth c H locs 0 0 (MQ below (cEv (dC, dI) vwCl (cvL ob q) (cvW cI ob q KK)) ([.ref ob, .int p0] : List Value).toArray s 0 0 (aL (cvL ob q))) (F0 m 14 ls []) := by
    intro  n
    induction n with
    | zero =>
      intro K x1 x2 x3 H locs ls h hl hP hD hS
      unfold fX0_goRound_14 at h
      cases h
    | succ n ih =>
      intro K x1 x2 x3 H locs ls h hl hP hD hS
      unfold fX0_goRound_14 at h
      refine lv_iload_n hx hb dX0_goRound_14 rfl (lv_at hl 3 rfl) ?_
      refine lv_iconst (v := 5) hx hb dX0_goRound_15 (by decide) ?_
      refine lv_icmp_ge (tgt := 73) hx hb dX0_goRound_16 (by decide) (fun c7 => ?_) (fun c7 => ?_)
      · replace h := if_p c7 h
        exact t_73  h (lv_sub hl [0, 1, 2] rfl) hP hD hS
      · replace h := if_n c7 h
        refine lv_aload_n hx hb dX0_goRound_19 rfl (lv_at hl 0 rfl) ?_
        refine lv_iload_n hx hb dX0_goRound_20 rfl (lv_at hl 1 rfl) ?_
        refine lv_iload_n hx hb dX0_goRound_21 rfl (lv_at hl 3 rfl) ?_
        obtain ⟨v8, hv8, h⟩ := bdP_some h
        refine call_VP (As := [.int x1, .int x3]) (rest := []) ⟨hx, hb, hml, hown, hts⟩ (tX0_isReached (l := l) (dC := dC) (dI := dI) (cI := cI) (ob := ob) (q := q) hv8) (cwV 2 hts gX0_goRound_X0_isReached rfl rfl rfl (by decide +kernel) ⟨Nat.le_of_ble_eq_true rfl, Nat.le_of_ble_eq_true rfl⟩) hK hP 0 rfl rfl (by rfl) hl.1 rfl (Nat.le_of_ble_eq_true rfl) dX0_goRound_22 ⟨Nat.zero_le _, Nat.zero_le _⟩ ?_
        refine lv_if_ne (tgt := 31) hx hb dX0_goRound_25 (by decide) (fun c9 => ?_) (fun c9 => ?_)
        · replace h := if_n c9 h
          refine lv_aload_n hx hb dX0_goRound_31 rfl (lv_at hl 0 rfl) ?_
          refine va_get (D := (dC, dI)) (ci := 1) (v := .ref (q 0)) (C := RX0) (T := TX0) (N := 16) hx hb hts hwX0 hown hK hP 0 rfl rfl 0 (by decide) hf_9 (fun _ h9 => h9) rfl dX0_goRound_32 ?_
          refine lv_iload_n hx hb dX0_goRound_35 rfl (lv_at hl 3 rfl) ?_
          obtain ⟨hi11, v10, ev10, h⟩ := rdA_some h
          refine k_iald hx hb hK hP 1 0 rfl rfl hi11 ev10 dX0_goRound_36 ?_
          refine lv_aload_n hx hb dX0_goRound_37 rfl (lv_at hl 0 rfl) ?_
          refine va_get (D := (dC, dI)) (ci := 1) (v := .ref (q 0)) (C := RX0) (T := TX0) (N := 16) hx hb hts hwX0 hown hK hP 0 rfl rfl 0 (by decide) hf_9 (fun _ h9 => h9) rfl dX0_goRound_38 ?_
          refine lv_iload_n hx hb dX0_goRound_41 rfl (lv_at hl 1 rfl) ?_
          obtain ⟨hi13, v12, ev12, h⟩ := rdA_some h
          refine k_iald hx hb hK hP 1 0 rfl rfl hi13 ev12 dX0_goRound_42 ?_
          refine lv_icmp_le (tgt := 58) hx hb dX0_goRound_43 (by decide) (fun c14 => ?_) (fun c14 => ?_)
          · replace h := if_p c14 h
            refine lv_aload_n hx hb dX0_goRound_58 rfl (lv_at hl 0 rfl) ?_
            refine lv_iload_n hx hb dX0_goRound_59 rfl (lv_at hl 1 rfl) ?_
            refine lv_iload_n hx hb dX0_goRound_60 rfl (lv_at hl 3 rfl) ?_
            obtain ⟨v15, K16, hv15, h⟩ := bdE_some h
            refine call_VEv (As := [.int x1, .int x3]) (rest := []) ⟨hx, hb, hml, hown, hts⟩ (tX0_visit (l := l) (dC := dC) (dI := dI) (cI := cI) (ob := ob) (q := q) hv15) (cwV 2 hts gX0_goRound_X0_visit rfl rfl rfl (by decide +kernel) ⟨Nat.le_of_ble_eq_true rfl, Nat.le_of_ble_eq_true rfl⟩) hK hP hD hS (fun _ h9 => h9) 0 rfl rfl (by rfl) hl.1 rfl (Nat.le_of_ble_eq_true rfl) dX0_goRound_61 ⟨Nat.zero_le _, Nat.zero_le _⟩ (fun H locs hP hD _ hS => ?_)
            refine lv_iinc (v := x2 + 1) (lv' := [(2, .int (x2 + 1)), (0, .ref ob), (1, .int x1), (3, .int x3)]) hx hb dX0_goRound_64 hl (k := 2) rfl rfl (by decide) rfl (fun ls hl => ?_)
            exact t_67 @ih h (lv_sub hl [1, 2, 0, 3] rfl) hP hD hS
          · replace h := if_n c14 h
            exact t_46  h (lv_sub hl [0, 1, 3] rfl) hP hD hS
        · replace h := if_p c9 h
          refine lv_goto (tgt := 67) hx hb dX0_goRound_28 (by decide) ?_
          exact t_67 @ih h (lv_sub hl [0, 1, 2, 3] rfl) hP hD hS
  have hS : va_S (aL (cvL ob q)) s.heap s.heap [] := va_S.rf
  have hl := lv_entry ([.ref ob, .int p0]) (n := 4) (Nat.le_of_ble_eq_true rfl)
  rw [lg_entry_eq]
  generalize (lg_sl ([.ref ob, .int p0]) ++ List.replicate (4 - (lg_sl ([.ref ob, .int p0])).length) Slot.unset).toArray = ls at hl ⊢
  have hl : lv_has ls 4 [(0, .ref ob), (1, .int p0)] := hl
  have h := hf
  unfold mX0_goRound at h
  refine lv_aload_n hx hb dX0_goRound_0 rfl (lv_at hl 0 rfl) ?_
  refine lv_dup hx hb dX0_goRound_1 rfl ?_
  refine va_get (D := (dC, dI)) (ci := 1) (v := .int (K 10 4)) (C := RX0) (T := TX0) (N := 16) hx hb hts hwX0 hown hK hP 0 rfl rfl 14 (by decide) hf_55 (fun _ h9 => h9) rfl dX0_goRound_2 ?_
  refine lv_iconst (v := 1) hx hb dX0_goRound_5 (by decide) ?_
  refine lv_iadd hx hb dX0_goRound_6 ?_
  obtain ⟨K17, eK17, h⟩ := ptF_some h
  refine va_put (D := (dC, dI)) (ci := 1) (v := .int ((K 10 4) + 1)) (ty := .int) (C := RX0) (T := TX0) (N := 16) hx hb hts hwX0 tyX0 tyX0_ok nmX0 hown hK hP hD hS 0 rfl rfl 14 (by decide) hf_55 (fun _ h9 => h9) rfl (by decide +kernel) rfl rfl (Nat.le_of_ble_eq_true rfl) dX0_goRound_7 (fun H locs hP hD hS => ?_)
  have hP : va_P (dC, dI) vwCl (cvW cI ob q K17) H := by rw [eK17]; exact hP
  have hD : va_D (aL (cvL ob q)) (cvW cI ob q K17) := by rw [eK17]; exact hD
  refine lv_iconst (v := 1) hx hb dX0_goRound_10 (by decide) ?_
  refine lv_istore_n (lv' := [(2, .int 1), (0, .ref ob), (1, .int p0)]) hx hb dX0_goRound_11 rfl hl (by decide) rfl (fun ls hl => ?_)
  refine lv_iconst (v := 0) hx hb dX0_goRound_12 (by decide) ?_
  refine lv_istore_n (lv' := [(3, .int 0), (2, .int 1), (0, .ref ob), (1, .int p0)]) hx hb dX0_goRound_13 rfl hl (by decide) rfl (fun ls hl => ?_)
  exact t_14  h (lv_sub hl [2, 3, 1, 0] rfl) hP hD hS
def fX0_letHourGoBy_32 (N : Nat) (k12 : KT → Int32 → Option (Int32 × KT)) (K : KT) (x1 : Int32) : Option (Int32 × KT) := k12 K (x1 + 1)
def fX0_letHourGoBy_63 (N : Nat) (k40 : KT → Int32 → Option (Int32 × KT)) (K : KT) (x1 : Int32) : Option (Int32 × KT) := k40 K (x1 + 1)
def fX0_letHourGoBy_102 (N : Nat) (k71 : KT → Int32 → Option (Int32 × KT)) (K : KT) (x1 : Int32) : Option (Int32 × KT) := k71 K (x1 + 1)
def fX0_letHourGoBy_71 (N : Nat)  : Nat → KT → Int32 → Option (Int32 × KT)
  | 0, _, _ => none
  | n + 1, K, x1 => (if 5 ≤ x1 then some (0, K) else bdP (mX0_isWaiting N K x1) (fun v2 => (if v2 = 0 then fX0_letHourGoBy_102 N (fX0_letHourGoBy_71 N  n) K x1 else rdA (K 4) 5 x1 (fun v4 => (if v4 < (3 + x1) then fX0_letHourGoBy_102 N (fX0_letHourGoBy_71 N  n) K x1 else bdE (mX0_askForVotes N K x1) (fun v7 K8 => fX0_letHourGoBy_102 N (fX0_letHourGoBy_71 N  n) K8 x1))))))
def fX0_letHourGoBy_69 (N : Nat)  (K : KT)  : Option (Int32 × KT) := fX0_letHourGoBy_71 N  N K 0
def fX0_letHourGoBy_40 (N : Nat)  : Nat → KT → Int32 → Option (Int32 × KT)
  | 0, _, _ => none
  | n + 1, K, x1 => (if 5 ≤ x1 then fX0_letHourGoBy_69 N  K  else bdP (mX0_isWaiting N K x1) (fun v10 => (if v10 = 0 then fX0_letHourGoBy_63 N (fX0_letHourGoBy_40 N  n) K x1 else rdA (K 4) 5 x1 (fun v12 => wrA K 4 5 x1 (v12 + 1) (fun K14 => fX0_letHourGoBy_63 N (fX0_letHourGoBy_40 N  n) K14 x1)))))
def fX0_letHourGoBy_38 (N : Nat)  (K : KT)  : Option (Int32 × KT) := fX0_letHourGoBy_40 N  N K 0
def fX0_letHourGoBy_12 (N : Nat)  : Nat → KT → Int32 → Option (Int32 × KT)
  | 0, _, _ => none
  | n + 1, K, x1 => (if 5 ≤ x1 then fX0_letHourGoBy_38 N  K  else rdA (K 2) 5 x1 (fun v17 => (if v17 = 1 then bdE (mX0_goRound N K x1) (fun v20 K21 => fX0_letHourGoBy_32 N (fX0_letHourGoBy_12 N  n) K21 x1) else fX0_letHourGoBy_32 N (fX0_letHourGoBy_12 N  n) K x1)))
def mX0_letHourGoBy (N : Nat) (K : KT)  : Option (Int32 × KT) := ptF K 10 5 ((K 10 5) + 1) (fun K22 => fX0_letHourGoBy_12 N  N K22 0)
def rmX0_letHourGoBy : Room := { frames := 4, cells := 0, slots := 0, locals := 113 }
set_option maxHeartbeats 4000000 in
set_option maxRecDepth 100000 in
theorem tX0_letHourGoBy {l : Launch} {dC : Nat → ClassId} {dI : Nat → Nat → Nat} {cI : ClassId} {ob : Nat} {q : Nat → Nat} {N : Nat} {K : KT}  {rr : Int32} {KK : KT} (hf : mX0_letHourGoBy N K  = some (rr, KK)) : Met l yX0_letHourGoBy wsX0_letHourGoBy rmX0_letHourGoBy (cPe (dC, dI) vwCl [(cI, .int)] (cvL ob q) (cvW cI ob q K) [.ref ob]) (cEv (dC, dI) vwCl (cvL ob q) (cvW cI ob q KK)) 0 0 (aL (cvL ob q)) := by
  refine Met.ofW (cc := cX0_letHourGoBy) (maxL := 2) (ret := none) (by decide) rfl ?_
  intro p e s m args below meth c s₁ B hml hv
  obtain ⟨rfl, hP, hK, hD⟩ := hv
  have hx := B.exec
  have hb := B.bytes
  have hr := B.returns
  have hts := atoms_spec (ws := wsX0_letHourGoBy) B.pre
  have hown : s.vm.findClass RX0 = some m.cls := findClass_of_methodNamed B.named
  have hlocks := B.notSynchronized
  have hwX0 : ∀ w ∈ u_ws RX0 TX0 16, w ∈ wsX0_letHourGoBy := by decide +kernel
  have hf_18 := hts (.fieldLink RX0 18 "CaravanLogs$Caravan" "isCaptain" "[I") (by decide +kernel)
  have hf_24 := hts (.fieldLink RX0 24 "CaravanLogs$Caravan" "silence" "[I") (by decide +kernel)
  have hf_58 := hts (.fieldLink RX0 58 "CaravanLogs$Caravan" "hours" "I") (by decide +kernel)
  have t_32 : ∀ {k12 : KT → Int32 → Option (Int32 × KT)} (hk12 : ∀ {K : KT} {x1 : Int32} {H : Heap} {locs : List Loc} {ls : Array Slot} (h : k12 K x1 = some (rr, KK)) (hl : lv_has ls 2 [(0, .ref ob), (1, .int x1)]) (hP : va_P (dC, dI) vwCl (cvW cI ob q K) H) (hD : va_D (aL (cvL ob q)) (cvW cI ob q K)) (hS : va_S (aL (cvL ob q)) s.heap H locs), W p l e (headSpec wsX0_letHourGoBy rmX0_letHourGoBy).room s m ([.ref ob] : List Value).toArray below meth c H locs 0 0 (MQ below (cEv (dC, dI) vwCl (cvL ob q) (cvW cI ob q KK)) ([.ref ob] : List Value).toArray s 0 0 (aL (cvL ob q))) (F0 m 12 ls [])), ∀ {K : KT} {x1 : Int32} {H : Heap} {locs : List Loc} {ls : Array Slot} (h : fX0_letHourGoBy_32 N k12 K x1 = some (rr, KK)) (hl : lv_has ls 2 [(0, .ref ob), (1, .int x1)]) (hP : va_P (dC, dI) vwCl (cvW cI ob q K) H) (hD : va_D (aL (cvL ob q)) (cvW cI ob q K)) (hS : va_S (aL (cvL ob q)) s.heap H locs), W p l e (headSpec wsX0_letHourGoBy rmX0_letHourGoBy).room s m ([.ref ob] : List Value).toArray below meth c H locs 0 0 (MQ below (cEv (dC, dI) vwCl (cvL ob q) (cvW cI ob q KK)) ([.ref ob] : List Value).toArray s 0 0 (aL (cvL ob q))) (F0 m 32 ls []) := by
    intro k12 hk12 K x1 H locs ls h hl hP hD hS
    unfold fX0_letHourGoBy_32 at h
    refine lv_iinc (v := x1 + 1) (lv' := [(1, .int (x1 + 1)), (0, .ref ob)]) hx hb dX0_letHourGoBy_32 hl (k := 1) rfl rfl (by decide) rfl (fun ls hl => ?_)
    refine lv_goto (tgt := 12) hx hb dX0_letHourGoBy_35 (by decide) ?_
    exact hk12 h (lv_sub hl [1, 0] rfl) hP hD hS
  have t_63 : ∀ {k40 : KT → Int32 → Option (Int32 × KT)} (hk40 : ∀ {K : KT} {x1 : Int32} {H : Heap} {locs : List Loc} {ls : Array Slot} (h : k40 K x1 = some (rr, KK)) (hl : lv_has ls 2 [(0, .ref ob), (1, .int x1)]) (hP : va_P (dC, dI) vwCl (cvW cI ob q K) H) (hD : va_D (aL (cvL ob q)) (cvW cI ob q K)) (hS : va_S (aL (cvL ob q)) s.heap H locs), W p l e (headSpec wsX0_letHourGoBy rmX0_letHourGoBy).room s m ([.ref ob] : List Value).toArray below meth c H locs 0 0 (MQ below (cEv (dC, dI) vwCl (cvL ob q) (cvW cI ob q KK)) ([.ref ob] : List Value).toArray s 0 0 (aL (cvL ob q))) (F0 m 40 ls [])), ∀ {K : KT} {x1 : Int32} {H : Heap} {locs : List Loc} {ls : Array Slot} (h : fX0_letHourGoBy_63 N k40 K x1 = some (rr, KK)) (hl : lv_has ls 2 [(0, .ref ob), (1, .int x1)]) (hP : va_P (dC, dI) vwCl (cvW cI ob q K) H) (hD : va_D (aL (cvL ob q)) (cvW cI ob q K)) (hS : va_S (aL (cvL ob q)) s.heap H locs), W p l e (headSpec wsX0_letHourGoBy rmX0_letHourGoBy).room s m ([.ref ob] : List Value).toArray below meth c H locs 0 0 (MQ below (cEv (dC, dI) vwCl (cvL ob q) (cvW cI ob q KK)) ([.ref ob] : List Value).toArray s 0 0 (aL (cvL ob q))) (F0 m 63 ls []) := by
    intro k40 hk40 K x1 H locs ls h hl hP hD hS
    unfold fX0_letHourGoBy_63 at h
    refine lv_iinc (v := x1 + 1) (lv' := [(1, .int (x1 + 1)), (0, .ref ob)]) hx hb dX0_letHourGoBy_63 hl (k := 1) rfl rfl (by decide) rfl (fun ls hl => ?_)
    refine lv_goto (tgt := 40) hx hb dX0_letHourGoBy_66 (by decide) ?_
    exact hk40 h (lv_sub hl [1, 0] rfl) hP hD hS
  have t_102 : ∀ {k71 : KT → Int32 → Option (Int32 × KT)} (hk71 : ∀ {K : KT} {x1 : Int32} {H : Heap} {locs : List Loc} {ls : Array Slot} (h : k71 K x1 = some (rr, KK)) (hl : lv_has ls 2 [(0, .ref ob), (1, .int x1)]) (hP : va_P (dC, dI) vwCl (cvW cI ob q K) H) (hD : va_D (aL (cvL ob q)) (cvW cI ob q K)) (hS : va_S (aL (cvL ob q)) s.heap H locs), W p l e (headSpec wsX0_letHourGoBy rmX0_letHourGoBy).room s m ([.ref ob] : List Value).toArray below meth c H locs 0 0 (MQ below (cEv (dC, dI) vwCl (cvL ob q) (cvW cI ob q KK)) ([.ref ob] : List Value).toArray s 0 0 (aL (cvL ob q))) (F0 m 71 ls [])), ∀ {K : KT} {x1 : Int32} {H : Heap} {locs : List Loc} {ls : Array Slot} (h : fX0_letHourGoBy_102 N k71 K x1 = some (rr, KK)) (hl : lv_has ls 2 [(0, .ref ob), (1, .int x1)]) (hP : va_P (dC, dI) vwCl (cvW cI ob q K) H) (hD : va_D (aL (cvL ob q)) (cvW cI ob q K)) (hS : va_S (aL (cvL ob q)) s.heap H locs), W p l e (headSpec wsX0_letHourGoBy rmX0_letHourGoBy).room s m ([.ref ob] : List Value).toArray below meth c H locs 0 0 (MQ below (cEv (dC, dI) vwCl (cvL ob q) (cvW cI ob q KK)) ([.ref ob] : List Value).toArray s 0 0 (aL (cvL ob q))) (F0 m 102 ls []) := by
    intro k71 hk71 K x1 H locs ls h hl hP hD hS
    unfold fX0_letHourGoBy_102 at h
    refine lv_iinc (v := x1 + 1) (lv' := [(1, .int (x1 + 1)), (0, .ref ob)]) hx hb dX0_letHourGoBy_102 hl (k := 1) rfl rfl (by decide) rfl (fun ls hl => ?_)
    refine lv_goto (tgt := 71) hx hb dX0_letHourGoBy_105 (by decide) ?_
    exact hk71 h (lv_sub hl [1, 0] rfl) hP hD hS
  have t_71 : ∀ {n : Nat}, ∀ {K : KT} {x1 : Int32} {H : Heap} {locs : List Loc} {ls : Array Slot} (h : fX0_letHourGoBy_71 N  n K x1 = some (rr, KK)) (hl : lv_has ls 2 [(0, .ref ob), (1, .int x1)]) (hP : va_P (dC, dI) vwCl (cvW cI ob q K) H) (hD : va_D (aL (cvL ob q)) (cvW cI ob q K)) (hS : va_S (aL (cvL ob q)) s.heap H locs), W p l e (headSpec wsX0_letHourGoBy rmX0_letHourGoBy).room s m ([.ref ob] : List Value).toArray below meth c H locs 0 0 (MQ below (cEv (dC, dI) vwCl (cvL ob q) (cvW cI ob q KK)) ([.ref ob] : List Value).toArray s 0 0 (aL (cvL ob q))) (F0 m 71 ls []) := by
    intro  n
    induction n with
    | zero =>
      intro K x1 H locs ls h hl hP hD hS
      unfold fX0_letHourGoBy_71 at h
      cases h
    | succ n ih =>
      intro K x1 H locs ls h hl hP hD hS
      unfold fX0_letHourGoBy_71 at h
      refine lv_iload_n hx hb dX0_letHourGoBy_71 rfl (lv_at hl 1 rfl) ?_
      refine lv_iconst (v := 5) hx hb dX0_letHourGoBy_72 (by decide) ?_
      refine lv_icmp_ge (tgt := 108) hx hb dX0_letHourGoBy_73 (by decide) (fun c1 => ?_) (fun c1 => ?_)
      · replace h := if_p c1 h
        exact W.vret hx hb hr (fun t ht _ => retEv (w := cvW cI ob q) h hP hD hS ht) hS.2.2 dX0_letHourGoBy_108
      · replace h := if_n c1 h
        refine lv_aload_n hx hb dX0_letHourGoBy_76 rfl (lv_at hl 0 rfl) ?_
        refine lv_iload_n hx hb dX0_letHourGoBy_77 rfl (lv_at hl 1 rfl) ?_
        obtain ⟨v2, hv2, h⟩ := bdP_some h
        refine call_VP (As := [.int x1]) (rest := []) ⟨hx, hb, hml, hown, hts⟩ (tX0_isWaiting (l := l) (dC := dC) (dI := dI) (cI := cI) (ob := ob) (q := q) hv2) (cwV 1 hts gX0_letHourGoBy_X0_isWaiting rfl rfl rfl (by decide +kernel) ⟨Nat.le_of_ble_eq_true rfl, Nat.le_of_ble_eq_true rfl⟩) hK hP 0 rfl rfl (by rfl) hl.1 rfl (Nat.le_of_ble_eq_true rfl) dX0_letHourGoBy_78 ⟨Nat.zero_le _, Nat.zero_le _⟩ ?_
        refine lv_if_eq (tgt := 102) hx hb dX0_letHourGoBy_81 (by decide) (fun c3 => ?_) (fun c3 => ?_)
        · replace h := if_p c3 h
          exact t_102 @ih h (lv_sub hl [0, 1] rfl) hP hD hS
        · replace h := if_n c3 h
          refine lv_aload_n hx hb dX0_letHourGoBy_84 rfl (lv_at hl 0 rfl) ?_
          refine va_get (D := (dC, dI)) (ci := 1) (v := .ref (q 4)) (C := RX0) (T := TX0) (N := 16) hx hb hts hwX0 hown hK hP 0 rfl rfl 4 (by decide) hf_24 (fun _ h9 => h9) rfl dX0_letHourGoBy_85 ?_
          refine lv_iload_n hx hb dX0_letHourGoBy_88 rfl (lv_at hl 1 rfl) ?_
          obtain ⟨hi5, v4, ev4, h⟩ := rdA_some h
          refine k_iald hx hb hK hP 5 0 rfl rfl hi5 ev4 dX0_letHourGoBy_89 ?_
          refine lv_iconst (v := 3) hx hb dX0_letHourGoBy_90 (by decide) ?_
          refine lv_iload_n hx hb dX0_letHourGoBy_91 rfl (lv_at hl 1 rfl) ?_
          refine lv_iadd hx hb dX0_letHourGoBy_92 ?_
          refine lv_icmp_lt (tgt := 102) hx hb dX0_letHourGoBy_93 (by decide) (fun c6 => ?_) (fun c6 => ?_)
          · replace h := if_p c6 h
            exact t_102 @ih h (lv_sub hl [0, 1] rfl) hP hD hS
          · replace h := if_n c6 h
            refine lv_aload_n hx hb dX0_letHourGoBy_96 rfl (lv_at hl 0 rfl) ?_
            refine lv_iload_n hx hb dX0_letHourGoBy_97 rfl (lv_at hl 1 rfl) ?_
            obtain ⟨v7, K8, hv7, h⟩ := bdE_some h
            refine call_VE (As := [.int x1]) (rest := []) ⟨hx, hb, hml, hown, hts⟩ (tX0_askForVotes (l := l) (dC := dC) (dI := dI) (cI := cI) (ob := ob) (q := q) hv7) (cwV 1 hts gX0_letHourGoBy_X0_askForVotes rfl rfl rfl (by decide +kernel) ⟨Nat.le_of_ble_eq_true rfl, Nat.le_of_ble_eq_true rfl⟩) hK hP hD hS (fun _ h9 => h9) 0 rfl rfl (by rfl) hl.1 rfl (Nat.le_of_ble_eq_true rfl) dX0_letHourGoBy_98 ⟨Nat.zero_le _, Nat.zero_le _⟩ (fun H locs hP hD _ hS => ?_)
            refine lv_pop hx hb dX0_letHourGoBy_101 rfl ?_
            exact t_102 @ih h (lv_sub hl [0, 1] rfl) hP hD hS
  have t_69 : ∀ {K : KT}  {H : Heap} {locs : List Loc} {ls : Array Slot} (h : fX0_letHourGoBy_69 N  K  = some (rr, KK)) (hl : lv_has ls 2 [(0, .ref ob)]) (hP : va_P (dC, dI) vwCl (cvW cI ob q K) H) (hD : va_D (aL (cvL ob q)) (cvW cI ob q K)) (hS : va_S (aL (cvL ob q)) s.heap H locs), W p l e (headSpec wsX0_letHourGoBy rmX0_letHourGoBy).room s m ([.ref ob] : List Value).toArray below meth c H locs 0 0 (MQ below (cEv (dC, dI) vwCl (cvL ob q) (cvW cI ob q KK)) ([.ref ob] : List Value).toArray s 0 0 (aL (cvL ob q))) (F0 m 69 ls []) := by
    intro  K H locs ls h hl hP hD hS
    unfold fX0_letHourGoBy_69 at h
    refine lv_iconst (v := 0) hx hb dX0_letHourGoBy_69 (by decide) ?_
    refine lv_istore_n (lv' := [(1, .int 0), (0, .ref ob)]) hx hb dX0_letHourGoBy_70 rfl hl (by decide) rfl (fun ls hl => ?_)
    exact t_71  h (lv_sub hl [1, 0] rfl) hP hD hS
  have t_40 : ∀ {n : Nat}, ∀ {K : KT} {x1 : Int32} {H : Heap} {locs : List Loc} {ls : Array Slot} (h : fX0_letHourGoBy_40 N  n K x1 = some (rr, KK)) (hl : lv_has ls 2 [(0, .ref ob), (1, .int x1)]) (hP : va_P (dC, dI) vwCl (cvW cI ob q K) H) (hD : va_D (aL (cvL ob q)) (cvW cI ob q K)) (hS : va_S (aL (cvL ob q)) s.heap H locs), W p l e (headSpec wsX0_letHourGoBy rmX0_letHourGoBy).room s m ([.ref ob] : List Value).toArray below meth c H locs 0 0 (MQ below (cEv (dC, dI) vwCl (cvL ob q) (cvW cI ob q KK)) ([.ref ob] : List Value).toArray s 0 0 (aL (cvL ob q))) (F0 m 40 ls []) := by
    intro  n
    induction n with
    | zero =>
      intro K x1 H locs ls h hl hP hD hS
      unfold fX0_letHourGoBy_40 at h
      cases h
    | succ n ih =>
      intro K x1 H locs ls h hl hP hD hS
      unfold fX0_letHourGoBy_40 at h
      refine lv_iload_n hx hb dX0_letHourGoBy_40 rfl (lv_at hl 1 rfl) ?_
      refine lv_iconst (v := 5) hx hb dX0_letHourGoBy_41 (by decide) ?_
      refine lv_icmp_ge (tgt := 69) hx hb dX0_letHourGoBy_42 (by decide) (fun c9 => ?_) (fun c9 => ?_)
      · replace h := if_p c9 h
        exact t_69  h (lv_sub hl [0] rfl) hP hD hS
      · replace h := if_n c9 h
        refine lv_aload_n hx hb dX0_letHourGoBy_45 rfl (lv_at hl 0 rfl) ?_
        refine lv_iload_n hx hb dX0_letHourGoBy_46 rfl (lv_at hl 1 rfl) ?_
        obtain ⟨v10, hv10, h⟩ := bdP_some h
        refine call_VP (As := [.int x1]) (rest := []) ⟨hx, hb, hml, hown, hts⟩ (tX0_isWaiting (l := l) (dC := dC) (dI := dI) (cI := cI) (ob := ob) (q := q) hv10) (cwV 1 hts gX0_letHourGoBy_X0_isWaiting rfl rfl rfl (by decide +kernel) ⟨Nat.le_of_ble_eq_true rfl, Nat.le_of_ble_eq_true rfl⟩) hK hP 0 rfl rfl (by rfl) hl.1 rfl (Nat.le_of_ble_eq_true rfl) dX0_letHourGoBy_47 ⟨Nat.zero_le _, Nat.zero_le _⟩ ?_
        refine lv_if_eq (tgt := 63) hx hb dX0_letHourGoBy_50 (by decide) (fun c11 => ?_) (fun c11 => ?_)
        · replace h := if_p c11 h
          exact t_63 @ih h (lv_sub hl [0, 1] rfl) hP hD hS
        · replace h := if_n c11 h
          refine lv_aload_n hx hb dX0_letHourGoBy_53 rfl (lv_at hl 0 rfl) ?_
          refine va_get (D := (dC, dI)) (ci := 1) (v := .ref (q 4)) (C := RX0) (T := TX0) (N := 16) hx hb hts hwX0 hown hK hP 0 rfl rfl 4 (by decide) hf_24 (fun _ h9 => h9) rfl dX0_letHourGoBy_54 ?_
          refine lv_iload_n hx hb dX0_letHourGoBy_57 rfl (lv_at hl 1 rfl) ?_
          refine lv_dup2_11 hx hb dX0_letHourGoBy_58 rfl rfl ?_
          obtain ⟨hi13, v12, ev12, h⟩ := rdA_some h
          refine k_iald hx hb hK hP 5 0 rfl rfl hi13 ev12 dX0_letHourGoBy_59 ?_
          refine lv_iconst (v := 1) hx hb dX0_letHourGoBy_60 (by decide) ?_
          refine lv_iadd hx hb dX0_letHourGoBy_61 ?_
          obtain ⟨hi15, K14, eK14, h⟩ := wrA_some h
          refine va_iast hx hb hK hP hD hS 5 0 rfl rfl hi15 dX0_letHourGoBy_62 (fun H locs hP hD hS => ?_)
          have hP : va_P (dC, dI) vwCl (cvW cI ob q K14) H := by rw [eK14]; exact hP
          have hD : va_D (aL (cvL ob q)) (cvW cI ob q K14) := by rw [eK14]; exact hD
          exact t_63 @ih h (lv_sub hl [0, 1] rfl) hP hD hS
  have t_38 : ∀ {K : KT}  {H : Heap} {locs : List Loc} {ls : Array Slot} (h : fX0_letHourGoBy_38 N  K  = some (rr, KK)) (hl : lv_has ls 2 [(0, .ref ob)]) (hP : va_P (dC, dI) vwCl (cvW cI ob q K) H) (hD : va_D (aL (cvL ob q)) (cvW cI ob q K)) (hS : va_S (aL (cvL ob q)) s.heap H locs), W p l e (headSpec wsX0_letHourGoBy rmX0_letHourGoBy).room s m ([.ref ob] : List Value).toArray below meth c H locs 0 0 (MQ below (cEv (dC, dI) vwCl (cvL ob q) (cvW cI ob q KK)) ([.ref ob] : List Value).toArray s 0 0 (aL (cvL ob q))) (F0 m 38 ls []) := by
    intro  K H locs ls h hl hP hD hS
    unfold fX0_letHourGoBy_38 at h
    refine lv_iconst (v := 0) hx hb dX0_letHourGoBy_38 (by decide) ?_
    refine lv_istore_n (lv' := [(1, .int 0), (0, .ref ob)]) hx hb dX0_letHourGoBy_39 rfl hl (by decide) rfl (fun ls hl => ?_)
    exact t_40  h (lv_sub hl [1, 0] rfl) hP hD hS
  have t_12 : ∀ {n : Nat}, ∀ {K : KT} {x1 : Int32} {H : Heap} {locs : List Loc} {ls : Array Slot} (h : fX0_letHourGoBy_12 N  n K x1 = some (rr, KK)) (hl : lv_has ls 2 [(0, .ref ob), (1, .int x1)]) (hP : va_P (dC, dI) vwCl (cvW cI ob q K) H) (hD : va_D (aL (cvL ob q)) (cvW cI ob q K)) (hS : va_S (aL (cvL ob q)) s.heap H locs), W p l e (headSpec wsX0_letHourGoBy rmX0_letHourGoBy).room s m ([.ref ob] : List Value).toArray below meth c H locs 0 0 (MQ below (cEv (dC, dI) vwCl (cvL ob q) (cvW cI ob q KK)) ([.ref ob] : List Value).toArray s 0 0 (aL (cvL ob q))) (F0 m 12 ls []) := by
    intro  n
    induction n with
    | zero =>
      intro K x1 H locs ls h hl hP hD hS
      unfold fX0_letHourGoBy_12 at h
      cases h
    | succ n ih =>
      intro K x1 H locs ls h hl hP hD hS
      unfold fX0_letHourGoBy_12 at h
      refine lv_iload_n hx hb dX0_letHourGoBy_12 rfl (lv_at hl 1 rfl) ?_
      refine lv_iconst (v := 5) hx hb dX0_letHourGoBy_13 (by decide) ?_
      refine lv_icmp_ge (tgt := 38) hx hb dX0_letHourGoBy_14 (by decide) (fun c16 => ?_) (fun c16 => ?_)
      · replace h := if_p c16 h
        exact t_38  h (lv_sub hl [0] rfl) hP hD hS
      · replace h := if_n c16 h
        refine lv_aload_n hx hb dX0_letHourGoBy_17 rfl (lv_at hl 0 rfl) ?_
        refine va_get (D := (dC, dI)) (ci := 1) (v := .ref (q 2)) (C := RX0) (T := TX0) (N := 16) hx hb hts hwX0 hown hK hP 0 rfl rfl 2 (by decide) hf_18 (fun _ h9 => h9) rfl dX0_letHourGoBy_18 ?_
        refine lv_iload_n hx hb dX0_letHourGoBy_21 rfl (lv_at hl 1 rfl) ?_
        obtain ⟨hi18, v17, ev17, h⟩ := rdA_some h
        refine k_iald hx hb hK hP 3 0 rfl rfl hi18 ev17 dX0_letHourGoBy_22 ?_
        refine lv_iconst (v := 1) hx hb dX0_letHourGoBy_23 (by decide) ?_
        refine lv_icmp_ne (tgt := 32) hx hb dX0_letHourGoBy_24 (by decide) (fun c19 => ?_) (fun c19 => ?_)
        · replace h := if_n c19 h
          exact t_32 @ih h (lv_sub hl [0, 1] rfl) hP hD hS
        · replace h := if_p c19 h
          refine lv_aload_n hx hb dX0_letHourGoBy_27 rfl (lv_at hl 0 rfl) ?_
          refine lv_iload_n hx hb dX0_letHourGoBy_28 rfl (lv_at hl 1 rfl) ?_
          obtain ⟨v20, K21, hv20, h⟩ := bdE_some h
          refine call_VEv (As := [.int x1]) (rest := []) ⟨hx, hb, hml, hown, hts⟩ (tX0_goRound (l := l) (dC := dC) (dI := dI) (cI := cI) (ob := ob) (q := q) hv20) (cwV 1 hts gX0_letHourGoBy_X0_goRound rfl rfl rfl (by decide +kernel) ⟨Nat.le_of_ble_eq_true rfl, Nat.le_of_ble_eq_true rfl⟩) hK hP hD hS (fun _ h9 => h9) 0 rfl rfl (by rfl) hl.1 rfl (Nat.le_of_ble_eq_true rfl) dX0_letHourGoBy_29 ⟨Nat.zero_le _, Nat.zero_le _⟩ (fun H locs hP hD _ hS => ?_)
          exact t_32 @ih h (lv_sub hl [0, 1] rfl) hP hD hS
  have hS : va_S (aL (cvL ob q)) s.heap s.heap [] := va_S.rf
  have hl := lv_entry ([.ref ob]) (n := 2) (Nat.le_of_ble_eq_true rfl)
  rw [lg_entry_eq]
  generalize (lg_sl ([.ref ob]) ++ List.replicate (2 - (lg_sl ([.ref ob])).length) Slot.unset).toArray = ls at hl ⊢
  have hl : lv_has ls 2 [(0, .ref ob)] := hl
  have h := hf
  unfold mX0_letHourGoBy at h
  refine lv_aload_n hx hb dX0_letHourGoBy_0 rfl (lv_at hl 0 rfl) ?_
  refine lv_dup hx hb dX0_letHourGoBy_1 rfl ?_
  refine va_get (D := (dC, dI)) (ci := 1) (v := .int (K 10 5)) (C := RX0) (T := TX0) (N := 16) hx hb hts hwX0 hown hK hP 0 rfl rfl 15 (by decide) hf_58 (fun _ h9 => h9) rfl dX0_letHourGoBy_2 ?_
  refine lv_iconst (v := 1) hx hb dX0_letHourGoBy_5 (by decide) ?_
  refine lv_iadd hx hb dX0_letHourGoBy_6 ?_
  obtain ⟨K22, eK22, h⟩ := ptF_some h
  refine va_put (D := (dC, dI)) (ci := 1) (v := .int ((K 10 5) + 1)) (ty := .int) (C := RX0) (T := TX0) (N := 16) hx hb hts hwX0 tyX0 tyX0_ok nmX0 hown hK hP hD hS 0 rfl rfl 15 (by decide) hf_58 (fun _ h9 => h9) rfl (by decide +kernel) rfl rfl (Nat.le_of_ble_eq_true rfl) dX0_letHourGoBy_7 (fun H locs hP hD hS => ?_)
  have hP : va_P (dC, dI) vwCl (cvW cI ob q K22) H := by rw [eK22]; exact hP
  have hD : va_D (aL (cvL ob q)) (cvW cI ob q K22) := by rw [eK22]; exact hD
  refine lv_iconst (v := 0) hx hb dX0_letHourGoBy_10 (by decide) ?_
  refine lv_istore_n (lv' := [(1, .int 0), (0, .ref ob)]) hx hb dX0_letHourGoBy_11 rfl hl (by decide) rfl (fun ls hl => ?_)
  exact t_12  h (lv_sub hl [1, 0] rfl) hP hD hS
