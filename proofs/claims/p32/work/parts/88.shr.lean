/-! ===== share ===== -/
def n32 (r : UInt32) : Bool := decide (r &&& 0x7fffffff ≤ 0x7f800000)
theorem n32_of {r : UInt32} (h : n32 r = true) : vf_n32 r := of_decide_eq_true (p := r &&& 0x7fffffff ≤ 0x7f800000) h
def shD (a b : Int32) : UInt32 := FP.fdiv (FP.i2f a) (FP.i2f b)
def eX2_bitsOf (x1 : Int32) (x2 : UInt32) : Option Int32 := (if n32 (FP.fsub x2 FP.fconst1) = true then (if n32 (FP.fmul (FP.fsub x2 FP.fconst1) 1258291200) = true then some (x1 <<< ((23 : Int32) &&& 31) + FP.f2i (FP.fmul (FP.fsub x2 FP.fconst1) 1258291200)) else none) else none)
def fX2_bitsOf_13 : Nat → Int32 → UInt32 → Option Int32
  | 0, _, _ => none
  | n + 1, x1, x2 => (if 0 ≤ Op.cmpValue (FP.fcmp x2 FP.fconst1) .g then eX2_bitsOf x1 x2 else (if x1 ≤ 1 then eX2_bitsOf x1 x2 else (if n32 (FP.fmul x2 FP.fconst2) = true then fX2_bitsOf_13 n (x1 + (-1)) (FP.fmul x2 FP.fconst2) else none)))
def mX2_bitsOf (x : UInt32) : Option Int32 := (if 0 < Op.cmpValue (FP.fcmp x FP.fconst0) .g then fX2_bitsOf_13 20 127 x else some 0)
def mX2_share (N : Nat) (K : OT) : Option Int32 := bdP (mX2_sumOf N 5 (K 0 5)) (fun v1 => if v1 = 0 then some (-4) else bdP (mX2_sumOf N 5 (K 0 6)) (fun v2 => if n32 (shD v2 v1) = true then bdP (mX2_bitsOf (shD v2 v1)) (fun v3 => some v3) else none))
def rmX2_bitsOf : Room := { frames := 1, cells := 0, slots := 0, locals := 40 }
def rmX2_share : Room := { frames := 2, cells := 0, slots := 0, locals := 80 }
set_option maxHeartbeats 8000000 in
set_option maxRecDepth 100000 in
theorem tX2_bitsOf {l : Launch} {x : UInt32} {rr : Int32} (hf : mX2_bitsOf x = some rr) : Met l yX2_bitsOf wsX2_bitsOf rmX2_bitsOf (cS [.float x]) (cQp rr) 0 0 (fun _ => False) := by
  refine Met.ofW (cc := cX2_bitsOf) (maxL := 3) (ret := (some .int)) (by decide) rfl ?_
  intro p e s m args below meth c s₁ B hml hv
  obtain rfl := hv
  have hx := B.exec
  have hb := B.bytes
  have hr := B.returns
  have hts := atoms_spec (ws := wsX2_bitsOf) B.pre
  have hown : s.vm.findClass RX2 = some m.cls := findClass_of_methodNamed B.named
  have t_34 : ∀ {x1 : Int32} {x2 : UInt32} {ls : Array Slot} (h : eX2_bitsOf x1 x2 = some rr) (hl : lv_has ls 3 [(1, .int x1), (2, .float x2)]), W p l e (headSpec wsX2_bitsOf rmX2_bitsOf).room s m ([.float x] : List Value).toArray below meth c s.heap [] 0 0 (MQ below (cQp rr) ([.float x] : List Value).toArray s 0 0 (fun _ => False)) (F0 m 34 ls []) := by
    intro x1 x2 ls h hl
    unfold eX2_bitsOf at h
    by_cases c1 : n32 (FP.fsub x2 FP.fconst1) = true
    · replace h := if_p c1 h
      by_cases c2 : n32 (FP.fmul (FP.fsub x2 FP.fconst1) 1258291200) = true
      · replace h := if_p c2 h
        refine lv_iload_n hx hb dX2_bitsOf_34 rfl (lv_at hl 0 rfl) ?_
        refine lv_bipush (v := 23) hx hb dX2_bitsOf_35 (by decide) ?_
        refine lv_ishl hx hb dX2_bitsOf_37 ?_
        refine lv_fload_n hx hb dX2_bitsOf_38 rfl (lv_at hl 1 rfl) ?_
        refine lv_fconst1 hx hb dX2_bitsOf_39 ?_
        refine lv_fsub hx hb dX2_bitsOf_40 (n32_of c1) ?_
        refine lv_ldcwf hx hb hown (hts (.constantFloat RX2 278 (1258291200)) (by decide +kernel)) dX2_bitsOf_41 ?_
        refine lv_fmul hx hb dX2_bitsOf_44 (n32_of c2) ?_
        refine lv_f2i hx hb dX2_bitsOf_45 ?_
        refine lv_iadd hx hb dX2_bitsOf_46 ?_
        exact W.iret hx hb hr (fun t ht _ => retP h ht) (fun _ h9 => absurd h9 List.not_mem_nil) dX2_bitsOf_47
      · exact absurd (if_n c2 h) (by simp)
    · exact absurd (if_n c1 h) (by simp)
  have t_13 : ∀ {n : Nat}, ∀ {x1 : Int32} {x2 : UInt32} {ls : Array Slot} (h : fX2_bitsOf_13 n x1 x2 = some rr) (hl : lv_has ls 3 [(1, .int x1), (2, .float x2)]), W p l e (headSpec wsX2_bitsOf rmX2_bitsOf).room s m ([.float x] : List Value).toArray below meth c s.heap [] 0 0 (MQ below (cQp rr) ([.float x] : List Value).toArray s 0 0 (fun _ => False)) (F0 m 13 ls []) := by
    intro n
    induction n with
    | zero =>
      intro x1 x2 ls h hl
      unfold fX2_bitsOf_13 at h
      cases h
    | succ n ih =>
      intro x1 x2 ls h hl
      unfold fX2_bitsOf_13 at h
      refine lv_fload_n hx hb dX2_bitsOf_13 rfl (lv_at hl 1 rfl) ?_
      refine lv_fconst1 hx hb dX2_bitsOf_14 ?_
      refine lv_fcmp hx hb dX2_bitsOf_15 ?_
      refine lv_if_ge (tgt := 34) hx hb dX2_bitsOf_16 (by decide) (fun c1 => ?_) (fun c1 => ?_)
      · exact t_34 (if_p c1 h) hl
      · replace h := if_n c1 h
        refine lv_iload_n hx hb dX2_bitsOf_19 rfl (lv_at hl 0 rfl) ?_
        refine lv_iconst (v := 1) hx hb dX2_bitsOf_20 (by decide) ?_
        refine lv_icmp_le (tgt := 34) hx hb dX2_bitsOf_21 (by decide) (fun c2 => ?_) (fun c2 => ?_)
        · exact t_34 (if_p c2 h) hl
        · replace h := if_n c2 h
          by_cases c3 : n32 (FP.fmul x2 FP.fconst2) = true
          · replace h := if_p c3 h
            refine lv_fload_n hx hb dX2_bitsOf_24 rfl (lv_at hl 1 rfl) ?_
            refine lv_fconst2 hx hb dX2_bitsOf_25 ?_
            refine lv_fmul hx hb dX2_bitsOf_26 (n32_of c3) ?_
            refine lv_fstore_n (lv' := [(2, .float (FP.fmul x2 FP.fconst2)), (1, .int x1)]) hx hb dX2_bitsOf_27 rfl hl (by decide) rfl (fun ls hl => ?_)
            refine lv_iinc (v := x1 + (-1)) (lv' := [(1, .int (x1 + (-1))), (2, .float (FP.fmul x2 FP.fconst2))]) hx hb dX2_bitsOf_28 hl (k := 1) rfl rfl (by decide) rfl (fun ls hl => ?_)
            refine lv_goto (tgt := 13) hx hb dX2_bitsOf_31 (by decide) ?_
            exact ih h hl
          · exact absurd (if_n c3 h) (by simp)
  have hl := lv_entry ([.float x]) (n := 3) (Nat.le_of_ble_eq_true rfl)
  rw [lg_entry_eq]
  generalize (lg_sl ([.float x]) ++ List.replicate (3 - (lg_sl ([.float x])).length) Slot.unset).toArray = ls at hl ⊢
  have hl : lv_has ls 3 [(0, .float x)] := hl
  have h := hf
  unfold mX2_bitsOf at h
  refine lv_fload_n hx hb dX2_bitsOf_0 rfl (lv_at hl 0 rfl) ?_
  refine lv_fconst0 hx hb dX2_bitsOf_1 ?_
  refine lv_fcmp hx hb dX2_bitsOf_2 ?_
  refine lv_if_gt (tgt := 8) hx hb dX2_bitsOf_3 (by decide) (fun c1 => ?_) (fun c1 => ?_)
  · replace h := if_p c1 h
    refine lv_bipush (v := 127) hx hb dX2_bitsOf_8 (by decide) ?_
    refine lv_istore_n (lv' := [(1, .int 127), (0, .float x)]) hx hb dX2_bitsOf_10 rfl hl (by decide) rfl (fun ls hl => ?_)
    refine lv_fload_n hx hb dX2_bitsOf_11 rfl (lv_at hl 1 rfl) ?_
    refine lv_fstore_n (lv' := [(2, .float x), (1, .int 127), (0, .float x)]) hx hb dX2_bitsOf_12 rfl hl (by decide) rfl (fun ls hl => ?_)
    exact t_13 h (lv_sub hl [1, 0] rfl)
  · replace h := if_n c1 h
    refine lv_iconst (v := 0) hx hb dX2_bitsOf_6 (by decide) ?_
    exact W.iret hx hb hr (fun t ht _ => retP h ht) (fun _ h9 => absurd h9 List.not_mem_nil) dX2_bitsOf_7
set_option maxHeartbeats 8000000 in
set_option maxRecDepth 100000 in
theorem tX2_share {l : Launch} {dC : Nat → ClassId} {dI : Nat → Nat → Nat} {cI cB cP : ClassId} {ad : Nat → Nat → Nat} {Z : Nat → Nat} {base : Nat} {R : va_W} {N : Nat} {K : OT} {rr : Int32} (hf : mX2_share N K = some rr) : Met l yX2_share wsX2_share rmX2_share (cBp (dC, dI) vwCl [(cI, .int), (cB, .byte), (cP, .object RX0)] base (outW cI cB cP ad Z K ++ R) [.ref (ad 0 0)]) (cQp rr) 0 0 (fun _ => False) := by
  refine Met.ofW (cc := cX2_share) (maxL := 2) (ret := (some .int)) (by decide) rfl ?_
  intro p e s m args below meth c s₁ B hml hv
  obtain ⟨rfl, hP, hK, hD, hbs, hE⟩ := hv
  have hx := B.exec
  have hb := B.bytes
  have hr := B.returns
  have hts := atoms_spec (ws := wsX2_share) B.pre
  have hown : s.vm.findClass RX2 = some m.cls := findClass_of_methodNamed B.named
  have hlocks := B.notSynchronized
  have hf_10 := hts (.fieldLink RX2 10 "CaravanLogs" "now" "LCaravanLogs$Caravan;") (by decide +kernel)
  have hf_111 := hts (.fieldLink RX2 111 "CaravanLogs$Caravan" "pages" "[I") (by decide +kernel)
  have hf_114 := hts (.fieldLink RX2 114 "CaravanLogs$Caravan" "settled" "[I") (by decide +kernel)
  have hwX0 : ∀ w ∈ u_ws RX0 TX0 16, w ∈ wsX2_share := by decide +kernel
  have hwX2 : ∀ w ∈ u_ws RX2 TX2 14, w ∈ wsX2_share := by decide +kernel
  have hKI : va_K (dC, dI) vwCl [(cI, .int)] s := K_tys (fun x hx => by simp only [List.mem_cons, List.not_mem_nil, or_false] at hx ⊢; simp [hx]) hK
  have hl := lv_entry ([.ref (ad 0 0)]) (n := 2) (Nat.le_of_ble_eq_true rfl)
  rw [lg_entry_eq]
  generalize (lg_sl ([.ref (ad 0 0)]) ++ List.replicate (2 - (lg_sl ([.ref (ad 0 0)])).length) Slot.unset).toArray = ls at hl ⊢
  have hl : lv_has ls 2 [(0, .ref (ad 0 0))] := hl
  have h := hf
  unfold mX2_share at h
  refine lv_aload_n hx hb dX2_share_0 rfl (lv_at hl 0 rfl) ?_
  refine va_get (D := (dC, dI)) (ci := 3) (v := .ref (ad 1 0)) (C := RX2) (T := TX2) (N := 14) hx hb hts hwX2 hown hK hP 0 rfl rfl 0 (by decide) hf_10 (fun _ h9 => h9) rfl dX2_share_1 ?_
  refine va_get (D := (dC, dI)) (ci := 1) (v := .ref (ad 1 6)) (C := RX0) (T := TX0) (N := 16) hx hb hts hwX0 hown hK hP 7 rfl rfl 5 (by decide) hf_111 (fun _ h9 => h9) rfl dX2_share_4 ?_
  obtain ⟨v1, hv1, h⟩ := bdP_some h
  refine call_SPa (As := [.ref (ad 1 6)]) (rest := []) ⟨hx, hb, hml, hown, hts⟩ (tX2_sumOf (l := l) (dC := dC) (dI := dI) (cI := cI) (ap0 := ad 1 6) hv1) (va_cwS 1 hts gX2_share_X2_sumOf rfl rfl rfl (by decide +kernel) ⟨Nat.le_of_ble_eq_true rfl, Nat.le_of_ble_eq_true rfl⟩) hKI (hP.sub (ws' := [(ad 1 6, .inl (cI, 5, .inl (K 0 5)))]) [13] rfl) (by rfl) hl.1 rfl (Nat.le_of_ble_eq_true rfl) dX2_share_7 ⟨Nat.zero_le _, Nat.zero_le _⟩ ?_
  refine lv_istore_n (lv' := [(1, .int v1), (0, .ref (ad 0 0))]) hx hb dX2_share_10 rfl hl (by decide) rfl (fun ls hl => ?_)
  refine lv_iload_n hx hb dX2_share_11 rfl (lv_at hl 0 rfl) ?_
  refine lv_if_ne (tgt := 18) hx hb dX2_share_12 (by decide) (fun c1 => ?_) (fun c1 => ?_)
  · replace h := if_n c1 h
    refine lv_aload_n hx hb dX2_share_18 rfl (lv_at hl 1 rfl) ?_
    refine va_get (D := (dC, dI)) (ci := 3) (v := .ref (ad 1 0)) (C := RX2) (T := TX2) (N := 14) hx hb hts hwX2 hown hK hP 0 rfl rfl 0 (by decide) hf_10 (fun _ h9 => h9) rfl dX2_share_19 ?_
    refine va_get (D := (dC, dI)) (ci := 1) (v := .ref (ad 1 7)) (C := RX0) (T := TX0) (N := 16) hx hb hts hwX0 hown hK hP 7 rfl rfl 6 (by decide) hf_114 (fun _ h9 => h9) rfl dX2_share_22 ?_
    obtain ⟨v2, hv2, h⟩ := bdP_some h
    refine call_SPa (As := [.ref (ad 1 7)]) (rest := []) ⟨hx, hb, hml, hown, hts⟩ (tX2_sumOf (l := l) (dC := dC) (dI := dI) (cI := cI) (ap0 := ad 1 7) hv2) (va_cwS 1 hts gX2_share_X2_sumOf rfl rfl rfl (by decide +kernel) ⟨Nat.le_of_ble_eq_true rfl, Nat.le_of_ble_eq_true rfl⟩) hKI (hP.sub (ws' := [(ad 1 7, .inl (cI, 5, .inl (K 0 6)))]) [14] rfl) (by rfl) hl.1 rfl (Nat.le_of_ble_eq_true rfl) dX2_share_25 ⟨Nat.zero_le _, Nat.zero_le _⟩ ?_
    by_cases c2 : n32 (shD v2 v1) = true
    · replace h := if_p c2 h
      refine lv_i2f hx hb dX2_share_28 ?_
      refine lv_iload_n hx hb dX2_share_29 rfl (lv_at hl 0 rfl) ?_
      refine lv_i2f hx hb dX2_share_30 ?_
      refine lv_fdiv hx hb dX2_share_31 (n32_of c2) ?_
      obtain ⟨v3, hv3, h⟩ := bdP_some h
      refine call_SP (As := [.float (shD v2 v1)]) (rest := []) ⟨hx, hb, hml, hown, hts⟩ (tX2_bitsOf (l := l) hv3) (va_cwS 1 hts gX2_share_X2_bitsOf rfl rfl rfl (by decide +kernel) ⟨Nat.le_of_ble_eq_true rfl, Nat.le_of_ble_eq_true rfl⟩) (by rfl) hl.1 rfl (Nat.le_of_ble_eq_true rfl) dX2_share_32 ⟨Nat.zero_le _, Nat.zero_le _⟩ ?_
      exact W.iret hx hb hr (fun t ht _ => retP h ht) (fun _ h9 => absurd h9 List.not_mem_nil) dX2_share_35
    · exact absurd (if_n c2 h) (by simp)
  · replace h := if_p c1 h
    refine lv_bipush (v := (-4)) hx hb dX2_share_15 (by decide) ?_
    exact W.iret hx hb hr (fun t ht _ => retP h ht) (fun _ h9 => absurd h9 List.not_mem_nil) dX2_share_17
/-! the reference's -/
def mNaN (x : UInt32) : Option Int32 := if Op.cmpValue (FP.fcmp x x) .l = 0 then some 0 else some 1
def mFb (x : UInt32) : Option Int32 := if Op.cmpValue (FP.fcmp x x) .l = 0 then some x.toInt32 else none
def fX3_share_6 (N : Nat) (K : KT) : Nat → Int32 → Int32 → Int32 → Option Int32
  | 0, _, _, _ => none
  | n + 1, x1, x2, x3 => (if 5 ≤ x3 then (if x1 = 0 then some (-4) else (if n32 (shD x2 x1) = true then bdP (mFb (shD x2 x1)) (fun v => some v) else none)) else bdP (mX3_of N K x3 6) (fun v => bdP (mX3_of N K x3 5) (fun w => fX3_share_6 N K n (x1 + v) (x2 + w) (x3 + 1))))
def mX3_share (N : Nat) (K : KT) : Option Int32 := fX3_share_6 N K N 0 0 0
/-- as Met.ofW, of a class some of whose methods the machine runs itself -/
theorem Met.ofWF {l : Launch} {y : MethodName} {ws ws' : List Cond} {rm : Room} {Pc : Array Value → State → Prop} {Qc : Array Value → State → Outcome → State → Prop} {mc ms : Nat} {free : Addr → Prop} {cc : ByteArray} {maxL : Nat} {ret : Option FieldType}
    (hy : plainFor y = true) (hw : ws = Cond.code y cc maxL ret :: ws')
    (body : ∀ p e s m args below meth c s₁, BodyLoose p l y (headSpec ws rm) cc maxL ret e s m args below meth c s₁ → c.maxLocals = maxL → Pc args s →
      W p l e (headSpec ws rm).room s m args below meth c s.heap [] 0 0 (MQ below Qc args s mc ms free) (entryFrame m args maxL)) : Met l y ws rm Pc Qc mc ms free := by
  refine MetFree.of_bodySF (code := cc) (maxLocals := maxL) (ret := ret) hy ?_ ?_
  · intro args s m h hn
    obtain ⟨meth, c, h1, h2, h3, h4, h5, h6, -, -⟩ := Cond.code_spec hn (atoms_spec (ws := ws) h _ (by rw [hw]; exact List.mem_cons_self))
    exact ⟨meth, c, h1, h2, h3, h4, h5, h6⟩
  · intro p e s m args below meth c s₁ B hml hP _
    have hh0 : s₁.heap = s.heap := by rw [B.state]; rfl
    obtain ⟨t, a1, o, b1, b2, b3⟩ := body p e s m args below meth c s₁ B hml hP s₁ hh0 (Stand.of_body B)
    exact ⟨t, o, a1, b1, b2, ⟨b3.1, b3.2⟩⟩
def rmNaN : Room := { frames := 1, cells := 0, slots := 0, locals := 40 }
def rmFb : Room := { frames := 2, cells := 0, slots := 0, locals := 80 }
/-! the bits of the quotient, for all that can be drawn -/
def shT (b a : Nat) : Bool := n32 (shD (nI a) (nI b)) && (mFb (shD (nI a) (nI b)) == some (shD (nI a) (nI b)).toInt32) && (mX2_bitsOf (shD (nI a) (nI b)) == some (shD (nI a) (nI b)).toInt32)
