def mX0_openRoads (N : Nat) (K : KT)  : Option Int32 := bdP (mX2_sumOf N 25 (K 9)) (fun v1 => some (v1 / 2))
def rmX0_openRoads : Room := { frames := 2, cells := 0, slots := 0, locals := 65 }
set_option maxHeartbeats 4000000 in
set_option maxRecDepth 100000 in
theorem tX0_openRoads {l : Launch} {dC : Nat → ClassId} {dI : Nat → Nat → Nat} {cI : ClassId} {ob : Nat} {q : Nat → Nat} {N : Nat} {K : KT}  {rr : Int32} (hf : mX0_openRoads N K  = some rr) : Met l yX0_openRoads wsX0_openRoads rmX0_openRoads (cPn (.methodLinkNest RX0 108 yX2_sumOf "CaravanLogs") (dC, dI) vwCl [(cI, .int)] (cvW cI ob q K) [.ref ob]) (cQp rr) 0 0 (fun _ => False) := by
  refine Met.ofW (cc := cX0_openRoads) (maxL := 1) (ret := (some .int)) (by decide) rfl ?_
  intro p e s m args below meth c s₁ B hml hv
  obtain ⟨⟨rfl, hP, hK⟩, hNw⟩ := hv
  have hx := B.exec
  have hb := B.bytes
  have hr := B.returns
  have hts := atoms_spec (ws := wsX0_openRoads) B.pre
  have hown : s.vm.findClass RX0 = some m.cls := findClass_of_methodNamed B.named
  have hlocks := B.notSynchronized
  have hwX0 : ∀ w ∈ u_ws RX0 TX0 16, w ∈ wsX0_openRoads := by decide +kernel
  have hf_39 := hts (.fieldLink RX0 39 "CaravanLogs$Caravan" "isOpen" "[I") (by decide +kernel)
  have hl := lv_entry ([.ref ob]) (n := 1) (Nat.le_of_ble_eq_true rfl)
  rw [lg_entry_eq]
  generalize (lg_sl ([.ref ob]) ++ List.replicate (1 - (lg_sl ([.ref ob])).length) Slot.unset).toArray = ls at hl ⊢
  have hl : lv_has ls 1 [(0, .ref ob)] := hl
  have h := hf
  unfold mX0_openRoads at h
  refine lv_aload_n hx hb dX0_openRoads_0 rfl (lv_at hl 0 rfl) ?_
  refine va_get (D := (dC, dI)) (ci := 1) (v := .ref (q 9)) (C := RX0) (T := TX0) (N := 16) hx hb hts hwX0 hown hK hP 0 rfl rfl 9 (by decide) hf_39 (fun _ h9 => h9) rfl dX0_openRoads_1 ?_
  obtain ⟨v1, hv1, h⟩ := bdP_some h
  refine call_SPaN (As := [.ref (q 9)]) (rest := []) ⟨hx, hb, hml, hown, hts⟩ (tX2_sumOf (l := l) (dC := dC) (dI := dI) (cI := cI) (ap0 := q 9) hv1) ⟨va_cnB 1 hts gX0_openRoads_X2_sumOf_n108 rfl rfl rfl hNw (hts (.initialized RX2) (by decide +kernel)) (by decide +kernel) ⟨Nat.le_of_ble_eq_true rfl, Nat.le_of_ble_eq_true rfl⟩, hts (.static yX2_sumOf) (by decide +kernel), trivial⟩ hK (hP.sub (ws' := [(q 9, .inl (cI, 25, .inl (K 9)))]) [10] rfl) (by rfl) hl.1 rfl (Nat.le_of_ble_eq_true rfl) dX0_openRoads_4 ⟨Nat.zero_le _, Nat.zero_le _⟩ ?_
  refine lv_iconst (v := 2) hx hb dX0_openRoads_7 (by decide) ?_
  refine lv_idiv hx hb dX0_openRoads_8 (by decide) ?_
  exact W.iret hx hb hr (fun t ht _ => retP h ht) (fun _ h9 => absurd h9 List.not_mem_nil) dX0_openRoads_9
def fX0_pagesAlikeByHalves_88 (N : Nat) (K : KT) (k24 : Int32 → Int32 → Int32 → Int32 → Int32 → Option Int32) (x1 : Int32) (x2 : Int32) (x3 : Int32) (x4 : Int32) (x5 : Int32) : Option Int32 := k24 x1 x2 x3 x4 (x5 + 1)
def fX0_pagesAlikeByHalves_94 (N : Nat) (K : KT)  (x3 : Int32) : Option Int32 := some x3
def fX0_pagesAlikeByHalves_24 (N : Nat) (K : KT)  : Nat → Int32 → Int32 → Int32 → Int32 → Int32 → Option Int32
  | 0, _, _, _, _, _ => none
  | n + 1, x1, x2, x3, x4, x5 => (if 12 ≤ x5 then fX0_pagesAlikeByHalves_94 N K  x3 else (if (x4 - x3) ≤ 1 then fX0_pagesAlikeByHalves_94 N K  x3 else rdA (K 7) 60 (((x1 * 12) + ((x3 + x4) / 2)) - 1) (fun v3 => rdA (K 7) 60 (((x2 * 12) + ((x3 + x4) / 2)) - 1) (fun v5 => (if v3 = v5 then fX0_pagesAlikeByHalves_88 N K (fX0_pagesAlikeByHalves_24 N K  n) x1 x2 ((x3 + x4) / 2) x4 x5 else fX0_pagesAlikeByHalves_88 N K (fX0_pagesAlikeByHalves_24 N K  n) x1 x2 x3 ((x3 + x4) / 2) x5)))))
def mX0_pagesAlikeByHalves (N : Nat) (K : KT) (p0 : Int32) (p1 : Int32) : Option Int32 := rdA (K 5) 5 p0 (fun v8 => rdA (K 5) 5 p1 (fun v10 => fX0_pagesAlikeByHalves_24 N K  N p0 p1 0 (((if v10 < v8 then v10 else v8)) + 1) 0))
def rmX0_pagesAlikeByHalves : Room := { frames := 2, cells := 0, slots := 0, locals := 61 }
set_option maxHeartbeats 4000000 in
set_option maxRecDepth 100000 in
theorem tX0_pagesAlikeByHalves {l : Launch} {dC : Nat → ClassId} {dI : Nat → Nat → Nat} {cI : ClassId} {ob : Nat} {q : Nat → Nat} {N : Nat} {K : KT} {p0 : Int32} {p1 : Int32} {rr : Int32} (hf : mX0_pagesAlikeByHalves N K p0 p1 = some rr) : Met l yX0_pagesAlikeByHalves wsX0_pagesAlikeByHalves rmX0_pagesAlikeByHalves (cP (dC, dI) vwCl [(cI, .int)] (cvW cI ob q K) [.ref ob, .int p0, .int p1]) (cQp rr) 0 0 (fun _ => False) := by
  refine Met.ofW (cc := cX0_pagesAlikeByHalves) (maxL := 7) (ret := (some .int)) (by decide) rfl ?_
  intro p e s m args below meth c s₁ B hml hv
  obtain ⟨rfl, hP, hK⟩ := hv
  have hx := B.exec
  have hb := B.bytes
  have hr := B.returns
  have hts := atoms_spec (ws := wsX0_pagesAlikeByHalves) B.pre
  have hown : s.vm.findClass RX0 = some m.cls := findClass_of_methodNamed B.named
  have hlocks := B.notSynchronized
  have hwX0 : ∀ w ∈ u_ws RX0 TX0 16, w ∈ wsX0_pagesAlikeByHalves := by decide +kernel
  have hf_27 := hts (.fieldLink RX0 27 "CaravanLogs$Caravan" "pages" "[I") (by decide +kernel)
  have hf_33 := hts (.fieldLink RX0 33 "CaravanLogs$Caravan" "pageTerm" "[I") (by decide +kernel)
  have t_88 : ∀ {k24 : Int32 → Int32 → Int32 → Int32 → Int32 → Option Int32} (hk24 : ∀ {x1 : Int32} {x2 : Int32} {x3 : Int32} {x4 : Int32} {x5 : Int32} {ls : Array Slot} (h : k24 x1 x2 x3 x4 x5 = some rr) (hl : lv_has ls 7 [(0, .ref ob), (1, .int x1), (2, .int x2), (3, .int x3), (4, .int x4), (5, .int x5)]), W p l e (headSpec wsX0_pagesAlikeByHalves rmX0_pagesAlikeByHalves).room s m ([.ref ob, .int p0, .int p1] : List Value).toArray below meth c s.heap [] 0 0 (MQ below (cQp rr) ([.ref ob, .int p0, .int p1] : List Value).toArray s 0 0 (fun _ => False)) (F0 m 24 ls [])), ∀ {x1 : Int32} {x2 : Int32} {x3 : Int32} {x4 : Int32} {x5 : Int32} {ls : Array Slot} (h : fX0_pagesAlikeByHalves_88 N K k24 x1 x2 x3 x4 x5 = some rr) (hl : lv_has ls 7 [(0, .ref ob), (1, .int x1), (2, .int x2), (3, .int x3), (4, .int x4), (5, .int x5)]), W p l e (headSpec wsX0_pagesAlikeByHalves rmX0_pagesAlikeByHalves).room s m ([.ref ob, .int p0, .int p1] : List Value).toArray below meth c s.heap [] 0 0 (MQ below (cQp rr) ([.ref ob, .int p0, .int p1] : List Value).toArray s 0 0 (fun _ => False)) (F0 m 88 ls []) := by
    intro k24 hk24 x1 x2 x3 x4 x5 ls h hl
    unfold fX0_pagesAlikeByHalves_88 at h
    refine lv_iinc (v := x5 + 1) (lv' := [(5, .int (x5 + 1)), (0, .ref ob), (1, .int x1), (2, .int x2), (3, .int x3), (4, .int x4)]) hx hb dX0_pagesAlikeByHalves_88 hl (k := 5) rfl rfl (by decide) rfl (fun ls hl => ?_)
    refine lv_goto (tgt := 24) hx hb dX0_pagesAlikeByHalves_91 (by decide) ?_
    exact hk24 h (lv_sub hl [1, 2, 3, 4, 5, 0] rfl)
  have t_94 : ∀ {x3 : Int32} {ls : Array Slot} (h : fX0_pagesAlikeByHalves_94 N K  x3 = some rr) (hl : lv_has ls 7 [(3, .int x3)]), W p l e (headSpec wsX0_pagesAlikeByHalves rmX0_pagesAlikeByHalves).room s m ([.ref ob, .int p0, .int p1] : List Value).toArray below meth c s.heap [] 0 0 (MQ below (cQp rr) ([.ref ob, .int p0, .int p1] : List Value).toArray s 0 0 (fun _ => False)) (F0 m 94 ls []) := by
    intro  x3 ls h hl
    unfold fX0_pagesAlikeByHalves_94 at h
    refine lv_iload_n hx hb dX0_pagesAlikeByHalves_94 rfl (lv_at hl 0 rfl) ?_
    exact W.iret hx hb hr (fun t ht _ => retP h ht) (fun _ h9 => absurd h9 List.not_mem_nil) dX0_pagesAlikeByHalves_95
  have t_24 : ∀ {n : Nat}, ∀ {x1 : Int32} {x2 : Int32} {x3 : Int32} {x4 : Int32} {x5 : Int32} {ls : Array Slot} (h : fX0_pagesAlikeByHalves_24 N K  n x1 x2 x3 x4 x5 = some rr) (hl : lv_has ls 7 [(0, .ref ob), (1, .int x1), (2, .int x2), (3, .int x3), (4, .int x4), (5, .int x5)]), W p l e (headSpec wsX0_pagesAlikeByHalves rmX0_pagesAlikeByHalves).room s m ([.ref ob, .int p0, .int p1] : List Value).toArray below meth c s.heap [] 0 0 (MQ below (cQp rr) ([.ref ob, .int p0, .int p1] : List Value).toArray s 0 0 (fun _ => False)) (F0 m 24 ls []) := by
    intro  n
    induction n with
    | zero =>
      intro x1 x2 x3 x4 x5 ls h hl
      unfold fX0_pagesAlikeByHalves_24 at h
      cases h
    | succ n ih =>
      intro x1 x2 x3 x4 x5 ls h hl
      unfold fX0_pagesAlikeByHalves_24 at h
      refine lv_iload hx hb dX0_pagesAlikeByHalves_24 (lv_at hl 5 rfl) ?_
      refine lv_bipush (v := 12) hx hb dX0_pagesAlikeByHalves_26 (by decide) ?_
      refine lv_icmp_ge (tgt := 94) hx hb dX0_pagesAlikeByHalves_28 (by decide) (fun c1 => ?_) (fun c1 => ?_)
      · replace h := if_p c1 h
        exact t_94  h (lv_sub hl [3] rfl)
      · replace h := if_n c1 h
        refine lv_iload hx hb dX0_pagesAlikeByHalves_31 (lv_at hl 4 rfl) ?_
        refine lv_iload_n hx hb dX0_pagesAlikeByHalves_33 rfl (lv_at hl 3 rfl) ?_
        refine lv_isub hx hb dX0_pagesAlikeByHalves_34 ?_
        refine lv_iconst (v := 1) hx hb dX0_pagesAlikeByHalves_35 (by decide) ?_
        refine lv_icmp_le (tgt := 94) hx hb dX0_pagesAlikeByHalves_36 (by decide) (fun c2 => ?_) (fun c2 => ?_)
        · replace h := if_p c2 h
          exact t_94  h (lv_sub hl [3] rfl)
        · replace h := if_n c2 h
          refine lv_iload_n hx hb dX0_pagesAlikeByHalves_39 rfl (lv_at hl 3 rfl) ?_
          refine lv_iload hx hb dX0_pagesAlikeByHalves_40 (lv_at hl 4 rfl) ?_
          refine lv_iadd hx hb dX0_pagesAlikeByHalves_42 ?_
          refine lv_iconst (v := 2) hx hb dX0_pagesAlikeByHalves_43 (by decide) ?_
          refine lv_idiv hx hb dX0_pagesAlikeByHalves_44 (by decide) ?_
          refine lv_istore (lv' := [(6, .int ((x3 + x4) / 2)), (0, .ref ob), (1, .int x1), (2, .int x2), (3, .int x3), (4, .int x4), (5, .int x5)]) hx hb dX0_pagesAlikeByHalves_45 hl (by decide) rfl (fun ls hl => ?_)
          refine lv_aload_n hx hb dX0_pagesAlikeByHalves_47 rfl (lv_at hl 1 rfl) ?_
          refine va_get (D := (dC, dI)) (ci := 1) (v := .ref (q 7)) (C := RX0) (T := TX0) (N := 16) hx hb hts hwX0 hown hK hP 0 rfl rfl 7 (by decide) hf_33 (fun _ h9 => h9) rfl dX0_pagesAlikeByHalves_48 ?_
          refine lv_iload_n hx hb dX0_pagesAlikeByHalves_51 rfl (lv_at hl 2 rfl) ?_
          refine lv_bipush (v := 12) hx hb dX0_pagesAlikeByHalves_52 (by decide) ?_
          refine lv_imul hx hb dX0_pagesAlikeByHalves_54 ?_
          refine lv_iload hx hb dX0_pagesAlikeByHalves_55 (lv_at hl 0 rfl) ?_
          refine lv_iadd hx hb dX0_pagesAlikeByHalves_57 ?_
          refine lv_iconst (v := 1) hx hb dX0_pagesAlikeByHalves_58 (by decide) ?_
          refine lv_isub hx hb dX0_pagesAlikeByHalves_59 ?_
          obtain ⟨hi4, v3, ev3, h⟩ := rdA_some h
          refine k_iald hx hb hK hP 8 0 rfl rfl hi4 ev3 dX0_pagesAlikeByHalves_60 ?_
          refine lv_aload_n hx hb dX0_pagesAlikeByHalves_61 rfl (lv_at hl 1 rfl) ?_
          refine va_get (D := (dC, dI)) (ci := 1) (v := .ref (q 7)) (C := RX0) (T := TX0) (N := 16) hx hb hts hwX0 hown hK hP 0 rfl rfl 7 (by decide) hf_33 (fun _ h9 => h9) rfl dX0_pagesAlikeByHalves_62 ?_
          refine lv_iload_n hx hb dX0_pagesAlikeByHalves_65 rfl (lv_at hl 3 rfl) ?_
          refine lv_bipush (v := 12) hx hb dX0_pagesAlikeByHalves_66 (by decide) ?_
          refine lv_imul hx hb dX0_pagesAlikeByHalves_68 ?_
          refine lv_iload hx hb dX0_pagesAlikeByHalves_69 (lv_at hl 0 rfl) ?_
          refine lv_iadd hx hb dX0_pagesAlikeByHalves_71 ?_
          refine lv_iconst (v := 1) hx hb dX0_pagesAlikeByHalves_72 (by decide) ?_
          refine lv_isub hx hb dX0_pagesAlikeByHalves_73 ?_
          obtain ⟨hi6, v5, ev5, h⟩ := rdA_some h
          refine k_iald hx hb hK hP 8 0 rfl rfl hi6 ev5 dX0_pagesAlikeByHalves_74 ?_
          refine lv_icmp_ne (tgt := 84) hx hb dX0_pagesAlikeByHalves_75 (by decide) (fun c7 => ?_) (fun c7 => ?_)
          · replace h := if_n c7 h
            refine lv_iload hx hb dX0_pagesAlikeByHalves_84 (lv_at hl 0 rfl) ?_
            refine lv_istore (lv' := [(4, .int ((x3 + x4) / 2)), (6, .int ((x3 + x4) / 2)), (0, .ref ob), (1, .int x1), (2, .int x2), (3, .int x3), (5, .int x5)]) hx hb dX0_pagesAlikeByHalves_86 hl (by decide) rfl (fun ls hl => ?_)
            exact t_88 @ih h (lv_sub hl [2, 3, 4, 5, 0, 6] rfl)
          · replace h := if_p c7 h
            refine lv_iload hx hb dX0_pagesAlikeByHalves_78 (lv_at hl 0 rfl) ?_
            refine lv_istore_n (lv' := [(3, .int ((x3 + x4) / 2)), (6, .int ((x3 + x4) / 2)), (0, .ref ob), (1, .int x1), (2, .int x2), (4, .int x4), (5, .int x5)]) hx hb dX0_pagesAlikeByHalves_80 rfl hl (by decide) rfl (fun ls hl => ?_)
            refine lv_goto (tgt := 88) hx hb dX0_pagesAlikeByHalves_81 (by decide) ?_
            exact t_88 @ih h (lv_sub hl [2, 3, 4, 0, 5, 6] rfl)
  have hl := lv_entry ([.ref ob, .int p0, .int p1]) (n := 7) (Nat.le_of_ble_eq_true rfl)
  rw [lg_entry_eq]
  generalize (lg_sl ([.ref ob, .int p0, .int p1]) ++ List.replicate (7 - (lg_sl ([.ref ob, .int p0, .int p1])).length) Slot.unset).toArray = ls at hl ⊢
  have hl : lv_has ls 7 [(0, .ref ob), (1, .int p0), (2, .int p1)] := hl
  have h := hf
  unfold mX0_pagesAlikeByHalves at h
  refine lv_iconst (v := 0) hx hb dX0_pagesAlikeByHalves_0 (by decide) ?_
  refine lv_istore_n (lv' := [(3, .int 0), (0, .ref ob), (1, .int p0), (2, .int p1)]) hx hb dX0_pagesAlikeByHalves_1 rfl hl (by decide) rfl (fun ls hl => ?_)
  refine lv_aload_n hx hb dX0_pagesAlikeByHalves_2 rfl (lv_at hl 1 rfl) ?_
  refine va_get (D := (dC, dI)) (ci := 1) (v := .ref (q 5)) (C := RX0) (T := TX0) (N := 16) hx hb hts hwX0 hown hK hP 0 rfl rfl 5 (by decide) hf_27 (fun _ h9 => h9) rfl dX0_pagesAlikeByHalves_3 ?_
  refine lv_iload_n hx hb dX0_pagesAlikeByHalves_6 rfl (lv_at hl 2 rfl) ?_
  obtain ⟨hi9, v8, ev8, h⟩ := rdA_some h
  refine k_iald hx hb hK hP 6 0 rfl rfl hi9 ev8 dX0_pagesAlikeByHalves_7 ?_
  refine lv_aload_n hx hb dX0_pagesAlikeByHalves_8 rfl (lv_at hl 1 rfl) ?_
  refine va_get (D := (dC, dI)) (ci := 1) (v := .ref (q 5)) (C := RX0) (T := TX0) (N := 16) hx hb hts hwX0 hown hK hP 0 rfl rfl 5 (by decide) hf_27 (fun _ h9 => h9) rfl dX0_pagesAlikeByHalves_9 ?_
  refine lv_iload_n hx hb dX0_pagesAlikeByHalves_12 rfl (lv_at hl 3 rfl) ?_
  obtain ⟨hi11, v10, ev10, h⟩ := rdA_some h
  refine k_iald hx hb hK hP 6 0 rfl rfl hi11 ev10 dX0_pagesAlikeByHalves_13 ?_
  refine va_mmin hx hb (hml.trans hl.1.symm) hown (hts (.methodLink RX0 112 Lib.Math.min.name) (by decide +kernel)) (hts (.static Lib.Math.min.name) (by decide +kernel)) (hts (.initialized "java/lang/Math") (by decide +kernel)) (hts (.code Lib.Math.min.name Lib.Math.min.code 2 (some .int)) (by decide +kernel)) (Nat.le_of_ble_eq_true rfl) (Nat.le_of_ble_eq_true rfl) (Nat.zero_le _) (Nat.zero_le _) dX0_pagesAlikeByHalves_14 ?_
  refine lv_iconst (v := 1) hx hb dX0_pagesAlikeByHalves_17 (by decide) ?_
  refine lv_iadd hx hb dX0_pagesAlikeByHalves_18 ?_
  refine lv_istore (lv' := [(4, .int (((if v10 < v8 then v10 else v8)) + 1)), (3, .int 0), (0, .ref ob), (1, .int p0), (2, .int p1)]) hx hb dX0_pagesAlikeByHalves_19 hl (by decide) rfl (fun ls hl => ?_)
  refine lv_iconst (v := 0) hx hb dX0_pagesAlikeByHalves_21 (by decide) ?_
  refine lv_istore (lv' := [(5, .int 0), (4, .int (((if v10 < v8 then v10 else v8)) + 1)), (3, .int 0), (0, .ref ob), (1, .int p0), (2, .int p1)]) hx hb dX0_pagesAlikeByHalves_22 hl (by decide) rfl (fun ls hl => ?_)
  exact t_24  h (lv_sub hl [3, 4, 5, 2, 1, 0] rfl)
def fX0_campsAlike_25 (N : Nat) (K : KT) (k5 : Int32 → Int32 → Int32 → Int32 → Option Int32) (x1 : Int32) (x2 : Int32) (x3 : Int32) (x4 : Int32) : Option Int32 := k5 x1 x2 x3 (x4 + 1)
def fX0_campsAlike_5 (N : Nat) (K : KT)  : Nat → Int32 → Int32 → Int32 → Int32 → Option Int32
  | 0, _, _, _, _ => none
  | n + 1, x1, x2, x3, x4 => (if 5 ≤ x4 then some x3 else bdP (mX0_pagesAlike N K x1 x4) (fun v2 => (if v2 < x2 then fX0_campsAlike_25 N K (fX0_campsAlike_5 N K  n) x1 x2 x3 x4 else fX0_campsAlike_25 N K (fX0_campsAlike_5 N K  n) x1 x2 (x3 + 1) x4)))
def mX0_campsAlike (N : Nat) (K : KT) (p0 : Int32) (p1 : Int32) : Option Int32 := fX0_campsAlike_5 N K  N p0 p1 0 0
def rmX0_campsAlike : Room := { frames := 2, cells := 0, slots := 0, locals := 66 }
set_option maxHeartbeats 4000000 in
set_option maxRecDepth 100000 in
theorem tX0_campsAlike {l : Launch} {dC : Nat → ClassId} {dI : Nat → Nat → Nat} {cI : ClassId} {ob : Nat} {q : Nat → Nat} {N : Nat} {K : KT} {p0 : Int32} {p1 : Int32} {rr : Int32} (hf : mX0_campsAlike N K p0 p1 = some rr) : Met l yX0_campsAlike wsX0_campsAlike rmX0_campsAlike (cP (dC, dI) vwCl [(cI, .int)] (cvW cI ob q K) [.ref ob, .int p0, .int p1]) (cQp rr) 0 0 (fun _ => False) := by
  refine Met.ofW (cc := cX0_campsAlike) (maxL := 5) (ret := (some .int)) (by decide) rfl ?_
  intro p e s m args below meth c s₁ B hml hv
  obtain ⟨rfl, hP, hK⟩ := hv
  have hx := B.exec
  have hb := B.bytes
  have hr := B.returns
  have hts := atoms_spec (ws := wsX0_campsAlike) B.pre
  have hown : s.vm.findClass RX0 = some m.cls := findClass_of_methodNamed B.named
  have hlocks := B.notSynchronized
  have t_25 : ∀ {k5 : Int32 → Int32 → Int32 → Int32 → Option Int32} (hk5 : ∀ {x1 : Int32} {x2 : Int32} {x3 : Int32} {x4 : Int32} {ls : Array Slot} (h : k5 x1 x2 x3 x4 = some rr) (hl : lv_has ls 5 [(0, .ref ob), (1, .int x1), (2, .int x2), (3, .int x3), (4, .int x4)]), W p l e (headSpec wsX0_campsAlike rmX0_campsAlike).room s m ([.ref ob, .int p0, .int p1] : List Value).toArray below meth c s.heap [] 0 0 (MQ below (cQp rr) ([.ref ob, .int p0, .int p1] : List Value).toArray s 0 0 (fun _ => False)) (F0 m 5 ls [])), ∀ {x1 : Int32} {x2 : Int32} {x3 : Int32} {x4 : Int32} {ls : Array Slot} (h : fX0_campsAlike_25 N K k5 x1 x2 x3 x4 = some rr) (hl : lv_has ls 5 [(0, .ref ob), (1, .int x1), (2, .int x2), (3, .int x3), (4, .int x4)]), W p l e (headSpec wsX0_campsAlike rmX0_campsAlike).room s m ([.ref ob, .int p0, .int p1] : List Value).toArray below meth c s.heap [] 0 0 (MQ below (cQp rr) ([.ref ob, .int p0, .int p1] : List Value).toArray s 0 0 (fun _ => False)) (F0 m 25 ls []) := by
    intro k5 hk5 x1 x2 x3 x4 ls h hl
    unfold fX0_campsAlike_25 at h
    refine lv_iinc (v := x4 + 1) (lv' := [(4, .int (x4 + 1)), (0, .ref ob), (1, .int x1), (2, .int x2), (3, .int x3)]) hx hb dX0_campsAlike_25 hl (k := 4) rfl rfl (by decide) rfl (fun ls hl => ?_)
    refine lv_goto (tgt := 5) hx hb dX0_campsAlike_28 (by decide) ?_
    exact hk5 h (lv_sub hl [1, 2, 3, 4, 0] rfl)
  have t_5 : ∀ {n : Nat}, ∀ {x1 : Int32} {x2 : Int32} {x3 : Int32} {x4 : Int32} {ls : Array Slot} (h : fX0_campsAlike_5 N K  n x1 x2 x3 x4 = some rr) (hl : lv_has ls 5 [(0, .ref ob), (1, .int x1), (2, .int x2), (3, .int x3), (4, .int x4)]), W p l e (headSpec wsX0_campsAlike rmX0_campsAlike).room s m ([.ref ob, .int p0, .int p1] : List Value).toArray below meth c s.heap [] 0 0 (MQ below (cQp rr) ([.ref ob, .int p0, .int p1] : List Value).toArray s 0 0 (fun _ => False)) (F0 m 5 ls []) := by
    intro  n
    induction n with
    | zero =>
      intro x1 x2 x3 x4 ls h hl
      unfold fX0_campsAlike_5 at h
      cases h
    | succ n ih =>
      intro x1 x2 x3 x4 ls h hl
      unfold fX0_campsAlike_5 at h
      refine lv_iload hx hb dX0_campsAlike_5 (lv_at hl 4 rfl) ?_
      refine lv_iconst (v := 5) hx hb dX0_campsAlike_7 (by decide) ?_
      refine lv_icmp_ge (tgt := 31) hx hb dX0_campsAlike_8 (by decide) (fun c1 => ?_) (fun c1 => ?_)
      · replace h := if_p c1 h
        refine lv_iload_n hx hb dX0_campsAlike_31 rfl (lv_at hl 3 rfl) ?_
        exact W.iret hx hb hr (fun t ht _ => retP h ht) (fun _ h9 => absurd h9 List.not_mem_nil) dX0_campsAlike_32
      · replace h := if_n c1 h
        refine lv_aload_n hx hb dX0_campsAlike_11 rfl (lv_at hl 0 rfl) ?_
        refine lv_iload_n hx hb dX0_campsAlike_12 rfl (lv_at hl 1 rfl) ?_
        refine lv_iload hx hb dX0_campsAlike_13 (lv_at hl 4 rfl) ?_
        obtain ⟨v2, hv2, h⟩ := bdP_some h
        refine call_VP (As := [.int x1, .int x4]) (rest := []) ⟨hx, hb, hml, hown, hts⟩ (tX0_pagesAlike (l := l) (dC := dC) (dI := dI) (cI := cI) (ob := ob) (q := q) hv2) (cwV 2 hts gX0_campsAlike_X0_pagesAlike rfl rfl rfl (by decide +kernel) ⟨Nat.le_of_ble_eq_true rfl, Nat.le_of_ble_eq_true rfl⟩) hK hP 0 rfl rfl (by rfl) hl.1 rfl (Nat.le_of_ble_eq_true rfl) dX0_campsAlike_15 ⟨Nat.zero_le _, Nat.zero_le _⟩ ?_
        refine lv_iload_n hx hb dX0_campsAlike_18 rfl (lv_at hl 2 rfl) ?_
        refine lv_icmp_lt (tgt := 25) hx hb dX0_campsAlike_19 (by decide) (fun c3 => ?_) (fun c3 => ?_)
        · replace h := if_p c3 h
          exact t_25 @ih h (lv_sub hl [0, 1, 2, 3, 4] rfl)
        · replace h := if_n c3 h
          refine lv_iinc (v := x3 + 1) (lv' := [(3, .int (x3 + 1)), (0, .ref ob), (1, .int x1), (2, .int x2), (4, .int x4)]) hx hb dX0_campsAlike_22 hl (k := 3) rfl rfl (by decide) rfl (fun ls hl => ?_)
          exact t_25 @ih h (lv_sub hl [1, 2, 3, 0, 4] rfl)
  have hl := lv_entry ([.ref ob, .int p0, .int p1]) (n := 5) (Nat.le_of_ble_eq_true rfl)
  rw [lg_entry_eq]
  generalize (lg_sl ([.ref ob, .int p0, .int p1]) ++ List.replicate (5 - (lg_sl ([.ref ob, .int p0, .int p1])).length) Slot.unset).toArray = ls at hl ⊢
  have hl : lv_has ls 5 [(0, .ref ob), (1, .int p0), (2, .int p1)] := hl
  have h := hf
  unfold mX0_campsAlike at h
  refine lv_iconst (v := 0) hx hb dX0_campsAlike_0 (by decide) ?_
  refine lv_istore_n (lv' := [(3, .int 0), (0, .ref ob), (1, .int p0), (2, .int p1)]) hx hb dX0_campsAlike_1 rfl hl (by decide) rfl (fun ls hl => ?_)
  refine lv_iconst (v := 0) hx hb dX0_campsAlike_2 (by decide) ?_
  refine lv_istore (lv' := [(4, .int 0), (3, .int 0), (0, .ref ob), (1, .int p0), (2, .int p1)]) hx hb dX0_campsAlike_3 hl (by decide) rfl (fun ls hl => ?_)
  exact t_5  h (lv_sub hl [2, 3, 4, 1, 0] rfl)
def fX0_settledPagesWith_26 (N : Nat) (K : KT) (k4 : Int32 → Int32 → Int32 → Option Int32) (x1 : Int32) (x2 : Int32) (x3 : Int32) : Option Int32 := k4 x1 x2 (x3 + 1)
def fX0_settledPagesWith_67 (N : Nat) (K : KT) (k37 : Int32 → Int32 → Int32 → Int32 → Option Int32) (x1 : Int32) (x2 : Int32) (x3 : Int32) (x4 : Int32) : Option Int32 := k37 x1 x2 x3 (x4 + 1)
def fX0_settledPagesWith_37 (N : Nat) (K : KT)  : Nat → Int32 → Int32 → Int32 → Int32 → Option Int32
  | 0, _, _, _, _ => none
  | n + 1, x1, x2, x3, x4 => rdA (K 6) 5 x2 (fun v1 => (if v1 ≤ x4 then some x3 else rdA (K 8) 60 ((x2 * 12) + x4) (fun v4 => (if v4 = x1 then fX0_settledPagesWith_67 N K (fX0_settledPagesWith_37 N K  n) x1 x2 (x3 + 1) x4 else fX0_settledPagesWith_67 N K (fX0_settledPagesWith_37 N K  n) x1 x2 x3 x4))))
def fX0_settledPagesWith_32 (N : Nat) (K : KT)  (x1 : Int32) (x2 : Int32) : Option Int32 := fX0_settledPagesWith_37 N K  N x1 x2 0 0
def fX0_settledPagesWith_4 (N : Nat) (K : KT)  : Nat → Int32 → Int32 → Int32 → Option Int32
  | 0, _, _, _ => none
  | n + 1, x1, x2, x3 => (if 5 ≤ x3 then fX0_settledPagesWith_32 N K  x1 x2 else rdA (K 6) 5 x3 (fun v8 => rdA (K 6) 5 x2 (fun v10 => (if v8 ≤ v10 then fX0_settledPagesWith_26 N K (fX0_settledPagesWith_4 N K  n) x1 x2 x3 else fX0_settledPagesWith_26 N K (fX0_settledPagesWith_4 N K  n) x1 x3 x3))))
def mX0_settledPagesWith (N : Nat) (K : KT) (p0 : Int32) : Option Int32 := fX0_settledPagesWith_4 N K  N p0 0 1
def rmX0_settledPagesWith : Room := { frames := 1, cells := 0, slots := 0, locals := 40 }
set_option maxHeartbeats 4000000 in
set_option maxRecDepth 100000 in
theorem tX0_settledPagesWith {l : Launch} {dC : Nat → ClassId} {dI : Nat → Nat → Nat} {cI : ClassId} {ob : Nat} {q : Nat → Nat} {N : Nat} {K : KT} {p0 : Int32} {rr : Int32} (hf : mX0_settledPagesWith N K p0 = some rr) : Met l yX0_settledPagesWith wsX0_settledPagesWith rmX0_settledPagesWith (cP (dC, dI) vwCl [(cI, .int)] (cvW cI ob q K) [.ref ob, .int p0]) (cQp rr) 0 0 (fun _ => False) := by
  refine Met.ofW (cc := cX0_settledPagesWith) (maxL := 5) (ret := (some .int)) (by decide) rfl ?_
  intro p e s m args below meth c s₁ B hml hv
  obtain ⟨rfl, hP, hK⟩ := hv
  have hx := B.exec
  have hb := B.bytes
  have hr := B.returns
  have hts := atoms_spec (ws := wsX0_settledPagesWith) B.pre
  have hown : s.vm.findClass RX0 = some m.cls := findClass_of_methodNamed B.named
  have hlocks := B.notSynchronized
  have hwX0 : ∀ w ∈ u_ws RX0 TX0 16, w ∈ wsX0_settledPagesWith := by decide +kernel
  have hf_30 := hts (.fieldLink RX0 30 "CaravanLogs$Caravan" "settled" "[I") (by decide +kernel)
  have hf_36 := hts (.fieldLink RX0 36 "CaravanLogs$Caravan" "pageLetter" "[I") (by decide +kernel)
  have t_26 : ∀ {k4 : Int32 → Int32 → Int32 → Option Int32} (hk4 : ∀ {x1 : Int32} {x2 : Int32} {x3 : Int32} {ls : Array Slot} (h : k4 x1 x2 x3 = some rr) (hl : lv_has ls 5 [(0, .ref ob), (1, .int x1), (2, .int x2), (3, .int x3)]), W p l e (headSpec wsX0_settledPagesWith rmX0_settledPagesWith).room s m ([.ref ob, .int p0] : List Value).toArray below meth c s.heap [] 0 0 (MQ below (cQp rr) ([.ref ob, .int p0] : List Value).toArray s 0 0 (fun _ => False)) (F0 m 4 ls [])), ∀ {x1 : Int32} {x2 : Int32} {x3 : Int32} {ls : Array Slot} (h : fX0_settledPagesWith_26 N K k4 x1 x2 x3 = some rr) (hl : lv_has ls 5 [(0, .ref ob), (1, .int x1), (2, .int x2), (3, .int x3)]), W p l e (headSpec wsX0_settledPagesWith rmX0_settledPagesWith).room s m ([.ref ob, .int p0] : List Value).toArray below meth c s.heap [] 0 0 (MQ below (cQp rr) ([.ref ob, .int p0] : List Value).toArray s 0 0 (fun _ => False)) (F0 m 26 ls []) := by
    intro k4 hk4 x1 x2 x3 ls h hl
    unfold fX0_settledPagesWith_26 at h
    refine lv_iinc (v := x3 + 1) (lv' := [(3, .int (x3 + 1)), (0, .ref ob), (1, .int x1), (2, .int x2)]) hx hb dX0_settledPagesWith_26 hl (k := 3) rfl rfl (by decide) rfl (fun ls hl => ?_)
    refine lv_goto (tgt := 4) hx hb dX0_settledPagesWith_29 (by decide) ?_
    exact hk4 h (lv_sub hl [1, 2, 3, 0] rfl)
  have t_67 : ∀ {k37 : Int32 → Int32 → Int32 → Int32 → Option Int32} (hk37 : ∀ {x1 : Int32} {x2 : Int32} {x3 : Int32} {x4 : Int32} {ls : Array Slot} (h : k37 x1 x2 x3 x4 = some rr) (hl : lv_has ls 5 [(0, .ref ob), (1, .int x1), (2, .int x2), (3, .int x3), (4, .int x4)]), W p l e (headSpec wsX0_settledPagesWith rmX0_settledPagesWith).room s m ([.ref ob, .int p0] : List Value).toArray below meth c s.heap [] 0 0 (MQ below (cQp rr) ([.ref ob, .int p0] : List Value).toArray s 0 0 (fun _ => False)) (F0 m 37 ls [])), ∀ {x1 : Int32} {x2 : Int32} {x3 : Int32} {x4 : Int32} {ls : Array Slot} (h : fX0_settledPagesWith_67 N K k37 x1 x2 x3 x4 = some rr) (hl : lv_has ls 5 [(0, .ref ob), (1, .int x1), (2, .int x2), (3, .int x3), (4, .int x4)]), W p l e (headSpec wsX0_settledPagesWith rmX0_settledPagesWith).room s m ([.ref ob, .int p0] : List Value).toArray below meth c s.heap [] 0 0 (MQ below (cQp rr) ([.ref ob, .int p0] : List Value).toArray s 0 0 (fun _ => False)) (F0 m 67 ls []) := by
    intro k37 hk37 x1 x2 x3 x4 ls h hl
    unfold fX0_settledPagesWith_67 at h
    refine lv_iinc (v := x4 + 1) (lv' := [(4, .int (x4 + 1)), (0, .ref ob), (1, .int x1), (2, .int x2), (3, .int x3)]) hx hb dX0_settledPagesWith_67 hl (k := 4) rfl rfl (by decide) rfl (fun ls hl => ?_)
    refine lv_goto (tgt := 37) hx hb dX0_settledPagesWith_70 (by decide) ?_
    exact hk37 h (lv_sub hl [1, 2, 3, 4, 0] rfl)
  have t_37 : ∀ {n : Nat}, ∀ {x1 : Int32} {x2 : Int32} {x3 : Int32} {x4 : Int32} {ls : Array Slot} (h : fX0_settledPagesWith_37 N K  n x1 x2 x3 x4 = some rr) (hl : lv_has ls 5 [(0, .ref ob), (1, .int x1), (2, .int x2), (3, .int x3), (4, .int x4)]), W p l e (headSpec wsX0_settledPagesWith rmX0_settledPagesWith).room s m ([.ref ob, .int p0] : List Value).toArray below meth c s.heap [] 0 0 (MQ below (cQp rr) ([.ref ob, .int p0] : List Value).toArray s 0 0 (fun _ => False)) (F0 m 37 ls []) := by
    intro  n
    induction n with
    | zero =>
      intro x1 x2 x3 x4 ls h hl
      unfold fX0_settledPagesWith_37 at h
      cases h
    | succ n ih =>
      intro x1 x2 x3 x4 ls h hl
      unfold fX0_settledPagesWith_37 at h
      refine lv_iload hx hb dX0_settledPagesWith_37 (lv_at hl 4 rfl) ?_
      refine lv_aload_n hx hb dX0_settledPagesWith_39 rfl (lv_at hl 0 rfl) ?_
      refine va_get (D := (dC, dI)) (ci := 1) (v := .ref (q 6)) (C := RX0) (T := TX0) (N := 16) hx hb hts hwX0 hown hK hP 0 rfl rfl 6 (by decide) hf_30 (fun _ h9 => h9) rfl dX0_settledPagesWith_40 ?_
      refine lv_iload_n hx hb dX0_settledPagesWith_43 rfl (lv_at hl 2 rfl) ?_
      obtain ⟨hi2, v1, ev1, h⟩ := rdA_some h
      refine k_iald hx hb hK hP 7 0 rfl rfl hi2 ev1 dX0_settledPagesWith_44 ?_
      refine lv_icmp_ge (tgt := 73) hx hb dX0_settledPagesWith_45 (by decide) (fun c3 => ?_) (fun c3 => ?_)
      · replace h := if_p c3 h
        refine lv_iload_n hx hb dX0_settledPagesWith_73 rfl (lv_at hl 3 rfl) ?_
        exact W.iret hx hb hr (fun t ht _ => retP h ht) (fun _ h9 => absurd h9 List.not_mem_nil) dX0_settledPagesWith_74
      · replace h := if_n c3 h
        refine lv_aload_n hx hb dX0_settledPagesWith_48 rfl (lv_at hl 0 rfl) ?_
        refine va_get (D := (dC, dI)) (ci := 1) (v := .ref (q 8)) (C := RX0) (T := TX0) (N := 16) hx hb hts hwX0 hown hK hP 0 rfl rfl 8 (by decide) hf_36 (fun _ h9 => h9) rfl dX0_settledPagesWith_49 ?_
        refine lv_iload_n hx hb dX0_settledPagesWith_52 rfl (lv_at hl 2 rfl) ?_
        refine lv_bipush (v := 12) hx hb dX0_settledPagesWith_53 (by decide) ?_
        refine lv_imul hx hb dX0_settledPagesWith_55 ?_
        refine lv_iload hx hb dX0_settledPagesWith_56 (lv_at hl 4 rfl) ?_
        refine lv_iadd hx hb dX0_settledPagesWith_58 ?_
        obtain ⟨hi5, v4, ev4, h⟩ := rdA_some h
        refine k_iald hx hb hK hP 9 0 rfl rfl hi5 ev4 dX0_settledPagesWith_59 ?_
        refine lv_iload_n hx hb dX0_settledPagesWith_60 rfl (lv_at hl 1 rfl) ?_
        refine lv_icmp_ne (tgt := 67) hx hb dX0_settledPagesWith_61 (by decide) (fun c6 => ?_) (fun c6 => ?_)
        · replace h := if_n c6 h
          exact t_67 @ih h (lv_sub hl [0, 1, 2, 3, 4] rfl)
        · replace h := if_p c6 h
          refine lv_iinc (v := x3 + 1) (lv' := [(3, .int (x3 + 1)), (0, .ref ob), (1, .int x1), (2, .int x2), (4, .int x4)]) hx hb dX0_settledPagesWith_64 hl (k := 3) rfl rfl (by decide) rfl (fun ls hl => ?_)
          exact t_67 @ih h (lv_sub hl [1, 2, 3, 0, 4] rfl)
  have t_32 : ∀ {x1 : Int32} {x2 : Int32} {ls : Array Slot} (h : fX0_settledPagesWith_32 N K  x1 x2 = some rr) (hl : lv_has ls 5 [(0, .ref ob), (1, .int x1), (2, .int x2)]), W p l e (headSpec wsX0_settledPagesWith rmX0_settledPagesWith).room s m ([.ref ob, .int p0] : List Value).toArray below meth c s.heap [] 0 0 (MQ below (cQp rr) ([.ref ob, .int p0] : List Value).toArray s 0 0 (fun _ => False)) (F0 m 32 ls []) := by
    intro  x1 x2 ls h hl
    unfold fX0_settledPagesWith_32 at h
    refine lv_iconst (v := 0) hx hb dX0_settledPagesWith_32 (by decide) ?_
    refine lv_istore_n (lv' := [(3, .int 0), (0, .ref ob), (1, .int x1), (2, .int x2)]) hx hb dX0_settledPagesWith_33 rfl hl (by decide) rfl (fun ls hl => ?_)
    refine lv_iconst (v := 0) hx hb dX0_settledPagesWith_34 (by decide) ?_
    refine lv_istore (lv' := [(4, .int 0), (3, .int 0), (0, .ref ob), (1, .int x1), (2, .int x2)]) hx hb dX0_settledPagesWith_35 hl (by decide) rfl (fun ls hl => ?_)
    exact t_37  h (lv_sub hl [2, 3, 4, 1, 0] rfl)
  have t_4 : ∀ {n : Nat}, ∀ {x1 : Int32} {x2 : Int32} {x3 : Int32} {ls : Array Slot} (h : fX0_settledPagesWith_4 N K  n x1 x2 x3 = some rr) (hl : lv_has ls 5 [(0, .ref ob), (1, .int x1), (2, .int x2), (3, .int x3)]), W p l e (headSpec wsX0_settledPagesWith rmX0_settledPagesWith).room s m ([.ref ob, .int p0] : List Value).toArray below meth c s.heap [] 0 0 (MQ below (cQp rr) ([.ref ob, .int p0] : List Value).toArray s 0 0 (fun _ => False)) (F0 m 4 ls []) := by
    intro  n
    induction n with
    | zero =>
      intro x1 x2 x3 ls h hl
      unfold fX0_settledPagesWith_4 at h
      cases h
    | succ n ih =>
      intro x1 x2 x3 ls h hl
      unfold fX0_settledPagesWith_4 at h
      refine lv_iload_n hx hb dX0_settledPagesWith_4 rfl (lv_at hl 3 rfl) ?_
      refine lv_iconst (v := 5) hx hb dX0_settledPagesWith_5 (by decide) ?_
      refine lv_icmp_ge (tgt := 32) hx hb dX0_settledPagesWith_6 (by decide) (fun c7 => ?_) (fun c7 => ?_)
      · replace h := if_p c7 h
        exact t_32  h (lv_sub hl [0, 1, 2] rfl)
      · replace h := if_n c7 h
        refine lv_aload_n hx hb dX0_settledPagesWith_9 rfl (lv_at hl 0 rfl) ?_
        refine va_get (D := (dC, dI)) (ci := 1) (v := .ref (q 6)) (C := RX0) (T := TX0) (N := 16) hx hb hts hwX0 hown hK hP 0 rfl rfl 6 (by decide) hf_30 (fun _ h9 => h9) rfl dX0_settledPagesWith_10 ?_
        refine lv_iload_n hx hb dX0_settledPagesWith_13 rfl (lv_at hl 3 rfl) ?_
        obtain ⟨hi9, v8, ev8, h⟩ := rdA_some h
        refine k_iald hx hb hK hP 7 0 rfl rfl hi9 ev8 dX0_settledPagesWith_14 ?_
        refine lv_aload_n hx hb dX0_settledPagesWith_15 rfl (lv_at hl 0 rfl) ?_
        refine va_get (D := (dC, dI)) (ci := 1) (v := .ref (q 6)) (C := RX0) (T := TX0) (N := 16) hx hb hts hwX0 hown hK hP 0 rfl rfl 6 (by decide) hf_30 (fun _ h9 => h9) rfl dX0_settledPagesWith_16 ?_
        refine lv_iload_n hx hb dX0_settledPagesWith_19 rfl (lv_at hl 2 rfl) ?_
        obtain ⟨hi11, v10, ev10, h⟩ := rdA_some h
        refine k_iald hx hb hK hP 7 0 rfl rfl hi11 ev10 dX0_settledPagesWith_20 ?_
        refine lv_icmp_le (tgt := 26) hx hb dX0_settledPagesWith_21 (by decide) (fun c12 => ?_) (fun c12 => ?_)
        · replace h := if_p c12 h
          exact t_26 @ih h (lv_sub hl [0, 1, 2, 3] rfl)
        · replace h := if_n c12 h
          refine lv_iload_n hx hb dX0_settledPagesWith_24 rfl (lv_at hl 3 rfl) ?_
          refine lv_istore_n (lv' := [(2, .int x3), (0, .ref ob), (1, .int x1), (3, .int x3)]) hx hb dX0_settledPagesWith_25 rfl hl (by decide) rfl (fun ls hl => ?_)
          exact t_26 @ih h (lv_sub hl [1, 2, 0, 3] rfl)
  have hl := lv_entry ([.ref ob, .int p0]) (n := 5) (Nat.le_of_ble_eq_true rfl)
  rw [lg_entry_eq]
  generalize (lg_sl ([.ref ob, .int p0]) ++ List.replicate (5 - (lg_sl ([.ref ob, .int p0])).length) Slot.unset).toArray = ls at hl ⊢
  have hl : lv_has ls 5 [(0, .ref ob), (1, .int p0)] := hl
  have h := hf
  unfold mX0_settledPagesWith at h
  refine lv_iconst (v := 0) hx hb dX0_settledPagesWith_0 (by decide) ?_
  refine lv_istore_n (lv' := [(2, .int 0), (0, .ref ob), (1, .int p0)]) hx hb dX0_settledPagesWith_1 rfl hl (by decide) rfl (fun ls hl => ?_)
  refine lv_iconst (v := 1) hx hb dX0_settledPagesWith_2 (by decide) ?_
  refine lv_istore_n (lv' := [(3, .int 1), (2, .int 0), (0, .ref ob), (1, .int p0)]) hx hb dX0_settledPagesWith_3 rfl hl (by decide) rfl (fun ls hl => ?_)
  exact t_4  h (lv_sub hl [2, 3, 1, 0] rfl)
def fX0_greatestCaptain_41 (N : Nat) (K : KT) (k7 : Int32 → Int32 → Int32 → Option Int32) (x1 : Int32) (x2 : Int32) (x3 : Int32) : Option Int32 := k7 x1 x2 (x3 + 1)
def fX0_greatestCaptain_7 (N : Nat) (K : KT)  : Nat → Int32 → Int32 → Int32 → Option Int32
  | 0, _, _, _ => none
  | n + 1, x1, x2, x3 => (if 5 ≤ x3 then some x1 else rdA (K 2) 5 x3 (fun v2 => (if v2 = 1 then rdA (K 0) 5 x3 (fun v5 => (if v5 ≤ x2 then fX0_greatestCaptain_41 N K (fX0_greatestCaptain_7 N K  n) x1 x2 x3 else rdA (K 0) 5 x3 (fun v8 => fX0_greatestCaptain_41 N K (fX0_greatestCaptain_7 N K  n) x3 v8 x3))) else fX0_greatestCaptain_41 N K (fX0_greatestCaptain_7 N K  n) x1 x2 x3)))
def mX0_greatestCaptain (N : Nat) (K : KT)  : Option Int32 := fX0_greatestCaptain_7 N K  N ((-4)) ((-1)) 0
def rmX0_greatestCaptain : Room := { frames := 1, cells := 0, slots := 0, locals := 40 }
set_option maxHeartbeats 4000000 in
set_option maxRecDepth 100000 in
theorem tX0_greatestCaptain {l : Launch} {dC : Nat → ClassId} {dI : Nat → Nat → Nat} {cI : ClassId} {ob : Nat} {q : Nat → Nat} {N : Nat} {K : KT}  {rr : Int32} (hf : mX0_greatestCaptain N K  = some rr) : Met l yX0_greatestCaptain wsX0_greatestCaptain rmX0_greatestCaptain (cP (dC, dI) vwCl [(cI, .int)] (cvW cI ob q K) [.ref ob]) (cQp rr) 0 0 (fun _ => False) := by
  refine Met.ofW (cc := cX0_greatestCaptain) (maxL := 4) (ret := (some .int)) (by decide) rfl ?_
  intro p e s m args below meth c s₁ B hml hv
  obtain ⟨rfl, hP, hK⟩ := hv
  have hx := B.exec
  have hb := B.bytes
  have hr := B.returns
  have hts := atoms_spec (ws := wsX0_greatestCaptain) B.pre
  have hown : s.vm.findClass RX0 = some m.cls := findClass_of_methodNamed B.named
  have hlocks := B.notSynchronized
  have hwX0 : ∀ w ∈ u_ws RX0 TX0 16, w ∈ wsX0_greatestCaptain := by decide +kernel
  have hf_9 := hts (.fieldLink RX0 9 "CaravanLogs$Caravan" "term" "[I") (by decide +kernel)
  have hf_18 := hts (.fieldLink RX0 18 "CaravanLogs$Caravan" "isCaptain" "[I") (by decide +kernel)
  have t_41 : ∀ {k7 : Int32 → Int32 → Int32 → Option Int32} (hk7 : ∀ {x1 : Int32} {x2 : Int32} {x3 : Int32} {ls : Array Slot} (h : k7 x1 x2 x3 = some rr) (hl : lv_has ls 4 [(0, .ref ob), (1, .int x1), (2, .int x2), (3, .int x3)]), W p l e (headSpec wsX0_greatestCaptain rmX0_greatestCaptain).room s m ([.ref ob] : List Value).toArray below meth c s.heap [] 0 0 (MQ below (cQp rr) ([.ref ob] : List Value).toArray s 0 0 (fun _ => False)) (F0 m 7 ls [])), ∀ {x1 : Int32} {x2 : Int32} {x3 : Int32} {ls : Array Slot} (h : fX0_greatestCaptain_41 N K k7 x1 x2 x3 = some rr) (hl : lv_has ls 4 [(0, .ref ob), (1, .int x1), (2, .int x2), (3, .int x3)]), W p l e (headSpec wsX0_greatestCaptain rmX0_greatestCaptain).room s m ([.ref ob] : List Value).toArray below meth c s.heap [] 0 0 (MQ below (cQp rr) ([.ref ob] : List Value).toArray s 0 0 (fun _ => False)) (F0 m 41 ls []) := by
    intro k7 hk7 x1 x2 x3 ls h hl
    unfold fX0_greatestCaptain_41 at h
    refine lv_iinc (v := x3 + 1) (lv' := [(3, .int (x3 + 1)), (0, .ref ob), (1, .int x1), (2, .int x2)]) hx hb dX0_greatestCaptain_41 hl (k := 3) rfl rfl (by decide) rfl (fun ls hl => ?_)
    refine lv_goto (tgt := 7) hx hb dX0_greatestCaptain_44 (by decide) ?_
    exact hk7 h (lv_sub hl [1, 2, 3, 0] rfl)
  have t_7 : ∀ {n : Nat}, ∀ {x1 : Int32} {x2 : Int32} {x3 : Int32} {ls : Array Slot} (h : fX0_greatestCaptain_7 N K  n x1 x2 x3 = some rr) (hl : lv_has ls 4 [(0, .ref ob), (1, .int x1), (2, .int x2), (3, .int x3)]), W p l e (headSpec wsX0_greatestCaptain rmX0_greatestCaptain).room s m ([.ref ob] : List Value).toArray below meth c s.heap [] 0 0 (MQ below (cQp rr) ([.ref ob] : List Value).toArray s 0 0 (fun _ => False)) (F0 m 7 ls []) := by
    intro  n
    induction n with
    | zero =>
      intro x1 x2 x3 ls h hl
      unfold fX0_greatestCaptain_7 at h
      cases h
    | succ n ih =>
      intro x1 x2 x3 ls h hl
      unfold fX0_greatestCaptain_7 at h
      refine lv_iload_n hx hb dX0_greatestCaptain_7 rfl (lv_at hl 3 rfl) ?_
      refine lv_iconst (v := 5) hx hb dX0_greatestCaptain_8 (by decide) ?_
      refine lv_icmp_ge (tgt := 47) hx hb dX0_greatestCaptain_9 (by decide) (fun c1 => ?_) (fun c1 => ?_)
      · replace h := if_p c1 h
        refine lv_iload_n hx hb dX0_greatestCaptain_47 rfl (lv_at hl 1 rfl) ?_
        exact W.iret hx hb hr (fun t ht _ => retP h ht) (fun _ h9 => absurd h9 List.not_mem_nil) dX0_greatestCaptain_48
      · replace h := if_n c1 h
        refine lv_aload_n hx hb dX0_greatestCaptain_12 rfl (lv_at hl 0 rfl) ?_
        refine va_get (D := (dC, dI)) (ci := 1) (v := .ref (q 2)) (C := RX0) (T := TX0) (N := 16) hx hb hts hwX0 hown hK hP 0 rfl rfl 2 (by decide) hf_18 (fun _ h9 => h9) rfl dX0_greatestCaptain_13 ?_
        refine lv_iload_n hx hb dX0_greatestCaptain_16 rfl (lv_at hl 3 rfl) ?_
        obtain ⟨hi3, v2, ev2, h⟩ := rdA_some h
        refine k_iald hx hb hK hP 3 0 rfl rfl hi3 ev2 dX0_greatestCaptain_17 ?_
        refine lv_iconst (v := 1) hx hb dX0_greatestCaptain_18 (by decide) ?_
        refine lv_icmp_ne (tgt := 41) hx hb dX0_greatestCaptain_19 (by decide) (fun c4 => ?_) (fun c4 => ?_)
        · replace h := if_n c4 h
          exact t_41 @ih h (lv_sub hl [0, 1, 2, 3] rfl)
        · replace h := if_p c4 h
          refine lv_aload_n hx hb dX0_greatestCaptain_22 rfl (lv_at hl 0 rfl) ?_
          refine va_get (D := (dC, dI)) (ci := 1) (v := .ref (q 0)) (C := RX0) (T := TX0) (N := 16) hx hb hts hwX0 hown hK hP 0 rfl rfl 0 (by decide) hf_9 (fun _ h9 => h9) rfl dX0_greatestCaptain_23 ?_
          refine lv_iload_n hx hb dX0_greatestCaptain_26 rfl (lv_at hl 3 rfl) ?_
          obtain ⟨hi6, v5, ev5, h⟩ := rdA_some h
          refine k_iald hx hb hK hP 1 0 rfl rfl hi6 ev5 dX0_greatestCaptain_27 ?_
          refine lv_iload_n hx hb dX0_greatestCaptain_28 rfl (lv_at hl 2 rfl) ?_
          refine lv_icmp_le (tgt := 41) hx hb dX0_greatestCaptain_29 (by decide) (fun c7 => ?_) (fun c7 => ?_)
          · replace h := if_p c7 h
            exact t_41 @ih h (lv_sub hl [0, 1, 2, 3] rfl)
          · replace h := if_n c7 h
            refine lv_iload_n hx hb dX0_greatestCaptain_32 rfl (lv_at hl 3 rfl) ?_
            refine lv_istore_n (lv' := [(1, .int x3), (0, .ref ob), (2, .int x2), (3, .int x3)]) hx hb dX0_greatestCaptain_33 rfl hl (by decide) rfl (fun ls hl => ?_)
            refine lv_aload_n hx hb dX0_greatestCaptain_34 rfl (lv_at hl 1 rfl) ?_
            refine va_get (D := (dC, dI)) (ci := 1) (v := .ref (q 0)) (C := RX0) (T := TX0) (N := 16) hx hb hts hwX0 hown hK hP 0 rfl rfl 0 (by decide) hf_9 (fun _ h9 => h9) rfl dX0_greatestCaptain_35 ?_
            refine lv_iload_n hx hb dX0_greatestCaptain_38 rfl (lv_at hl 3 rfl) ?_
            obtain ⟨hi9, v8, ev8, h⟩ := rdA_some h
            refine k_iald hx hb hK hP 1 0 rfl rfl hi9 ev8 dX0_greatestCaptain_39 ?_
            refine lv_istore_n (lv' := [(2, .int v8), (1, .int x3), (0, .ref ob), (3, .int x3)]) hx hb dX0_greatestCaptain_40 rfl hl (by decide) rfl (fun ls hl => ?_)
            exact t_41 @ih h (lv_sub hl [2, 1, 0, 3] rfl)
  have hl := lv_entry ([.ref ob]) (n := 4) (Nat.le_of_ble_eq_true rfl)
  rw [lg_entry_eq]
  generalize (lg_sl ([.ref ob]) ++ List.replicate (4 - (lg_sl ([.ref ob])).length) Slot.unset).toArray = ls at hl ⊢
  have hl : lv_has ls 4 [(0, .ref ob)] := hl
  have h := hf
  unfold mX0_greatestCaptain at h
  refine lv_bipush (v := (-4)) hx hb dX0_greatestCaptain_0 (by decide) ?_
  refine lv_istore_n (lv' := [(1, .int ((-4))), (0, .ref ob)]) hx hb dX0_greatestCaptain_2 rfl hl (by decide) rfl (fun ls hl => ?_)
  refine lv_iconst (v := (-1)) hx hb dX0_greatestCaptain_3 (by decide) ?_
  refine lv_istore_n (lv' := [(2, .int ((-1))), (1, .int ((-4))), (0, .ref ob)]) hx hb dX0_greatestCaptain_4 rfl hl (by decide) rfl (fun ls hl => ?_)
  refine lv_iconst (v := 0) hx hb dX0_greatestCaptain_5 (by decide) ?_
  refine lv_istore_n (lv' := [(3, .int 0), (2, .int ((-1))), (1, .int ((-4))), (0, .ref ob)]) hx hb dX0_greatestCaptain_6 rfl hl (by decide) rfl (fun ls hl => ?_)
  exact t_7  h (lv_sub hl [3, 2, 1, 0] rfl)
def fX0_hasForemostCaptain_47 (N : Nat) (K : KT) (k15 : Int32 → Int32 → Option Int32) (x1 : Int32) (x2 : Int32) : Option Int32 := k15 x1 (x2 + 1)
def fX0_hasForemostCaptain_15 (N : Nat) (K : KT)  : Nat → Int32 → Int32 → Option Int32
  | 0, _, _ => none
  | n + 1, x1, x2 => (if 5 ≤ x2 then some 1 else rdA (K 3) 5 x2 (fun v2 => (if v2 = 1 then rdA (K 0) 5 x2 (fun v5 => rdA (K 0) 5 x1 (fun v7 => (if v5 ≤ v7 then fX0_hasForemostCaptain_47 N K (fX0_hasForemostCaptain_15 N K  n) x1 x2 else some 0))) else fX0_hasForemostCaptain_47 N K (fX0_hasForemostCaptain_15 N K  n) x1 x2)))
def mX0_hasForemostCaptain (N : Nat) (K : KT)  : Option Int32 := bdP (mX0_greatestCaptain N K ) (fun v10 => (if v10 = ((-4)) then some 0 else fX0_hasForemostCaptain_15 N K  N v10 0))
def rmX0_hasForemostCaptain : Room := { frames := 2, cells := 0, slots := 0, locals := 63 }
set_option maxHeartbeats 4000000 in
set_option maxRecDepth 100000 in
theorem tX0_hasForemostCaptain {l : Launch} {dC : Nat → ClassId} {dI : Nat → Nat → Nat} {cI : ClassId} {ob : Nat} {q : Nat → Nat} {N : Nat} {K : KT}  {rr : Int32} (hf : mX0_hasForemostCaptain N K  = some rr) : Met l yX0_hasForemostCaptain wsX0_hasForemostCaptain rmX0_hasForemostCaptain (cP (dC, dI) vwCl [(cI, .int)] (cvW cI ob q K) [.ref ob]) (cQp rr) 0 0 (fun _ => False) := by
  refine Met.ofW (cc := cX0_hasForemostCaptain) (maxL := 3) (ret := (some .boolean)) (by decide) rfl ?_
  intro p e s m args below meth c s₁ B hml hv
  obtain ⟨rfl, hP, hK⟩ := hv
  have hx := B.exec
  have hb := B.bytes
  have hr := B.returns
  have hts := atoms_spec (ws := wsX0_hasForemostCaptain) B.pre
  have hown : s.vm.findClass RX0 = some m.cls := findClass_of_methodNamed B.named
  have hlocks := B.notSynchronized
  have hwX0 : ∀ w ∈ u_ws RX0 TX0 16, w ∈ wsX0_hasForemostCaptain := by decide +kernel
  have hf_9 := hts (.fieldLink RX0 9 "CaravanLogs$Caravan" "term" "[I") (by decide +kernel)
  have hf_21 := hts (.fieldLink RX0 21 "CaravanLogs$Caravan" "isAwake" "[I") (by decide +kernel)
  have t_47 : ∀ {k15 : Int32 → Int32 → Option Int32} (hk15 : ∀ {x1 : Int32} {x2 : Int32} {ls : Array Slot} (h : k15 x1 x2 = some rr) (hl : lv_has ls 3 [(0, .ref ob), (1, .int x1), (2, .int x2)]), W p l e (headSpec wsX0_hasForemostCaptain rmX0_hasForemostCaptain).room s m ([.ref ob] : List Value).toArray below meth c s.heap [] 0 0 (MQ below (cQp rr) ([.ref ob] : List Value).toArray s 0 0 (fun _ => False)) (F0 m 15 ls [])), ∀ {x1 : Int32} {x2 : Int32} {ls : Array Slot} (h : fX0_hasForemostCaptain_47 N K k15 x1 x2 = some rr) (hl : lv_has ls 3 [(0, .ref ob), (1, .int x1), (2, .int x2)]), W p l e (headSpec wsX0_hasForemostCaptain rmX0_hasForemostCaptain).room s m ([.ref ob] : List Value).toArray below meth c s.heap [] 0 0 (MQ below (cQp rr) ([.ref ob] : List Value).toArray s 0 0 (fun _ => False)) (F0 m 47 ls []) := by
    intro k15 hk15 x1 x2 ls h hl
    unfold fX0_hasForemostCaptain_47 at h
    refine lv_iinc (v := x2 + 1) (lv' := [(2, .int (x2 + 1)), (0, .ref ob), (1, .int x1)]) hx hb dX0_hasForemostCaptain_47 hl (k := 2) rfl rfl (by decide) rfl (fun ls hl => ?_)
    refine lv_goto (tgt := 15) hx hb dX0_hasForemostCaptain_50 (by decide) ?_
    exact hk15 h (lv_sub hl [1, 2, 0] rfl)
  have t_15 : ∀ {n : Nat}, ∀ {x1 : Int32} {x2 : Int32} {ls : Array Slot} (h : fX0_hasForemostCaptain_15 N K  n x1 x2 = some rr) (hl : lv_has ls 3 [(0, .ref ob), (1, .int x1), (2, .int x2)]), W p l e (headSpec wsX0_hasForemostCaptain rmX0_hasForemostCaptain).room s m ([.ref ob] : List Value).toArray below meth c s.heap [] 0 0 (MQ below (cQp rr) ([.ref ob] : List Value).toArray s 0 0 (fun _ => False)) (F0 m 15 ls []) := by
    intro  n
    induction n with
    | zero =>
      intro x1 x2 ls h hl
      unfold fX0_hasForemostCaptain_15 at h
      cases h
    | succ n ih =>
      intro x1 x2 ls h hl
      unfold fX0_hasForemostCaptain_15 at h
      refine lv_iload_n hx hb dX0_hasForemostCaptain_15 rfl (lv_at hl 2 rfl) ?_
      refine lv_iconst (v := 5) hx hb dX0_hasForemostCaptain_16 (by decide) ?_
      refine lv_icmp_ge (tgt := 53) hx hb dX0_hasForemostCaptain_17 (by decide) (fun c1 => ?_) (fun c1 => ?_)
      · replace h := if_p c1 h
        refine lv_iconst (v := 1) hx hb dX0_hasForemostCaptain_53 (by decide) ?_
        exact W.zret hx hb hr (by decide) (fun t ht _ => retP h ht) (fun _ h9 => absurd h9 List.not_mem_nil) dX0_hasForemostCaptain_54
      · replace h := if_n c1 h
        refine lv_aload_n hx hb dX0_hasForemostCaptain_20 rfl (lv_at hl 0 rfl) ?_
        refine va_get (D := (dC, dI)) (ci := 1) (v := .ref (q 3)) (C := RX0) (T := TX0) (N := 16) hx hb hts hwX0 hown hK hP 0 rfl rfl 3 (by decide) hf_21 (fun _ h9 => h9) rfl dX0_hasForemostCaptain_21 ?_
        refine lv_iload_n hx hb dX0_hasForemostCaptain_24 rfl (lv_at hl 2 rfl) ?_
        obtain ⟨hi3, v2, ev2, h⟩ := rdA_some h
        refine k_iald hx hb hK hP 4 0 rfl rfl hi3 ev2 dX0_hasForemostCaptain_25 ?_
        refine lv_iconst (v := 1) hx hb dX0_hasForemostCaptain_26 (by decide) ?_
        refine lv_icmp_ne (tgt := 47) hx hb dX0_hasForemostCaptain_27 (by decide) (fun c4 => ?_) (fun c4 => ?_)
        · replace h := if_n c4 h
          exact t_47 @ih h (lv_sub hl [0, 1, 2] rfl)
        · replace h := if_p c4 h
          refine lv_aload_n hx hb dX0_hasForemostCaptain_30 rfl (lv_at hl 0 rfl) ?_
          refine va_get (D := (dC, dI)) (ci := 1) (v := .ref (q 0)) (C := RX0) (T := TX0) (N := 16) hx hb hts hwX0 hown hK hP 0 rfl rfl 0 (by decide) hf_9 (fun _ h9 => h9) rfl dX0_hasForemostCaptain_31 ?_
          refine lv_iload_n hx hb dX0_hasForemostCaptain_34 rfl (lv_at hl 2 rfl) ?_
          obtain ⟨hi6, v5, ev5, h⟩ := rdA_some h
          refine k_iald hx hb hK hP 1 0 rfl rfl hi6 ev5 dX0_hasForemostCaptain_35 ?_
          refine lv_aload_n hx hb dX0_hasForemostCaptain_36 rfl (lv_at hl 0 rfl) ?_
          refine va_get (D := (dC, dI)) (ci := 1) (v := .ref (q 0)) (C := RX0) (T := TX0) (N := 16) hx hb hts hwX0 hown hK hP 0 rfl rfl 0 (by decide) hf_9 (fun _ h9 => h9) rfl dX0_hasForemostCaptain_37 ?_
          refine lv_iload_n hx hb dX0_hasForemostCaptain_40 rfl (lv_at hl 1 rfl) ?_
          obtain ⟨hi8, v7, ev7, h⟩ := rdA_some h
          refine k_iald hx hb hK hP 1 0 rfl rfl hi8 ev7 dX0_hasForemostCaptain_41 ?_
          refine lv_icmp_le (tgt := 47) hx hb dX0_hasForemostCaptain_42 (by decide) (fun c9 => ?_) (fun c9 => ?_)
          · replace h := if_p c9 h
            exact t_47 @ih h (lv_sub hl [0, 1, 2] rfl)
          · replace h := if_n c9 h
            refine lv_iconst (v := 0) hx hb dX0_hasForemostCaptain_45 (by decide) ?_
            exact W.zret hx hb hr (by decide) (fun t ht _ => retP h ht) (fun _ h9 => absurd h9 List.not_mem_nil) dX0_hasForemostCaptain_46
  have hl := lv_entry ([.ref ob]) (n := 3) (Nat.le_of_ble_eq_true rfl)
  rw [lg_entry_eq]
  generalize (lg_sl ([.ref ob]) ++ List.replicate (3 - (lg_sl ([.ref ob])).length) Slot.unset).toArray = ls at hl ⊢
  have hl : lv_has ls 3 [(0, .ref ob)] := hl
  have h := hf
  unfold mX0_hasForemostCaptain at h
  refine lv_aload_n hx hb dX0_hasForemostCaptain_0 rfl (lv_at hl 0 rfl) ?_
  obtain ⟨v10, hv10, h⟩ := bdP_some h
  refine call_VP (As := []) (rest := []) ⟨hx, hb, hml, hown, hts⟩ (tX0_greatestCaptain (l := l) (dC := dC) (dI := dI) (cI := cI) (ob := ob) (q := q) hv10) (cwV 0 hts gX0_hasForemostCaptain_X0_greatestCaptain rfl rfl rfl (by decide +kernel) ⟨Nat.le_of_ble_eq_true rfl, Nat.le_of_ble_eq_true rfl⟩) hK hP 0 rfl rfl (by rfl) hl.1 rfl (Nat.le_of_ble_eq_true rfl) dX0_hasForemostCaptain_1 ⟨Nat.zero_le _, Nat.zero_le _⟩ ?_
  refine lv_istore_n (lv' := [(1, .int v10), (0, .ref ob)]) hx hb dX0_hasForemostCaptain_4 rfl hl (by decide) rfl (fun ls hl => ?_)
  refine lv_iload_n hx hb dX0_hasForemostCaptain_5 rfl (lv_at hl 0 rfl) ?_
  refine lv_bipush (v := (-4)) hx hb dX0_hasForemostCaptain_6 (by decide) ?_
  refine lv_icmp_ne (tgt := 13) hx hb dX0_hasForemostCaptain_8 (by decide) (fun c11 => ?_) (fun c11 => ?_)
  · replace h := if_n c11 h
    refine lv_iconst (v := 0) hx hb dX0_hasForemostCaptain_13 (by decide) ?_
    refine lv_istore_n (lv' := [(2, .int 0), (1, .int v10), (0, .ref ob)]) hx hb dX0_hasForemostCaptain_14 rfl hl (by decide) rfl (fun ls hl => ?_)
    exact t_15  h (lv_sub hl [2, 1, 0] rfl)
  · replace h := if_p c11 h
    refine lv_iconst (v := 0) hx hb dX0_hasForemostCaptain_11 (by decide) ?_
    exact W.zret hx hb hr (by decide) (fun t ht _ => retP h ht) (fun _ h9 => absurd h9 List.not_mem_nil) dX0_hasForemostCaptain_12
def fX0_isAhead_54 (N : Nat) (K : KT)  (y0 : Int32) : Option Int32 := gd (y0 = 0 ∨ y0 = 1) (some y0)
def fX0_isAhead_65 (N : Nat) (K : KT)  (y0 : Int32) : Option Int32 := gd (y0 = 0 ∨ y0 = 1) (some y0)
def mX0_isAhead (N : Nat) (K : KT) (p0 : Int32) (p1 : Int32) : Option Int32 := bdP (mX0_isAsFar N K p0 p1) (fun v1 => bdP (mX0_isAsFar N K p1 p0) (fun v2 => (if v1 = v2 then rdA (K 6) 5 p0 (fun v4 => rdA (K 6) 5 p1 (fun v6 => (if v4 = v6 then (if p1 ≤ p0 then fX0_isAhead_65 N K  0 else fX0_isAhead_65 N K  1) else rdA (K 6) 5 p0 (fun v10 => rdA (K 6) 5 p1 (fun v12 => (if v10 ≤ v12 then fX0_isAhead_54 N K  0 else fX0_isAhead_54 N K  1)))))) else gd (v1 = 0 ∨ v1 = 1) (some v1))))
def rmX0_isAhead : Room := { frames := 3, cells := 0, slots := 0, locals := 85 }
set_option maxHeartbeats 4000000 in
set_option maxRecDepth 100000 in
theorem tX0_isAhead {l : Launch} {dC : Nat → ClassId} {dI : Nat → Nat → Nat} {cI : ClassId} {ob : Nat} {q : Nat → Nat} {N : Nat} {K : KT} {p0 : Int32} {p1 : Int32} {rr : Int32} (hf : mX0_isAhead N K p0 p1 = some rr) : Met l yX0_isAhead wsX0_isAhead rmX0_isAhead (cP (dC, dI) vwCl [(cI, .int)] (cvW cI ob q K) [.ref ob, .int p0, .int p1]) (cQp rr) 0 0 (fun _ => False) := by
  refine Met.ofW (cc := cX0_isAhead) (maxL := 4) (ret := (some .boolean)) (by decide) rfl ?_
  intro p e s m args below meth c s₁ B hml hv
  obtain ⟨rfl, hP, hK⟩ := hv
  have hx := B.exec
  have hb := B.bytes
  have hr := B.returns
  have hts := atoms_spec (ws := wsX0_isAhead) B.pre
  have hown : s.vm.findClass RX0 = some m.cls := findClass_of_methodNamed B.named
  have hlocks := B.notSynchronized
  have hwX0 : ∀ w ∈ u_ws RX0 TX0 16, w ∈ wsX0_isAhead := by decide +kernel
  have hf_30 := hts (.fieldLink RX0 30 "CaravanLogs$Caravan" "settled" "[I") (by decide +kernel)
  have t_54 : ∀ {y0 : Int32} {ls : Array Slot} (h : fX0_isAhead_54 N K  y0 = some rr) (hl : lv_has ls 4 []), W p l e (headSpec wsX0_isAhead rmX0_isAhead).room s m ([.ref ob, .int p0, .int p1] : List Value).toArray below meth c s.heap [] 0 0 (MQ below (cQp rr) ([.ref ob, .int p0, .int p1] : List Value).toArray s 0 0 (fun _ => False)) (F0 m 54 ls [.int y0]) := by
    intro  y0 ls h hl
    unfold fX0_isAhead_54 at h
    obtain ⟨hz, h⟩ := gd_some h
    exact W.zret hx hb hr (zb_ok hz) (fun t ht _ => retP h ht) (fun _ h9 => absurd h9 List.not_mem_nil) dX0_isAhead_54
  have t_65 : ∀ {y0 : Int32} {ls : Array Slot} (h : fX0_isAhead_65 N K  y0 = some rr) (hl : lv_has ls 4 []), W p l e (headSpec wsX0_isAhead rmX0_isAhead).room s m ([.ref ob, .int p0, .int p1] : List Value).toArray below meth c s.heap [] 0 0 (MQ below (cQp rr) ([.ref ob, .int p0, .int p1] : List Value).toArray s 0 0 (fun _ => False)) (F0 m 65 ls [.int y0]) := by
    intro  y0 ls h hl
    unfold fX0_isAhead_65 at h
    obtain ⟨hz, h⟩ := gd_some h
    exact W.zret hx hb hr (zb_ok hz) (fun t ht _ => retP h ht) (fun _ h9 => absurd h9 List.not_mem_nil) dX0_isAhead_65
  have hl := lv_entry ([.ref ob, .int p0, .int p1]) (n := 4) (Nat.le_of_ble_eq_true rfl)
  rw [lg_entry_eq]
  generalize (lg_sl ([.ref ob, .int p0, .int p1]) ++ List.replicate (4 - (lg_sl ([.ref ob, .int p0, .int p1])).length) Slot.unset).toArray = ls at hl ⊢
  have hl : lv_has ls 4 [(0, .ref ob), (1, .int p0), (2, .int p1)] := hl
  have h := hf
  unfold mX0_isAhead at h
  refine lv_aload_n hx hb dX0_isAhead_0 rfl (lv_at hl 0 rfl) ?_
  refine lv_iload_n hx hb dX0_isAhead_1 rfl (lv_at hl 1 rfl) ?_
  refine lv_iload_n hx hb dX0_isAhead_2 rfl (lv_at hl 2 rfl) ?_
  obtain ⟨v1, hv1, h⟩ := bdP_some h
  refine call_VP (As := [.int p0, .int p1]) (rest := []) ⟨hx, hb, hml, hown, hts⟩ (tX0_isAsFar (l := l) (dC := dC) (dI := dI) (cI := cI) (ob := ob) (q := q) hv1) (cwV 2 hts gX0_isAhead_X0_isAsFar rfl rfl rfl (by decide +kernel) ⟨Nat.le_of_ble_eq_true rfl, Nat.le_of_ble_eq_true rfl⟩) hK hP 0 rfl rfl (by rfl) hl.1 rfl (Nat.le_of_ble_eq_true rfl) dX0_isAhead_3 ⟨Nat.zero_le _, Nat.zero_le _⟩ ?_
  refine lv_istore_n (lv' := [(3, .int v1), (0, .ref ob), (1, .int p0), (2, .int p1)]) hx hb dX0_isAhead_6 rfl hl (by decide) rfl (fun ls hl => ?_)
  refine lv_iload_n hx hb dX0_isAhead_7 rfl (lv_at hl 0 rfl) ?_
  refine lv_aload_n hx hb dX0_isAhead_8 rfl (lv_at hl 1 rfl) ?_
  refine lv_iload_n hx hb dX0_isAhead_9 rfl (lv_at hl 3 rfl) ?_
  refine lv_iload_n hx hb dX0_isAhead_10 rfl (lv_at hl 2 rfl) ?_
  obtain ⟨v2, hv2, h⟩ := bdP_some h
  refine call_VP (As := [.int p1, .int p0]) (rest := [.int v1]) ⟨hx, hb, hml, hown, hts⟩ (tX0_isAsFar (l := l) (dC := dC) (dI := dI) (cI := cI) (ob := ob) (q := q) hv2) (cwV 2 hts gX0_isAhead_X0_isAsFar rfl rfl rfl (by decide +kernel) ⟨Nat.le_of_ble_eq_true rfl, Nat.le_of_ble_eq_true rfl⟩) hK hP 0 rfl rfl (by rfl) hl.1 rfl (Nat.le_of_ble_eq_true rfl) dX0_isAhead_11 ⟨Nat.zero_le _, Nat.zero_le _⟩ ?_
  refine lv_icmp_eq (tgt := 19) hx hb dX0_isAhead_14 (by decide) (fun c3 => ?_) (fun c3 => ?_)
  · replace h := if_p c3 h
    refine lv_aload_n hx hb dX0_isAhead_19 rfl (lv_at hl 1 rfl) ?_
    refine va_get (D := (dC, dI)) (ci := 1) (v := .ref (q 6)) (C := RX0) (T := TX0) (N := 16) hx hb hts hwX0 hown hK hP 0 rfl rfl 6 (by decide) hf_30 (fun _ h9 => h9) rfl dX0_isAhead_20 ?_
    refine lv_iload_n hx hb dX0_isAhead_23 rfl (lv_at hl 2 rfl) ?_
    obtain ⟨hi5, v4, ev4, h⟩ := rdA_some h
    refine k_iald hx hb hK hP 7 0 rfl rfl hi5 ev4 dX0_isAhead_24 ?_
    refine lv_aload_n hx hb dX0_isAhead_25 rfl (lv_at hl 1 rfl) ?_
    refine va_get (D := (dC, dI)) (ci := 1) (v := .ref (q 6)) (C := RX0) (T := TX0) (N := 16) hx hb hts hwX0 hown hK hP 0 rfl rfl 6 (by decide) hf_30 (fun _ h9 => h9) rfl dX0_isAhead_26 ?_
    refine lv_iload_n hx hb dX0_isAhead_29 rfl (lv_at hl 3 rfl) ?_
    obtain ⟨hi7, v6, ev6, h⟩ := rdA_some h
    refine k_iald hx hb hK hP 7 0 rfl rfl hi7 ev6 dX0_isAhead_30 ?_
    refine lv_icmp_eq (tgt := 55) hx hb dX0_isAhead_31 (by decide) (fun c8 => ?_) (fun c8 => ?_)
    · replace h := if_p c8 h
      refine lv_iload_n hx hb dX0_isAhead_55 rfl (lv_at hl 2 rfl) ?_
      refine lv_iload_n hx hb dX0_isAhead_56 rfl (lv_at hl 3 rfl) ?_
      refine lv_icmp_ge (tgt := 64) hx hb dX0_isAhead_57 (by decide) (fun c9 => ?_) (fun c9 => ?_)
      · replace h := if_p c9 h
        refine lv_iconst (v := 0) hx hb dX0_isAhead_64 (by decide) ?_
        exact t_65  h (lv_sub hl [] rfl)
      · replace h := if_n c9 h
        refine lv_iconst (v := 1) hx hb dX0_isAhead_60 (by decide) ?_
        refine lv_goto (tgt := 65) hx hb dX0_isAhead_61 (by decide) ?_
        exact t_65  h (lv_sub hl [] rfl)
    · replace h := if_n c8 h
      refine lv_aload_n hx hb dX0_isAhead_34 rfl (lv_at hl 1 rfl) ?_
      refine va_get (D := (dC, dI)) (ci := 1) (v := .ref (q 6)) (C := RX0) (T := TX0) (N := 16) hx hb hts hwX0 hown hK hP 0 rfl rfl 6 (by decide) hf_30 (fun _ h9 => h9) rfl dX0_isAhead_35 ?_
      refine lv_iload_n hx hb dX0_isAhead_38 rfl (lv_at hl 2 rfl) ?_
      obtain ⟨hi11, v10, ev10, h⟩ := rdA_some h
      refine k_iald hx hb hK hP 7 0 rfl rfl hi11 ev10 dX0_isAhead_39 ?_
      refine lv_aload_n hx hb dX0_isAhead_40 rfl (lv_at hl 1 rfl) ?_
      refine va_get (D := (dC, dI)) (ci := 1) (v := .ref (q 6)) (C := RX0) (T := TX0) (N := 16) hx hb hts hwX0 hown hK hP 0 rfl rfl 6 (by decide) hf_30 (fun _ h9 => h9) rfl dX0_isAhead_41 ?_
      refine lv_iload_n hx hb dX0_isAhead_44 rfl (lv_at hl 3 rfl) ?_
      obtain ⟨hi13, v12, ev12, h⟩ := rdA_some h
      refine k_iald hx hb hK hP 7 0 rfl rfl hi13 ev12 dX0_isAhead_45 ?_
      refine lv_icmp_le (tgt := 53) hx hb dX0_isAhead_46 (by decide) (fun c14 => ?_) (fun c14 => ?_)
      · replace h := if_p c14 h
        refine lv_iconst (v := 0) hx hb dX0_isAhead_53 (by decide) ?_
        exact t_54  h (lv_sub hl [] rfl)
      · replace h := if_n c14 h
        refine lv_iconst (v := 1) hx hb dX0_isAhead_49 (by decide) ?_
        refine lv_goto (tgt := 54) hx hb dX0_isAhead_50 (by decide) ?_
        exact t_54  h (lv_sub hl [] rfl)
  · replace h := if_n c3 h
    refine lv_iload_n hx hb dX0_isAhead_17 rfl (lv_at hl 0 rfl) ?_
    obtain ⟨hz, h⟩ := gd_some h
    exact W.zret hx hb hr (zb_ok hz) (fun t ht _ => retP h ht) (fun _ h9 => absurd h9 List.not_mem_nil) dX0_isAhead_18
