/-! ===== the JDK's StringBuilder, as far as it is used ===== -/
def dOnes : Nat → Int32 := fun j => sb_b (48 + j % 10)
def dTens : Nat → Int32 := fun j => sb_b (48 + j / 10)
def i2b (x : Int32) : Int32 := x.toInt8.toInt32
section KS
variable {p : Program} {l : Launch} {e : Env} {R : Room} {s : State} {m : MethodId} {args : Array Value} {below : List Frame} {meth : Method} {c : Code} {H : Heap} {locs : List Loc} {cells slots : Nat} {Q : State → Prop}
variable {pc : Nat} {ls : Array Slot} {rest st0 : List Value} {a : Array Value} {H0 : Heap} {mc ms base : Nat}
variable {y x : MethodName} {bytes cc : ByteArray} {maxL nL n index : Nat} {ret : Option FieldType} {ws : List Cond} {rm : Room} {Ts : List Cond} {own C owner : String} {b : Addr} {As : List Value} {D : va_G} {cl : List vw_C} {tys : List (ClassId × FieldType)} {wsC : va_W} {r : Int32} {o : Option Value} {Wp : va_W → Prop}
theorem lv_ldcwf {index : Nat} {v : UInt32} (hexec : p.tables.exec = Jvm.exec) (hb : c.code = cc) {own : String} (hown : s.vm.findClass own = some m.cls) (hconst : (Jvm.Cond.constantFloat own index v).before args s = true) (hdg : decode cc pc = .ok (.ldc_w index, 3)) (k : W p l e R s m args below meth c H locs cells slots Q (F0 m (pc + 3) ls (.float v :: rest))) : W p l e R s m args below meth c H locs cells slots Q (F0 m pc ls rest) := by
  intro T hT X
  obtain ⟨t, a, b⟩ := k T hT X
  obtain ⟨kk, cf, hk, hcf, hcp⟩ := Cond.constantFloat_spec hown hconst
  obtain ⟨k', hk', he⟩ := X.warmed.alike.2.2 _ _ hk
  refine ⟨t, ?_, b⟩
  subst hb
  jvm_step X.here [hexec, hdg, ldc_w.wp_float (s := T) (f := F0 m pc ls rest) X.here.top hk' (by rw [he]; exact hcf) hcp]
  exact a
theorem k_bald {ws : va_W} {a : Nat} (hexec : p.tables.exec = Jvm.exec) (hb : c.code = cc) (hK : va_K D cl tys s) (hP : va_P D cl ws H) (q0 t0 : Nat) {cA : ClassId} {n : Nat} {f : Nat → Int32} (ha : ws[q0]? = some (a, .inl (cA, n, .inl f))) (ht : tys[t0]? = some (cA, .byte)) {i v : Int32} (hin : vp_in i n) (hv : v = f i.toNatClampNeg) (hdg : decode cc pc = .ok (.baload, 1))
    (kk : W p l e R s m args below meth c H locs cells slots Q (F0 m (pc + 1) ls (.int v :: rest))) : W p l e R s m args below meth c H locs cells slots Q (F0 m pc ls (.int i :: .ref a :: rest)) := by
  subst hv
  exact va_bald hexec hb hK hP q0 t0 ha ht hin hdg kk
/-- a static method that only looks -/
def cSe (base : Nat) (av : List Value) : Array Value → State → Prop := fun v U => v = av.toArray ∧ base ≤ U.heap.size ∧ EnvB base U
def cQv : Array Value → State → Outcome → State → Prop := fun _ st oc t => oc = .returned none ∧ t.heap = st.heap
theorem cSe_blind (base : Nat) (av : List Value) : FrameBlind (cSe base av) := fun _ _ _ _ q => q
theorem cl_pureV (hr : va_Run p l e R s m args below meth c H locs cells slots 0 0 (F0 m pc ls st0) rest (cQv a) (fun _ => False)) (kk : W p l e R s m args below meth c H locs cells slots Q (F0 m (pc + 3) ls rest)) : W p l e R s m args below meth c H locs cells slots Q (F0 m pc ls st0) := by
  intro T hT X
  obtain ⟨v, st₀, t, T', L, h0, X', hL, e1, e2, ⟨hv, ht⟩, st⟩ := hr T hT X
  cases hv
  have hL0 : L = [] := List.eq_nil_iff_forall_not_mem.mpr (fun q hq => hL q hq)
  subst hL0
  rw [List.append_nil] at X'
  obtain ⟨t2, a1, b1⟩ := kk T' (by rw [e1, ht, h0]) X'
  exact ⟨t2, st t2 a1, b1⟩
theorem call_SCk (S : CallFix p m c cc nL s args Ts own) (hM : Met l y ws rm (cSe base As) cQv 0 0 (fun _ => False)) (cw : CallB R s args own index y bytes maxL ret ws rm 0 0 n ∧ (Cond.static y).before args s = true) (hbs : base ≤ H.size) (hEU : ∀ U : State, U.heap = H → s.WarmedH U.vm → EnvB base U)
    (hn : As.length = n) (hsz : ls.size = nL) (hst : st0 = As.reverse ++ rest) (hW : (rest.map fun v => v.category).sum ≤ 8) (hdg : decode cc pc = .ok (.invokestatic index, 3)) (hcs : cells ≤ R.cells ∧ slots ≤ R.slots)
    (kk : W p l e R s m args below meth c H locs cells slots Q (F0 m (pc + 3) ls rest)) : W p l e R s m args below meth c H locs cells slots Q (F0 m pc ls st0) :=
  cl_pureV (va_runS (As := As) (rest := rest) S hM cw ⟨cSe_blind _ _, fun U hU hWm => ⟨rfl, by rw [hU]; exact hbs, hEU U hU hWm⟩⟩ rfl hn hsz hst (lv_room hW) hdg hcs) kk
end KS
def rmJ3_checkIndex_8e157 : Room := { frames := 1, cells := 0, slots := 0, locals := 40 }
set_option maxHeartbeats 4000000 in
set_option maxRecDepth 100000 in
theorem tJ3_checkIndex_8e157_n {l : Launch} {i n : Int32} (h0 : 0 ≤ i) (h1 : i < n) : Met l yJ3_checkIndex_8e157 wsJ3_checkIndex_8e157 rmJ3_checkIndex_8e157 (cS [.int i, .int n, .null]) (cQp i) 0 0 (fun _ => False) := by
  refine Met.ofW (cc := cJ3_checkIndex_8e157) (maxL := 3) (ret := (some .int)) (by decide) rfl ?_
  intro p e s m args below meth c s₁ B hml hv
  obtain rfl : args = ([.int i, .int n, .null] : List Value).toArray := hv
  have hx := B.exec
  have hb := B.bytes
  have hr := B.returns
  have hlocks := B.notSynchronized
  have hl := lv_entry ([.int i, .int n, .null]) (n := 3) (Nat.le_of_ble_eq_true rfl)
  rw [lg_entry_eq]
  generalize (lg_sl ([.int i, .int n, .null]) ++ List.replicate (3 - (lg_sl ([.int i, .int n, .null])).length) Slot.unset).toArray = ls at hl ⊢
  have hl : lv_has ls 3 [(0, .int i), (1, .int n), (2, .null)] := hl
  refine lv_iload_n hx hb dJ3_checkIndex_8e157_0 rfl (lv_at hl 0 rfl) ?_
  refine lv_if_lt (tgt := 9) hx hb dJ3_checkIndex_8e157_1 (by decide) (fun c1 => absurd c1 (Int32.not_lt.mpr h0)) (fun c1 => ?_)
  refine lv_iload_n hx hb dJ3_checkIndex_8e157_4 rfl (lv_at hl 0 rfl) ?_
  refine lv_iload_n hx hb dJ3_checkIndex_8e157_5 rfl (lv_at hl 1 rfl) ?_
  refine lv_icmp_lt (tgt := 16) hx hb dJ3_checkIndex_8e157_6 (by decide) (fun c2 => ?_) (fun c2 => absurd h1 c2)
  refine lv_iload_n hx hb dJ3_checkIndex_8e157_16 rfl (lv_at hl 0 rfl) ?_
  exact W.iret hx hb hr (fun t ht _ => ⟨rfl, ht⟩) (fun _ h9 => absurd h9 List.not_mem_nil) dJ3_checkIndex_8e157_17
set_option maxHeartbeats 4000000 in
set_option maxRecDepth 100000 in
theorem tJ3_checkIndex_8e157_r {l : Launch} {i n : Int32} {t : Nat} (h0 : 0 ≤ i) (h1 : i < n) : Met l yJ3_checkIndex_8e157 wsJ3_checkIndex_8e157 rmJ3_checkIndex_8e157 (cS [.int i, .int n, .ref t]) (cQp i) 0 0 (fun _ => False) := by
  refine Met.ofW (cc := cJ3_checkIndex_8e157) (maxL := 3) (ret := (some .int)) (by decide) rfl ?_
  intro p e s m args below meth c s₁ B hml hv
  obtain rfl : args = ([.int i, .int n, .ref t] : List Value).toArray := hv
  have hx := B.exec
  have hb := B.bytes
  have hr := B.returns
  have hlocks := B.notSynchronized
  have hl := lv_entry ([.int i, .int n, .ref t]) (n := 3) (Nat.le_of_ble_eq_true rfl)
  rw [lg_entry_eq]
  generalize (lg_sl ([.int i, .int n, .ref t]) ++ List.replicate (3 - (lg_sl ([.int i, .int n, .ref t])).length) Slot.unset).toArray = ls at hl ⊢
  have hl : lv_has ls 3 [(0, .int i), (1, .int n), (2, .ref t)] := hl
  refine lv_iload_n hx hb dJ3_checkIndex_8e157_0 rfl (lv_at hl 0 rfl) ?_
  refine lv_if_lt (tgt := 9) hx hb dJ3_checkIndex_8e157_1 (by decide) (fun c1 => absurd c1 (Int32.not_lt.mpr h0)) (fun c1 => ?_)
  refine lv_iload_n hx hb dJ3_checkIndex_8e157_4 rfl (lv_at hl 0 rfl) ?_
  refine lv_iload_n hx hb dJ3_checkIndex_8e157_5 rfl (lv_at hl 1 rfl) ?_
  refine lv_icmp_lt (tgt := 16) hx hb dJ3_checkIndex_8e157_6 (by decide) (fun c2 => ?_) (fun c2 => absurd h1 c2)
  refine lv_iload_n hx hb dJ3_checkIndex_8e157_16 rfl (lv_at hl 0 rfl) ?_
  exact W.iret hx hb hr (fun t ht _ => ⟨rfl, ht⟩) (fun _ h9 => absurd h9 List.not_mem_nil) dJ3_checkIndex_8e157_17
def rmJ0_checkIndex_df160 : Room := { frames := 2, cells := 0, slots := 0, locals := 70 }
set_option maxHeartbeats 4000000 in
set_option maxRecDepth 100000 in
theorem tJ0_checkIndex_df160 {l : Launch} {base : Nat} {i n : Int32} (h : 0 ≤ i ∧ i < n) : Met l yJ0_checkIndex_df160 wsJ0_checkIndex_df160 rmJ0_checkIndex_df160 (cSe base [.int i, .int n]) cQv 0 0 (fun _ => False) := by
  refine Met.ofW (cc := cJ0_checkIndex_df160) (maxL := 2) (ret := none) (by decide) rfl ?_
  intro p e s m args below meth c s₁ B hml hv
  obtain ⟨rfl, hbs, hE⟩ := hv
  have hx := B.exec
  have hb := B.bytes
  have hr := B.returns
  have hts := atoms_spec (ws := wsJ0_checkIndex_df160) B.pre
  have hown : s.vm.findClass RJ0 = some m.cls := findClass_of_methodNamed B.named
  have hlocks := B.notSynchronized
  have hl := lv_entry ([.int i, .int n]) (n := 2) (Nat.le_of_ble_eq_true rfl)
  rw [lg_entry_eq]
  generalize (lg_sl ([.int i, .int n]) ++ List.replicate (2 - (lg_sl ([.int i, .int n])).length) Slot.unset).toArray = ls at hl ⊢
  have hl : lv_has ls 2 [(0, .int i), (1, .int n)] := hl
  refine lv_iload_n hx hb dJ0_checkIndex_df160_0 rfl (lv_at hl 0 rfl) ?_
  refine lv_iload_n hx hb dJ0_checkIndex_df160_1 rfl (lv_at hl 1 rfl) ?_
  rcases hE.2.2.2.1 with hZ | ⟨t, hZ⟩
  · refine va_gets hx hb hZ va_S.rf hown (hts (.fieldLink RJ0 1053 "jdk/internal/util/Preconditions" "SIOOBE_FORMATTER" "Ljava/util/function/BiFunction;") (by decide +kernel)) (fun _ h9 => h9) dJ0_checkIndex_df160_2 ?_
    refine call_SP (As := [.int i, .int n, .null]) (rest := []) ⟨hx, hb, hml, hown, hts⟩ (tJ3_checkIndex_8e157_n (l := l) h.1 h.2) (va_cwS 3 hts gJ0_checkIndex_df160_J3_checkIndex_8e157 rfl rfl rfl (by decide +kernel) ⟨Nat.le_of_ble_eq_true rfl, Nat.le_of_ble_eq_true rfl⟩) (by rfl) hl.1 rfl (Nat.le_of_ble_eq_true rfl) dJ0_checkIndex_df160_5 ⟨Nat.zero_le _, Nat.zero_le _⟩ ?_
    refine lv_pop hx hb dJ0_checkIndex_df160_8 rfl ?_
    exact W.vret hx hb hr (fun t ht _ => ⟨rfl, ht⟩) (fun _ h9 => absurd h9 List.not_mem_nil) dJ0_checkIndex_df160_9
  · refine va_gets hx hb hZ va_S.rf hown (hts (.fieldLink RJ0 1053 "jdk/internal/util/Preconditions" "SIOOBE_FORMATTER" "Ljava/util/function/BiFunction;") (by decide +kernel)) (fun _ h9 => h9) dJ0_checkIndex_df160_2 ?_
    refine call_SP (As := [.int i, .int n, .ref t]) (rest := []) ⟨hx, hb, hml, hown, hts⟩ (tJ3_checkIndex_8e157_r (l := l) h.1 h.2) (va_cwS 3 hts gJ0_checkIndex_df160_J3_checkIndex_8e157 rfl rfl rfl (by decide +kernel) ⟨Nat.le_of_ble_eq_true rfl, Nat.le_of_ble_eq_true rfl⟩) (by rfl) hl.1 rfl (Nat.le_of_ble_eq_true rfl) dJ0_checkIndex_df160_5 ⟨Nat.zero_le _, Nat.zero_le _⟩ ?_
    refine lv_pop hx hb dJ0_checkIndex_df160_8 rfl ?_
    exact W.vret hx hb hr (fun t ht _ => ⟨rfl, ht⟩) (fun _ h9 => absurd h9 List.not_mem_nil) dJ0_checkIndex_df160_9
def fJ5_isLatin1_aae02_18 (N : Nat) (mm : Nat) (K : KT)  (y0 : Int32) : Option Int32 := gd (y0 = 0 ∨ y0 = 1) (some y0)
def fJ5_isLatin1_aae02_17 (N : Nat) (mm : Nat) (K : KT)   : Option Int32 := fJ5_isLatin1_aae02_18 N mm K  0
def mJ5_isLatin1_aae02 (N : Nat) (mm : Nat) (K : KT)  : Option Int32 := (if ((1 : Int32)) = 0 then fJ5_isLatin1_aae02_17 N mm K   else (if ((0 : Int32)) = 0 then fJ5_isLatin1_aae02_18 N mm K  1 else fJ5_isLatin1_aae02_17 N mm K  ))
def rmJ5_isLatin1_aae02 : Room := { frames := 1, cells := 0, slots := 0, locals := 40 }
set_option maxHeartbeats 4000000 in
set_option maxRecDepth 100000 in
theorem tJ5_isLatin1_aae02 {l : Launch} {dC : Nat → ClassId} {dI : Nat → Nat → Nat} {cB : ClassId} {ob sb mm base : Nat} {R : va_W} {N : Nat} {K : KT}  {rr : Int32} (hf : mJ5_isLatin1_aae02 N mm K  = some rr) (hCF : CF mm K) : Met l yJ5_isLatin1_aae02 wsJ5_isLatin1_aae02 rmJ5_isLatin1_aae02 (cBp (dC, dI) vwCl [(cB, .byte)] base (sbW cB ob sb mm K ++ R) [.ref ob]) (cQp rr) 0 0 (fun _ => False) := by
  refine Met.ofW (cc := cJ5_isLatin1_aae02) (maxL := 1) (ret := (some .boolean)) (by decide) rfl ?_
  intro p e s m args below meth c s₁ B hml hv
  obtain ⟨rfl, hP, hK, hD, hbs, hE⟩ := hv
  have hx := B.exec
  have hb := B.bytes
  have hr := B.returns
  have hts := atoms_spec (ws := wsJ5_isLatin1_aae02) B.pre
  have hown : s.vm.findClass RJ5 = some m.cls := findClass_of_methodNamed B.named
  have hlocks := B.notSynchronized
  have hf_22 := hts (.fieldLink RJ5 22 "java/lang/AbstractStringBuilder" "coder" "B") (by decide +kernel)
  have hwJ4 : ∀ w ∈ u_ws RJ4 TJ4 4, w ∈ wsJ5_isLatin1_aae02 := by decide +kernel
  have hEU : ∀ U : State, U.heap = s.heap → s.WarmedH U.vm → EnvB base U := fun U hU hW => Env_step rfl rfl hE va_S.rf hU hW
  have t_18 : ∀ {y0 : Int32} {ls : Array Slot} (h : fJ5_isLatin1_aae02_18 N mm K  y0 = some rr) (hl : lv_has ls 1 []), W p l e (headSpec wsJ5_isLatin1_aae02 rmJ5_isLatin1_aae02).room s m ([.ref ob] : List Value).toArray below meth c s.heap [] 0 0 (MQ below (cQp rr) ([.ref ob] : List Value).toArray s 0 0 (fun _ => False)) (F0 m 18 ls [.int y0]) := by
    intro  y0 ls h hl
    unfold fJ5_isLatin1_aae02_18 at h
    obtain ⟨hz, h⟩ := gd_some h
    exact W.zret hx hb hr (zb_ok hz) (fun t ht _ => retP h ht) (fun _ h9 => absurd h9 List.not_mem_nil) dJ5_isLatin1_aae02_18
  have t_17 : ∀  {ls : Array Slot} (h : fJ5_isLatin1_aae02_17 N mm K   = some rr) (hl : lv_has ls 1 []), W p l e (headSpec wsJ5_isLatin1_aae02 rmJ5_isLatin1_aae02).room s m ([.ref ob] : List Value).toArray below meth c s.heap [] 0 0 (MQ below (cQp rr) ([.ref ob] : List Value).toArray s 0 0 (fun _ => False)) (F0 m 17 ls []) := by
    intro   ls h hl
    unfold fJ5_isLatin1_aae02_17 at h
    refine lv_iconst (v := 0) hx hb dJ5_isLatin1_aae02_17 (by decide) ?_
    exact t_18  h (lv_sub hl [] rfl)
  have hl := lv_entry ([.ref ob]) (n := 1) (Nat.le_of_ble_eq_true rfl)
  rw [lg_entry_eq]
  generalize (lg_sl ([.ref ob]) ++ List.replicate (1 - (lg_sl ([.ref ob])).length) Slot.unset).toArray = ls at hl ⊢
  have hl : lv_has ls 1 [(0, .ref ob)] := hl
  have h := hf
  unfold mJ5_isLatin1_aae02 at h
  refine va_gets hx hb hE.1 va_S.rf hown (hts (.fieldLink RJ5 18 "java/lang/String" "COMPACT_STRINGS" "Z") (by decide +kernel)) (fun _ h9 => h9) dJ5_isLatin1_aae02_0 ?_
  refine lv_if_eq (tgt := 17) hx hb dJ5_isLatin1_aae02_3 (by decide) (fun c1 => ?_) (fun c1 => ?_)
  · replace h := if_p c1 h
    exact t_17  h (lv_sub hl [] rfl)
  · replace h := if_n c1 h
    refine lv_aload_n hx hb dJ5_isLatin1_aae02_6 rfl (lv_at hl 0 rfl) ?_
    refine va_get (D := (dC, dI)) (ci := 0) (v := .int ((0 : Int32))) (C := RJ4) (T := TJ4) (N := 4) hx hb hts hwJ4 hown hK hP 0 rfl rfl 1 (by decide) hf_22 (fun _ h9 => h9) rfl dJ5_isLatin1_aae02_7 ?_
    refine lv_if_ne (tgt := 17) hx hb dJ5_isLatin1_aae02_10 (by decide) (fun c2 => ?_) (fun c2 => ?_)
    · replace h := if_n c2 h
      exact t_17  h (lv_sub hl [] rfl)
    · replace h := if_p c2 h
      refine lv_iconst (v := 1) hx hb dJ5_isLatin1_aae02_13 (by decide) ?_
      refine lv_goto (tgt := 18) hx hb dJ5_isLatin1_aae02_14 (by decide) ?_
      exact t_18  h (lv_sub hl [] rfl)
def mJ5_length_8abf5 (N : Nat) (mm : Nat) (K : KT)  : Option Int32 := some (K 1 0)
def rmJ5_length_8abf5 : Room := { frames := 1, cells := 0, slots := 0, locals := 40 }
set_option maxHeartbeats 4000000 in
set_option maxRecDepth 100000 in
theorem tJ5_length_8abf5 {l : Launch} {dC : Nat → ClassId} {dI : Nat → Nat → Nat} {cB : ClassId} {ob sb mm base : Nat} {R : va_W} {N : Nat} {K : KT}  {rr : Int32} (hf : mJ5_length_8abf5 N mm K  = some rr) (hCF : CF mm K) : Met l yJ5_length_8abf5 wsJ5_length_8abf5 rmJ5_length_8abf5 (cBp (dC, dI) vwCl [(cB, .byte)] base (sbW cB ob sb mm K ++ R) [.ref ob]) (cQp rr) 0 0 (fun _ => False) := by
  refine Met.ofW (cc := cJ5_length_8abf5) (maxL := 1) (ret := (some .int)) (by decide) rfl ?_
  intro p e s m args below meth c s₁ B hml hv
  obtain ⟨rfl, hP, hK, hD, hbs, hE⟩ := hv
  have hx := B.exec
  have hb := B.bytes
  have hr := B.returns
  have hts := atoms_spec (ws := wsJ5_length_8abf5) B.pre
  have hown : s.vm.findClass RJ5 = some m.cls := findClass_of_methodNamed B.named
  have hlocks := B.notSynchronized
  have hf_79 := hts (.fieldLink RJ5 79 "java/lang/AbstractStringBuilder" "count" "I") (by decide +kernel)
  have hwJ4 : ∀ w ∈ u_ws RJ4 TJ4 4, w ∈ wsJ5_length_8abf5 := by decide +kernel
  have hEU : ∀ U : State, U.heap = s.heap → s.WarmedH U.vm → EnvB base U := fun U hU hW => Env_step rfl rfl hE va_S.rf hU hW
  have hl := lv_entry ([.ref ob]) (n := 1) (Nat.le_of_ble_eq_true rfl)
  rw [lg_entry_eq]
  generalize (lg_sl ([.ref ob]) ++ List.replicate (1 - (lg_sl ([.ref ob])).length) Slot.unset).toArray = ls at hl ⊢
  have hl : lv_has ls 1 [(0, .ref ob)] := hl
  have h := hf
  unfold mJ5_length_8abf5 at h
  refine lv_aload_n hx hb dJ5_length_8abf5_0 rfl (lv_at hl 0 rfl) ?_
  refine va_get (D := (dC, dI)) (ci := 0) (v := .int (K 1 0)) (C := RJ4) (T := TJ4) (N := 4) hx hb hts hwJ4 hown hK hP 0 rfl rfl 3 (by decide) hf_79 (fun _ h9 => h9) rfl dJ5_length_8abf5_1 ?_
  exact W.iret hx hb hr (fun t ht _ => retP h ht) (fun _ h9 => absurd h9 List.not_mem_nil) dJ5_length_8abf5_4
def mJ4_length_8abf5 (N : Nat) (mm : Nat) (K : KT)  : Option Int32 := bdP (mJ5_length_8abf5 N mm K ) (fun v1 => some v1)
def rmJ4_length_8abf5 : Room := { frames := 2, cells := 0, slots := 0, locals := 60 }
set_option maxHeartbeats 4000000 in
set_option maxRecDepth 100000 in
theorem tJ4_length_8abf5 {l : Launch} {dC : Nat → ClassId} {dI : Nat → Nat → Nat} {cB : ClassId} {ob sb mm base : Nat} {R : va_W} {N : Nat} {K : KT}  {rr : Int32} (hf : mJ4_length_8abf5 N mm K  = some rr) (hCF : CF mm K) : Met l yJ4_length_8abf5 wsJ4_length_8abf5 rmJ4_length_8abf5 (cBp (dC, dI) vwCl [(cB, .byte)] base (sbW cB ob sb mm K ++ R) [.ref ob]) (cQp rr) 0 0 (fun _ => False) := by
  refine Met.ofW (cc := cJ4_length_8abf5) (maxL := 1) (ret := (some .int)) (by decide) rfl ?_
  intro p e s m args below meth c s₁ B hml hv
  obtain ⟨rfl, hP, hK, hD, hbs, hE⟩ := hv
  have hx := B.exec
  have hb := B.bytes
  have hr := B.returns
  have hts := atoms_spec (ws := wsJ4_length_8abf5) B.pre
  have hown : s.vm.findClass RJ4 = some m.cls := findClass_of_methodNamed B.named
  have hlocks := B.notSynchronized
  have hEU : ∀ U : State, U.heap = s.heap → s.WarmedH U.vm → EnvB base U := fun U hU hW => Env_step rfl rfl hE va_S.rf hU hW
  have hl := lv_entry ([.ref ob]) (n := 1) (Nat.le_of_ble_eq_true rfl)
  rw [lg_entry_eq]
  generalize (lg_sl ([.ref ob]) ++ List.replicate (1 - (lg_sl ([.ref ob])).length) Slot.unset).toArray = ls at hl ⊢
  have hl : lv_has ls 1 [(0, .ref ob)] := hl
  have h := hf
  unfold mJ4_length_8abf5 at h
  refine lv_aload_n hx hb dJ4_length_8abf5_0 rfl (lv_at hl 0 rfl) ?_
  obtain ⟨v1, hv1, h⟩ := bdP_some h
  refine call_BSUP (As := []) (rest := []) (hK.1 0 _ rfl).2 ⟨hx, hb, hml, hown, hts⟩ (tJ5_length_8abf5 (l := l) (dC := dC) (dI := dI) (cB := cB) (ob := ob) (sb := sb) (mm := mm) (base := base) (R := R) hv1 hCF) (va_cwSU 0 hts gJ4_length_8abf5_J5_length_8abf5_s343 rfl rfl rfl (by decide +kernel) ⟨Nat.le_of_ble_eq_true rfl, Nat.le_of_ble_eq_true rfl⟩) hK hP hD hbs hEU 0 rfl rfl (by rfl) hl.1 rfl (Nat.le_of_ble_eq_true rfl) dJ4_length_8abf5_1 ⟨Nat.zero_le _, Nat.zero_le _⟩ ?_
  exact W.iret hx hb hr (fun t ht _ => retP h ht) (fun _ h9 => absurd h9 List.not_mem_nil) dJ4_length_8abf5_4
def mJ5_charAt_5068e (N : Nat) (mm : Nat) (K : KT) (p0 : Int32) : Option Int32 := gd (0 ≤ p0 ∧ p0 < ((if ((nI mm) >>> (((0 : Int32)) &&& 31)) < (K 1 0) then ((nI mm) >>> (((0 : Int32)) &&& 31)) else (K 1 0)))) ((if ((0 : Int32)) = 0 then rdA (K 0) mm p0 (fun v3 => gd (chr (i2c (v3 &&& 255))) (some (i2c (v3 &&& 255)))) else none))
def rmJ5_charAt_5068e : Room := { frames := 3, cells := 0, slots := 0, locals := 91 }
set_option maxHeartbeats 4000000 in
set_option maxRecDepth 100000 in
theorem tJ5_charAt_5068e {l : Launch} {dC : Nat → ClassId} {dI : Nat → Nat → Nat} {cB : ClassId} {ob sb mm base : Nat} {R : va_W} {N : Nat} {K : KT} {p0 : Int32} {rr : Int32} (hf : mJ5_charAt_5068e N mm K p0 = some rr) (hCF : CF mm K) : Met l yJ5_charAt_5068e wsJ5_charAt_5068e rmJ5_charAt_5068e (cBp (dC, dI) vwCl [(cB, .byte)] base (sbW cB ob sb mm K ++ R) [.ref ob, .int p0]) (cQp rr) 0 0 (fun _ => False) := by
  refine Met.ofW (cc := cJ5_charAt_5068e) (maxL := 5) (ret := (some .char)) (by decide) rfl ?_
  intro p e s m args below meth c s₁ B hml hv
  obtain ⟨rfl, hP, hK, hD, hbs, hE⟩ := hv
  have hx := B.exec
  have hb := B.bytes
  have hr := B.returns
  have hts := atoms_spec (ws := wsJ5_charAt_5068e) B.pre
  have hown : s.vm.findClass RJ5 = some m.cls := findClass_of_methodNamed B.named
  have hlocks := B.notSynchronized
  have hf_15 := hts (.fieldLink RJ5 15 "java/lang/AbstractStringBuilder" "value" "[B") (by decide +kernel)
  have hf_22 := hts (.fieldLink RJ5 22 "java/lang/AbstractStringBuilder" "coder" "B") (by decide +kernel)
  have hf_79 := hts (.fieldLink RJ5 79 "java/lang/AbstractStringBuilder" "count" "I") (by decide +kernel)
  have hwJ4 : ∀ w ∈ u_ws RJ4 TJ4 4, w ∈ wsJ5_charAt_5068e := by decide +kernel
  have hEU : ∀ U : State, U.heap = s.heap → s.WarmedH U.vm → EnvB base U := fun U hU hW => Env_step rfl rfl hE va_S.rf hU hW
  have hl := lv_entry ([.ref ob, .int p0]) (n := 5) (Nat.le_of_ble_eq_true rfl)
  rw [lg_entry_eq]
  generalize (lg_sl ([.ref ob, .int p0]) ++ List.replicate (5 - (lg_sl ([.ref ob, .int p0])).length) Slot.unset).toArray = ls at hl ⊢
  have hl : lv_has ls 5 [(0, .ref ob), (1, .int p0)] := hl
  have h := hf
  unfold mJ5_charAt_5068e at h
  refine lv_aload_n hx hb dJ5_charAt_5068e_0 rfl (lv_at hl 0 rfl) ?_
  refine va_get (D := (dC, dI)) (ci := 0) (v := .int ((0 : Int32))) (C := RJ4) (T := TJ4) (N := 4) hx hb hts hwJ4 hown hK hP 0 rfl rfl 1 (by decide) hf_22 (fun _ h9 => h9) rfl dJ5_charAt_5068e_1 ?_
  refine lv_istore_n (lv' := [(2, .int ((0 : Int32))), (0, .ref ob), (1, .int p0)]) hx hb dJ5_charAt_5068e_4 rfl hl (by decide) rfl (fun ls hl => ?_)
  refine lv_aload_n hx hb dJ5_charAt_5068e_5 rfl (lv_at hl 1 rfl) ?_
  refine va_get (D := (dC, dI)) (ci := 0) (v := .ref sb) (C := RJ4) (T := TJ4) (N := 4) hx hb hts hwJ4 hown hK hP 0 rfl rfl 0 (by decide) hf_15 (fun _ h9 => h9) rfl dJ5_charAt_5068e_6 ?_
  refine lv_astore_n (lv' := [(3, .ref sb), (2, .int ((0 : Int32))), (0, .ref ob), (1, .int p0)]) hx hb dJ5_charAt_5068e_9 rfl hl (by decide) rfl (fun ls hl => ?_)
  refine lv_aload_n hx hb dJ5_charAt_5068e_10 rfl (lv_at hl 2 rfl) ?_
  refine va_get (D := (dC, dI)) (ci := 0) (v := .int (K 1 0)) (C := RJ4) (T := TJ4) (N := 4) hx hb hts hwJ4 hown hK hP 0 rfl rfl 3 (by decide) hf_79 (fun _ h9 => h9) rfl dJ5_charAt_5068e_11 ?_
  refine lv_aload_n hx hb dJ5_charAt_5068e_14 rfl (lv_at hl 0 rfl) ?_
  refine va_alen (v := nI mm) hx hb hK hP 1 0 rfl rfl rfl dJ5_charAt_5068e_15 ?_
  refine lv_iload_n hx hb dJ5_charAt_5068e_16 rfl (lv_at hl 1 rfl) ?_
  refine lv_ishr hx hb dJ5_charAt_5068e_17 ?_
  refine va_mmin hx hb (hml.trans hl.1.symm) hown (hts (.methodLink RJ5 138 Lib.Math.min.name) (by decide +kernel)) (hts (.static Lib.Math.min.name) (by decide +kernel)) (hts (.initialized "java/lang/Math") (by decide +kernel)) (hts (.code Lib.Math.min.name Lib.Math.min.code 2 (some .int)) (by decide +kernel)) (Nat.le_of_ble_eq_true rfl) (Nat.le_of_ble_eq_true rfl) (Nat.zero_le _) (Nat.zero_le _) dJ5_charAt_5068e_18 ?_
  refine lv_istore (lv' := [(4, .int ((if ((nI mm) >>> (((0 : Int32)) &&& 31)) < (K 1 0) then ((nI mm) >>> (((0 : Int32)) &&& 31)) else (K 1 0)))), (3, .ref sb), (2, .int ((0 : Int32))), (0, .ref ob), (1, .int p0)]) hx hb dJ5_charAt_5068e_21 hl (by decide) rfl (fun ls hl => ?_)
  refine lv_iload_n hx hb dJ5_charAt_5068e_23 rfl (lv_at hl 4 rfl) ?_
  refine lv_iload hx hb dJ5_charAt_5068e_24 (lv_at hl 0 rfl) ?_
  obtain ⟨v1, h⟩ := gd_some h
  refine call_SCk (As := [.int p0, .int ((if ((nI mm) >>> (((0 : Int32)) &&& 31)) < (K 1 0) then ((nI mm) >>> (((0 : Int32)) &&& 31)) else (K 1 0)))]) (rest := []) ⟨hx, hb, hml, hown, hts⟩ (tJ0_checkIndex_df160 (l := l) (base := base) v1) (va_cwS 2 hts gJ5_charAt_5068e_J0_checkIndex_df160 rfl rfl rfl (by decide +kernel) ⟨Nat.le_of_ble_eq_true rfl, Nat.le_of_ble_eq_true rfl⟩) hbs hEU (by rfl) hl.1 rfl (Nat.le_of_ble_eq_true rfl) dJ5_charAt_5068e_26 ⟨Nat.zero_le _, Nat.zero_le _⟩ ?_
  refine lv_iload_n hx hb dJ5_charAt_5068e_29 rfl (lv_at hl 2 rfl) ?_
  refine lv_if_ne (tgt := 42) hx hb dJ5_charAt_5068e_30 (by decide) (fun c2 => ?_) (fun c2 => ?_)
  · replace h := if_n c2 h
    cases h
  · replace h := if_p c2 h
    refine lv_aload_n hx hb dJ5_charAt_5068e_33 rfl (lv_at hl 1 rfl) ?_
    refine lv_iload_n hx hb dJ5_charAt_5068e_34 rfl (lv_at hl 4 rfl) ?_
    obtain ⟨hi4, v3, ev3, h⟩ := rdA_some h
    refine k_bald hx hb hK hP 1 0 rfl rfl hi4 ev3 dJ5_charAt_5068e_35 ?_
    refine lv_sipush (v := 255) hx hb dJ5_charAt_5068e_36 (by decide) ?_
    refine lv_iand hx hb dJ5_charAt_5068e_39 ?_
    refine lv_i2c (v := i2c (v3 &&& 255)) hx hb dJ5_charAt_5068e_40 rfl ?_
    obtain ⟨hz, h⟩ := gd_some h
    exact W.zret hx hb hr (chr_n hz) (fun t ht _ => retP h ht) (fun _ h9 => absurd h9 List.not_mem_nil) dJ5_charAt_5068e_41
def mJ4_charAt_5068e (N : Nat) (mm : Nat) (K : KT) (p0 : Int32) : Option Int32 := bdP (mJ5_charAt_5068e N mm K p0) (fun v1 => gd (chr v1) (some v1))
def rmJ4_charAt_5068e : Room := { frames := 4, cells := 0, slots := 0, locals := 115 }
set_option maxHeartbeats 4000000 in
set_option maxRecDepth 100000 in
theorem tJ4_charAt_5068e {l : Launch} {dC : Nat → ClassId} {dI : Nat → Nat → Nat} {cB : ClassId} {ob sb mm base : Nat} {R : va_W} {N : Nat} {K : KT} {p0 : Int32} {rr : Int32} (hf : mJ4_charAt_5068e N mm K p0 = some rr) (hCF : CF mm K) : Met l yJ4_charAt_5068e wsJ4_charAt_5068e rmJ4_charAt_5068e (cBp (dC, dI) vwCl [(cB, .byte)] base (sbW cB ob sb mm K ++ R) [.ref ob, .int p0]) (cQp rr) 0 0 (fun _ => False) := by
  refine Met.ofW (cc := cJ4_charAt_5068e) (maxL := 2) (ret := (some .char)) (by decide) rfl ?_
  intro p e s m args below meth c s₁ B hml hv
  obtain ⟨rfl, hP, hK, hD, hbs, hE⟩ := hv
  have hx := B.exec
  have hb := B.bytes
  have hr := B.returns
  have hts := atoms_spec (ws := wsJ4_charAt_5068e) B.pre
  have hown : s.vm.findClass RJ4 = some m.cls := findClass_of_methodNamed B.named
  have hlocks := B.notSynchronized
  have hEU : ∀ U : State, U.heap = s.heap → s.WarmedH U.vm → EnvB base U := fun U hU hW => Env_step rfl rfl hE va_S.rf hU hW
  have hl := lv_entry ([.ref ob, .int p0]) (n := 2) (Nat.le_of_ble_eq_true rfl)
  rw [lg_entry_eq]
  generalize (lg_sl ([.ref ob, .int p0]) ++ List.replicate (2 - (lg_sl ([.ref ob, .int p0])).length) Slot.unset).toArray = ls at hl ⊢
  have hl : lv_has ls 2 [(0, .ref ob), (1, .int p0)] := hl
  have h := hf
  unfold mJ4_charAt_5068e at h
  refine lv_aload_n hx hb dJ4_charAt_5068e_0 rfl (lv_at hl 0 rfl) ?_
  refine lv_iload_n hx hb dJ4_charAt_5068e_1 rfl (lv_at hl 1 rfl) ?_
  obtain ⟨v1, hv1, h⟩ := bdP_some h
  refine call_BSUP (As := [.int p0]) (rest := []) (hK.1 0 _ rfl).2 ⟨hx, hb, hml, hown, hts⟩ (tJ5_charAt_5068e (l := l) (dC := dC) (dI := dI) (cB := cB) (ob := ob) (sb := sb) (mm := mm) (base := base) (R := R) hv1 hCF) (va_cwSU 1 hts gJ4_charAt_5068e_J5_charAt_5068e_s329 rfl rfl rfl (by decide +kernel) ⟨Nat.le_of_ble_eq_true rfl, Nat.le_of_ble_eq_true rfl⟩) hK hP hD hbs hEU 0 rfl rfl (by rfl) hl.1 rfl (Nat.le_of_ble_eq_true rfl) dJ4_charAt_5068e_2 ⟨Nat.zero_le _, Nat.zero_le _⟩ ?_
  obtain ⟨hz, h⟩ := gd_some h
  exact W.zret hx hb hr (chr_n hz) (fun t ht _ => retP h ht) (fun _ h9 => absurd h9 List.not_mem_nil) dJ4_charAt_5068e_5
def fJ8_newLength_cabcc_21 (N : Nat)  (x0 : Int32) (x1 : Int32) : Option Int32 := none
def mJ8_newLength_cabcc (N : Nat) (p0 : Int32) (p1 : Int32) (p2 : Int32) : Option Int32 := (if (p0 + ((if p1 < p2 then p2 else p1))) ≤ 0 then none else (if 2147483639 < (p0 + ((if p1 < p2 then p2 else p1))) then none else some (p0 + ((if p1 < p2 then p2 else p1)))))
def rmJ8_newLength_cabcc : Room := { frames := 2, cells := 0, slots := 0, locals := 60 }
set_option maxHeartbeats 4000000 in
set_option maxRecDepth 100000 in
theorem tJ8_newLength_cabcc {l : Launch} {N : Nat} {p0 : Int32} {p1 : Int32} {p2 : Int32} {rr : Int32} (hf : mJ8_newLength_cabcc N p0 p1 p2 = some rr) : Met l yJ8_newLength_cabcc wsJ8_newLength_cabcc rmJ8_newLength_cabcc (cS [.int p0, .int p1, .int p2]) (cQp rr) 0 0 (fun _ => False) := by
  refine Met.ofW (cc := cJ8_newLength_cabcc) (maxL := 4) (ret := (some .int)) (by decide) rfl ?_
  intro p e s m args below meth c s₁ B hml hv
  obtain rfl : args = ([.int p0, .int p1, .int p2] : List Value).toArray := hv
  have hx := B.exec
  have hb := B.bytes
  have hr := B.returns
  have hts := atoms_spec (ws := wsJ8_newLength_cabcc) B.pre
  have hown : s.vm.findClass RJ8 = some m.cls := findClass_of_methodNamed B.named
  have hlocks := B.notSynchronized
  have t_21 : ∀ {x0 : Int32} {x1 : Int32} {ls : Array Slot} (h : fJ8_newLength_cabcc_21 N  x0 x1 = some rr) (hl : lv_has ls 4 [(0, .int x0), (1, .int x1)]), W p l e (headSpec wsJ8_newLength_cabcc rmJ8_newLength_cabcc).room s m ([.int p0, .int p1, .int p2] : List Value).toArray below meth c s.heap [] 0 0 (MQ below (cQp rr) ([.int p0, .int p1, .int p2] : List Value).toArray s 0 0 (fun _ => False)) (F0 m 21 ls []) := by
    intro  x0 x1 ls h hl
    unfold fJ8_newLength_cabcc_21 at h
    cases h
  have hl := lv_entry ([.int p0, .int p1, .int p2]) (n := 4) (Nat.le_of_ble_eq_true rfl)
  rw [lg_entry_eq]
  generalize (lg_sl ([.int p0, .int p1, .int p2]) ++ List.replicate (4 - (lg_sl ([.int p0, .int p1, .int p2])).length) Slot.unset).toArray = ls at hl ⊢
  have hl : lv_has ls 4 [(0, .int p0), (1, .int p1), (2, .int p2)] := hl
  have h := hf
  unfold mJ8_newLength_cabcc at h
  refine lv_iload_n hx hb dJ8_newLength_cabcc_0 rfl (lv_at hl 0 rfl) ?_
  refine lv_iload_n hx hb dJ8_newLength_cabcc_1 rfl (lv_at hl 1 rfl) ?_
  refine lv_iload_n hx hb dJ8_newLength_cabcc_2 rfl (lv_at hl 2 rfl) ?_
  refine va_mmax hx hb (hml.trans hl.1.symm) hown (hts (.methodLink RJ8 194 Lib.Math.max.name) (by decide +kernel)) (hts (.static Lib.Math.max.name) (by decide +kernel)) (hts (.initialized "java/lang/Math") (by decide +kernel)) (hts (.code Lib.Math.max.name Lib.Math.max.code 2 (some .int)) (by decide +kernel)) (Nat.le_of_ble_eq_true rfl) (Nat.le_of_ble_eq_true rfl) (Nat.zero_le _) (Nat.zero_le _) dJ8_newLength_cabcc_3 ?_
  refine lv_iadd hx hb dJ8_newLength_cabcc_6 ?_
  refine lv_istore_n (lv' := [(3, .int (p0 + ((if p1 < p2 then p2 else p1)))), (0, .int p0), (1, .int p1), (2, .int p2)]) hx hb dJ8_newLength_cabcc_7 rfl hl (by decide) rfl (fun ls hl => ?_)
  refine lv_iconst (v := 0) hx hb dJ8_newLength_cabcc_8 (by decide) ?_
  refine lv_iload_n hx hb dJ8_newLength_cabcc_9 rfl (lv_at hl 0 rfl) ?_
  refine lv_icmp_ge (tgt := 21) hx hb dJ8_newLength_cabcc_10 (by decide) (fun c1 => ?_) (fun c1 => ?_)
  · replace h := if_p c1 h
    cases h
  · replace h := if_n c1 h
    refine lv_iload_n hx hb dJ8_newLength_cabcc_13 rfl (lv_at hl 0 rfl) ?_
    refine lv_ldc (v := 2147483639) hx hb hown (hts (.constant RJ8 200 (2147483639)) (by decide +kernel)) dJ8_newLength_cabcc_14 ?_
    refine lv_icmp_gt (tgt := 21) hx hb dJ8_newLength_cabcc_16 (by decide) (fun c2 => ?_) (fun c2 => ?_)
    · replace h := if_p c2 h
      cases h
    · replace h := if_n c2 h
      refine lv_iload_n hx hb dJ8_newLength_cabcc_19 rfl (lv_at hl 0 rfl) ?_
      exact W.iret hx hb hr (fun t ht _ => retP h ht) (fun _ h9 => absurd h9 List.not_mem_nil) dJ8_newLength_cabcc_20
def mJ5_newCapacity_0f7a4 (N : Nat) (mm : Nat) (K : KT) (p0 : Int32) : Option Int32 := bdP (mJ8_newLength_cabcc N (nI mm) ((p0 <<< (((0 : Int32)) &&& 31)) - (nI mm)) ((nI mm) + (2 <<< (((0 : Int32)) &&& 31)))) (fun v2 => (if v2 = 2147483647 then none else some (v2 >>> (((0 : Int32)) &&& 31))))
def rmJ5_newCapacity_0f7a4 : Room := { frames := 3, cells := 0, slots := 0, locals := 100 }
set_option maxHeartbeats 4000000 in
set_option maxRecDepth 100000 in
theorem tJ5_newCapacity_0f7a4 {l : Launch} {dC : Nat → ClassId} {dI : Nat → Nat → Nat} {cB : ClassId} {ob sb mm base : Nat} {R : va_W} {N : Nat} {K : KT} {p0 : Int32} {rr : Int32} (hf : mJ5_newCapacity_0f7a4 N mm K p0 = some rr) (hCF : CF mm K) : Met l yJ5_newCapacity_0f7a4 wsJ5_newCapacity_0f7a4 rmJ5_newCapacity_0f7a4 (cBp (dC, dI) vwCl [(cB, .byte)] base (sbW cB ob sb mm K ++ R) [.ref ob, .int p0]) (cQp rr) 0 0 (fun _ => False) := by
  refine Met.ofW (cc := cJ5_newCapacity_0f7a4) (maxL := 6) (ret := (some .int)) (by decide) rfl ?_
  intro p e s m args below meth c s₁ B hml hv
  obtain ⟨rfl, hP, hK, hD, hbs, hE⟩ := hv
  have hx := B.exec
  have hb := B.bytes
  have hr := B.returns
  have hts := atoms_spec (ws := wsJ5_newCapacity_0f7a4) B.pre
  have hown : s.vm.findClass RJ5 = some m.cls := findClass_of_methodNamed B.named
  have hlocks := B.notSynchronized
  have hf_15 := hts (.fieldLink RJ5 15 "java/lang/AbstractStringBuilder" "value" "[B") (by decide +kernel)
  have hf_22 := hts (.fieldLink RJ5 22 "java/lang/AbstractStringBuilder" "coder" "B") (by decide +kernel)
  have hwJ4 : ∀ w ∈ u_ws RJ4 TJ4 4, w ∈ wsJ5_newCapacity_0f7a4 := by decide +kernel
  have hEU : ∀ U : State, U.heap = s.heap → s.WarmedH U.vm → EnvB base U := fun U hU hW => Env_step rfl rfl hE va_S.rf hU hW
  have hl := lv_entry ([.ref ob, .int p0]) (n := 6) (Nat.le_of_ble_eq_true rfl)
  rw [lg_entry_eq]
  generalize (lg_sl ([.ref ob, .int p0]) ++ List.replicate (6 - (lg_sl ([.ref ob, .int p0])).length) Slot.unset).toArray = ls at hl ⊢
  have hl : lv_has ls 6 [(0, .ref ob), (1, .int p0)] := hl
  have h := hf
  unfold mJ5_newCapacity_0f7a4 at h
  refine lv_aload_n hx hb dJ5_newCapacity_0f7a4_0 rfl (lv_at hl 0 rfl) ?_
  refine va_get (D := (dC, dI)) (ci := 0) (v := .ref sb) (C := RJ4) (T := TJ4) (N := 4) hx hb hts hwJ4 hown hK hP 0 rfl rfl 0 (by decide) hf_15 (fun _ h9 => h9) rfl dJ5_newCapacity_0f7a4_1 ?_
  refine va_alen (v := nI mm) hx hb hK hP 1 0 rfl rfl rfl dJ5_newCapacity_0f7a4_4 ?_
  refine lv_istore_n (lv' := [(2, .int (nI mm)), (0, .ref ob), (1, .int p0)]) hx hb dJ5_newCapacity_0f7a4_5 rfl hl (by decide) rfl (fun ls hl => ?_)
  refine lv_iload_n hx hb dJ5_newCapacity_0f7a4_6 rfl (lv_at hl 2 rfl) ?_
  refine lv_aload_n hx hb dJ5_newCapacity_0f7a4_7 rfl (lv_at hl 1 rfl) ?_
  refine va_get (D := (dC, dI)) (ci := 0) (v := .int ((0 : Int32))) (C := RJ4) (T := TJ4) (N := 4) hx hb hts hwJ4 hown hK hP 0 rfl rfl 1 (by decide) hf_22 (fun _ h9 => h9) rfl dJ5_newCapacity_0f7a4_8 ?_
  refine lv_ishl hx hb dJ5_newCapacity_0f7a4_11 ?_
  refine lv_istore_n (lv' := [(3, .int (p0 <<< (((0 : Int32)) &&& 31))), (2, .int (nI mm)), (0, .ref ob), (1, .int p0)]) hx hb dJ5_newCapacity_0f7a4_12 rfl hl (by decide) rfl (fun ls hl => ?_)
  refine lv_iload_n hx hb dJ5_newCapacity_0f7a4_13 rfl (lv_at hl 0 rfl) ?_
  refine lv_iload_n hx hb dJ5_newCapacity_0f7a4_14 rfl (lv_at hl 1 rfl) ?_
  refine lv_isub hx hb dJ5_newCapacity_0f7a4_15 ?_
  refine lv_istore (lv' := [(4, .int ((p0 <<< (((0 : Int32)) &&& 31)) - (nI mm))), (3, .int (p0 <<< (((0 : Int32)) &&& 31))), (2, .int (nI mm)), (0, .ref ob), (1, .int p0)]) hx hb dJ5_newCapacity_0f7a4_16 hl (by decide) rfl (fun ls hl => ?_)
  refine lv_iload_n hx hb dJ5_newCapacity_0f7a4_18 rfl (lv_at hl 2 rfl) ?_
  refine lv_iload hx hb dJ5_newCapacity_0f7a4_19 (lv_at hl 0 rfl) ?_
  refine lv_iload_n hx hb dJ5_newCapacity_0f7a4_21 rfl (lv_at hl 2 rfl) ?_
  refine lv_iconst (v := 2) hx hb dJ5_newCapacity_0f7a4_22 (by decide) ?_
  refine lv_aload_n hx hb dJ5_newCapacity_0f7a4_23 rfl (lv_at hl 3 rfl) ?_
  refine va_get (D := (dC, dI)) (ci := 0) (v := .int ((0 : Int32))) (C := RJ4) (T := TJ4) (N := 4) hx hb hts hwJ4 hown hK hP 0 rfl rfl 1 (by decide) hf_22 (fun _ h9 => h9) rfl dJ5_newCapacity_0f7a4_24 ?_
  refine lv_ishl hx hb dJ5_newCapacity_0f7a4_27 ?_
  refine lv_iadd hx hb dJ5_newCapacity_0f7a4_28 ?_
  obtain ⟨v2, hv2, h⟩ := bdP_some h
  refine call_SP (As := [.int (nI mm), .int ((p0 <<< (((0 : Int32)) &&& 31)) - (nI mm)), .int ((nI mm) + (2 <<< (((0 : Int32)) &&& 31)))]) (rest := []) ⟨hx, hb, hml, hown, hts⟩ (tJ8_newLength_cabcc (l := l) hv2) (va_cwS 3 hts gJ5_newCapacity_0f7a4_J8_newLength_cabcc rfl rfl rfl (by decide +kernel) ⟨Nat.le_of_ble_eq_true rfl, Nat.le_of_ble_eq_true rfl⟩) (by rfl) hl.1 rfl (Nat.le_of_ble_eq_true rfl) dJ5_newCapacity_0f7a4_29 ⟨Nat.zero_le _, Nat.zero_le _⟩ ?_
  refine lv_istore (lv' := [(5, .int v2), (4, .int ((p0 <<< (((0 : Int32)) &&& 31)) - (nI mm))), (3, .int (p0 <<< (((0 : Int32)) &&& 31))), (2, .int (nI mm)), (0, .ref ob), (1, .int p0)]) hx hb dJ5_newCapacity_0f7a4_32 hl (by decide) rfl (fun ls hl => ?_)
  refine lv_iload hx hb dJ5_newCapacity_0f7a4_34 (lv_at hl 0 rfl) ?_
  refine lv_ldc (v := 2147483647) hx hb hown (hts (.constant RJ5 39 (2147483647)) (by decide +kernel)) dJ5_newCapacity_0f7a4_36 ?_
  refine lv_icmp_ne (tgt := 51) hx hb dJ5_newCapacity_0f7a4_38 (by decide) (fun c3 => ?_) (fun c3 => ?_)
  · replace h := if_n c3 h
    refine lv_iload hx hb dJ5_newCapacity_0f7a4_51 (lv_at hl 0 rfl) ?_
    refine lv_aload_n hx hb dJ5_newCapacity_0f7a4_53 rfl (lv_at hl 4 rfl) ?_
    refine va_get (D := (dC, dI)) (ci := 0) (v := .int ((0 : Int32))) (C := RJ4) (T := TJ4) (N := 4) hx hb hts hwJ4 hown hK hP 0 rfl rfl 1 (by decide) hf_22 (fun _ h9 => h9) rfl dJ5_newCapacity_0f7a4_54 ?_
    refine lv_ishr hx hb dJ5_newCapacity_0f7a4_57 ?_
    exact W.iret hx hb hr (fun t ht _ => retP h ht) (fun _ h9 => absurd h9 List.not_mem_nil) dJ5_newCapacity_0f7a4_58
  · replace h := if_p c3 h
    cases h
def fJ1_canEncode_fc78d_12 (N : Nat)  (y0 : Int32) : Option Int32 := gd (y0 = 0 ∨ y0 = 1) (some y0)
def mJ1_canEncode_fc78d (N : Nat) (p0 : Int32) : Option Int32 := (if 255 < p0 then fJ1_canEncode_fc78d_12 N  0 else fJ1_canEncode_fc78d_12 N  1)
def rmJ1_canEncode_fc78d : Room := { frames := 1, cells := 0, slots := 0, locals := 40 }
set_option maxHeartbeats 4000000 in
set_option maxRecDepth 100000 in
theorem tJ1_canEncode_fc78d {l : Launch} {N : Nat} {p0 : Int32} {rr : Int32} (hf : mJ1_canEncode_fc78d N p0 = some rr) : Met l yJ1_canEncode_fc78d wsJ1_canEncode_fc78d rmJ1_canEncode_fc78d (cS [.int p0]) (cQp rr) 0 0 (fun _ => False) := by
  refine Met.ofW (cc := cJ1_canEncode_fc78d) (maxL := 1) (ret := (some .boolean)) (by decide) rfl ?_
  intro p e s m args below meth c s₁ B hml hv
  obtain rfl : args = ([.int p0] : List Value).toArray := hv
  have hx := B.exec
  have hb := B.bytes
  have hr := B.returns
  have hts := atoms_spec (ws := wsJ1_canEncode_fc78d) B.pre
  have hown : s.vm.findClass RJ1 = some m.cls := findClass_of_methodNamed B.named
  have hlocks := B.notSynchronized
  have t_12 : ∀ {y0 : Int32} {ls : Array Slot} (h : fJ1_canEncode_fc78d_12 N  y0 = some rr) (hl : lv_has ls 1 []), W p l e (headSpec wsJ1_canEncode_fc78d rmJ1_canEncode_fc78d).room s m ([.int p0] : List Value).toArray below meth c s.heap [] 0 0 (MQ below (cQp rr) ([.int p0] : List Value).toArray s 0 0 (fun _ => False)) (F0 m 12 ls [.int y0]) := by
    intro  y0 ls h hl
    unfold fJ1_canEncode_fc78d_12 at h
    obtain ⟨hz, h⟩ := gd_some h
    exact W.zret hx hb hr (zb_ok hz) (fun t ht _ => retP h ht) (fun _ h9 => absurd h9 List.not_mem_nil) dJ1_canEncode_fc78d_12
  have hl := lv_entry ([.int p0]) (n := 1) (Nat.le_of_ble_eq_true rfl)
  rw [lg_entry_eq]
  generalize (lg_sl ([.int p0]) ++ List.replicate (1 - (lg_sl ([.int p0])).length) Slot.unset).toArray = ls at hl ⊢
  have hl : lv_has ls 1 [(0, .int p0)] := hl
  have h := hf
  unfold mJ1_canEncode_fc78d at h
  refine lv_iload_n hx hb dJ1_canEncode_fc78d_0 rfl (lv_at hl 0 rfl) ?_
  refine lv_sipush (v := 255) hx hb dJ1_canEncode_fc78d_1 (by decide) ?_
  refine lv_icmp_gt (tgt := 11) hx hb dJ1_canEncode_fc78d_4 (by decide) (fun c1 => ?_) (fun c1 => ?_)
  · replace h := if_p c1 h
    refine lv_iconst (v := 0) hx hb dJ1_canEncode_fc78d_11 (by decide) ?_
    exact t_12  h (lv_sub hl [] rfl)
  · replace h := if_n c1 h
    refine lv_iconst (v := 1) hx hb dJ1_canEncode_fc78d_7 (by decide) ?_
    refine lv_goto (tgt := 12) hx hb dJ1_canEncode_fc78d_8 (by decide) ?_
    exact t_12  h (lv_sub hl [] rfl)
def fJ6_stringSize_0f7a4_16 (N : Nat)  : Nat → Int32 → Int32 → Int32 → Int32 → Option Int32
  | 0, _, _, _, _ => none
  | n + 1, x0, x1, x2, x3 => (if 10 ≤ x3 then some (10 + x1) else (if x0 ≤ x2 then (fJ6_stringSize_0f7a4_16 N  n) x0 x1 (10 * x2) (x3 + 1) else some (x3 + x1)))
def fJ6_stringSize_0f7a4_11 (N : Nat)  (x0 : Int32) (x1 : Int32) : Option Int32 := fJ6_stringSize_0f7a4_16 N  N x0 x1 ((-10)) 1
def mJ6_stringSize_0f7a4 (N : Nat) (p0 : Int32) : Option Int32 := (if p0 < 0 then fJ6_stringSize_0f7a4_11 N  p0 1 else fJ6_stringSize_0f7a4_11 N  (-p0) 0)
def rmJ6_stringSize_0f7a4 : Room := { frames := 1, cells := 0, slots := 0, locals := 40 }
set_option maxHeartbeats 4000000 in
set_option maxRecDepth 100000 in
theorem tJ6_stringSize_0f7a4 {l : Launch} {N : Nat} {p0 : Int32} {rr : Int32} (hf : mJ6_stringSize_0f7a4 N p0 = some rr) : Met l yJ6_stringSize_0f7a4 wsJ6_stringSize_0f7a4 rmJ6_stringSize_0f7a4 (cS [.int p0]) (cQp rr) 0 0 (fun _ => False) := by
  refine Met.ofW (cc := cJ6_stringSize_0f7a4) (maxL := 4) (ret := (some .int)) (by decide) rfl ?_
  intro p e s m args below meth c s₁ B hml hv
  obtain rfl : args = ([.int p0] : List Value).toArray := hv
  have hx := B.exec
  have hb := B.bytes
  have hr := B.returns
  have hts := atoms_spec (ws := wsJ6_stringSize_0f7a4) B.pre
  have hown : s.vm.findClass RJ6 = some m.cls := findClass_of_methodNamed B.named
  have hlocks := B.notSynchronized
  have t_16 : ∀ {n : Nat}, ∀ {x0 : Int32} {x1 : Int32} {x2 : Int32} {x3 : Int32} {ls : Array Slot} (h : fJ6_stringSize_0f7a4_16 N  n x0 x1 x2 x3 = some rr) (hl : lv_has ls 4 [(0, .int x0), (1, .int x1), (2, .int x2), (3, .int x3)]), W p l e (headSpec wsJ6_stringSize_0f7a4 rmJ6_stringSize_0f7a4).room s m ([.int p0] : List Value).toArray below meth c s.heap [] 0 0 (MQ below (cQp rr) ([.int p0] : List Value).toArray s 0 0 (fun _ => False)) (F0 m 16 ls []) := by
    intro  n
    induction n with
    | zero =>
      intro x0 x1 x2 x3 ls h hl
      unfold fJ6_stringSize_0f7a4_16 at h
      cases h
    | succ n ih =>
      intro x0 x1 x2 x3 ls h hl
      unfold fJ6_stringSize_0f7a4_16 at h
      refine lv_iload_n hx hb dJ6_stringSize_0f7a4_16 rfl (lv_at hl 3 rfl) ?_
      refine lv_bipush (v := 10) hx hb dJ6_stringSize_0f7a4_17 (by decide) ?_
      refine lv_icmp_ge (tgt := 42) hx hb dJ6_stringSize_0f7a4_19 (by decide) (fun c1 => ?_) (fun c1 => ?_)
      · replace h := if_p c1 h
        refine lv_bipush (v := 10) hx hb dJ6_stringSize_0f7a4_42 (by decide) ?_
        refine lv_iload_n hx hb dJ6_stringSize_0f7a4_44 rfl (lv_at hl 1 rfl) ?_
        refine lv_iadd hx hb dJ6_stringSize_0f7a4_45 ?_
        exact W.iret hx hb hr (fun t ht _ => retP h ht) (fun _ h9 => absurd h9 List.not_mem_nil) dJ6_stringSize_0f7a4_46
      · replace h := if_n c1 h
        refine lv_iload_n hx hb dJ6_stringSize_0f7a4_22 rfl (lv_at hl 0 rfl) ?_
        refine lv_iload_n hx hb dJ6_stringSize_0f7a4_23 rfl (lv_at hl 2 rfl) ?_
        refine lv_icmp_le (tgt := 31) hx hb dJ6_stringSize_0f7a4_24 (by decide) (fun c2 => ?_) (fun c2 => ?_)
        · replace h := if_p c2 h
          refine lv_bipush (v := 10) hx hb dJ6_stringSize_0f7a4_31 (by decide) ?_
          refine lv_iload_n hx hb dJ6_stringSize_0f7a4_33 rfl (lv_at hl 2 rfl) ?_
          refine lv_imul hx hb dJ6_stringSize_0f7a4_34 ?_
          refine lv_istore_n (lv' := [(2, .int (10 * x2)), (0, .int x0), (1, .int x1), (3, .int x3)]) hx hb dJ6_stringSize_0f7a4_35 rfl hl (by decide) rfl (fun ls hl => ?_)
          refine lv_iinc (v := x3 + 1) (lv' := [(3, .int (x3 + 1)), (2, .int (10 * x2)), (0, .int x0), (1, .int x1)]) hx hb dJ6_stringSize_0f7a4_36 hl (k := 3) rfl rfl (by decide) rfl (fun ls hl => ?_)
          refine lv_goto (tgt := 16) hx hb dJ6_stringSize_0f7a4_39 (by decide) ?_
          exact ih h (lv_sub hl [2, 3, 1, 0] rfl)
        · replace h := if_n c2 h
          refine lv_iload_n hx hb dJ6_stringSize_0f7a4_27 rfl (lv_at hl 3 rfl) ?_
          refine lv_iload_n hx hb dJ6_stringSize_0f7a4_28 rfl (lv_at hl 1 rfl) ?_
          refine lv_iadd hx hb dJ6_stringSize_0f7a4_29 ?_
          exact W.iret hx hb hr (fun t ht _ => retP h ht) (fun _ h9 => absurd h9 List.not_mem_nil) dJ6_stringSize_0f7a4_30
  have t_11 : ∀ {x0 : Int32} {x1 : Int32} {ls : Array Slot} (h : fJ6_stringSize_0f7a4_11 N  x0 x1 = some rr) (hl : lv_has ls 4 [(0, .int x0), (1, .int x1)]), W p l e (headSpec wsJ6_stringSize_0f7a4 rmJ6_stringSize_0f7a4).room s m ([.int p0] : List Value).toArray below meth c s.heap [] 0 0 (MQ below (cQp rr) ([.int p0] : List Value).toArray s 0 0 (fun _ => False)) (F0 m 11 ls []) := by
    intro  x0 x1 ls h hl
    unfold fJ6_stringSize_0f7a4_11 at h
    refine lv_bipush (v := (-10)) hx hb dJ6_stringSize_0f7a4_11 (by decide) ?_
    refine lv_istore_n (lv' := [(2, .int ((-10))), (0, .int x0), (1, .int x1)]) hx hb dJ6_stringSize_0f7a4_13 rfl hl (by decide) rfl (fun ls hl => ?_)
    refine lv_iconst (v := 1) hx hb dJ6_stringSize_0f7a4_14 (by decide) ?_
    refine lv_istore_n (lv' := [(3, .int 1), (2, .int ((-10))), (0, .int x0), (1, .int x1)]) hx hb dJ6_stringSize_0f7a4_15 rfl hl (by decide) rfl (fun ls hl => ?_)
    exact t_16  h (lv_sub hl [2, 3, 1, 0] rfl)
  have hl := lv_entry ([.int p0]) (n := 4) (Nat.le_of_ble_eq_true rfl)
  rw [lg_entry_eq]
  generalize (lg_sl ([.int p0]) ++ List.replicate (4 - (lg_sl ([.int p0])).length) Slot.unset).toArray = ls at hl ⊢
  have hl : lv_has ls 4 [(0, .int p0)] := hl
  have h := hf
  unfold mJ6_stringSize_0f7a4 at h
  refine lv_iconst (v := 1) hx hb dJ6_stringSize_0f7a4_0 (by decide) ?_
  refine lv_istore_n (lv' := [(1, .int 1), (0, .int p0)]) hx hb dJ6_stringSize_0f7a4_1 rfl hl (by decide) rfl (fun ls hl => ?_)
  refine lv_iload_n hx hb dJ6_stringSize_0f7a4_2 rfl (lv_at hl 1 rfl) ?_
  refine lv_if_lt (tgt := 11) hx hb dJ6_stringSize_0f7a4_3 (by decide) (fun c3 => ?_) (fun c3 => ?_)
  · replace h := if_p c3 h
    exact t_11  h (lv_sub hl [1, 0] rfl)
  · replace h := if_n c3 h
    refine lv_iconst (v := 0) hx hb dJ6_stringSize_0f7a4_6 (by decide) ?_
    refine lv_istore_n (lv' := [(1, .int 0), (0, .int p0)]) hx hb dJ6_stringSize_0f7a4_7 rfl hl (by decide) rfl (fun ls hl => ?_)
    refine lv_iload_n hx hb dJ6_stringSize_0f7a4_8 rfl (lv_at hl 1 rfl) ?_
    refine lv_ineg hx hb dJ6_stringSize_0f7a4_9 ?_
    refine lv_istore_n (lv' := [(0, .int (-p0)), (1, .int 0)]) hx hb dJ6_stringSize_0f7a4_10 rfl hl (by decide) rfl (fun ls hl => ?_)
    exact t_11  h (lv_sub hl [0, 1] rfl)
def fJ6_getChars_ba4f3_118 (N : Nat) (mm : Nat)  (K : KT) (x5 : Int32) : Option (Int32 × KT) := some (x5, K)
def fJ6_getChars_ba4f3_104 (N : Nat) (mm : Nat)  (K : KT) (x5 : Int32) (x6 : Int32) : Option (Int32 × KT) := (if x6 = 0 then fJ6_getChars_ba4f3_118 N mm  K x5 else wrA K 0 mm (x5 + (-1)) (vp_nar .byte 45) (fun K2 => fJ6_getChars_ba4f3_118 N mm  K2 (x5 + (-1))))
def fJ6_getChars_ba4f3_72 (N : Nat) (mm : Nat)  (K : KT) (x0 : Int32) (x5 : Int32) (x6 : Int32) : Option (Int32 × KT) := rdA dOnes 100 (-x0) (fun v4 => wrA K 0 mm (x5 + (-1)) (vp_nar .byte v4) (fun K6 => (if ((-9)) ≤ x0 then fJ6_getChars_ba4f3_104 N mm  K6 (x5 + (-1)) x6 else rdA dTens 100 (-x0) (fun v9 => wrA K6 0 mm ((x5 + (-1)) + (-1)) (vp_nar .byte v9) (fun K11 => fJ6_getChars_ba4f3_104 N mm  K11 ((x5 + (-1)) + (-1)) x6)))))
def fJ6_getChars_ba4f3_22 (N : Nat) (mm : Nat)  : Nat → KT → Int32 → Int32 → Int32 → Option (Int32 × KT)
  | 0, _, _, _, _ => none
  | n + 1, K, x0, x5, x6 => (if ((-100)) < x0 then fJ6_getChars_ba4f3_72 N mm  K x0 x5 x6 else rdA dOnes 100 (((x0 / 100) * 100) - x0) (fun v14 => wrA K 0 mm (x5 + (-1)) (vp_nar .byte v14) (fun K16 => rdA dTens 100 (((x0 / 100) * 100) - x0) (fun v18 => wrA K16 0 mm ((x5 + (-1)) + (-1)) (vp_nar .byte v18) (fun K20 => (fJ6_getChars_ba4f3_22 N mm  n) K20 (x0 / 100) ((x5 + (-1)) + (-1)) x6)))))
def fJ6_getChars_ba4f3_12 (N : Nat) (mm : Nat)  (K : KT) (x0 : Int32) (x5 : Int32) (y0 : Int32) : Option (Int32 × KT) := (if y0 = 0 then fJ6_getChars_ba4f3_22 N mm  N K (-x0) x5 y0 else fJ6_getChars_ba4f3_22 N mm  N K x0 x5 y0)
def mJ6_getChars_ba4f3 (N : Nat) (mm : Nat) (K : KT) (p0 : Int32) (p1 : Int32) : Option (Int32 × KT) := (if 0 ≤ p0 then fJ6_getChars_ba4f3_12 N mm  K p0 p1 0 else fJ6_getChars_ba4f3_12 N mm  K p0 p1 1)
def rmJ6_getChars_ba4f3 : Room := { frames := 1, cells := 0, slots := 0, locals := 40 }
set_option maxHeartbeats 4000000 in
set_option maxRecDepth 100000 in
theorem tJ6_getChars_ba4f3 {l : Launch} {dC : Nat → ClassId} {dI : Nat → Nat → Nat} {cB : ClassId} {ap mm base : Nat} {R : va_W} {N : Nat} {K : KT} {p0 : Int32} {p1 : Int32} {rr : Int32} {KK : KT} (hf : mJ6_getChars_ba4f3 N mm K p0 p1 = some (rr, KK)) : Met l yJ6_getChars_ba4f3 wsJ6_getChars_ba4f3 rmJ6_getChars_ba4f3 (cBp (dC, dI) vwCl [(cB, .byte)] base ((ap, .inl (cB, mm, .inl (K 0))) :: R) [.int p0, .int p1, .ref ap]) (cBe (dC, dI) vwCl base (some (.int rr)) (fun ws => ws = ((ap, .inl (cB, mm, .inl (KK 0))) :: R) ∧ True)) 0 0 (aB base) := by
  refine Met.ofW (cc := cJ6_getChars_ba4f3) (maxL := 7) (ret := (some .int)) (by decide) rfl ?_
  intro p e s m args below meth c s₁ B hml hv
  obtain ⟨rfl, hP, hK, hD, hbs, hE⟩ := hv
  have hx := B.exec
  have hb := B.bytes
  have hr := B.returns
  have hts := atoms_spec (ws := wsJ6_getChars_ba4f3) B.pre
  have hown : s.vm.findClass RJ6 = some m.cls := findClass_of_methodNamed B.named
  have hlocks := B.notSynchronized
  have hCF : True := trivial
  obtain ⟨tb1, hz1, hT1⟩ := hE.2.1
  obtain ⟨tb2, hz2, hT2⟩ := hE.2.2.1
  have t_118 : ∀ {K : KT} {x5 : Int32} {H : Heap} {locs : List Loc} {ls : Array Slot} (h : fJ6_getChars_ba4f3_118 N mm  K x5 = some (rr, KK)) (hl : lv_has ls 7 [(5, .int x5)]) (hP : va_P (dC, dI) vwCl ((ap, .inl (cB, mm, .inl (K 0))) :: R) H) (hD : va_D (aB base) ((ap, .inl (cB, mm, .inl (K 0))) :: R)) (hS : va_S (aB base) s.heap H locs) (hCF : True), W p l e (headSpec wsJ6_getChars_ba4f3 rmJ6_getChars_ba4f3).room s m ([.int p0, .int p1, .ref ap] : List Value).toArray below meth c H locs 0 0 (MQ below (cBe (dC, dI) vwCl base (some (.int rr)) (fun ws => ws = ((ap, .inl (cB, mm, .inl (KK 0))) :: R) ∧ True)) ([.int p0, .int p1, .ref ap] : List Value).toArray s 0 0 (aB base)) (F0 m 118 ls []) := by
    intro  K x5 H locs ls h hl hP hD hS hCF
    unfold fJ6_getChars_ba4f3_118 at h
    refine lv_iload hx hb dJ6_getChars_ba4f3_118 (lv_at hl 0 rfl) ?_
    exact W.iret hx hb hr (fun t ht _ => retC (w := (fun K => ((ap, .inl (cB, mm, .inl (K 0))) :: R))) (cf := fun K => True) h hCF hP hD hS ht) hS.2.2 dJ6_getChars_ba4f3_120
  have t_104 : ∀ {K : KT} {x5 : Int32} {x6 : Int32} {H : Heap} {locs : List Loc} {ls : Array Slot} (h : fJ6_getChars_ba4f3_104 N mm  K x5 x6 = some (rr, KK)) (hl : lv_has ls 7 [(2, .ref ap), (5, .int x5), (6, .int x6)]) (hP : va_P (dC, dI) vwCl ((ap, .inl (cB, mm, .inl (K 0))) :: R) H) (hD : va_D (aB base) ((ap, .inl (cB, mm, .inl (K 0))) :: R)) (hS : va_S (aB base) s.heap H locs) (hCF : True), W p l e (headSpec wsJ6_getChars_ba4f3 rmJ6_getChars_ba4f3).room s m ([.int p0, .int p1, .ref ap] : List Value).toArray below meth c H locs 0 0 (MQ below (cBe (dC, dI) vwCl base (some (.int rr)) (fun ws => ws = ((ap, .inl (cB, mm, .inl (KK 0))) :: R) ∧ True)) ([.int p0, .int p1, .ref ap] : List Value).toArray s 0 0 (aB base)) (F0 m 104 ls []) := by
    intro  K x5 x6 H locs ls h hl hP hD hS hCF
    unfold fJ6_getChars_ba4f3_104 at h
    refine lv_iload hx hb dJ6_getChars_ba4f3_104 (lv_at hl 2 rfl) ?_
    refine lv_if_eq (tgt := 118) hx hb dJ6_getChars_ba4f3_106 (by decide) (fun c1 => ?_) (fun c1 => ?_)
    · replace h := if_p c1 h
      exact t_118  h (lv_sub hl [1] rfl) hP hD hS hCF
    · replace h := if_n c1 h
      refine lv_aload_n hx hb dJ6_getChars_ba4f3_109 rfl (lv_at hl 0 rfl) ?_
      refine lv_iinc (v := x5 + (-1)) (lv' := [(5, .int (x5 + (-1))), (2, .ref ap), (6, .int x6)]) hx hb dJ6_getChars_ba4f3_110 hl (k := 1) rfl rfl (by decide) rfl (fun ls hl => ?_)
      refine lv_iload hx hb dJ6_getChars_ba4f3_113 (lv_at hl 0 rfl) ?_
      refine lv_bipush (v := 45) hx hb dJ6_getChars_ba4f3_115 (by decide) ?_
      obtain ⟨hi3, K2, eK2, h⟩ := wrA_some h
      refine va_bast hx hb hK hP hD hS 0 0 rfl rfl hi3 dJ6_getChars_ba4f3_117 (fun H locs hP hD hS => ?_)
      have hP : va_P (dC, dI) vwCl ((ap, .inl (cB, mm, .inl (K2 0))) :: R) H := by rw [eK2]; exact hP
      have hD : va_D (aB base) ((ap, .inl (cB, mm, .inl (K2 0))) :: R) := by rw [eK2]; exact hD
      have hCF : True := trivial
      exact t_118  h (lv_sub hl [0] rfl) hP hD hS hCF
  have t_72 : ∀ {K : KT} {x0 : Int32} {x5 : Int32} {x6 : Int32} {H : Heap} {locs : List Loc} {ls : Array Slot} (h : fJ6_getChars_ba4f3_72 N mm  K x0 x5 x6 = some (rr, KK)) (hl : lv_has ls 7 [(0, .int x0), (2, .ref ap), (5, .int x5), (6, .int x6)]) (hP : va_P (dC, dI) vwCl ((ap, .inl (cB, mm, .inl (K 0))) :: R) H) (hD : va_D (aB base) ((ap, .inl (cB, mm, .inl (K 0))) :: R)) (hS : va_S (aB base) s.heap H locs) (hCF : True), W p l e (headSpec wsJ6_getChars_ba4f3 rmJ6_getChars_ba4f3).room s m ([.int p0, .int p1, .ref ap] : List Value).toArray below meth c H locs 0 0 (MQ below (cBe (dC, dI) vwCl base (some (.int rr)) (fun ws => ws = ((ap, .inl (cB, mm, .inl (KK 0))) :: R) ∧ True)) ([.int p0, .int p1, .ref ap] : List Value).toArray s 0 0 (aB base)) (F0 m 72 ls []) := by
    intro  K x0 x5 x6 H locs ls h hl hP hD hS hCF
    unfold fJ6_getChars_ba4f3_72 at h
    refine lv_aload_n hx hb dJ6_getChars_ba4f3_72 rfl (lv_at hl 1 rfl) ?_
    refine lv_iinc (v := x5 + (-1)) (lv' := [(5, .int (x5 + (-1))), (0, .int x0), (2, .ref ap), (6, .int x6)]) hx hb dJ6_getChars_ba4f3_73 hl (k := 2) rfl rfl (by decide) rfl (fun ls hl => ?_)
    refine lv_iload hx hb dJ6_getChars_ba4f3_76 (lv_at hl 0 rfl) ?_
    refine va_gets hx hb hz1 hS hown (hts (.fieldLink RJ6 83 "java/lang/Integer" "DigitOnes" "[B") (by decide +kernel)) (fun _ h9 => h9) dJ6_getChars_ba4f3_78 ?_
    refine lv_iload_n hx hb dJ6_getChars_ba4f3_81 rfl (lv_at hl 1 rfl) ?_
    refine lv_ineg hx hb dJ6_getChars_ba4f3_82 ?_
    obtain ⟨hi5, v4, ev4, h⟩ := rdA_some h
    refine va_tb hx hb hT1 hS hi5 (v := .int v4) (by rw [ev4]; rfl) dJ6_getChars_ba4f3_83 ?_
    obtain ⟨hi7, K6, eK6, h⟩ := wrA_some h
    refine va_bast hx hb hK hP hD hS 0 0 rfl rfl hi7 dJ6_getChars_ba4f3_84 (fun H locs hP hD hS => ?_)
    have hP : va_P (dC, dI) vwCl ((ap, .inl (cB, mm, .inl (K6 0))) :: R) H := by rw [eK6]; exact hP
    have hD : va_D (aB base) ((ap, .inl (cB, mm, .inl (K6 0))) :: R) := by rw [eK6]; exact hD
    have hCF : True := trivial
    refine lv_iload_n hx hb dJ6_getChars_ba4f3_85 rfl (lv_at hl 1 rfl) ?_
    refine lv_bipush (v := (-9)) hx hb dJ6_getChars_ba4f3_86 (by decide) ?_
    refine lv_icmp_ge (tgt := 104) hx hb dJ6_getChars_ba4f3_88 (by decide) (fun c8 => ?_) (fun c8 => ?_)
    · replace h := if_p c8 h
      exact t_104  h (lv_sub hl [2, 0, 3] rfl) hP hD hS hCF
    · replace h := if_n c8 h
      refine lv_aload_n hx hb dJ6_getChars_ba4f3_91 rfl (lv_at hl 2 rfl) ?_
      refine lv_iinc (v := (x5 + (-1)) + (-1)) (lv' := [(5, .int ((x5 + (-1)) + (-1))), (0, .int x0), (2, .ref ap), (6, .int x6)]) hx hb dJ6_getChars_ba4f3_92 hl (k := 0) rfl rfl (by decide) rfl (fun ls hl => ?_)
      refine lv_iload hx hb dJ6_getChars_ba4f3_95 (lv_at hl 0 rfl) ?_
      refine va_gets hx hb hz2 hS hown (hts (.fieldLink RJ6 87 "java/lang/Integer" "DigitTens" "[B") (by decide +kernel)) (fun _ h9 => h9) dJ6_getChars_ba4f3_97 ?_
      refine lv_iload_n hx hb dJ6_getChars_ba4f3_100 rfl (lv_at hl 1 rfl) ?_
      refine lv_ineg hx hb dJ6_getChars_ba4f3_101 ?_
      obtain ⟨hi10, v9, ev9, h⟩ := rdA_some h
      refine va_tb hx hb hT2 hS hi10 (v := .int v9) (by rw [ev9]; rfl) dJ6_getChars_ba4f3_102 ?_
      obtain ⟨hi12, K11, eK11, h⟩ := wrA_some h
      refine va_bast hx hb hK hP hD hS 0 0 rfl rfl hi12 dJ6_getChars_ba4f3_103 (fun H locs hP hD hS => ?_)
      have hP : va_P (dC, dI) vwCl ((ap, .inl (cB, mm, .inl (K11 0))) :: R) H := by rw [eK11]; exact hP
      have hD : va_D (aB base) ((ap, .inl (cB, mm, .inl (K11 0))) :: R) := by rw [eK11]; exact hD
      have hCF : True := trivial
      exact t_104  h (lv_sub hl [2, 0, 3] rfl) hP hD hS hCF
  have t_22 : ∀ {n : Nat}, ∀ {K : KT} {x0 : Int32} {x5 : Int32} {x6 : Int32} {H : Heap} {locs : List Loc} {ls : Array Slot} (h : fJ6_getChars_ba4f3_22 N mm  n K x0 x5 x6 = some (rr, KK)) (hl : lv_has ls 7 [(0, .int x0), (2, .ref ap), (5, .int x5), (6, .int x6)]) (hP : va_P (dC, dI) vwCl ((ap, .inl (cB, mm, .inl (K 0))) :: R) H) (hD : va_D (aB base) ((ap, .inl (cB, mm, .inl (K 0))) :: R)) (hS : va_S (aB base) s.heap H locs) (hCF : True), W p l e (headSpec wsJ6_getChars_ba4f3 rmJ6_getChars_ba4f3).room s m ([.int p0, .int p1, .ref ap] : List Value).toArray below meth c H locs 0 0 (MQ below (cBe (dC, dI) vwCl base (some (.int rr)) (fun ws => ws = ((ap, .inl (cB, mm, .inl (KK 0))) :: R) ∧ True)) ([.int p0, .int p1, .ref ap] : List Value).toArray s 0 0 (aB base)) (F0 m 22 ls []) := by
    intro  n
    induction n with
    | zero =>
      intro K x0 x5 x6 H locs ls h hl hP hD hS hCF
      unfold fJ6_getChars_ba4f3_22 at h
      cases h
    | succ n ih =>
      intro K x0 x5 x6 H locs ls h hl hP hD hS hCF
      unfold fJ6_getChars_ba4f3_22 at h
      refine lv_iload_n hx hb dJ6_getChars_ba4f3_22 rfl (lv_at hl 0 rfl) ?_
      refine lv_bipush (v := (-100)) hx hb dJ6_getChars_ba4f3_23 (by decide) ?_
      refine lv_icmp_gt (tgt := 72) hx hb dJ6_getChars_ba4f3_25 (by decide) (fun c13 => ?_) (fun c13 => ?_)
      · replace h := if_p c13 h
        exact t_72  h (lv_sub hl [0, 1, 2, 3] rfl) hP hD hS hCF
      · replace h := if_n c13 h
        refine lv_iload_n hx hb dJ6_getChars_ba4f3_28 rfl (lv_at hl 0 rfl) ?_
        refine lv_bipush (v := 100) hx hb dJ6_getChars_ba4f3_29 (by decide) ?_
        refine lv_idiv hx hb dJ6_getChars_ba4f3_31 (by decide) ?_
        refine lv_istore_n (lv' := [(3, .int (x0 / 100)), (0, .int x0), (2, .ref ap), (5, .int x5), (6, .int x6)]) hx hb dJ6_getChars_ba4f3_32 rfl hl (by decide) rfl (fun ls hl => ?_)
        refine lv_iload_n hx hb dJ6_getChars_ba4f3_33 rfl (lv_at hl 0 rfl) ?_
        refine lv_bipush (v := 100) hx hb dJ6_getChars_ba4f3_34 (by decide) ?_
        refine lv_imul hx hb dJ6_getChars_ba4f3_36 ?_
        refine lv_iload_n hx hb dJ6_getChars_ba4f3_37 rfl (lv_at hl 1 rfl) ?_
        refine lv_isub hx hb dJ6_getChars_ba4f3_38 ?_
        refine lv_istore (lv' := [(4, .int (((x0 / 100) * 100) - x0)), (3, .int (x0 / 100)), (0, .int x0), (2, .ref ap), (5, .int x5), (6, .int x6)]) hx hb dJ6_getChars_ba4f3_39 hl (by decide) rfl (fun ls hl => ?_)
        refine lv_iload_n hx hb dJ6_getChars_ba4f3_41 rfl (lv_at hl 1 rfl) ?_
        refine lv_istore_n (lv' := [(0, .int (x0 / 100)), (4, .int (((x0 / 100) * 100) - x0)), (3, .int (x0 / 100)), (2, .ref ap), (5, .int x5), (6, .int x6)]) hx hb dJ6_getChars_ba4f3_42 rfl hl (by decide) rfl (fun ls hl => ?_)
        refine lv_aload_n hx hb dJ6_getChars_ba4f3_43 rfl (lv_at hl 3 rfl) ?_
        refine lv_iinc (v := x5 + (-1)) (lv' := [(5, .int (x5 + (-1))), (0, .int (x0 / 100)), (4, .int (((x0 / 100) * 100) - x0)), (3, .int (x0 / 100)), (2, .ref ap), (6, .int x6)]) hx hb dJ6_getChars_ba4f3_44 hl (k := 4) rfl rfl (by decide) rfl (fun ls hl => ?_)
        refine lv_iload hx hb dJ6_getChars_ba4f3_47 (lv_at hl 0 rfl) ?_
        refine va_gets hx hb hz1 hS hown (hts (.fieldLink RJ6 83 "java/lang/Integer" "DigitOnes" "[B") (by decide +kernel)) (fun _ h9 => h9) dJ6_getChars_ba4f3_49 ?_
        refine lv_iload hx hb dJ6_getChars_ba4f3_52 (lv_at hl 2 rfl) ?_
        obtain ⟨hi15, v14, ev14, h⟩ := rdA_some h
        refine va_tb hx hb hT1 hS hi15 (v := .int v14) (by rw [ev14]; rfl) dJ6_getChars_ba4f3_54 ?_
        obtain ⟨hi17, K16, eK16, h⟩ := wrA_some h
        refine va_bast hx hb hK hP hD hS 0 0 rfl rfl hi17 dJ6_getChars_ba4f3_55 (fun H locs hP hD hS => ?_)
        have hP : va_P (dC, dI) vwCl ((ap, .inl (cB, mm, .inl (K16 0))) :: R) H := by rw [eK16]; exact hP
        have hD : va_D (aB base) ((ap, .inl (cB, mm, .inl (K16 0))) :: R) := by rw [eK16]; exact hD
        have hCF : True := trivial
        refine lv_aload_n hx hb dJ6_getChars_ba4f3_56 rfl (lv_at hl 4 rfl) ?_
        refine lv_iinc (v := (x5 + (-1)) + (-1)) (lv' := [(5, .int ((x5 + (-1)) + (-1))), (0, .int (x0 / 100)), (4, .int (((x0 / 100) * 100) - x0)), (3, .int (x0 / 100)), (2, .ref ap), (6, .int x6)]) hx hb dJ6_getChars_ba4f3_57 hl (k := 0) rfl rfl (by decide) rfl (fun ls hl => ?_)
        refine lv_iload hx hb dJ6_getChars_ba4f3_60 (lv_at hl 0 rfl) ?_
        refine va_gets hx hb hz2 hS hown (hts (.fieldLink RJ6 87 "java/lang/Integer" "DigitTens" "[B") (by decide +kernel)) (fun _ h9 => h9) dJ6_getChars_ba4f3_62 ?_
        refine lv_iload hx hb dJ6_getChars_ba4f3_65 (lv_at hl 2 rfl) ?_
        obtain ⟨hi19, v18, ev18, h⟩ := rdA_some h
        refine va_tb hx hb hT2 hS hi19 (v := .int v18) (by rw [ev18]; rfl) dJ6_getChars_ba4f3_67 ?_
        obtain ⟨hi21, K20, eK20, h⟩ := wrA_some h
        refine va_bast hx hb hK hP hD hS 0 0 rfl rfl hi21 dJ6_getChars_ba4f3_68 (fun H locs hP hD hS => ?_)
        have hP : va_P (dC, dI) vwCl ((ap, .inl (cB, mm, .inl (K20 0))) :: R) H := by rw [eK20]; exact hP
        have hD : va_D (aB base) ((ap, .inl (cB, mm, .inl (K20 0))) :: R) := by rw [eK20]; exact hD
        have hCF : True := trivial
        refine lv_goto (tgt := 22) hx hb dJ6_getChars_ba4f3_69 (by decide) ?_
        exact ih h (lv_sub hl [1, 4, 0, 5] rfl) hP hD hS hCF
  have t_12 : ∀ {K : KT} {x0 : Int32} {x5 : Int32} {y0 : Int32} {H : Heap} {locs : List Loc} {ls : Array Slot} (h : fJ6_getChars_ba4f3_12 N mm  K x0 x5 y0 = some (rr, KK)) (hl : lv_has ls 7 [(0, .int x0), (2, .ref ap), (5, .int x5)]) (hP : va_P (dC, dI) vwCl ((ap, .inl (cB, mm, .inl (K 0))) :: R) H) (hD : va_D (aB base) ((ap, .inl (cB, mm, .inl (K 0))) :: R)) (hS : va_S (aB base) s.heap H locs) (hCF : True), W p l e (headSpec wsJ6_getChars_ba4f3 rmJ6_getChars_ba4f3).room s m ([.int p0, .int p1, .ref ap] : List Value).toArray below meth c H locs 0 0 (MQ below (cBe (dC, dI) vwCl base (some (.int rr)) (fun ws => ws = ((ap, .inl (cB, mm, .inl (KK 0))) :: R) ∧ True)) ([.int p0, .int p1, .ref ap] : List Value).toArray s 0 0 (aB base)) (F0 m 12 ls [.int y0]) := by
    intro  K x0 x5 y0 H locs ls h hl hP hD hS hCF
    unfold fJ6_getChars_ba4f3_12 at h
    refine lv_istore (lv' := [(6, .int y0), (0, .int x0), (2, .ref ap), (5, .int x5)]) hx hb dJ6_getChars_ba4f3_12 hl (by decide) rfl (fun ls hl => ?_)
    refine lv_iload hx hb dJ6_getChars_ba4f3_14 (lv_at hl 0 rfl) ?_
    refine lv_if_ne (tgt := 22) hx hb dJ6_getChars_ba4f3_16 (by decide) (fun c22 => ?_) (fun c22 => ?_)
    · replace h := if_n c22 h
      exact t_22  h (lv_sub hl [1, 2, 3, 0] rfl) hP hD hS hCF
    · replace h := if_p c22 h
      refine lv_iload_n hx hb dJ6_getChars_ba4f3_19 rfl (lv_at hl 1 rfl) ?_
      refine lv_ineg hx hb dJ6_getChars_ba4f3_20 ?_
      refine lv_istore_n (lv' := [(0, .int (-x0)), (6, .int y0), (2, .ref ap), (5, .int x5)]) hx hb dJ6_getChars_ba4f3_21 rfl hl (by decide) rfl (fun ls hl => ?_)
      exact t_22  h (lv_sub hl [0, 2, 3, 1] rfl) hP hD hS hCF
  have hS : va_S (aB base) s.heap s.heap [] := va_S.rf
  have hl := lv_entry ([.int p0, .int p1, .ref ap]) (n := 7) (Nat.le_of_ble_eq_true rfl)
  rw [lg_entry_eq]
  generalize (lg_sl ([.int p0, .int p1, .ref ap]) ++ List.replicate (7 - (lg_sl ([.int p0, .int p1, .ref ap])).length) Slot.unset).toArray = ls at hl ⊢
  have hl : lv_has ls 7 [(0, .int p0), (1, .int p1), (2, .ref ap)] := hl
  have h := hf
  unfold mJ6_getChars_ba4f3 at h
  refine lv_iload_n hx hb dJ6_getChars_ba4f3_0 rfl (lv_at hl 1 rfl) ?_
  refine lv_istore (lv' := [(5, .int p1), (0, .int p0), (1, .int p1), (2, .ref ap)]) hx hb dJ6_getChars_ba4f3_1 hl (by decide) rfl (fun ls hl => ?_)
  refine lv_iload_n hx hb dJ6_getChars_ba4f3_3 rfl (lv_at hl 1 rfl) ?_
  refine lv_if_ge (tgt := 11) hx hb dJ6_getChars_ba4f3_4 (by decide) (fun c23 => ?_) (fun c23 => ?_)
  · replace h := if_p c23 h
    refine lv_iconst (v := 0) hx hb dJ6_getChars_ba4f3_11 (by decide) ?_
    exact t_12  h (lv_sub hl [1, 3, 0] rfl) hP hD hS hCF
  · replace h := if_n c23 h
    refine lv_iconst (v := 1) hx hb dJ6_getChars_ba4f3_7 (by decide) ?_
    refine lv_goto (tgt := 12) hx hb dJ6_getChars_ba4f3_8 (by decide) ?_
    exact t_12  h (lv_sub hl [1, 3, 0] rfl) hP hD hS hCF
