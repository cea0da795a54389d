/-! ===== a builder that has the room takes a literal and a number; its String ===== -/
theorem retW {D : va_G} {cl : List vw_C} {base : Nat} {X : va_W} {o o' : Option Value} {st t : State} {H : Heap} {locs : List Loc} {a : Array Value} (ho : o = o') (hP : va_P D cl X H) (hD : va_D (aB base) X) (hS : va_S (aB base) st.heap H locs) (ht : t.heap = H) : cBe D cl base o' (fun ws => ws = X) a st (.returned o) t := retB (Wp := fun ws => ws = X) ho rfl hP hD hS ht
def StrB (base a n : Nat) (f : Nat → Int32) (U : State) (H : Heap) : Prop := n < 65536 ∧ ∃ v, va_O "java/lang/String" a (aB base) U H ∧ va_OF "java/lang/String" "coder" "B" (.int 0) a (aB base) U H ∧ va_OF "java/lang/String" "value" "[B" (.ref v) a (aB base) U H ∧ va_T .byte v n (fun j => .int (f j)) (aB base) U H
theorem StrB.toF {base a n : Nat} {f : Nat → Int32} {U : State} {H : Heap} (h : StrB base a n f U H) : StrF a n f U H := by
  obtain ⟨h0, v, h1, h2, h3, h4⟩ := h
  have hA : ∀ q, nA q → aB base q := fun q h => h.elim
  exact ⟨h0, v, h1.narrow hA, h2.narrow hA, h3.narrow hA, h4.narrow hA⟩
theorem StrB.moved {base a n : Nat} {f : Nat → Int32} {u U : State} {H : Heap} (hvm : u.vm.Alike U.vm) (h : StrB base a n f u H) : StrB base a n f U H := by
  obtain ⟨h0, v, h1, h2, h3, h4⟩ := h
  exact ⟨h0, v, h1.moved hvm, h2.moved hvm, h3.moved hvm, h4.moved hvm⟩
theorem StrB.kept {base a n : Nat} {f : Nat → Int32} {U : State} {H H1 : Heap} (h : StrB base a n f U H) (hq : ∀ q : Nat, q < H.size → ¬ aB base q → H1[q]? = H[q]?) : StrB base a n f U H1 := by
  obtain ⟨h0, v, h1, h2, h3, h4⟩ := h
  exact ⟨h0, v, h1.kept hq, h2.kept hq, h3.kept hq, h4.kept hq⟩
theorem StrB_step {base a n : Nat} {f : Nat → Int32} {s : State} {H : Heap} {locs : List Loc} (h : StrB base a n f s s.heap) (hS : va_S (aB base) s.heap H locs) : ∀ U : State, U.heap = H → s.WarmedH U.vm → StrB base a n f U U.heap := fun U hU hW => by
  rw [hU]
  exact (h.moved hW.alike).kept hS.2.1
def cBs (D : va_G) (cl : List vw_C) (tys : List (ClassId × FieldType)) (base : Nat) (ws : va_W) (a n : Nat) (f : Nat → Int32) (av : List Value) : Array Value → State → Prop := fun w U => cBp D cl tys base ws av w U ∧ StrB base a n f U U.heap
theorem cBs_blind (D : va_G) (cl : List vw_C) (tys : List (ClassId × FieldType)) (base : Nat) (ws : va_W) (a n : Nat) (f : Nat → Int32) (av : List Value) : FrameBlind (cBs D cl tys base ws a n f av) := fun z U g mk q => ⟨cBp_blind D cl tys base ws av z U g mk q.1, StrB.moved (u := U) (U := U.calling g mk z) (Vm.Alike.refl U.vm) q.2⟩
section KT2
variable {p : Program} {l : Launch} {e : Env} {R : Room} {s : State} {m : MethodId} {args : Array Value} {below : List Frame} {meth : Method} {c : Code} {H : Heap} {locs : List Loc} {cells slots : Nat} {Q : State → Prop}
variable {pc : Nat} {ls : Array Slot} {rest st0 : List Value} {H0 : Heap} {mc ms base : Nat}
variable {y x : MethodName} {bytes cc : ByteArray} {maxL nL n index : Nat} {ret : Option FieldType} {ws : List Cond} {rm : Room} {Ts : List Cond} {own C owner : String} {b : Addr} {As : List Value} {D : va_G} {cl : List vw_C} {tys : List (ClassId × FieldType)} {wsC : va_W} {o : Option Value} {Wp : va_W → Prop} {a k : Nat} {f : Nat → Int32}
theorem call_BsUv (S : CallFix p m c cc nL s args Ts own) (hM : Met l y ws rm (cBs D cl tys base wsC a k f (.ref b :: As)) cQv 0 0 (fun _ => False)) (cw : va_CU R s args own C owner index x y bytes maxL ret ws rm 0 0 n) (hK : va_K D cl tys s) (hP : va_P D cl wsC H) (hD : va_D (aB base) wsC) (hbs : base ≤ H.size) (hEU : ∀ U : State, U.heap = H → s.WarmedH U.vm → EnvB base U) (hSt : ∀ U : State, U.heap = H → s.WarmedH U.vm → StrB base a k f U U.heap) (q0 : Nat) {ci : Nat} {fs : List Value} {T : u_T} {N : Nat} (hc : cl[ci]? = some (C, T, N)) (he : wsC[q0]? = some (b, .inr (ci, fs)))
    (hn : As.length = n) (hsz : ls.size = nL) (hst : st0 = As.reverse ++ .ref b :: rest) (hW : (rest.map fun v => v.category).sum ≤ 8) (hdg : decode cc pc = .ok (.invokevirtual index, 3)) (hcs : cells ≤ R.cells ∧ slots ≤ R.slots)
    (kk : W p l e R s m args below meth c H locs cells slots Q (F0 m (pc + 3) ls rest)) : W p l e R s m args below meth c H locs cells slots Q (F0 m pc ls st0) :=
  cl_pureV (va_runU (As := As) (rest := rest) S hM cw ⟨cBs_blind _ _ _ _ _ _ _ _ _, va_recv hK hP hc he, fun U hU hW => ⟨preB hK hP hD hbs hEU _ U hU hW, hSt U hU hW⟩⟩ rfl hn hsz hst (lv_room hW) hdg hcs) kk
theorem call_BsUE (S : CallFix p m c cc nL s args Ts own) (hM : Met l y ws rm (cBs D cl tys base wsC a k f (.ref b :: As)) (cBe D cl base o Wp) mc ms (aB base)) (cw : va_CU R s args own C owner index x y bytes maxL ret ws rm mc ms n) (hK : va_K D cl tys s) (hP : va_P D cl wsC H) (hD : va_D (aB base) wsC) (hS : va_S (aB base) H0 H locs) (hbs : base ≤ H.size) (hEU : ∀ U : State, U.heap = H → s.WarmedH U.vm → EnvB base U) (hSt : ∀ U : State, U.heap = H → s.WarmedH U.vm → StrB base a k f U U.heap) (q0 : Nat) {ci : Nat} {fs : List Value} {T : u_T} {N : Nat} (hc : cl[ci]? = some (C, T, N)) (he : wsC[q0]? = some (b, .inr (ci, fs)))
    (hn : As.length = n) (hsz : ls.size = nL) (hst : st0 = As.reverse ++ .ref b :: rest) (hW : (rest.map fun v => v.category).sum ≤ 8) (hdg : decode cc pc = .ok (.invokevirtual index, 3)) (hcs : cells + mc ≤ R.cells ∧ slots + ms ≤ R.slots)
    (kk : ∀ (H1 : Heap) (locs1 : List Loc) (ws1 : va_W), Wp ws1 → va_P D cl ws1 H1 → va_D (aB base) ws1 → H.size ≤ H1.size → va_S (aB base) H0 H1 locs1 → W p l e R s m args below meth c H1 locs1 (cells + mc) (slots + ms) Q (F0 m (pc + 3) ls (o.toList ++ rest))) : W p l e R s m args below meth c H locs cells slots Q (F0 m pc ls st0) :=
  cl_big (va_runU (As := As) (rest := rest) S hM cw ⟨cBs_blind _ _ _ _ _ _ _ _ _, va_recv hK hP hc he, fun U hU hW => ⟨preB hK hP hD hbs hEU _ U hU hW, hSt U hU hW⟩⟩ rfl hn hsz hst (lv_room hW) hdg hcs) hS kk
theorem call_BsSUE {cC : ClassId} (hat : ClassAt s C cC) (S : CallFix p m c cc nL s args Ts own) (hM : Met l y ws rm (cBs D cl tys base wsC a k f (.ref b :: As)) (cBe D cl base o Wp) mc ms (aB base)) (cw : va_CS R s args own index y bytes maxL ret ws rm mc ms n) (hK : va_K D cl tys s) (hP : va_P D cl wsC H) (hD : va_D (aB base) wsC) (hS : va_S (aB base) H0 H locs) (hbs : base ≤ H.size) (hEU : ∀ U : State, U.heap = H → s.WarmedH U.vm → EnvB base U) (hSt : ∀ U : State, U.heap = H → s.WarmedH U.vm → StrB base a k f U U.heap) (q0 : Nat) {ci : Nat} {fs : List Value} {T : u_T} {N : Nat} (hc : cl[ci]? = some (C, T, N)) (he : wsC[q0]? = some (b, .inr (ci, fs)))
    (hn : As.length = n) (hsz : ls.size = nL) (hst : st0 = As.reverse ++ .ref b :: rest) (hW : (rest.map fun v => v.category).sum ≤ 8) (hdg : decode cc pc = .ok (.invokespecial index, 3)) (hcs : cells + mc ≤ R.cells ∧ slots + ms ≤ R.slots)
    (kk : ∀ (H1 : Heap) (locs1 : List Loc) (ws1 : va_W), Wp ws1 → va_P D cl ws1 H1 → va_D (aB base) ws1 → H.size ≤ H1.size → va_S (aB base) H0 H1 locs1 → W p l e R s m args below meth c H1 locs1 (cells + mc) (slots + ms) Q (F0 m (pc + 3) ls (o.toList ++ rest))) : W p l e R s m args below meth c H locs cells slots Q (F0 m pc ls st0) :=
  cl_big (va_runSU (As := As) (rest := rest) hat S hM cw ⟨cBs_blind _ _ _ _ _ _ _ _ _, va_recv hK hP hc he, fun U hU hW => ⟨preB hK hP hD hbs hEU _ U hU hW, hSt U hU hW⟩⟩ rfl hn hsz hst (lv_room hW) hdg hcs) hS kk
theorem call_BsVE (S : CallFix p m c cc nL s args Ts own) (hM : Met l y ws rm (cBs D cl tys base wsC a k f (.ref a :: As)) (cBe D cl base o Wp) mc ms (aB base)) (cw : CallW R s args own RJ0 index y bytes maxL ret ws rm mc ms n) (hK : va_K D cl tys s) (hP : va_P D cl wsC H) (hD : va_D (aB base) wsC) (hS : va_S (aB base) H0 H locs) (hbs : base ≤ H.size) (hEU : ∀ U : State, U.heap = H → s.WarmedH U.vm → EnvB base U) (hSt : ∀ U : State, U.heap = H → s.WarmedH U.vm → StrB base a k f U U.heap) (hrec : ∃ cell : Cell, H[a]? = some cell ∧ cell.vm.isStatics = false ∧ s.vm.findClass RJ0 = some cell.cls)
    (hn : As.length = n) (hsz : ls.size = nL) (hst : st0 = As.reverse ++ .ref a :: rest) (hW : (rest.map fun v => v.category).sum ≤ 8) (hdg : decode cc pc = .ok (.invokevirtual index, 3)) (hcs : cells + mc ≤ R.cells ∧ slots + ms ≤ R.slots)
    (kk : ∀ (H1 : Heap) (locs1 : List Loc) (ws1 : va_W), Wp ws1 → va_P D cl ws1 H1 → va_D (aB base) ws1 → H.size ≤ H1.size → va_S (aB base) H0 H1 locs1 → W p l e R s m args below meth c H1 locs1 (cells + mc) (slots + ms) Q (F0 m (pc + 3) ls (o.toList ++ rest))) : W p l e R s m args below meth c H locs cells slots Q (F0 m pc ls st0) :=
  cl_big (va_runV (As := As) (rest := rest) S hM cw ⟨cBs_blind _ _ _ _ _ _ _ _ _, hrec, fun U hU hW => ⟨preB hK hP hD hbs hEU _ U hU hW, hSt U hU hW⟩⟩ rfl hn hsz hst (lv_room hW) hdg hcs) hS kk
theorem call_BsRE (S : CallFix p m c cc nL s args Ts own) (hM : Met l y ws rm (cBs D cl tys base wsC a k f (.ref b :: As)) (cBe D cl base o Wp) mc ms (aB base)) (cw : CallW R s args own C index y bytes maxL ret ws rm mc ms n) (hK : va_K D cl tys s) (hP : va_P D cl wsC H) (hD : va_D (aB base) wsC) (hS : va_S (aB base) H0 H locs) (hbs : base ≤ H.size) (hEU : ∀ U : State, U.heap = H → s.WarmedH U.vm → EnvB base U) (hSt : ∀ U : State, U.heap = H → s.WarmedH U.vm → StrB base a k f U U.heap) (q0 : Nat) {ci : Nat} {fs : List Value} {T : u_T} {N : Nat} (hc : cl[ci]? = some (C, T, N)) (he : wsC[q0]? = some (b, .inr (ci, fs)))
    (hn : As.length = n) (hsz : ls.size = nL) (hst : st0 = As.reverse ++ .ref b :: rest) (hW : (rest.map fun v => v.category).sum ≤ 8) (hdg : decode cc pc = .ok (.invokevirtual index, 3)) (hcs : cells + mc ≤ R.cells ∧ slots + ms ≤ R.slots)
    (kk : ∀ (H1 : Heap) (locs1 : List Loc) (ws1 : va_W), Wp ws1 → va_P D cl ws1 H1 → va_D (aB base) ws1 → H.size ≤ H1.size → va_S (aB base) H0 H1 locs1 → W p l e R s m args below meth c H1 locs1 (cells + mc) (slots + ms) Q (F0 m (pc + 3) ls (o.toList ++ rest))) : W p l e R s m args below meth c H locs cells slots Q (F0 m pc ls st0) :=
  cl_big (va_runV (As := As) (rest := rest) S hM cw ⟨cBs_blind _ _ _ _ _ _ _ _ _, va_recv hK hP hc he, fun U hU hW => ⟨preB hK hP hD hbs hEU _ U hU hW, hSt U hU hW⟩⟩ rfl hn hsz hst (lv_room hW) hdg hcs) hS kk
theorem StrB.recv {s : State} (h : StrB base a k f s H) : ∃ cell : Cell, H[a]? = some cell ∧ cell.vm.isStatics = false ∧ s.vm.findClass RJ0 = some cell.cls := by
  obtain ⟨-, v, ⟨cell, h1, h2, h3, -⟩, -⟩ := h
  exact ⟨cell, h1, h2, h3⟩
end KT2
theorem tE_le {l : Launch} {dC : Nat → ClassId} {dI : Nat → Nat → Nat} {cB : ClassId} {ob sb mm base w : Nat} {R : va_W} {K : KT} (hw : w ≤ mm) (hmm : mm ≤ 256) : Met l yJ5_ensureCapacityInternal_d00df wsJ5_ensureCapacityInternal_d00df { frames := 1, cells := 0, slots := 0, locals := 40 } (cBp (dC, dI) vwCl [(cB, .byte)] base (sbW cB ob sb mm K ++ R) [.ref ob, .int (nI w)]) (cBe (dC, dI) vwCl base none (fun ws => ws = sbW cB ob sb mm K ++ R)) 0 0 (aB base) := by
  refine Met.ofW (cc := cJ5_ensureCapacityInternal_d00df) (maxL := 3) (ret := none) (by decide) rfl ?_
  intro p e s m args below meth c s₁ B hml hv
  obtain ⟨rfl, hP, hK, hD, hbs, hE⟩ := hv
  have hx := B.exec
  have hb := B.bytes
  have hr := B.returns
  have hts := atoms_spec (ws := wsJ5_ensureCapacityInternal_d00df) B.pre
  have hown : s.vm.findClass RJ5 = some m.cls := findClass_of_methodNamed B.named
  have hlocks := B.notSynchronized
  have hf_15 := hts (.fieldLink RJ5 15 "java/lang/AbstractStringBuilder" "value" "[B") (by decide +kernel)
  have hf_22 := hts (.fieldLink RJ5 22 "java/lang/AbstractStringBuilder" "coder" "B") (by decide +kernel)
  have hwJ4 : ∀ w ∈ u_ws RJ4 TJ4 4, w ∈ wsJ5_ensureCapacityInternal_d00df := by decide +kernel
  have hS : va_S (aB base) s.heap s.heap [] := va_S.rf
  have hl := lv_entry ([.ref ob, .int (nI w)]) (n := 3) (Nat.le_of_ble_eq_true rfl)
  rw [lg_entry_eq]
  generalize (lg_sl ([.ref ob, .int (nI w)]) ++ List.replicate (3 - (lg_sl ([.ref ob, .int (nI w)])).length) Slot.unset).toArray = ls at hl ⊢
  have hl : lv_has ls 3 [(0, .ref ob), (1, .int (nI w))] := hl
  refine lv_aload_n hx hb dJ5_ensureCapacityInternal_d00df_0 rfl (lv_at hl 0 rfl) ?_
  refine va_get (D := (dC, dI)) (ci := 0) (v := .ref sb) (C := RJ4) (T := TJ4) (N := 4) hx hb hts hwJ4 hown hK hP 0 rfl rfl 0 (by decide) hf_15 (fun _ h9 => h9) rfl dJ5_ensureCapacityInternal_d00df_1 ?_
  refine va_alen (v := nI mm) hx hb hK hP 1 0 rfl rfl rfl dJ5_ensureCapacityInternal_d00df_4 ?_
  refine lv_aload_n hx hb dJ5_ensureCapacityInternal_d00df_5 rfl (lv_at hl 0 rfl) ?_
  refine va_get (D := (dC, dI)) (ci := 0) (v := .int ((0 : Int32))) (C := RJ4) (T := TJ4) (N := 4) hx hb hts hwJ4 hown hK hP 0 rfl rfl 1 (by decide) hf_22 (fun _ h9 => h9) rfl dJ5_ensureCapacityInternal_d00df_6 ?_
  refine lv_ishr hx hb dJ5_ensureCapacityInternal_d00df_9 ?_
  rw [sb_shr0]
  refine lv_istore_n (lv' := [(2, .int (nI mm)), (0, .ref ob), (1, .int (nI w))]) hx hb dJ5_ensureCapacityInternal_d00df_10 rfl hl (by decide) rfl (fun ls hl => ?_)
  refine lv_iload_n hx hb dJ5_ensureCapacityInternal_d00df_11 rfl (lv_at hl 2 rfl) ?_
  refine lv_iload_n hx hb dJ5_ensureCapacityInternal_d00df_12 rfl (lv_at hl 0 rfl) ?_
  refine lv_isub hx hb dJ5_ensureCapacityInternal_d00df_13 ?_
  have e0 := pk_sub_toInt (a := w) (b := mm) (by omega) (by omega)
  refine lv_if_le (tgt := 38) hx hb dJ5_ensureCapacityInternal_d00df_14 (by decide) (fun c1 => ?_) (fun c1 => ?_)
  · exact W.vret hx hb hr (fun t ht _ => retW rfl hP hD hS ht) hS.2.2 dJ5_ensureCapacityInternal_d00df_38
  · refine absurd (Int32.le_iff_toInt_le.mpr ?_) c1
    rw [e0, show (0 : Int32).toInt = 0 by decide]
    omega
def apI (K : KT) (n x : Nat) : KT := fset (rset K 0 (dput (K 0) (n + sb_dg x) x)) 1 0 (nI (n + sb_dg x))
set_option maxHeartbeats 4000000 in
set_option maxRecDepth 100000 in
theorem tI5_le {l : Launch} {dC : Nat → ClassId} {dI : Nat → Nat → Nat} {cB : ClassId} {ob sb mm base n x : Nat} {R : va_W} {K : KT} (hx9 : x < 2 ^ 31) (en : K 1 0 = nI n) (hw : n + sb_dg x ≤ mm) (hCF : CF mm K) : Met l yJ5_append_c97b9 wsJ5_append_c97b9 { frames := 3, cells := 0, slots := 0, locals := 100 } (cBp (dC, dI) vwCl [(cB, .byte)] base (sbW cB ob sb mm K ++ R) [.ref ob, .int (nI x)]) (cBe (dC, dI) vwCl base (some (.ref ob)) (fun ws => ws = sbW cB ob sb mm (apI K n x) ++ R)) 0 0 (aB base) := by
  have hmm := hCF.2.1
  refine Met.ofW (cc := cJ5_append_c97b9) (maxL := 4) (ret := (some (.object "java/lang/AbstractStringBuilder"))) (by decide) rfl ?_
  intro p e s m args below meth c s₁ B hml hv
  obtain ⟨rfl, hP, hK, hD, hbs, hE⟩ := hv
  have hx := B.exec
  have hb := B.bytes
  have hr := B.returns
  have hts := atoms_spec (ws := wsJ5_append_c97b9) B.pre
  have hown : s.vm.findClass RJ5 = some m.cls := findClass_of_methodNamed B.named
  have hlocks := B.notSynchronized
  have hf_15 := hts (.fieldLink RJ5 15 "java/lang/AbstractStringBuilder" "value" "[B") (by decide +kernel)
  have hf_79 := hts (.fieldLink RJ5 79 "java/lang/AbstractStringBuilder" "count" "I") (by decide +kernel)
  have hwJ4 : ∀ w ∈ u_ws RJ4 TJ4 4, w ∈ wsJ5_append_c97b9 := by decide +kernel
  have hS : va_S (aB base) s.heap s.heap [] := va_S.rf
  have hl := lv_entry ([.ref ob, .int (nI x)]) (n := 4) (Nat.le_of_ble_eq_true rfl)
  rw [lg_entry_eq]
  generalize (lg_sl ([.ref ob, .int (nI x)]) ++ List.replicate (4 - (lg_sl ([.ref ob, .int (nI x)])).length) Slot.unset).toArray = ls at hl ⊢
  have hl : lv_has ls 4 [(0, .ref ob), (1, .int (nI x))] := hl
  refine lv_aload_n hx hb dJ5_append_c97b9_0 rfl (lv_at hl 0 rfl) ?_
  refine va_get (D := (dC, dI)) (ci := 0) (v := .int (K 1 0)) (C := RJ4) (T := TJ4) (N := 4) hx hb hts hwJ4 hown hK hP 0 rfl rfl 3 (by decide) hf_79 (fun _ h9 => h9) rfl dJ5_append_c97b9_1 ?_
  rw [en]
  refine lv_istore_n (lv' := [(2, .int (nI n)), (0, .ref ob), (1, .int (nI x))]) hx hb dJ5_append_c97b9_4 rfl hl (by decide) rfl (fun ls hl => ?_)
  refine lv_iload_n hx hb dJ5_append_c97b9_5 rfl (lv_at hl 0 rfl) ?_
  refine lv_iload_n hx hb dJ5_append_c97b9_6 rfl (lv_at hl 2 rfl) ?_
  refine call_SP (As := [.int (nI x)]) (rest := [.int (nI n)]) ⟨hx, hb, hml, hown, hts⟩ (tJ6_stringSize_0f7a4 (l := l) (ss_all hx9)) (va_cwS 1 hts gJ5_append_c97b9_J6_stringSize_0f7a4 rfl rfl rfl (by decide +kernel) ⟨Nat.le_of_ble_eq_true rfl, Nat.le_of_ble_eq_true rfl⟩) (by rfl) hl.1 rfl (Nat.le_of_ble_eq_true rfl) dJ5_append_c97b9_7 ⟨Nat.zero_le _, Nat.zero_le _⟩ ?_
  refine lv_iadd hx hb dJ5_append_c97b9_10 ?_
  rw [nadd]
  refine lv_istore_n (lv' := [(3, .int (nI (n + sb_dg x))), (2, .int (nI n)), (0, .ref ob), (1, .int (nI x))]) hx hb dJ5_append_c97b9_11 rfl hl (by decide) rfl (fun ls hl => ?_)
  refine lv_aload_n hx hb dJ5_append_c97b9_12 rfl (lv_at hl 2 rfl) ?_
  refine lv_iload_n hx hb dJ5_append_c97b9_13 rfl (lv_at hl 0 rfl) ?_
  refine call_BUE (As := [.int (nI (n + sb_dg x))]) (rest := []) ⟨hx, hb, hml, hown, hts⟩ (tE_le (l := l) (dC := dC) (dI := dI) (cB := cB) (ob := ob) (sb := sb) (mm := mm) (base := base) (w := n + sb_dg x) (K := K) (R := R) hw hmm) (va_cwU 1 hts gJ5_append_c97b9_J5_ensureCapacityInternal_d00df_u100J4 rfl rfl rfl rfl (by decide +kernel) ⟨Nat.le_of_ble_eq_true rfl, Nat.le_of_ble_eq_true rfl⟩) hK hP hD hS hbs (fun U hU hW => Env_step rfl rfl hE va_S.rf hU hW) 0 rfl rfl (by rfl) hl.1 rfl (Nat.le_of_ble_eq_true rfl) dJ5_append_c97b9_14 ⟨Nat.le_refl _, Nat.le_refl _⟩ (fun H locs ws9 hW9 hP hD hz hS => ?_)
  subst hW9
  refine lv_aload_n hx hb dJ5_append_c97b9_17 rfl (lv_at hl 2 rfl) ?_
  refine call_BUP (As := []) (rest := []) ⟨hx, hb, hml, hown, hts⟩ (tJ5_isLatin1_aae02 (l := l) (dC := dC) (dI := dI) (cB := cB) (ob := ob) (sb := sb) (mm := mm) (base := base) (R := R) (isLat (N := 0)) hCF) (va_cwU 0 hts gJ5_append_c97b9_J5_isLatin1_aae02_u83J4 rfl rfl rfl rfl (by decide +kernel) ⟨Nat.le_of_ble_eq_true rfl, Nat.le_of_ble_eq_true rfl⟩) hK hP hD (Nat.le_trans hbs hS.1) (fun U hU hW => Env_step rfl rfl hE hS hU hW) 0 rfl rfl (by rfl) hl.1 rfl (Nat.le_of_ble_eq_true rfl) dJ5_append_c97b9_18 ⟨Nat.le_refl _, Nat.le_refl _⟩ ?_
  refine lv_if_eq (tgt := 37) hx hb dJ5_append_c97b9_21 (by decide) (fun c1 => absurd c1 (by decide)) (fun _ => ?_)
  refine lv_iload_n hx hb dJ5_append_c97b9_24 rfl (lv_at hl 3 rfl) ?_
  refine lv_iload_n hx hb dJ5_append_c97b9_25 rfl (lv_at hl 0 rfl) ?_
  refine lv_aload_n hx hb dJ5_append_c97b9_26 rfl (lv_at hl 2 rfl) ?_
  refine va_get (D := (dC, dI)) (ci := 0) (v := .ref sb) (C := RJ4) (T := TJ4) (N := 4) hx hb hts hwJ4 hown hK hP 0 rfl rfl 0 (by decide) hf_15 (fun _ h9 => h9) rfl dJ5_append_c97b9_27 ?_
  have hp1 : (sbW cB ob sb mm K ++ R).Perm ((sb, .inl (cB, mm, .inl (K 0))) :: (ob, .inr (0, [.ref sb, .int 0, .int (K 1 1), .int (K 1 0)])) :: R) := List.Perm.swap _ _ _
  refine call_SBE (As := [.int (nI x), .int (nI (n + sb_dg x)), .ref sb]) (rest := []) ⟨hx, hb, hml, hown, hts⟩ (tJ6_getChars_ba4f3 (l := l) (dC := dC) (dI := dI) (cB := cB) (ap := sb) (mm := mm) (base := base) (R := (ob, .inr (0, [.ref sb, .int 0, .int (K 1 1), .int (K 1 0)])) :: R) (gc_all (K := K) hmm hx9 (by omega) hw)) (va_cwS 3 hts gJ5_append_c97b9_J6_getChars_ba4f3 rfl rfl rfl (by decide +kernel) ⟨Nat.le_of_ble_eq_true rfl, Nat.le_of_ble_eq_true rfl⟩) hK (P_perm hp1 hP) (D_perm hp1 hD) hS (Nat.le_trans hbs hS.1) (fun U hU hW => Env_step rfl rfl hE hS hU hW) (by rfl) hl.1 rfl (Nat.le_of_ble_eq_true rfl) dJ5_append_c97b9_30 ⟨Nat.le_refl _, Nat.le_refl _⟩ (fun H locs ws9 hW9 hP hD hz hS => ?_)
  obtain ⟨rfl, -⟩ := hW9
  have hp2 : ((sb, .inl (cB, mm, .inl (rset K 0 (dput (K 0) (n + sb_dg x) x) 0))) :: (ob, .inr (0, [.ref sb, .int 0, .int (K 1 1), .int (K 1 0)])) :: R : va_W).Perm ((ob, .inr (0, [.ref sb, .int 0, .int (K 1 1), .int (K 1 0)])) :: (sb, .inl (cB, mm, .inl (rset K 0 (dput (K 0) (n + sb_dg x) x) 0))) :: R) := List.Perm.swap _ _ _
  have hP := P_perm hp2 hP
  have hD := D_perm hp2 hD
  refine lv_pop hx hb dJ5_append_c97b9_33 rfl ?_
  refine lv_goto (tgt := 48) hx hb dJ5_append_c97b9_34 (by decide) ?_
  refine lv_aload_n hx hb dJ5_append_c97b9_48 rfl (lv_at hl 2 rfl) ?_
  refine lv_iload_n hx hb dJ5_append_c97b9_49 rfl (lv_at hl 0 rfl) ?_
  refine va_put (D := (dC, dI)) (ci := 0) (v := .int (nI (n + sb_dg x))) (ty := .int) (C := RJ4) (T := TJ4) (N := 4) hx hb hts hwJ4 tyJ4 tyJ4_ok nmJ4 hown hK hP hD hS 0 rfl rfl 3 (by decide) hf_79 (fun _ h9 => h9) rfl (by decide +kernel) rfl rfl (Nat.le_of_ble_eq_true rfl) dJ5_append_c97b9_50 (fun H locs hP hD hS => ?_)
  have e0 : apI K n x 0 = dput (K 0) (n + sb_dg x) x := by unfold apI; rw [fset_ne (by decide), rset_eq]
  have e10 : apI K n x 1 0 = nI (n + sb_dg x) := by unfold apI; rw [fset_eq, pk_us]
  have e11 : apI K n x 1 1 = K 1 1 := by unfold apI; rw [fset_eq, pk_un (by decide), rset_ne (by decide)]
  have hP : va_P (dC, dI) vwCl (sbW cB ob sb mm (apI K n x) ++ R) H := by
    unfold sbW
    rw [e0, e10, e11]
    rw [rset_eq] at hP
    exact hP
  have hD : va_D (aB base) (sbW cB ob sb mm (apI K n x) ++ R) := D_iff.mpr (by have h := D_iff.mp hD; exact h)
  refine lv_aload_n hx hb dJ5_append_c97b9_53 rfl (lv_at hl 2 rfl) ?_
  exact W.aret hx hb hr (Or.inl ⟨_, rfl⟩) (Or.inr ⟨_, rfl⟩) (fun t ht _ => retW rfl hP hD hS ht) hS.2.2 dJ5_append_c97b9_54
theorem tI4_le {l : Launch} {dC : Nat → ClassId} {dI : Nat → Nat → Nat} {cB : ClassId} {ob sb mm base n x : Nat} {R : va_W} {K : KT} (hx9 : x < 2 ^ 31) (en : K 1 0 = nI n) (hw : n + sb_dg x ≤ mm) (hCF : CF mm K) : Met l yJ4_append_bf812 wsJ4_append_bf812 { frames := 4, cells := 0, slots := 0, locals := 130 } (cBp (dC, dI) vwCl [(cB, .byte)] base (sbW cB ob sb mm K ++ R) [.ref ob, .int (nI x)]) (cBe (dC, dI) vwCl base (some (.ref ob)) (fun ws => ws = sbW cB ob sb mm (apI K n x) ++ R)) 0 0 (aB base) := by
  refine Met.ofW (cc := cJ4_append_bf812) (maxL := 2) (ret := (some (.object "java/lang/StringBuilder"))) (by decide) rfl ?_
  intro p e s m args below meth c s₁ B hml hv
  obtain ⟨rfl, hP, hK, hD, hbs, hE⟩ := hv
  have hx := B.exec
  have hb := B.bytes
  have hr := B.returns
  have hts := atoms_spec (ws := wsJ4_append_bf812) B.pre
  have hown : s.vm.findClass RJ4 = some m.cls := findClass_of_methodNamed B.named
  have hlocks := B.notSynchronized
  have hS : va_S (aB base) s.heap s.heap [] := va_S.rf
  have hl := lv_entry ([.ref ob, .int (nI x)]) (n := 2) (Nat.le_of_ble_eq_true rfl)
  rw [lg_entry_eq]
  generalize (lg_sl ([.ref ob, .int (nI x)]) ++ List.replicate (2 - (lg_sl ([.ref ob, .int (nI x)])).length) Slot.unset).toArray = ls at hl ⊢
  have hl : lv_has ls 2 [(0, .ref ob), (1, .int (nI x))] := hl
  refine lv_aload_n hx hb dJ4_append_bf812_0 rfl (lv_at hl 0 rfl) ?_
  refine lv_iload_n hx hb dJ4_append_bf812_1 rfl (lv_at hl 1 rfl) ?_
  refine call_BSUE (As := [.int (nI x)]) (rest := []) (hK.1 0 _ rfl).2 ⟨hx, hb, hml, hown, hts⟩ (tI5_le (l := l) (dC := dC) (dI := dI) (cB := cB) (ob := ob) (sb := sb) (mm := mm) (base := base) (R := R) hx9 en hw hCF) (va_cwSU 1 hts gJ4_append_bf812_J5_append_c97b9_s53 rfl rfl rfl (by decide +kernel) ⟨Nat.le_of_ble_eq_true rfl, Nat.le_of_ble_eq_true rfl⟩) hK hP hD hS hbs (fun U hU hW => Env_step rfl rfl hE va_S.rf hU hW) 0 rfl rfl (by rfl) hl.1 rfl (Nat.le_of_ble_eq_true rfl) dJ4_append_bf812_2 ⟨Nat.le_refl _, Nat.le_refl _⟩ (fun H locs ws9 hW9 hP hD _ hS => ?_)
  subst hW9
  refine lv_pop hx hb dJ4_append_bf812_5 rfl ?_
  refine lv_aload_n hx hb dJ4_append_bf812_6 rfl (lv_at hl 0 rfl) ?_
  exact W.aret hx hb hr (Or.inl ⟨_, rfl⟩) (Or.inr ⟨_, rfl⟩) (fun t ht _ => retW rfl hP hD hS ht) hS.2.2 dJ4_append_bf812_7
set_option maxHeartbeats 4000000 in
set_option maxRecDepth 100000 in
theorem tJ0_getBytes {l : Launch} {dC : Nat → ClassId} {dI : Nat → Nat → Nat} {cB : ClassId} {a bb mb base n w : Nat} {R : va_W} {f g : Nat → Int32} (hw : w + n ≤ mb) (hmb : mb ≤ 256) (hfit : sb_Fit f) : Met l yJ0_getBytes_840e7 wsJ0_getBytes_840e7 { frames := 2, cells := 0, slots := 0, locals := 100 } (cBs (dC, dI) vwCl [(cB, .byte)] base ((bb, .inl (cB, mb, .inl g)) :: R) a n f [.ref a, .ref bb, .int (nI w), .int 0]) (cBe (dC, dI) vwCl base none (fun ws => ws = (bb, .inl (cB, mb, .inl (va_cpy f g 0 w n))) :: R)) 0 0 (aB base) := by
  refine Met.ofW (cc := cJ0_getBytes_840e7) (maxL := 4) (ret := none) (by decide) rfl ?_
  intro p e s m args below meth c s₁ B hml hv
  obtain ⟨⟨rfl, hP, hK, hD, hbs, hE⟩, hSt⟩ := hv
  have hx := B.exec
  have hb := B.bytes
  have hr := B.returns
  have hts := atoms_spec (ws := wsJ0_getBytes_840e7) B.pre
  have hown : s.vm.findClass RJ0 = some m.cls := findClass_of_methodNamed B.named
  have hlocks := B.notSynchronized
  have hf_9 := hts (.fieldLink RJ0 9 "java/lang/String" "value" "[B") (by decide +kernel)
  have hS : va_S (aB base) s.heap s.heap [] := va_S.rf
  have hl := lv_entry ([.ref a, .ref bb, .int (nI w), .int 0]) (n := 4) (Nat.le_of_ble_eq_true rfl)
  rw [lg_entry_eq]
  generalize (lg_sl ([.ref a, .ref bb, .int (nI w), .int 0]) ++ List.replicate (4 - (lg_sl ([.ref a, .ref bb, .int (nI w), .int 0])).length) Slot.unset).toArray = ls at hl ⊢
  have hl : lv_has ls 4 [(0, .ref a), (1, .ref bb), (2, .int (nI w)), (3, .int 0)] := hl
  have hF := hSt.toF
  obtain ⟨hn, v, f1, f2, f3, f4⟩ := hSt
  refine lv_aload_n hx hb dJ0_getBytes_840e7_0 rfl (lv_at hl 0 rfl) ?_
  refine call_JsP (As := []) (rest := []) ⟨hx, hb, hml, hown, hts⟩ (tJ0_coder_7d493 (l := l) (base := base) (n := n) (f := f)) (cwV 0 hts gJ0_getBytes_840e7_J0_coder_7d493 rfl rfl rfl (by decide +kernel) ⟨Nat.le_of_ble_eq_true rfl, Nat.le_of_ble_eq_true rfl⟩) hF hbs (fun U hU hW => Env_step rfl rfl hE va_S.rf hU hW) (by rfl) hl.1 rfl (Nat.le_of_ble_eq_true rfl) dJ0_getBytes_840e7_1 ⟨Nat.zero_le _, Nat.zero_le _⟩ ?_
  refine lv_iload_n hx hb dJ0_getBytes_840e7_4 rfl (lv_at hl 3 rfl) ?_
  refine lv_icmp_ne (tgt := 28) hx hb dJ0_getBytes_840e7_5 (by decide) (fun c1 => absurd rfl c1) (fun _ => ?_)
  refine lv_aload_n hx hb dJ0_getBytes_840e7_8 rfl (lv_at hl 0 rfl) ?_
  refine vk_getf hx hb f3 hS hown hf_9 (fun _ h9 => h9) dJ0_getBytes_840e7_9 ?_
  refine lv_iconst (v := 0) hx hb dJ0_getBytes_840e7_12 (by decide) ?_
  refine lv_aload_n hx hb dJ0_getBytes_840e7_13 rfl (lv_at hl 1 rfl) ?_
  refine lv_iload_n hx hb dJ0_getBytes_840e7_14 rfl (lv_at hl 2 rfl) ?_
  refine lv_iload_n hx hb dJ0_getBytes_840e7_15 rfl (lv_at hl 3 rfl) ?_
  refine lv_ishl hx hb dJ0_getBytes_840e7_16 ?_
  rw [sb_shl0]
  refine lv_aload_n hx hb dJ0_getBytes_840e7_17 rfl (lv_at hl 0 rfl) ?_
  refine vk_getf hx hb f3 hS hown hf_9 (fun _ h9 => h9) dJ0_getBytes_840e7_18 ?_
  refine va_tlen hx hb f4 hS (v := nI n) rfl dJ0_getBytes_840e7_21 ?_
  refine vk_copyt hx hb (hml.trans hl.1.symm) hown (hts (.methodLink RJ0 212 arraycopyName) (by decide +kernel)) (hts (.native arraycopyName) (by decide +kernel)) (hts (.static arraycopyName) (by decide +kernel)) (hts (.initialized "java/lang/System") (by decide +kernel)) hK hP hD hS f4 0 0 rfl rfl (by decide) (nI_pos (by omega)) (nI_pos (by omega)) (by rw [sb_cl0, nI_clamp (by omega)]; omega) (by rw [nI_clamp (by omega), nI_clamp (by omega)]; omega) (fun i _ => hfit _) (Nat.le_of_ble_eq_true rfl) (by decide +kernel) dJ0_getBytes_840e7_22 (fun H locs hP hD hS => ?_)
  rw [sb_cl0, nI_clamp (show w < 2 ^ 31 by omega), nI_clamp (show n < 2 ^ 31 by omega)] at hP hD
  refine lv_goto (tgt := 43) hx hb dJ0_getBytes_840e7_25 (by decide) ?_
  exact W.vret hx hb hr (fun t ht _ => retW rfl hP hD hS ht) hS.2.2 dJ0_getBytes_840e7_43
set_option maxHeartbeats 4000000 in
set_option maxRecDepth 100000 in
theorem tJ5_inflateIf {l : Launch} {dC : Nat → ClassId} {dI : Nat → Nat → Nat} {cB : ClassId} {ob sb mm a base n : Nat} {R : va_W} {K : KT} {f : Nat → Int32} : Met l yJ5_inflateIfNeededFor_a7421 wsJ5_inflateIfNeededFor_a7421 { frames := 2, cells := 0, slots := 0, locals := 70 } (cBs (dC, dI) vwCl [(cB, .byte)] base (sbW cB ob sb mm K ++ R) a n f [.ref ob, .ref a]) cQv 0 0 (fun _ => False) := by
  refine Met.ofW (cc := cJ5_inflateIfNeededFor_a7421) (maxL := 2) (ret := none) (by decide) rfl ?_
  intro p e s m args below meth c s₁ B hml hv
  obtain ⟨⟨rfl, hP, hK, hD, hbs, hE⟩, hSt⟩ := hv
  have hx := B.exec
  have hb := B.bytes
  have hr := B.returns
  have hts := atoms_spec (ws := wsJ5_inflateIfNeededFor_a7421) B.pre
  have hown : s.vm.findClass RJ5 = some m.cls := findClass_of_methodNamed B.named
  have hlocks := B.notSynchronized
  have hf_22 := hts (.fieldLink RJ5 22 "java/lang/AbstractStringBuilder" "coder" "B") (by decide +kernel)
  have hwJ4 : ∀ w ∈ u_ws RJ4 TJ4 4, w ∈ wsJ5_inflateIfNeededFor_a7421 := by decide +kernel
  have hS : va_S (aB base) s.heap s.heap [] := va_S.rf
  have hl := lv_entry ([.ref ob, .ref a]) (n := 2) (Nat.le_of_ble_eq_true rfl)
  rw [lg_entry_eq]
  generalize (lg_sl ([.ref ob, .ref a]) ++ List.replicate (2 - (lg_sl ([.ref ob, .ref a])).length) Slot.unset).toArray = ls at hl ⊢
  have hl : lv_has ls 2 [(0, .ref ob), (1, .ref a)] := hl
  refine va_gets hx hb hE.1 va_S.rf hown (hts (.fieldLink RJ5 18 "java/lang/String" "COMPACT_STRINGS" "Z") (by decide +kernel)) (fun _ h9 => h9) dJ5_inflateIfNeededFor_a7421_0 ?_
  refine lv_if_eq (tgt := 21) hx hb dJ5_inflateIfNeededFor_a7421_3 (by decide) (fun c1 => absurd c1 (by decide)) (fun _ => ?_)
  refine lv_aload_n hx hb dJ5_inflateIfNeededFor_a7421_6 rfl (lv_at hl 0 rfl) ?_
  refine va_get (D := (dC, dI)) (ci := 0) (v := .int ((0 : Int32))) (C := RJ4) (T := TJ4) (N := 4) hx hb hts hwJ4 hown hK hP 0 rfl rfl 1 (by decide) hf_22 (fun _ h9 => h9) rfl dJ5_inflateIfNeededFor_a7421_7 ?_
  refine lv_aload_n hx hb dJ5_inflateIfNeededFor_a7421_10 rfl (lv_at hl 1 rfl) ?_
  refine call_JsP (As := []) (rest := [.int 0]) ⟨hx, hb, hml, hown, hts⟩ (tJ0_coder_7d493 (l := l) (base := base) (n := n) (f := f)) (cwV 0 hts gJ5_inflateIfNeededFor_a7421_J0_coder_7d493 rfl rfl rfl (by decide +kernel) ⟨Nat.le_of_ble_eq_true rfl, Nat.le_of_ble_eq_true rfl⟩) hSt.toF hbs (fun U hU hW => Env_step rfl rfl hE va_S.rf hU hW) (by rfl) hl.1 rfl (Nat.le_of_ble_eq_true rfl) dJ5_inflateIfNeededFor_a7421_11 ⟨Nat.zero_le _, Nat.zero_le _⟩ ?_
  refine lv_icmp_eq (tgt := 21) hx hb dJ5_inflateIfNeededFor_a7421_14 (by decide) (fun _ => ?_) (fun c1 => absurd rfl c1)
  exact W.vret hx hb hr (fun t ht _ => ⟨rfl, ht⟩) (fun _ h9 => absurd h9 List.not_mem_nil) dJ5_inflateIfNeededFor_a7421_21
def apS0 (K : KT) (w n : Nat) (f : Nat → Int32) : KT := rset K 0 (va_cpy f (K 0) 0 w n)
set_option maxHeartbeats 4000000 in
set_option maxRecDepth 100000 in
theorem tJ5_putStringAt {l : Launch} {dC : Nat → ClassId} {dI : Nat → Nat → Nat} {cB : ClassId} {ob sb mm a base n w : Nat} {R : va_W} {K : KT} {f : Nat → Int32} (hw : w + n ≤ mm) (hmm : mm ≤ 256) (hfit : sb_Fit f) : Met l yJ5_putStringAt_47b60 wsJ5_putStringAt_47b60 { frames := 3, cells := 0, slots := 0, locals := 130 } (cBs (dC, dI) vwCl [(cB, .byte)] base (sbW cB ob sb mm K ++ R) a n f [.ref ob, .int (nI w), .ref a]) (cBe (dC, dI) vwCl base none (fun ws => ws = sbW cB ob sb mm (apS0 K w n f) ++ R)) 0 0 (aB base) := by
  refine Met.ofW (cc := cJ5_putStringAt_47b60) (maxL := 3) (ret := none) (by decide) rfl ?_
  intro p e s m args below meth c s₁ B hml hv
  obtain ⟨⟨rfl, hP, hK, hD, hbs, hE⟩, hSt⟩ := hv
  have hx := B.exec
  have hb := B.bytes
  have hr := B.returns
  have hts := atoms_spec (ws := wsJ5_putStringAt_47b60) B.pre
  have hown : s.vm.findClass RJ5 = some m.cls := findClass_of_methodNamed B.named
  have hlocks := B.notSynchronized
  have hf_15 := hts (.fieldLink RJ5 15 "java/lang/AbstractStringBuilder" "value" "[B") (by decide +kernel)
  have hf_22 := hts (.fieldLink RJ5 22 "java/lang/AbstractStringBuilder" "coder" "B") (by decide +kernel)
  have hwJ4 : ∀ w ∈ u_ws RJ4 TJ4 4, w ∈ wsJ5_putStringAt_47b60 := by decide +kernel
  have hS : va_S (aB base) s.heap s.heap [] := va_S.rf
  have hl := lv_entry ([.ref ob, .int (nI w), .ref a]) (n := 3) (Nat.le_of_ble_eq_true rfl)
  rw [lg_entry_eq]
  generalize (lg_sl ([.ref ob, .int (nI w), .ref a]) ++ List.replicate (3 - (lg_sl ([.ref ob, .int (nI w), .ref a])).length) Slot.unset).toArray = ls at hl ⊢
  have hl : lv_has ls 3 [(0, .ref ob), (1, .int (nI w)), (2, .ref a)] := hl
  refine lv_aload_n hx hb dJ5_putStringAt_47b60_0 rfl (lv_at hl 0 rfl) ?_
  refine lv_aload_n hx hb dJ5_putStringAt_47b60_1 rfl (lv_at hl 2 rfl) ?_
  refine call_BsUv (As := [.ref a]) (rest := []) ⟨hx, hb, hml, hown, hts⟩ (tJ5_inflateIf (l := l) (dC := dC) (dI := dI) (cB := cB) (ob := ob) (sb := sb) (mm := mm) (a := a) (base := base) (n := n) (R := R) (K := K) (f := f)) (va_cwU 1 hts gJ5_putStringAt_47b60_J5_inflateIfNeededFor_a7421_u397J4 rfl rfl rfl rfl (by decide +kernel) ⟨Nat.le_of_ble_eq_true rfl, Nat.le_of_ble_eq_true rfl⟩) hK hP hD hbs (fun U hU hW => Env_step rfl rfl hE va_S.rf hU hW) (StrB_step hSt va_S.rf) 0 rfl rfl (by rfl) hl.1 rfl (Nat.le_of_ble_eq_true rfl) dJ5_putStringAt_47b60_2 ⟨Nat.zero_le _, Nat.zero_le _⟩ ?_
  refine lv_aload_n hx hb dJ5_putStringAt_47b60_5 rfl (lv_at hl 2 rfl) ?_
  refine lv_aload_n hx hb dJ5_putStringAt_47b60_6 rfl (lv_at hl 0 rfl) ?_
  refine va_get (D := (dC, dI)) (ci := 0) (v := .ref sb) (C := RJ4) (T := TJ4) (N := 4) hx hb hts hwJ4 hown hK hP 0 rfl rfl 0 (by decide) hf_15 (fun _ h9 => h9) rfl dJ5_putStringAt_47b60_7 ?_
  refine lv_iload_n hx hb dJ5_putStringAt_47b60_10 rfl (lv_at hl 1 rfl) ?_
  refine lv_aload_n hx hb dJ5_putStringAt_47b60_11 rfl (lv_at hl 0 rfl) ?_
  refine va_get (D := (dC, dI)) (ci := 0) (v := .int ((0 : Int32))) (C := RJ4) (T := TJ4) (N := 4) hx hb hts hwJ4 hown hK hP 0 rfl rfl 1 (by decide) hf_22 (fun _ h9 => h9) rfl dJ5_putStringAt_47b60_12 ?_
  have hp1 : (sbW cB ob sb mm K ++ R).Perm ((sb, .inl (cB, mm, .inl (K 0))) :: (ob, .inr (0, [.ref sb, .int 0, .int (K 1 1), .int (K 1 0)])) :: R) := List.Perm.swap _ _ _
  refine call_BsVE (As := [.ref sb, .int (nI w), .int 0]) (rest := []) ⟨hx, hb, hml, hown, hts⟩ (tJ0_getBytes (l := l) (dC := dC) (dI := dI) (cB := cB) (a := a) (bb := sb) (mb := mm) (base := base) (n := n) (w := w) (R := (ob, .inr (0, [.ref sb, .int 0, .int (K 1 1), .int (K 1 0)])) :: R) (f := f) (g := K 0) hw hmm hfit) (cwV 3 hts gJ5_putStringAt_47b60_J0_getBytes_840e7 rfl rfl rfl (by decide +kernel) ⟨Nat.le_of_ble_eq_true rfl, Nat.le_of_ble_eq_true rfl⟩) hK (P_perm hp1 hP) (D_perm hp1 hD) hS hbs (fun U hU hW => Env_step rfl rfl hE va_S.rf hU hW) (StrB_step hSt va_S.rf) hSt.recv (by rfl) hl.1 rfl (Nat.le_of_ble_eq_true rfl) dJ5_putStringAt_47b60_15 ⟨Nat.le_refl _, Nat.le_refl _⟩ (fun H locs ws9 hW9 hP hD _ hS => ?_)
  subst hW9
  have hp2 : ((sb, .inl (cB, mm, .inl (va_cpy f (K 0) 0 w n))) :: (ob, .inr (0, [.ref sb, .int 0, .int (K 1 1), .int (K 1 0)])) :: R : va_W).Perm (sbW cB ob sb mm (apS0 K w n f) ++ R) := by
    have e0 : apS0 K w n f 0 = va_cpy f (K 0) 0 w n := by unfold apS0; rw [rset_eq]
    have e1 : apS0 K w n f 1 = K 1 := by unfold apS0; rw [rset_ne (by decide)]
    unfold sbW
    rw [e0, e1]
    exact List.Perm.swap _ _ _
  exact W.vret hx hb hr (fun t ht _ => retW rfl (P_perm hp2 hP) (D_perm hp2 hD) hS ht) hS.2.2 dJ5_putStringAt_47b60_18
def apT (K : KT) (w n : Nat) (f : Nat → Int32) : KT := fset (apS0 K w n f) 1 0 (nI (w + n))
set_option maxHeartbeats 4000000 in
set_option maxRecDepth 100000 in
theorem tJ5_appendS {l : Launch} {dC : Nat → ClassId} {dI : Nat → Nat → Nat} {cB : ClassId} {ob sb mm a base n w : Nat} {R : va_W} {K : KT} {f : Nat → Int32} (en : K 1 0 = nI w) (hw : w + n ≤ mm) (hmm : mm ≤ 256) (hfit : sb_Fit f) : Met l yJ5_append_cf1ce wsJ5_append_cf1ce { frames := 4, cells := 0, slots := 0, locals := 160 } (cBs (dC, dI) vwCl [(cB, .byte)] base (sbW cB ob sb mm K ++ R) a n f [.ref ob, .ref a]) (cBe (dC, dI) vwCl base (some (.ref ob)) (fun ws => ws = sbW cB ob sb mm (apT K w n f) ++ R)) 0 0 (aB base) := by
  refine Met.ofW (cc := cJ5_append_cf1ce) (maxL := 3) (ret := (some (.object "java/lang/AbstractStringBuilder"))) (by decide) rfl ?_
  intro p e s m args below meth c s₁ B hml hv
  obtain ⟨⟨rfl, hP, hK, hD, hbs, hE⟩, hSt⟩ := hv
  have hx := B.exec
  have hb := B.bytes
  have hr := B.returns
  have hts := atoms_spec (ws := wsJ5_append_cf1ce) B.pre
  have hown : s.vm.findClass RJ5 = some m.cls := findClass_of_methodNamed B.named
  have hlocks := B.notSynchronized
  have hf_79 := hts (.fieldLink RJ5 79 "java/lang/AbstractStringBuilder" "count" "I") (by decide +kernel)
  have hwJ4 : ∀ w ∈ u_ws RJ4 TJ4 4, w ∈ wsJ5_append_cf1ce := by decide +kernel
  have hS : va_S (aB base) s.heap s.heap [] := va_S.rf
  have hl := lv_entry ([.ref ob, .ref a]) (n := 3) (Nat.le_of_ble_eq_true rfl)
  rw [lg_entry_eq]
  generalize (lg_sl ([.ref ob, .ref a]) ++ List.replicate (3 - (lg_sl ([.ref ob, .ref a])).length) Slot.unset).toArray = ls at hl ⊢
  have hl : lv_has ls 3 [(0, .ref ob), (1, .ref a)] := hl
  refine lv_aload_n hx hb dJ5_append_cf1ce_0 rfl (lv_at hl 1 rfl) ?_
  refine lv_ifnonnull (tgt := 9) hx hb dJ5_append_cf1ce_1 (by decide) ?_
  refine lv_aload_n hx hb dJ5_append_cf1ce_9 rfl (lv_at hl 1 rfl) ?_
  refine call_JsP (As := []) (rest := []) ⟨hx, hb, hml, hown, hts⟩ (tJ0_length_8abf5 (l := l) (base := base) (n := n) (f := f)) (cwV 0 hts gJ5_append_cf1ce_J0_length_8abf5 rfl rfl rfl (by decide +kernel) ⟨Nat.le_of_ble_eq_true rfl, Nat.le_of_ble_eq_true rfl⟩) hSt.toF hbs (fun U hU hW => Env_step rfl rfl hE va_S.rf hU hW) (by rfl) hl.1 rfl (Nat.le_of_ble_eq_true rfl) dJ5_append_cf1ce_10 ⟨Nat.zero_le _, Nat.zero_le _⟩ ?_
  refine lv_istore_n (lv' := [(2, .int (nI n)), (0, .ref ob), (1, .ref a)]) hx hb dJ5_append_cf1ce_13 rfl hl (by decide) rfl (fun ls hl => ?_)
  refine lv_aload_n hx hb dJ5_append_cf1ce_14 rfl (lv_at hl 1 rfl) ?_
  refine lv_aload_n hx hb dJ5_append_cf1ce_15 rfl (lv_at hl 1 rfl) ?_
  refine va_get (D := (dC, dI)) (ci := 0) (v := .int (K 1 0)) (C := RJ4) (T := TJ4) (N := 4) hx hb hts hwJ4 hown hK hP 0 rfl rfl 3 (by decide) hf_79 (fun _ h9 => h9) rfl dJ5_append_cf1ce_16 ?_
  rw [en]
  refine lv_iload_n hx hb dJ5_append_cf1ce_19 rfl (lv_at hl 0 rfl) ?_
  refine lv_iadd hx hb dJ5_append_cf1ce_20 ?_
  rw [nadd]
  refine call_BUE (As := [.int (nI (w + n))]) (rest := []) ⟨hx, hb, hml, hown, hts⟩ (tE_le (l := l) (dC := dC) (dI := dI) (cB := cB) (ob := ob) (sb := sb) (mm := mm) (base := base) (w := w + n) (K := K) (R := R) hw hmm) (va_cwU 1 hts gJ5_append_cf1ce_J5_ensureCapacityInternal_d00df_u100J4 rfl rfl rfl rfl (by decide +kernel) ⟨Nat.le_of_ble_eq_true rfl, Nat.le_of_ble_eq_true rfl⟩) hK hP hD hS hbs (fun U hU hW => Env_step rfl rfl hE va_S.rf hU hW) 0 rfl rfl (by rfl) hl.1 rfl (Nat.le_of_ble_eq_true rfl) dJ5_append_cf1ce_21 ⟨Nat.le_refl _, Nat.le_refl _⟩ (fun H locs ws9 hW9 hP hD _ hS => ?_)
  subst hW9
  refine lv_aload_n hx hb dJ5_append_cf1ce_24 rfl (lv_at hl 1 rfl) ?_
  refine lv_aload_n hx hb dJ5_append_cf1ce_25 rfl (lv_at hl 1 rfl) ?_
  refine va_get (D := (dC, dI)) (ci := 0) (v := .int (K 1 0)) (C := RJ4) (T := TJ4) (N := 4) hx hb hts hwJ4 hown hK hP 0 rfl rfl 3 (by decide) hf_79 (fun _ h9 => h9) rfl dJ5_append_cf1ce_26 ?_
  rw [en]
  refine lv_aload_n hx hb dJ5_append_cf1ce_29 rfl (lv_at hl 2 rfl) ?_
  refine call_BsUE (As := [.int (nI w), .ref a]) (rest := []) ⟨hx, hb, hml, hown, hts⟩ (tJ5_putStringAt (l := l) (dC := dC) (dI := dI) (cB := cB) (ob := ob) (sb := sb) (mm := mm) (a := a) (base := base) (n := n) (w := w) (K := K) (R := R) (f := f) hw hmm hfit) (va_cwU 2 hts gJ5_append_cf1ce_J5_putStringAt_47b60_u208J4 rfl rfl rfl rfl (by decide +kernel) ⟨Nat.le_of_ble_eq_true rfl, Nat.le_of_ble_eq_true rfl⟩) hK hP hD hS (Nat.le_trans hbs hS.1) (fun U hU hW => Env_step rfl rfl hE hS hU hW) (StrB_step hSt hS) 0 rfl rfl (by rfl) hl.1 rfl (Nat.le_of_ble_eq_true rfl) dJ5_append_cf1ce_30 ⟨Nat.le_refl _, Nat.le_refl _⟩ (fun H locs ws9 hW9 hP hD _ hS => ?_)
  subst hW9
  have e1 : apS0 K w n f 1 = K 1 := by unfold apS0; rw [rset_ne (by decide)]
  refine lv_aload_n hx hb dJ5_append_cf1ce_33 rfl (lv_at hl 1 rfl) ?_
  refine lv_dup hx hb dJ5_append_cf1ce_34 rfl ?_
  refine va_get (D := (dC, dI)) (ci := 0) (v := .int (apS0 K w n f 1 0)) (C := RJ4) (T := TJ4) (N := 4) hx hb hts hwJ4 hown hK hP 0 rfl rfl 3 (by decide) hf_79 (fun _ h9 => h9) rfl dJ5_append_cf1ce_35 ?_
  rw [e1, en]
  refine lv_iload_n hx hb dJ5_append_cf1ce_38 rfl (lv_at hl 0 rfl) ?_
  refine lv_iadd hx hb dJ5_append_cf1ce_39 ?_
  rw [nadd]
  refine va_put (D := (dC, dI)) (ci := 0) (v := .int (nI (w + n))) (ty := .int) (C := RJ4) (T := TJ4) (N := 4) hx hb hts hwJ4 tyJ4 tyJ4_ok nmJ4 hown hK hP hD hS 0 rfl rfl 3 (by decide) hf_79 (fun _ h9 => h9) rfl (by decide +kernel) rfl rfl (Nat.le_of_ble_eq_true rfl) dJ5_append_cf1ce_40 (fun H locs hP hD hS => ?_)
  have g0 : apT K w n f 0 = apS0 K w n f 0 := by unfold apT; rw [fset_ne (by decide)]
  have g10 : apT K w n f 1 0 = nI (w + n) := by unfold apT; rw [fset_eq, pk_us]
  have g11 : apT K w n f 1 1 = apS0 K w n f 1 1 := by unfold apT; rw [fset_eq, pk_un (by decide)]
  have hP : va_P (dC, dI) vwCl (sbW cB ob sb mm (apT K w n f) ++ R) H := by
    unfold sbW
    rw [g0, g10, g11]
    exact hP
  have hD : va_D (aB base) (sbW cB ob sb mm (apT K w n f) ++ R) := D_iff.mpr (by have h := D_iff.mp hD; exact h)
  refine lv_aload_n hx hb dJ5_append_cf1ce_43 rfl (lv_at hl 1 rfl) ?_
  exact W.aret hx hb hr (Or.inl ⟨_, rfl⟩) (Or.inr ⟨_, rfl⟩) (fun t ht _ => retW rfl hP hD hS ht) hS.2.2 dJ5_append_cf1ce_44
theorem tJ4_appendS {l : Launch} {dC : Nat → ClassId} {dI : Nat → Nat → Nat} {cB : ClassId} {ob sb mm a base n w : Nat} {R : va_W} {K : KT} {f : Nat → Int32} (en : K 1 0 = nI w) (hw : w + n ≤ mm) (hmm : mm ≤ 256) (hfit : sb_Fit f) : Met l yJ4_append_15ec4 wsJ4_append_15ec4 { frames := 5, cells := 0, slots := 0, locals := 190 } (cBs (dC, dI) vwCl [(cB, .byte)] base (sbW cB ob sb mm K ++ R) a n f [.ref ob, .ref a]) (cBe (dC, dI) vwCl base (some (.ref ob)) (fun ws => ws = sbW cB ob sb mm (apT K w n f) ++ R)) 0 0 (aB base) := by
  refine Met.ofW (cc := cJ4_append_15ec4) (maxL := 2) (ret := (some (.object "java/lang/StringBuilder"))) (by decide) rfl ?_
  intro p e s m args below meth c s₁ B hml hv
  obtain ⟨⟨rfl, hP, hK, hD, hbs, hE⟩, hSt⟩ := hv
  have hx := B.exec
  have hb := B.bytes
  have hr := B.returns
  have hts := atoms_spec (ws := wsJ4_append_15ec4) B.pre
  have hown : s.vm.findClass RJ4 = some m.cls := findClass_of_methodNamed B.named
  have hlocks := B.notSynchronized
  have hS : va_S (aB base) s.heap s.heap [] := va_S.rf
  have hl := lv_entry ([.ref ob, .ref a]) (n := 2) (Nat.le_of_ble_eq_true rfl)
  rw [lg_entry_eq]
  generalize (lg_sl ([.ref ob, .ref a]) ++ List.replicate (2 - (lg_sl ([.ref ob, .ref a])).length) Slot.unset).toArray = ls at hl ⊢
  have hl : lv_has ls 2 [(0, .ref ob), (1, .ref a)] := hl
  refine lv_aload_n hx hb dJ4_append_15ec4_0 rfl (lv_at hl 0 rfl) ?_
  refine lv_aload_n hx hb dJ4_append_15ec4_1 rfl (lv_at hl 1 rfl) ?_
  refine call_BsSUE (As := [.ref a]) (rest := []) (hK.1 0 _ rfl).2 ⟨hx, hb, hml, hown, hts⟩ (tJ5_appendS (l := l) (dC := dC) (dI := dI) (cB := cB) (ob := ob) (sb := sb) (mm := mm) (a := a) (base := base) (R := R) (f := f) en hw hmm hfit) (va_cwSU 1 hts gJ4_append_15ec4_J5_append_cf1ce_s29 rfl rfl rfl (by decide +kernel) ⟨Nat.le_of_ble_eq_true rfl, Nat.le_of_ble_eq_true rfl⟩) hK hP hD hS hbs (fun U hU hW => Env_step rfl rfl hE va_S.rf hU hW) (StrB_step hSt va_S.rf) 0 rfl rfl (by rfl) hl.1 rfl (Nat.le_of_ble_eq_true rfl) dJ4_append_15ec4_2 ⟨Nat.le_refl _, Nat.le_refl _⟩ (fun H locs ws9 hW9 hP hD _ hS => ?_)
  subst hW9
  refine lv_pop hx hb dJ4_append_15ec4_5 rfl ?_
  refine lv_aload_n hx hb dJ4_append_15ec4_6 rfl (lv_at hl 0 rfl) ?_
  exact W.aret hx hb hr (Or.inl ⟨_, rfl⟩) (Or.inr ⟨_, rfl⟩) (fun t ht _ => retW rfl hP hD hS ht) hS.2.2 dJ4_append_15ec4_7
theorem tJ5_getValue {l : Launch} {dC : Nat → ClassId} {dI : Nat → Nat → Nat} {cB : ClassId} {ob sb mm base : Nat} {R : va_W} {K : KT} : Met l yJ5_getValue_6d5f1 wsJ5_getValue_6d5f1 { frames := 1, cells := 0, slots := 0, locals := 40 } (cBp (dC, dI) vwCl [(cB, .byte)] base (sbW cB ob sb mm K ++ R) [.ref ob]) (cBe (dC, dI) vwCl base (some (.ref sb)) (fun ws => ws = sbW cB ob sb mm K ++ R)) 0 0 (aB base) := by
  refine Met.ofW (cc := cJ5_getValue_6d5f1) (maxL := 1) (ret := (some (.array .byte))) (by decide) rfl ?_
  intro p e s m args below meth c s₁ B hml hv
  obtain ⟨rfl, hP, hK, hD, hbs, hE⟩ := hv
  have hx := B.exec
  have hb := B.bytes
  have hr := B.returns
  have hts := atoms_spec (ws := wsJ5_getValue_6d5f1) B.pre
  have hown : s.vm.findClass RJ5 = some m.cls := findClass_of_methodNamed B.named
  have hlocks := B.notSynchronized
  have hf_15 := hts (.fieldLink RJ5 15 "java/lang/AbstractStringBuilder" "value" "[B") (by decide +kernel)
  have hwJ4 : ∀ w ∈ u_ws RJ4 TJ4 4, w ∈ wsJ5_getValue_6d5f1 := by decide +kernel
  have hS : va_S (aB base) s.heap s.heap [] := va_S.rf
  have hl := lv_entry ([.ref ob]) (n := 1) (Nat.le_of_ble_eq_true rfl)
  rw [lg_entry_eq]
  generalize (lg_sl ([.ref ob]) ++ List.replicate (1 - (lg_sl ([.ref ob])).length) Slot.unset).toArray = ls at hl ⊢
  have hl : lv_has ls 1 [(0, .ref ob)] := hl
  refine lv_aload_n hx hb dJ5_getValue_6d5f1_0 rfl (lv_at hl 0 rfl) ?_
  refine va_get (D := (dC, dI)) (ci := 0) (v := .ref sb) (C := RJ4) (T := TJ4) (N := 4) hx hb hts hwJ4 hown hK hP 0 rfl rfl 0 (by decide) hf_15 (fun _ h9 => h9) rfl dJ5_getValue_6d5f1_1 ?_
  exact W.aret hx hb hr (Or.inr ⟨_, rfl⟩) (Or.inr ⟨_, rfl⟩) (fun t ht _ => retW rfl hP hD hS ht) hS.2.2 dJ5_getValue_6d5f1_4
theorem tJ7_checkLength {l : Launch} {n : Nat} (hn : n < 2 ^ 31) : Met l yJ7_checkLength_df160 wsJ7_checkLength_df160 { frames := 1, cells := 0, slots := 0, locals := 40 } (cS [.int 0, .int (nI n)]) cQv 0 0 (fun _ => False) := by
  refine Met.ofW (cc := cJ7_checkLength_df160) (maxL := 2) (ret := none) (by decide) rfl ?_
  intro p e s m args below meth c s₁ B hml hv
  obtain rfl : args = ([.int 0, .int (nI n)] : List Value).toArray := hv
  have hx := B.exec
  have hb := B.bytes
  have hr := B.returns
  have hl := lv_entry ([.int 0, .int (nI n)]) (n := 2) (Nat.le_of_ble_eq_true rfl)
  rw [lg_entry_eq]
  generalize (lg_sl ([.int 0, .int (nI n)]) ++ List.replicate (2 - (lg_sl ([.int 0, .int (nI n)])).length) Slot.unset).toArray = ls at hl ⊢
  have hl : lv_has ls 2 [(0, .int 0), (1, .int (nI n))] := hl
  refine lv_iload_n hx hb dJ7_checkLength_df160_0 rfl (lv_at hl 1 rfl) ?_
  refine lv_iload_n hx hb dJ7_checkLength_df160_1 rfl (lv_at hl 0 rfl) ?_
  refine lv_icmp_ge (tgt := 37) hx hb dJ7_checkLength_df160_2 (by decide) (fun _ => ?_) (fun c1 => absurd (nI_pos' hn) c1)
  exact W.vret hx hb hr (fun t ht _ => ⟨rfl, ht⟩) (fun _ h9 => absurd h9 List.not_mem_nil) dJ7_checkLength_df160_37
theorem call_SVk {p : Program} {l : Launch} {e : Env} {R : Room} {s : State} {m : MethodId} {args : Array Value} {below : List Frame} {meth : Method} {c : Code} {H : Heap} {locs : List Loc} {cells slots : Nat} {Q : State → Prop} {pc : Nat} {ls : Array Slot} {rest st0 : List Value} {y : MethodName} {bytes cc : ByteArray} {maxL nL n index : Nat} {ret : Option FieldType} {ws : List Cond} {rm : Room} {Ts : List Cond} {own : String} {As : List Value} (S : CallFix p m c cc nL s args Ts own) (hM : Met l y ws rm (cS As) cQv 0 0 (fun _ => False)) (cw : CallB R s args own index y bytes maxL ret ws rm 0 0 n ∧ (Cond.static y).before args s = true)
    (hn : As.length = n) (hsz : ls.size = nL) (hst : st0 = As.reverse ++ rest) (hW : (rest.map fun v => v.category).sum ≤ 8) (hdg : decode cc pc = .ok (.invokestatic index, 3)) (hcs : cells ≤ R.cells ∧ slots ≤ R.slots)
    (kk : W p l e R s m args below meth c H locs cells slots Q (F0 m (pc + 3) ls rest)) : W p l e R s m args below meth c H locs cells slots Q (F0 m pc ls st0) :=
  cl_pureV (va_runS (As := As) (rest := rest) S hM cw ⟨cS_blind _, fun U hU hWm => rfl⟩ rfl hn hsz hst (lv_room hW) hdg hcs) kk
set_option maxHeartbeats 4000000 in
set_option maxRecDepth 100000 in
theorem tJ7_copyOfRangeByte {l : Launch} {dC : Nat → ClassId} {dI : Nat → Nat → Nat} {cB : ClassId} {ap mm base q : Nat} {R : va_W} {f : Nat → Int32} (hq : q ≤ mm) (hmm : mm ≤ 256) (hfit : sb_Fit f) : Met l yJ7_copyOfRangeByte_39247 wsJ7_copyOfRangeByte_39247 { frames := 2, cells := 1, slots := 256, locals := 100 } (cBp (dC, dI) vwCl [(cB, .byte)] base ((ap, .inl (cB, mm, .inl f)) :: R) [.ref ap, .int 0, .int (nI q)]) (cNb (dC, dI) vwCl base ((ap, .inl (cB, mm, .inl f)) :: R) cB q (va_cpy f (fun _ => (0 : Int32)) 0 0 q)) 1 256 (aB base) := by
  refine Met.ofW (cc := cJ7_copyOfRangeByte_39247) (maxL := 5) (ret := (some (.array .byte))) (by decide) rfl ?_
  intro p e s m args below meth c s₁ B hml hv
  obtain ⟨rfl, hP, hK, hD, hbs, hE⟩ := hv
  have hx := B.exec
  have hb := B.bytes
  have hr := B.returns
  have hts := atoms_spec (ws := wsJ7_copyOfRangeByte_39247) B.pre
  have hown : s.vm.findClass RJ7 = some m.cls := findClass_of_methodNamed B.named
  have hlocks := B.notSynchronized
  have hS : va_S (aB base) s.heap s.heap [] := va_S.rf
  have hl := lv_entry ([.ref ap, .int 0, .int (nI q)]) (n := 5) (Nat.le_of_ble_eq_true rfl)
  rw [lg_entry_eq]
  generalize (lg_sl ([.ref ap, .int 0, .int (nI q)]) ++ List.replicate (5 - (lg_sl ([.ref ap, .int 0, .int (nI q)])).length) Slot.unset).toArray = ls at hl ⊢
  have hl : lv_has ls 5 [(0, .ref ap), (1, .int 0), (2, .int (nI q))] := hl
  refine lv_iload_n hx hb dJ7_copyOfRangeByte_39247_0 rfl (lv_at hl 1 rfl) ?_
  refine lv_iload_n hx hb dJ7_copyOfRangeByte_39247_1 rfl (lv_at hl 2 rfl) ?_
  refine call_SVk (As := [.int 0, .int (nI q)]) (rest := []) ⟨hx, hb, hml, hown, hts⟩ (tJ7_checkLength (l := l) (n := q) (by omega)) (va_cwS 2 hts gJ7_copyOfRangeByte_39247_J7_checkLength_df160 rfl rfl rfl (by decide +kernel) ⟨Nat.le_of_ble_eq_true rfl, Nat.le_of_ble_eq_true rfl⟩) (by rfl) hl.1 rfl (Nat.le_of_ble_eq_true rfl) dJ7_copyOfRangeByte_39247_2 ⟨Nat.zero_le _, Nat.zero_le _⟩ ?_
  refine lv_iload_n hx hb dJ7_copyOfRangeByte_39247_5 rfl (lv_at hl 2 rfl) ?_
  refine lv_iload_n hx hb dJ7_copyOfRangeByte_39247_6 rfl (lv_at hl 1 rfl) ?_
  refine lv_isub hx hb dJ7_copyOfRangeByte_39247_7 ?_
  rw [show nI q - (0 : Int32) = nI q from nsub (a := q) (b := 0) (Nat.zero_le _)]
  refine lv_istore_n (lv' := [(3, .int (nI q)), (0, .ref ap), (1, .int 0), (2, .int (nI q))]) hx hb dJ7_copyOfRangeByte_39247_8 rfl hl (by decide) rfl (fun ls hl => ?_)
  refine lv_iload_n hx hb dJ7_copyOfRangeByte_39247_9 rfl (lv_at hl 0 rfl) ?_
  refine va_newa (atype := .byte) (ty := .byte) (N' := q) (a0 := (q, .inl (fun _ => 0))) hx hb (hts (.arrayClass .byte) (by decide +kernel)) rfl hK hP hD hS (fun z hz => Nat.le_trans hbs hz) (fun cA => by rw [vp_cell_i]; rfl) (nI_pos (by omega)) (nI_clamp (by omega)) (by show q * 1 ≤ 536870912; omega) (Nat.le_refl 1) (by show 0 + q ≤ 256; omega) dJ7_copyOfRangeByte_39247_10 (fun nb cA H hK hP hD hS => ?_)
  have ec : cA = cB := Option.some.inj ((va_nm_byte (hK.2 1 _ rfl).2).symm.trans (va_nm_byte (hK.2 0 _ rfl).2))
  rw [ec] at hK hP hD
  have hP : va_P (dC, dI) vwCl ((nb, .inl (cB, q, .inl (fun _ => 0))) :: (ap, .inl (cB, mm, .inl f)) :: R) H := P_perm (List.perm_append_singleton _ _) hP
  have hD : va_D (aB base) ((nb, .inl (cB, q, .inl (fun _ => (0 : Int32)))) :: (ap, .inl (cB, mm, .inl f)) :: R) := D_perm (List.perm_append_singleton _ _) hD
  refine lv_astore (lv' := [(4, .ref nb), (3, .int (nI q)), (0, .ref ap), (1, .int 0), (2, .int (nI q))]) hx hb dJ7_copyOfRangeByte_39247_12 hl (by decide) rfl (fun ls hl => ?_)
  refine lv_aload_n hx hb dJ7_copyOfRangeByte_39247_14 rfl (lv_at hl 2 rfl) ?_
  refine lv_iload_n hx hb dJ7_copyOfRangeByte_39247_15 rfl (lv_at hl 3 rfl) ?_
  refine lv_aload hx hb dJ7_copyOfRangeByte_39247_16 (lv_at hl 0 rfl) ?_
  refine lv_iconst (v := 0) hx hb dJ7_copyOfRangeByte_39247_18 (by decide) ?_
  refine lv_aload_n hx hb dJ7_copyOfRangeByte_39247_19 rfl (lv_at hl 2 rfl) ?_
  refine va_alen (v := nI mm) hx hb hK hP 1 0 rfl rfl rfl dJ7_copyOfRangeByte_39247_20 ?_
  refine lv_iload_n hx hb dJ7_copyOfRangeByte_39247_21 rfl (lv_at hl 3 rfl) ?_
  refine lv_isub hx hb dJ7_copyOfRangeByte_39247_22 ?_
  rw [show nI mm - (0 : Int32) = nI mm from nsub (a := mm) (b := 0) (Nat.zero_le _)]
  refine lv_iload_n hx hb dJ7_copyOfRangeByte_39247_23 rfl (lv_at hl 1 rfl) ?_
  refine va_mmin hx hb (hml.trans hl.1.symm) hown (hts (.methodLink RJ7 304 Lib.Math.min.name) (by decide +kernel)) (hts (.static Lib.Math.min.name) (by decide +kernel)) (hts (.initialized "java/lang/Math") (by decide +kernel)) (hts (.code Lib.Math.min.name Lib.Math.min.code 2 (some .int)) (by decide +kernel)) (Nat.le_of_ble_eq_true rfl) (Nat.le_of_ble_eq_true rfl) (Nat.le_refl 1) (by show 0 + q ≤ 256; omega) dJ7_copyOfRangeByte_39247_24 ?_
  have emin : (if nI q < nI mm then nI q else nI mm) = nI q := by
    by_cases w : q = mm
    · subst w; rw [if_neg (nI_nlt (Nat.le_refl _) (by omega))]
    · rw [if_pos (nI_lt (by omega) (by omega))]
  rw [emin]
  refine va_copyi hx hb (hml.trans hl.1.symm) hown (hts (.methodLink RJ7 150 arraycopyName) (by decide +kernel)) (hts (.native arraycopyName) (by decide +kernel)) (hts (.static arraycopyName) (by decide +kernel)) (hts (.initialized "java/lang/System") (by decide +kernel)) hK hP hD hS 1 0 0 0 rfl rfl rfl rfl rfl (by decide) (by decide) (nI_pos (by omega)) (by rw [sb_cl0, nI_clamp (by omega)]; omega) (by rw [sb_cl0, nI_clamp (by omega)]; omega) (fun i _ => hfit _) (Nat.le_of_ble_eq_true rfl) (by decide +kernel) dJ7_copyOfRangeByte_39247_27 (fun H locs hP hD hS => ?_)
  rw [sb_cl0, nI_clamp (show q < 2 ^ 31 by omega)] at hP hD
  refine lv_aload hx hb dJ7_copyOfRangeByte_39247_30 (lv_at hl 0 rfl) ?_
  exact W_le (by omega) (by omega) (W.aret hx hb hr (Or.inr ⟨_, rfl⟩) (Or.inr ⟨_, rfl⟩) (fun t ht _ => ⟨nb, rfl, by rw [ht]; exact hP, hD, hS.F ht⟩) hS.2.2 dJ7_copyOfRangeByte_39247_32)
set_option maxHeartbeats 4000000 in
set_option maxRecDepth 100000 in
theorem tJ7_copyOfRange {l : Launch} {dC : Nat → ClassId} {dI : Nat → Nat → Nat} {cB : ClassId} {ap mm base q : Nat} {R : va_W} {f : Nat → Int32} (hq : q < mm) (hmm : mm ≤ 256) (hfit : sb_Fit f) : Met l yJ7_copyOfRange_39247 wsJ7_copyOfRange_39247 { frames := 3, cells := 1, slots := 256, locals := 130 } (cBp (dC, dI) vwCl [(cB, .byte)] base ((ap, .inl (cB, mm, .inl f)) :: R) [.ref ap, .int 0, .int (nI q)]) (cNb (dC, dI) vwCl base ((ap, .inl (cB, mm, .inl f)) :: R) cB q (va_cpy f (fun _ => (0 : Int32)) 0 0 q)) 1 256 (aB base) := by
  refine Met.ofW (cc := cJ7_copyOfRange_39247) (maxL := 3) (ret := (some (.array .byte))) (by decide) rfl ?_
  intro p e s m args below meth c s₁ B hml hv
  obtain ⟨rfl, hP, hK, hD, hbs, hE⟩ := hv
  have hx := B.exec
  have hb := B.bytes
  have hr := B.returns
  have hts := atoms_spec (ws := wsJ7_copyOfRange_39247) B.pre
  have hown : s.vm.findClass RJ7 = some m.cls := findClass_of_methodNamed B.named
  have hlocks := B.notSynchronized
  have hS : va_S (aB base) s.heap s.heap [] := va_S.rf
  have hl := lv_entry ([.ref ap, .int 0, .int (nI q)]) (n := 3) (Nat.le_of_ble_eq_true rfl)
  rw [lg_entry_eq]
  generalize (lg_sl ([.ref ap, .int 0, .int (nI q)]) ++ List.replicate (3 - (lg_sl ([.ref ap, .int 0, .int (nI q)])).length) Slot.unset).toArray = ls at hl ⊢
  have hl : lv_has ls 3 [(0, .ref ap), (1, .int 0), (2, .int (nI q))] := hl
  refine lv_iload_n hx hb dJ7_copyOfRange_39247_0 rfl (lv_at hl 1 rfl) ?_
  refine lv_if_ne (tgt := 10) hx hb dJ7_copyOfRange_39247_1 (by decide) (fun c1 => absurd rfl c1) (fun _ => ?_)
  refine lv_iload_n hx hb dJ7_copyOfRange_39247_4 rfl (lv_at hl 2 rfl) ?_
  refine lv_aload_n hx hb dJ7_copyOfRange_39247_5 rfl (lv_at hl 0 rfl) ?_
  refine va_alen (v := nI mm) hx hb hK hP 0 0 rfl rfl rfl dJ7_copyOfRange_39247_6 ?_
  refine lv_icmp_eq (tgt := 17) hx hb dJ7_copyOfRange_39247_7 (by decide) (fun c1 => absurd ((nI_eq (by omega) (by omega)).mp c1) (by omega)) (fun _ => ?_)
  refine lv_aload_n hx hb dJ7_copyOfRange_39247_10 rfl (lv_at hl 0 rfl) ?_
  refine lv_iload_n hx hb dJ7_copyOfRange_39247_11 rfl (lv_at hl 1 rfl) ?_
  refine lv_iload_n hx hb dJ7_copyOfRange_39247_12 rfl (lv_at hl 2 rfl) ?_
  refine call_SNb (As := [.ref ap, .int 0, .int (nI q)]) (rest := []) ⟨hx, hb, hml, hown, hts⟩ (tJ7_copyOfRangeByte (l := l) (dC := dC) (dI := dI) (cB := cB) (ap := ap) (mm := mm) (base := base) (q := q) (R := R) (f := f) (by omega) hmm hfit) (va_cwS 3 hts gJ7_copyOfRange_39247_J7_copyOfRangeByte_39247 rfl rfl rfl (by decide +kernel) ⟨Nat.le_of_ble_eq_true rfl, Nat.le_of_ble_eq_true rfl⟩) hK hP hD hS hbs (fun U hU hW => Env_step rfl rfl hE va_S.rf hU hW) (by rfl) hl.1 rfl (Nat.le_of_ble_eq_true rfl) dJ7_copyOfRange_39247_13 ⟨Nat.le_refl _, Nat.le_refl _⟩ (fun H locs nb hP hD _ hS => ?_)
  exact W_le (by omega) (by omega) (W.aret hx hb hr (Or.inr ⟨_, rfl⟩) (Or.inr ⟨_, rfl⟩) (fun t ht _ => ⟨nb, rfl, by rw [ht]; exact hP, hD, hS.F ht⟩) hS.2.2 dJ7_copyOfRange_39247_16)
set_option maxHeartbeats 4000000 in
set_option maxRecDepth 100000 in
theorem tJ0_initA {l : Launch} {dC : Nat → ClassId} {dI : Nat → Nat → Nat} {cB : ClassId} {a ob sb mm base q : Nat} {R : va_W} {K : KT} (en : K 1 0 = nI q) (hq : q < mm) (hCF : CF mm K) : Met l yJ0_init_db425 wsJ0_init_db425 { frames := 5, cells := 1, slots := 256, locals := 170 } (cBp (dC, dI) vwCl [(cB, .byte)] base ((a, .inr (4, [.null, .int 0, .int 0, .int 0])) :: (sbW cB ob sb mm K ++ R)) [.ref a, .ref ob, .null]) (cBe (dC, dI) vwCl base none (fun ws => ∃ v, ws = (a, .inr (4, [.ref v, .int 0, .int 0, .int 0])) :: (v, .inl (cB, q, .inl (va_cpy (K 0) (fun _ => (0 : Int32)) 0 0 q))) :: (sbW cB ob sb mm K ++ R))) 1 256 (aB base) := by
  have hmm := hCF.2.1
  refine Met.ofW (cc := cJ0_init_db425) (maxL := 5) (ret := none) (by decide) rfl ?_
  intro p e s m args below meth c s₁ B hml hv
  obtain ⟨rfl, hP, hK, hD, hbs, hE⟩ := hv
  have hx := B.exec
  have hb := B.bytes
  have hr := B.returns
  have hts := atoms_spec (ws := wsJ0_init_db425) B.pre
  have hown : s.vm.findClass RJ0 = some m.cls := findClass_of_methodNamed B.named
  have hlocks := B.notSynchronized
  have hwJ0 : ∀ w ∈ u_ws RJ0 TJ0 4, w ∈ wsJ0_init_db425 := by decide +kernel
  have hf_15 := hts (.fieldLink RJ0 15 "java/lang/String" "coder" "B") (by decide +kernel)
  have hf_9 := hts (.fieldLink RJ0 9 "java/lang/String" "value" "[B") (by decide +kernel)
  have hin : meth.name = "<init>" := (name_of_methodNamed B.named B.method).1
  have hS : va_S (aB base) s.heap s.heap [] := va_S.rf
  have hl := lv_entry ([.ref a, .ref ob, .null]) (n := 5) (Nat.le_of_ble_eq_true rfl)
  rw [lg_entry_eq]
  generalize (lg_sl ([.ref a, .ref ob, .null]) ++ List.replicate (5 - (lg_sl ([.ref a, .ref ob, .null])).length) Slot.unset).toArray = ls at hl ⊢
  have hl : lv_has ls 5 [(0, .ref a), (1, .ref ob), (2, .null)] := hl
  have pf : ∀ v : Value, ((a, .inr (4, [v, .int 0, .int 0, .int 0])) :: (sbW cB ob sb mm K ++ R) : va_W).Perm (sbW cB ob sb mm K ++ ((a, .inr (4, [v, .int 0, .int 0, .int 0])) :: R)) := fun v => List.perm_middle.symm
  refine lv_aload_n hx hb dJ0_init_db425_0 rfl (lv_at hl 0 rfl) ?_
  refine W.objInit hx hb hown (hts (.methodLink RJ0 1 objectInit) (by decide +kernel)) (hts (.instanceMethod objectInit) (by decide +kernel)) (hts _ (List.mem_of_getElem? (i := 3) rfl)) rfl (by rw [hml]; exact hl.1) rfl dJ0_init_db425_1 (Nat.le_of_ble_eq_true rfl) (Nat.le_of_ble_eq_true rfl) ?_
  refine lv_aload_n hx hb dJ0_init_db425_4 rfl (lv_at hl 1 rfl) ?_
  refine call_BUE (As := []) (rest := []) ⟨hx, hb, hml, hown, hts⟩ (tJ5_getValue (l := l) (dC := dC) (dI := dI) (cB := cB) (ob := ob) (sb := sb) (mm := mm) (base := base) (K := K) (R := (a, .inr (4, [.null, .int 0, .int 0, .int 0])) :: R)) (va_cwU 0 hts gJ0_init_db425_J5_getValue_6d5f1_u552J4 rfl rfl rfl rfl (by decide +kernel) ⟨Nat.le_of_ble_eq_true rfl, Nat.le_of_ble_eq_true rfl⟩) hK (P_perm (pf _) hP) (D_perm (pf _) hD) hS hbs (fun U hU hW => Env_step rfl rfl hE va_S.rf hU hW) 0 rfl rfl (by rfl) hl.1 rfl (Nat.le_of_ble_eq_true rfl) dJ0_init_db425_5 ⟨by show 0 ≤ 1; omega, by show 0 ≤ 256; omega⟩ (fun H locs ws9 hW9 hP hD _ hS => ?_)
  subst hW9
  refine lv_astore_n (lv' := [(3, .ref sb), (0, .ref a), (1, .ref ob), (2, .null)]) hx hb dJ0_init_db425_8 rfl hl (by decide) rfl (fun ls hl => ?_)
  refine lv_aload_n hx hb dJ0_init_db425_9 rfl (lv_at hl 2 rfl) ?_
  refine call_BUP (As := []) (rest := []) ⟨hx, hb, hml, hown, hts⟩ (tS_length (l := l) (dC := dC) (dI := dI) (cB := cB) (ob := ob) (sb := sb) (mm := mm) (base := base) (R := (a, .inr (4, [.null, .int 0, .int 0, .int 0])) :: R) (rr := K 1 0) rfl hCF) (va_cwO 0 hts gJ0_init_db425_J4_length_8abf5_u549J4 rfl rfl rfl (b0 := cJ5_length_8abf5) (m0 := 1) (r0 := some .int) (by decide +kernel) (by decide +kernel) ⟨Nat.le_of_ble_eq_true rfl, Nat.le_of_ble_eq_true rfl⟩) hK hP hD (Nat.le_trans hbs hS.1) (fun U hU hW => Env_step rfl rfl hE hS hU hW) 0 rfl rfl (by rfl) hl.1 rfl (Nat.le_of_ble_eq_true rfl) dJ0_init_db425_10 ⟨by show 0 ≤ 1; omega, by show 0 ≤ 256; omega⟩ ?_
  rw [en]
  refine lv_istore (lv' := [(4, .int (nI q)), (3, .ref sb), (0, .ref a), (1, .ref ob), (2, .null)]) hx hb dJ0_init_db425_13 hl (by decide) rfl (fun ls hl => ?_)
  refine lv_aload_n hx hb dJ0_init_db425_15 rfl (lv_at hl 3 rfl) ?_
  refine call_BUP (As := []) (rest := []) ⟨hx, hb, hml, hown, hts⟩ (tJ5_isLatin1_aae02 (l := l) (dC := dC) (dI := dI) (cB := cB) (ob := ob) (sb := sb) (mm := mm) (base := base) (R := (a, .inr (4, [.null, .int 0, .int 0, .int 0])) :: R) (isLat (N := 0)) hCF) (va_cwU 0 hts gJ0_init_db425_J5_isLatin1_aae02_u1047J4 rfl rfl rfl rfl (by decide +kernel) ⟨Nat.le_of_ble_eq_true rfl, Nat.le_of_ble_eq_true rfl⟩) hK hP hD (Nat.le_trans hbs hS.1) (fun U hU hW => Env_step rfl rfl hE hS hU hW) 0 rfl rfl (by rfl) hl.1 rfl (Nat.le_of_ble_eq_true rfl) dJ0_init_db425_16 ⟨by show 0 ≤ 1; omega, by show 0 ≤ 256; omega⟩ ?_
  refine lv_if_eq (tgt := 41) hx hb dJ0_init_db425_19 (by rfl) (fun c1 => absurd c1 (by decide)) (fun _ => ?_)
  have hP := P_perm (pf _).symm hP
  have hD := D_perm (pf _).symm hD
  refine lv_aload_n hx hb dJ0_init_db425_22 rfl (lv_at hl 2 rfl) ?_
  refine lv_iconst (v := 0) hx hb dJ0_init_db425_23 (by decide) ?_
  refine va_putF (D := (dC, dI)) (ci := 4) (v := .int 0) (ty := .byte) (C := RJ0) (T := TJ0) (N := 4) hx hb hts hwJ0 tyJ0 tyJ0_ok nmJ0 hown hK hP hD hS 0 rfl rfl 1 (by decide) hf_15 (fun _ h9 => h9) rfl hin rfl (by decide +kernel) rfl rfl (Nat.le_of_ble_eq_true rfl) dJ0_init_db425_24 (fun H locs hP hD hS => ?_)
  have hP : va_P (dC, dI) vwCl ((a, .inr (4, [.null, .int 0, .int 0, .int 0])) :: (sbW cB ob sb mm K ++ R)) H := hP
  have hD : va_D (aB base) ((a, .inr (4, [.null, .int 0, .int 0, .int 0])) :: (sbW cB ob sb mm K ++ R)) := hD
  refine lv_aload_n hx hb dJ0_init_db425_27 rfl (lv_at hl 2 rfl) ?_
  refine lv_aload_n hx hb dJ0_init_db425_28 rfl (lv_at hl 1 rfl) ?_
  refine lv_iconst (v := 0) hx hb dJ0_init_db425_29 (by decide) ?_
  refine lv_iload hx hb dJ0_init_db425_30 (lv_at hl 0 rfl) ?_
  have hp1 : ((a, .inr (4, [.null, .int 0, .int 0, .int 0])) :: (sbW cB ob sb mm K ++ R) : va_W).Perm ((sb, .inl (cB, mm, .inl (K 0))) :: (a, .inr (4, [.null, .int 0, .int 0, .int 0])) :: (ob, .inr (0, [.ref sb, .int 0, .int (K 1 1), .int (K 1 0)])) :: R) := (List.Perm.cons _ (List.Perm.swap _ _ _)).trans (List.Perm.swap _ _ _)
  refine call_SNb (As := [.ref sb, .int 0, .int (nI q)]) (rest := [.ref a]) ⟨hx, hb, hml, hown, hts⟩ (tJ7_copyOfRange (l := l) (dC := dC) (dI := dI) (cB := cB) (ap := sb) (mm := mm) (base := base) (q := q) (R := (a, .inr (4, [.null, .int 0, .int 0, .int 0])) :: (ob, .inr (0, [.ref sb, .int 0, .int (K 1 1), .int (K 1 0)])) :: R) (f := K 0) hq hmm hCF.2.2.2) (va_cwS 3 hts gJ0_init_db425_J7_copyOfRange_39247 rfl rfl rfl (by decide +kernel) ⟨Nat.le_of_ble_eq_true rfl, Nat.le_of_ble_eq_true rfl⟩) hK (P_perm hp1 hP) (D_perm hp1 hD) hS (Nat.le_trans hbs hS.1) (fun U hU hW => Env_step rfl rfl hE hS hU hW) (by rfl) hl.1 rfl (Nat.le_of_ble_eq_true rfl) dJ0_init_db425_32 ⟨Nat.le_refl _, Nat.le_refl _⟩ (fun H locs nb hP hD _ hS => ?_)
  refine va_putF (D := (dC, dI)) (ci := 4) (v := .ref nb) (ty := .array .byte) (C := RJ0) (T := TJ0) (N := 4) hx hb hts hwJ0 tyJ0 tyJ0_ok nmJ0 hown hK hP hD hS 2 rfl rfl 0 (by decide) hf_9 (fun _ h9 => h9) rfl hin rfl (by decide +kernel) rfl rfl (Nat.le_of_ble_eq_true rfl) dJ0_init_db425_35 (fun H locs hP hD hS => ?_)
  have hP : va_P (dC, dI) vwCl ((nb, .inl (cB, q, .inl (va_cpy (K 0) (fun _ => (0 : Int32)) 0 0 q))) :: (sb, .inl (cB, mm, .inl (K 0))) :: (a, .inr (4, [.ref nb, .int 0, .int 0, .int 0])) :: (ob, .inr (0, [.ref sb, .int 0, .int (K 1 1), .int (K 1 0)])) :: R) H := hP
  have hD : va_D (aB base) ((nb, .inl (cB, q, .inl (va_cpy (K 0) (fun _ => (0 : Int32)) 0 0 q))) :: (sb, .inl (cB, mm, .inl (K 0))) :: (a, .inr (4, [.ref nb, .int 0, .int 0, .int 0])) :: (ob, .inr (0, [.ref sb, .int 0, .int (K 1 1), .int (K 1 0)])) :: R) := hD
  have hp2 : ((nb, .inl (cB, q, .inl (va_cpy (K 0) (fun _ => (0 : Int32)) 0 0 q))) :: (sb, .inl (cB, mm, .inl (K 0))) :: (a, .inr (4, [.ref nb, .int 0, .int 0, .int 0])) :: (ob, .inr (0, [.ref sb, .int 0, .int (K 1 1), .int (K 1 0)])) :: R : va_W).Perm ((a, .inr (4, [.ref nb, .int 0, .int 0, .int 0])) :: (nb, .inl (cB, q, .inl (va_cpy (K 0) (fun _ => (0 : Int32)) 0 0 q))) :: (sbW cB ob sb mm K ++ R)) := (List.Perm.cons _ (List.Perm.swap _ _ _)).trans ((List.Perm.swap _ _ _).trans (List.Perm.cons _ (List.Perm.cons _ (List.Perm.swap _ _ _))))
  refine lv_goto (tgt := 97) hx hb dJ0_init_db425_38 (by rfl) ?_
  exact W_le (by omega) (by omega) (W.vret hx hb hr (fun t ht _ => retB rfl ⟨nb, rfl⟩ (P_perm hp2 hP) (D_perm hp2 hD) hS ht) hS.2.2 dJ0_init_db425_97)
theorem tJ0_initS {l : Launch} {dC : Nat → ClassId} {dI : Nat → Nat → Nat} {cB : ClassId} {a ob sb mm base q : Nat} {R : va_W} {K : KT} (en : K 1 0 = nI q) (hq : q < mm) (hCF : CF mm K) : Met l yJ0_init_81219 wsJ0_init_81219 { frames := 6, cells := 1, slots := 256, locals := 200 } (cBp (dC, dI) vwCl [(cB, .byte)] base ((a, .inr (4, [.null, .int 0, .int 0, .int 0])) :: (sbW cB ob sb mm K ++ R)) [.ref a, .ref ob]) (cBe (dC, dI) vwCl base none (fun ws => ∃ v, ws = (a, .inr (4, [.ref v, .int 0, .int 0, .int 0])) :: (v, .inl (cB, q, .inl (va_cpy (K 0) (fun _ => (0 : Int32)) 0 0 q))) :: (sbW cB ob sb mm K ++ R))) 1 256 (aB base) := by
  refine Met.ofW (cc := cJ0_init_81219) (maxL := 2) (ret := none) (by decide) rfl ?_
  intro p e s m args below meth c s₁ B hml hv
  obtain ⟨rfl, hP, hK, hD, hbs, hE⟩ := hv
  have hx := B.exec
  have hb := B.bytes
  have hr := B.returns
  have hts := atoms_spec (ws := wsJ0_init_81219) B.pre
  have hown : s.vm.findClass RJ0 = some m.cls := findClass_of_methodNamed B.named
  have hlocks := B.notSynchronized
  have hS : va_S (aB base) s.heap s.heap [] := va_S.rf
  have hl := lv_entry ([.ref a, .ref ob]) (n := 2) (Nat.le_of_ble_eq_true rfl)
  rw [lg_entry_eq]
  generalize (lg_sl ([.ref a, .ref ob]) ++ List.replicate (2 - (lg_sl ([.ref a, .ref ob])).length) Slot.unset).toArray = ls at hl ⊢
  have hl : lv_has ls 2 [(0, .ref a), (1, .ref ob)] := hl
  refine lv_aload_n hx hb dJ0_init_81219_0 rfl (lv_at hl 0 rfl) ?_
  refine lv_aload_n hx hb dJ0_init_81219_1 rfl (lv_at hl 1 rfl) ?_
  refine lv_null hx hb dJ0_init_81219_2 ?_
  refine call_IBE (As := [.ref ob, .null]) (rest := []) ⟨hx, hb, hml, hown, hts⟩ (tJ0_initA (l := l) (dC := dC) (dI := dI) (cB := cB) (a := a) (ob := ob) (sb := sb) (mm := mm) (base := base) (q := q) (R := R) (K := K) en hq hCF) (cwI 2 hts gJ0_init_81219_J0_init_db425 rfl rfl rfl (hts (.initialized RJ0) (by decide +kernel)) (hts (.methodLink RJ0 489 yJ0_init_db425) (by decide +kernel)) (hts (.instanceMethod yJ0_init_db425) (by decide +kernel)) rfl (by decide +kernel) ⟨Nat.le_of_ble_eq_true rfl, Nat.le_of_ble_eq_true rfl⟩) hK hP hD hS hbs (fun U hU hW => Env_step rfl rfl hE va_S.rf hU hW) (by rfl) hl.1 rfl (Nat.le_of_ble_eq_true rfl) dJ0_init_81219_3 ⟨Nat.le_refl _, Nat.le_refl _⟩ (fun H locs ws9 hW9 hP hD _ hS => ?_)
  refine W_le (by omega) (by omega) (W.vret hx hb hr (fun t ht _ => ?_) hS.2.2 dJ0_init_81219_6)
  exact retB rfl hW9 hP hD hS ht
theorem dfJ0 : ∀ j, j < 4 → defaultValue (tyJ0 j) = vp_V [.null, .int 0, .int 0, .int 0] j := by
  intro j hj
  rcases (show j = 0 ∨ j = 1 ∨ j = 2 ∨ j = 3 by omega) with rfl | rfl | rfl | rfl <;> rfl
/-- the new String, before what was there -/
def cNs (D : va_G) (cl : List vw_C) (base : Nat) (ws : va_W) (cB : ClassId) (q : Nat) (f : Nat → Int32) : Array Value → State → Outcome → State → Prop := fun _ st oc t => ∃ a v : Nat, oc = .returned (some (.ref a)) ∧ va_P D cl ((a, .inr (4, [.ref v, .int 0, .int 0, .int 0])) :: (v, .inl (cB, q, .inl f)) :: ws) t.heap ∧ va_D (aB base) ((a, .inr (4, [.ref v, .int 0, .int 0, .int 0])) :: (v, .inl (cB, q, .inl f)) :: ws) ∧ va_F (aB base) st t
section KNs
variable {p : Program} {l : Launch} {e : Env} {R : Room} {s : State} {m : MethodId} {args : Array Value} {below : List Frame} {meth : Method} {c : Code} {H : Heap} {locs : List Loc} {cells slots : Nat} {Q : State → Prop}
variable {pc : Nat} {ls : Array Slot} {rest st0 : List Value} {z : Array Value} {H0 : Heap} {mc ms base : Nat} {D : va_G} {cl : List vw_C}
variable {y : MethodName} {bytes cc : ByteArray} {maxL nL n index : Nat} {ret : Option FieldType} {ws : List Cond} {rm : Room} {Ts : List Cond} {own C : String} {b : Addr} {As : List Value} {tys : List (ClassId × FieldType)} {wsC : va_W} {cB : ClassId} {q : Nat} {f : Nat → Int32}
theorem cl_ns (hr : va_Run p l e R s m args below meth c H locs cells slots mc ms (F0 m pc ls st0) rest (cNs D cl base wsC cB q f z) (aB base)) (hS : va_S (aB base) H0 H locs)
    (kk : ∀ (H1 : Heap) (locs1 : List Loc) (a v : Nat), va_P D cl ((a, .inr (4, [.ref v, .int 0, .int 0, .int 0])) :: (v, .inl (cB, q, .inl f)) :: wsC) H1 → va_D (aB base) ((a, .inr (4, [.ref v, .int 0, .int 0, .int 0])) :: (v, .inl (cB, q, .inl f)) :: wsC) → va_S (aB base) H0 H1 locs1 → W p l e R s m args below meth c H1 locs1 (cells + mc) (slots + ms) Q (F0 m (pc + 3) ls (.ref a :: rest))) : W p l e R s m args below meth c H locs cells slots Q (F0 m pc ls st0) := by
  intro T hT X
  obtain ⟨v, st₀, t, T', L1, h0, X', hL, e1, e2, ⟨a, w, hv, hp, hd, hz, hk⟩, st⟩ := hr T hT X
  cases hv
  rw [h0] at hz hk
  obtain ⟨t2, a1, b1⟩ := kk T'.heap (locs ++ L1) a w (by rw [e1]; exact hp) hd
    ⟨Nat.le_trans hS.1 (by rw [e1]; exact hz), fun q h1 h2 => by rw [e1, hk q (Nat.lt_of_lt_of_le h1 hS.1) h2]; exact hS.2.1 q h1 h2, fun q hq => by
      rcases List.mem_append.mp hq with h | h
      · exact hS.2.2 q h
      · exact hL q h⟩ T' rfl X'
  exact ⟨t2, st t2 a1, b1⟩
theorem call_VNs (S : CallFix p m c cc nL s args Ts own) (hM : Met l y ws rm (cBp D cl tys base wsC (.ref b :: As)) (cNs D cl base wsC cB q f) mc ms (aB base)) (cw : CallW R s args own C index y bytes maxL ret ws rm mc ms n) (hK : va_K D cl tys s) (hP : va_P D cl wsC H) (hD : va_D (aB base) wsC) (hS : va_S (aB base) H0 H locs) (hbs : base ≤ H.size) (hEU : ∀ U : State, U.heap = H → s.WarmedH U.vm → EnvB base U) (q0 : Nat) {ci : Nat} {fs : List Value} {T : u_T} {N : Nat} (hc : cl[ci]? = some (C, T, N)) (he : wsC[q0]? = some (b, .inr (ci, fs)))
    (hn : As.length = n) (hsz : ls.size = nL) (hst : st0 = As.reverse ++ .ref b :: rest) (hW : (rest.map fun v => v.category).sum ≤ 8) (hdg : decode cc pc = .ok (.invokevirtual index, 3)) (hcs : cells + mc ≤ R.cells ∧ slots + ms ≤ R.slots)
    (kk : ∀ (H1 : Heap) (locs1 : List Loc) (a v : Nat), va_P D cl ((a, .inr (4, [.ref v, .int 0, .int 0, .int 0])) :: (v, .inl (cB, q, .inl f)) :: wsC) H1 → va_D (aB base) ((a, .inr (4, [.ref v, .int 0, .int 0, .int 0])) :: (v, .inl (cB, q, .inl f)) :: wsC) → va_S (aB base) H0 H1 locs1 → W p l e R s m args below meth c H1 locs1 (cells + mc) (slots + ms) Q (F0 m (pc + 3) ls (.ref a :: rest))) : W p l e R s m args below meth c H locs cells slots Q (F0 m pc ls st0) :=
  cl_ns (va_runV (As := As) (rest := rest) S hM cw ⟨cBp_blind _ _ _ _ _ _, va_recv hK hP hc he, preB hK hP hD hbs hEU _⟩ rfl hn hsz hst (lv_room hW) hdg hcs) hS kk
end KNs
set_option maxHeartbeats 4000000 in
set_option maxRecDepth 100000 in
theorem tJ4_toString {l : Launch} {dC : Nat → ClassId} {dI : Nat → Nat → Nat} {cB : ClassId} {ob sb mm base q : Nat} {R : va_W} {K : KT} (en : K 1 0 = nI q) (hq : q < mm) (hCF : CF mm K) : Met l yJ4_toString_0e30d wsJ4_toString_0e30d { frames := 7, cells := 2, slots := 300, locals := 230 } (cBp (dC, dI) vwCl [(cB, .byte)] base (sbW cB ob sb mm K ++ R) [.ref ob]) (cNs (dC, dI) vwCl base (sbW cB ob sb mm K ++ R) cB q (va_cpy (K 0) (fun _ => (0 : Int32)) 0 0 q)) 2 300 (aB base) := by
  refine Met.ofW (cc := cJ4_toString_0e30d) (maxL := 1) (ret := (some (.object "java/lang/String"))) (by decide) rfl ?_
  intro p e s m args below meth c s₁ B hml hv
  obtain ⟨rfl, hP, hK, hD, hbs, hE⟩ := hv
  have hx := B.exec
  have hb := B.bytes
  have hr := B.returns
  have hts := atoms_spec (ws := wsJ4_toString_0e30d) B.pre
  have hown : s.vm.findClass RJ4 = some m.cls := findClass_of_methodNamed B.named
  have hlocks := B.notSynchronized
  have hwJ0 : ∀ w ∈ u_ws RJ0 TJ0 4, w ∈ wsJ4_toString_0e30d := by decide +kernel
  have hS : va_S (aB base) s.heap s.heap [] := va_S.rf
  have hl := lv_entry ([.ref ob]) (n := 1) (Nat.le_of_ble_eq_true rfl)
  rw [lg_entry_eq]
  generalize (lg_sl ([.ref ob]) ++ List.replicate (1 - (lg_sl ([.ref ob])).length) Slot.unset).toArray = ls at hl ⊢
  have hl : lv_has ls 1 [(0, .ref ob)] := hl
  refine va_new (ci := 4) (fs := [.null, .int 0, .int 0, .int 0]) (C := RJ0) (T := TJ0) (N := 4) hx hb hts hwJ0 tyJ0 tyJ0_ok hown (hts (.classLink RJ4 18 RJ0) (by decide +kernel)) (hts (.instantiable RJ0 4) (by decide +kernel)) (hts (.initialized RJ0) (by decide +kernel)) hK hP hD hS (fun z hz => Nat.le_trans hbs hz) rfl dfJ0 (by show _ ≤ 2; omega) (by show _ ≤ 300; omega) dJ4_toString_0e30d_0 (fun a H hP hD hS => ?_)
  have hP : va_P (dC, dI) vwCl ((a, .inr (4, [.null, .int 0, .int 0, .int 0])) :: (sbW cB ob sb mm K ++ R)) H := P_perm (List.perm_append_singleton _ _) hP
  have hD : va_D (aB base) ((a, .inr (4, [.null, .int 0, .int 0, .int 0])) :: (sbW cB ob sb mm K ++ R)) := D_perm (List.perm_append_singleton _ _) hD
  refine lv_dup hx hb dJ4_toString_0e30d_3 rfl ?_
  refine lv_aload_n hx hb dJ4_toString_0e30d_4 rfl (lv_at hl 0 rfl) ?_
  refine call_IBE (As := [.ref ob]) (rest := [.ref a]) ⟨hx, hb, hml, hown, hts⟩ (tJ0_initS (l := l) (dC := dC) (dI := dI) (cB := cB) (a := a) (ob := ob) (sb := sb) (mm := mm) (base := base) (q := q) (R := R) (K := K) en hq hCF) (cwI 1 hts gJ4_toString_0e30d_J0_init_81219 rfl rfl rfl (hts (.initialized RJ0) (by decide +kernel)) (hts (.methodLink RJ4 137 yJ0_init_81219) (by decide +kernel)) (hts (.instanceMethod yJ0_init_81219) (by decide +kernel)) rfl (by decide +kernel) ⟨Nat.le_of_ble_eq_true rfl, Nat.le_of_ble_eq_true rfl⟩) hK hP hD hS (Nat.le_trans hbs hS.1) (fun U hU hW => Env_step rfl rfl hE hS hU hW) (by rfl) hl.1 rfl (Nat.le_of_ble_eq_true rfl) dJ4_toString_0e30d_5 ⟨by show _ ≤ 2; omega, by show _ ≤ 300; omega⟩ (fun H locs ws9 hW9 hP hD _ hS => ?_)
  obtain ⟨v, rfl⟩ := hW9
  exact W_le (by omega) (by omega) (W.aret hx hb hr (Or.inl ⟨_, rfl⟩) (Or.inr ⟨_, rfl⟩) (fun t ht _ => ⟨a, v, rfl, by rw [ht]; exact hP, hD, hS.F ht⟩) hS.2.2 dJ4_toString_0e30d_8)
/-- a new String's cells, read -/
theorem StrF_of {dC : Nat → ClassId} {dI : Nat → Nat → Nat} {tys : List (ClassId × FieldType)} {cB : ClassId} {args : Array Value} {Ts : List Cond} {s : State} {H : Heap} {a v n : Nat} {x y : Value} {f : Nat → Int32} {W2 : va_W} (hts : ∀ w ∈ Ts, w.before args s = true) (hin : ∀ w ∈ u_ws RJ0 TJ0 4, w ∈ Ts) (hK : va_K (dC, dI) vwCl tys s) (hP : va_P (dC, dI) vwCl ((a, .inr (4, [.ref v, .int 0, x, y])) :: (v, .inl (cB, n, .inl f)) :: W2) H) (t1 : Nat) (hB : tys[t1]? = some (cB, .byte)) (hn : n < 65536) : StrF a n f s H := by
  obtain ⟨r, h1, cell, q1, q2, q3, q4⟩ := hP 0 _ rfl
  have hr : r = (RJ0, TJ0, 4) := Option.some.inj (h1.symm.trans (show vwCl[4]? = some (RJ0, TJ0, 4) from rfl))
  subst hr
  obtain ⟨hSl, hfc, kC, hkC, hkind⟩ := hK.1 4 _ (show vwCl[4]? = some (RJ0, TJ0, 4) from rfl)
  have hvm : cell.vm ≠ .unknown := by rw [q3]; exact fun h => by cases h
  have fld : ∀ k, k < 4 → ∀ w, vp_V [.ref v, .int 0, x, y] k = w → va_OF (TJ0 k).1 (TJ0 k).2.1 (TJ0 k).2.2.1 w a nA s H := fun k hk w hw => by
    obtain ⟨cf, kf, fi, fd, hi, hsl⟩ := hSl k hk
    refine ⟨cf, kf, fi, fd, cell, hi, (u_facts hfc hkC (u_lays hts hin hk) hi).1, q1, hvm, ?_, fun z => z⟩
    rw [hsl, q4 k hk, hw]
  refine ⟨hn, v, ⟨cell, q1, by rw [q3]; rfl, by rw [q2]; exact hfc, fun z => z⟩, fld 1 (by decide) _ rfl, fld 0 (by decide) _ rfl, ?_⟩
  have h2 : H[v]? = some (vp_cell cB (n, .inl f)) := hP 1 _ rfl
  have hA := (hK.2 t1 _ hB).1 n (fun j => .int (f j))
  refine ⟨_, h2, hA, (fun h => by cases h), ?_, ?_, fun j hj => ?_, fun z => z⟩
  · show n ≤ (arrV cB n _).slots.size
    rw [arrV_size]
    exact Nat.le_refl _
  · show (arrV cB n _).slots.size.toInt32 = _
    rw [arrV_size]
  · show (arrV cB n _).slots[j]? = _
    rw [arrV_read _ _ hj]
/-! what 'changes' makes of its two literals -/
def toN {β : Type} (v : Int32) (k : Nat → Option β) : Option β := if 0 ≤ v ∧ v < 100 then k v.toNatClampNeg else none
theorem toN_some {β : Type} {v : Int32} {k : Nat → Option β} {x : β} (h : toN v k = some x) : ∃ j, j < 100 ∧ v = nI j ∧ k j = some x := by
  unfold toN at h
  by_cases q : 0 ≤ v ∧ v < 100
  · rw [if_pos q] at h
    obtain ⟨j, hj, rfl⟩ := nI_of (x := v) (Int32.not_lt.mpr q.1)
    rw [nI_clamp hj] at h
    refine ⟨j, ?_, rfl, h⟩
    have h2 : nI j < nI 100 := q.2
    rw [nlt hj (by decide)] at h2
    exact h2
  · rw [if_neg q] at h; cases h
theorem dg_le2 {x : Nat} (h : x < 100) : sb_dg x ≤ 2 := by
  unfold sb_dg
  (repeat' split) <;> omega
def lK (k : Nat) : KT := apT K00 0 (lLen.getD k 0) (lF k)
theorem lK_1 (k : Nat) : lK k 1 0 = nI (lLen.getD k 0) := by
  unfold lK apT
  rw [fset_eq, pk_us, Nat.zero_add]
theorem lF_fit (k : Nat) (hk : k < 6) : sb_Fit (lF k) := by
  intro j
  by_cases h : j < 8
  · have e : ∀ k, k < 6 → ∀ j, j < 8 → fits .byte (.int (lF k j)) = true := by decide +kernel
    exact e k hk j h
  · have e : ∀ k, k < 6 → (lByt.getD k []).length ≤ 8 := by decide
    have h2 : lF k j = 0 := by
      unfold lF
      rw [List.getD_eq_getElem?_getD, List.getElem?_eq_none (Nat.le_trans (e k hk) (Nat.not_lt.mp h))]
      rfl
    rw [h2]
    decide
theorem lK_CF (k : Nat) (hk : k < 2) : CF 16 (lK k) := by
  have hl : ∀ k, k < 2 → lLen.getD k 0 ≤ 6 := by decide
  have hl2 := hl k hk
  have e0 : lK k 0 = va_cpy (lF k) (K00 0) 0 0 (lLen.getD k 0) := by
    unfold lK apT apS0
    rw [fset_ne (by decide), rset_eq]
  refine ⟨⟨lLen.getD k 0, lK_1 k, by omega⟩, by decide, fun j hj => ?_, ?_⟩
  · rw [e0, pk_cpy_out (Or.inr (by omega))]
    rfl
  · rw [e0]
    exact sb_fitC (lF_fit k (by omega)) sb_fit0
theorem apI_1 (K : KT) (n x : Nat) : apI K n x 1 0 = nI (n + sb_dg x) := by
  unfold apI
  rw [fset_eq, pk_us]
theorem apI_CF {K : KT} {n x : Nat} (h : CF 16 K) (hw : n + sb_dg x ≤ 16) : CF 16 (apI K n x) := by
  have e0 : apI K n x 0 = dput (K 0) (n + sb_dg x) x := by unfold apI; rw [fset_ne (by decide), rset_eq]
  refine ⟨⟨n + sb_dg x, apI_1 K n x, hw⟩, h.2.1, fun j hj => ?_, ?_⟩
  · rw [e0]
    unfold dput
    rw [if_neg (by omega)]
    exact h.2.2.1 j hj
  · rw [e0]; exact dput_fit h.2.2.2
/-- the string's letters -/
def lS (k x : Nat) : Nat → Int32 := va_cpy (apI (lK k) (lLen.getD k 0) x 0) (fun _ => (0 : Int32)) 0 0 (lLen.getD k 0 + sb_dg x)
theorem StrB_lit {base b L : Nat} {xs : Nat → Int32} {adK adV : Nat → Nat} {s : State} {H : Heap} {locs : List Loc} (hE : EnvL base b L xs adK adV s) (hS : va_S (aB base) s.heap H locs) {k : Nat} (hk : k < 6) : ∀ U : State, U.heap = H → s.WarmedH U.vm → StrB base (adK k) (lLen.getD k 0) (lF k) U U.heap := by
  intro U hU hW
  obtain ⟨-, -, e4, -⟩ := EnvL_step hE hS hU hW
  obtain ⟨h1, h2, h3, h4⟩ := e4.1 k hk
  have hl : ∀ k, k < 6 → lLen.getD k 0 < 65536 := by decide
  exact ⟨hl k hk, adV k, h1, h2, h3, h4⟩
theorem P_drop {D : va_G} {cl : List vw_C} {A B C : va_W} {H : Heap} (h : va_P D cl (A ++ (B ++ C)) H) : va_P D cl (A ++ C) H := P_app.mpr ⟨(P_app.mp h).1, (P_app.mp (P_app.mp h).2).2⟩
theorem D_drop {Q : Nat → Prop} {A B C : va_W} (h : va_D Q (A ++ (B ++ C))) : va_D Q (A ++ C) := by
  have h2 := D_iff.mp h
  simp only [List.map_append] at h2
  refine D_iff.mpr ?_
  simp only [List.map_append]
  refine ⟨h2.1.sublist ((List.Sublist.refl _).append (List.sublist_append_right _ _)), fun q hq => h2.2 q ?_⟩
  rcases List.mem_append.mp hq with q1 | q1
  · exact List.mem_append_left _ q1
  · exact List.mem_append_right _ (List.mem_append_right _ q1)
