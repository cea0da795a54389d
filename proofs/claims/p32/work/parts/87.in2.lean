/-! ===== the constructors (2) ===== -/
theorem arr_congrQ {cA : ClassId} {n : Nat} {f g : Nat → Option Nat} (h : ∀ i, i < n → f i = g i) : vp_cell cA (n, .inr (.inr (.inr (.inr f)))) = vp_cell cA (n, .inr (.inr (.inr (.inr g)))) := by
  rw [vp_cell_q, vp_cell_q]
  unfold arrV
  congr 2
  funext j
  exact congrArg va_rf (h j.val j.isLt)
theorem P_swapq {D : va_G} {cl : List vw_C} {X Y : va_W} {a n : Nat} {cA : ClassId} {f g : Nat → Option Nat} {H : Heap} (h : ∀ i, i < n → f i = g i) (hP : va_P D cl (X ++ ((a, .inl (cA, n, .inr (.inr (.inr (.inr f))))) :: Y)) H) : va_P D cl (X ++ ((a, .inl (cA, n, .inr (.inr (.inr (.inr g))))) :: Y)) H := by
  rw [P_app] at hP ⊢
  refine ⟨hP.1, P_mem.mpr fun x hx => ?_⟩
  rcases List.mem_cons.mp hx with e | hx
  · have h2 := P_mem.mp hP.2 (a, .inl (cA, n, .inr (.inr (.inr (.inr f))))) List.mem_cons_self
    have h3 : H[a]? = some (vp_cell cA (n, .inr (.inr (.inr (.inr f))))) := h2
    rw [e]
    show H[a]? = some (vp_cell cA (n, .inr (.inr (.inr (.inr g)))))
    rw [h3, arr_congrQ h]
  · exact P_mem.mp hP.2 x (List.mem_cons_of_mem _ hx)
section KI
variable {p : Program} {l : Launch} {e : Env} {R : Room} {s : State} {m : MethodId} {args : Array Value} {below : List Frame} {meth : Method} {c : Code} {H : Heap} {locs : List Loc} {cells slots : Nat} {Q : State → Prop}
variable {pc : Nat} {ls : Array Slot} {rest st0 : List Value} {H0 : Heap} {mc ms base : Nat} {D : va_G} {cl : List vw_C} {o : Option Value} {Wp : va_W → Prop}
variable {y : MethodName} {bytes cc : ByteArray} {maxL nL n index : Nat} {ws : List Cond} {rm : Room} {Ts : List Cond} {own host : String} {b : Addr} {As : List Value} {tys : List (ClassId × FieldType)} {wsC : va_W}
theorem call_IBE (S : CallFix p m c cc nL s args Ts own) (hM : Met l y ws rm (cBp D cl tys base wsC (.ref b :: As)) (cBe D cl base o Wp) mc ms (aB base)) (cw : CallB R s args own index y bytes maxL none ws rm mc ms n ∧ y.name = "<init>" ∧ (Cond.instanceMethod y).before args s = true) (hK : va_K D cl tys s) (hP : va_P D cl wsC H) (hD : va_D (aB base) wsC) (hS : va_S (aB base) H0 H locs) (hbs : base ≤ H.size) (hEU : ∀ U : State, U.heap = H → s.WarmedH U.vm → EnvB base U)
    (hn : As.length = n) (hsz : ls.size = nL) (hst : st0 = As.reverse ++ .ref b :: rest) (hW : (rest.map fun v => v.category).sum ≤ 8) (hdg : decode cc pc = .ok (.invokespecial index, 3)) (hcs : cells + mc ≤ R.cells ∧ slots + ms ≤ R.slots)
    (kk : ∀ (H1 : Heap) (locs1 : List Loc) (ws1 : va_W), Wp ws1 → va_P D cl ws1 H1 → va_D (aB base) ws1 → H.size ≤ H1.size → va_S (aB base) H0 H1 locs1 → W p l e R s m args below meth c H1 locs1 (cells + mc) (slots + ms) Q (F0 m (pc + 3) ls (o.toList ++ rest))) : W p l e R s m args below meth c H locs cells slots Q (F0 m pc ls st0) :=
  cl_big (va_runI (As := As) (rest := rest) S hM cw ⟨cBp_blind _ _ _ _ _ _, preB hK hP hD hbs hEU _⟩ rfl hn hsz hst (lv_room hW) hdg hcs) hS kk
theorem call_INBE (S : CallFix p m c cc nL s args Ts own) (hM : Met l y ws rm (cBp D cl tys base wsC (.ref b :: As)) (cBe D cl base o Wp) mc ms (aB base)) (cw : va_CN R s args own index y host bytes maxL none ws rm mc ms n ∧ y.name = "<init>" ∧ (Cond.instanceMethod y).before args s = true) (hK : va_K D cl tys s) (hP : va_P D cl wsC H) (hD : va_D (aB base) wsC) (hS : va_S (aB base) H0 H locs) (hbs : base ≤ H.size) (hEU : ∀ U : State, U.heap = H → s.WarmedH U.vm → EnvB base U)
    (hn : As.length = n) (hsz : ls.size = nL) (hst : st0 = As.reverse ++ .ref b :: rest) (hW : (rest.map fun v => v.category).sum ≤ 8) (hdg : decode cc pc = .ok (.invokespecial index, 3)) (hcs : cells + mc ≤ R.cells ∧ slots + ms ≤ R.slots)
    (kk : ∀ (H1 : Heap) (locs1 : List Loc) (ws1 : va_W), Wp ws1 → va_P D cl ws1 H1 → va_D (aB base) ws1 → H.size ≤ H1.size → va_S (aB base) H0 H1 locs1 → W p l e R s m args below meth c H1 locs1 (cells + mc) (slots + ms) Q (F0 m (pc + 3) ls (o.toList ++ rest))) : W p l e R s m args below meth c H locs cells slots Q (F0 m pc ls st0) :=
  cl_big (va_runIN (As := As) (rest := rest) S hM cw ⟨cBp_blind _ _ _ _ _ _, preB hK hP hD hbs hEU _⟩ rfl hn hsz hst (lv_room hW) hdg hcs) hS kk
end KI
def K00 : KT := fun _ _ => 0
theorem dfJ4 : ∀ j, j < 4 → defaultValue (tyJ4 j) = vp_V [.null, .int 0, .int 0, .int 0] j := by
  intro j hj
  rcases (show j = 0 ∨ j = 1 ∨ j = 2 ∨ j = 3 by omega) with rfl | rfl | rfl | rfl <;> rfl
theorem dfX0 : ∀ j, j < 16 → defaultValue (tyX0 j) = vp_V [.null, .null, .null, .null, .null, .null, .null, .null, .null, .null, .int 0, .int 0, .int 0, .int 0, .int 0, .int 0] j := by
  intro j hj
  rcases (show j = 0 ∨ j = 1 ∨ j = 2 ∨ j = 3 ∨ j = 4 ∨ j = 5 ∨ j = 6 ∨ j = 7 ∨ j = 8 ∨ j = 9 ∨ j = 10 ∨ j = 11 ∨ j = 12 ∨ j = 13 ∨ j = 14 ∨ j = 15 by omega) with rfl | rfl | rfl | rfl | rfl | rfl | rfl | rfl | rfl | rfl | rfl | rfl | rfl | rfl | rfl | rfl <;> rfl
theorem dfX1 : ∀ j, j < 6 → defaultValue (tyX1 j) = vp_V [.null, .int 0, .int 0, .int 0, .int 0, .int 0] j := by
  intro j hj
  rcases (show j = 0 ∨ j = 1 ∨ j = 2 ∨ j = 3 ∨ j = 4 ∨ j = 5 by omega) with rfl | rfl | rfl | rfl | rfl | rfl <;> rfl
def rmJ5_init_d00df : Room := { frames := 2, cells := 1, slots := 16, locals := 40 }
set_option maxHeartbeats 8000000 in
set_option maxRecDepth 100000 in
theorem tJ5_init_d00df {l : Launch} {dC : Nat → ClassId} {dI : Nat → Nat → Nat} {cB : ClassId} {ob base : Nat} {R : va_W} : Met l yJ5_init_d00df wsJ5_init_d00df rmJ5_init_d00df (cBp (dC, dI) vwCl [(cB, .byte)] base ((ob, .inr (0, [.null, .int 0, .int 0, .int 0])) :: R) [.ref ob, .int 16]) (cBe (dC, dI) vwCl base none (fun ws => ∃ b, ws = sbW cB ob b 16 K00 ++ R)) 1 16 (aB base) := by
  refine Met.ofW (cc := cJ5_init_d00df) (maxL := 2) (ret := none) (by decide) rfl ?_
  intro p e s m args below meth c s₁ B hml hv
  obtain ⟨rfl, hP, hK, hD, hbs, hE⟩ := hv
  have hx := B.exec
  have hb := B.bytes
  have hr := B.returns
  have hts := atoms_spec (ws := wsJ5_init_d00df) B.pre
  have hown : s.vm.findClass RJ5 = some m.cls := findClass_of_methodNamed B.named
  have hlocks := B.notSynchronized
  have hin : meth.name = "<init>" := (name_of_methodNamed B.named B.method).1
  have hf_15 := hts (.fieldLink RJ5 15 "java/lang/AbstractStringBuilder" "value" "[B") (by decide +kernel)
  have hf_22 := hts (.fieldLink RJ5 22 "java/lang/AbstractStringBuilder" "coder" "B") (by decide +kernel)
  have hwJ4 : ∀ w ∈ u_ws RJ4 TJ4 4, w ∈ wsJ5_init_d00df := by decide +kernel
  have hS : va_S (aB base) s.heap s.heap [] := va_S.rf
  have hl := lv_entry ([.ref ob, .int 16]) (n := 2) (Nat.le_of_ble_eq_true rfl)
  rw [lg_entry_eq]
  generalize (lg_sl ([.ref ob, .int 16]) ++ List.replicate (2 - (lg_sl ([.ref ob, .int 16])).length) Slot.unset).toArray = ls at hl ⊢
  have hl : lv_has ls 2 [(0, .ref ob), (1, .int 16)] := hl
  refine lv_aload_n hx hb dJ5_init_d00df_0 rfl (lv_at hl 0 rfl) ?_
  refine W.objInit hx hb hown (hts (.methodLink RJ5 3 objectInit) (by decide +kernel)) (hts (.instanceMethod objectInit) (by decide +kernel)) (hts _ (List.mem_of_getElem? (i := 3) rfl)) rfl (by rw [hml]; exact hl.1) rfl dJ5_init_d00df_1 (Nat.le_of_ble_eq_true rfl) (Nat.le_of_ble_eq_true rfl) ?_
  refine W.eq (g2 := F0 m 4 ls []) rfl ?_
  refine va_gets hx hb hE.1 va_S.rf hown (hts (.fieldLink RJ5 18 "java/lang/String" "COMPACT_STRINGS" "Z") (by decide +kernel)) (fun _ h9 => h9) dJ5_init_d00df_4 ?_
  refine lv_if_eq (tgt := 25) hx hb dJ5_init_d00df_7 (by decide) (fun c1 => absurd c1 (by decide)) (fun _ => ?_)
  refine lv_aload_n hx hb dJ5_init_d00df_10 rfl (lv_at hl 0 rfl) ?_
  refine lv_iload_n hx hb dJ5_init_d00df_11 rfl (lv_at hl 1 rfl) ?_
  refine va_newa (atype := .byte) (ty := .byte) (N' := 16) (a0 := (16, .inl (fun _ => 0))) hx hb (hts (.arrayClass .byte) (by decide +kernel)) rfl hK hP hD hS (fun z hz => Nat.le_trans hbs hz) (fun cA => by rw [vp_cell_i]; rfl) (by decide) (by decide) (by decide) (by show _ ≤ 1; omega) (by show _ ≤ 16; omega) dJ5_init_d00df_12 (fun b cA H hK2 hP hD hS => ?_)
  have ec : cA = cB := Option.some.inj ((va_nm_byte (hK2.2 1 _ rfl).2).symm.trans (va_nm_byte (hK.2 0 _ rfl).2))
  rw [ec] at hP hD
  clear hK2 ec
  have hP := P_perm (perm_ins [(ob, .inr (0, [.null, .int 0, .int 0, .int 0]))] R _) hP
  have hD := D_perm (perm_ins [(ob, .inr (0, [.null, .int 0, .int 0, .int 0]))] R _) hD
  refine va_put (D := (dC, dI)) (ci := 0) (v := .ref b) (ty := .array .byte) (C := RJ4) (T := TJ4) (N := 4) hx hb hts hwJ4 tyJ4 tyJ4_ok nmJ4 hown hK hP hD hS 0 rfl rfl 0 (by decide) hf_15 (fun _ h9 => h9) rfl (by decide +kernel) rfl rfl (Nat.le_of_ble_eq_true rfl) dJ5_init_d00df_14 (fun H locs hP hD hS => ?_)
  refine lv_aload_n hx hb dJ5_init_d00df_17 rfl (lv_at hl 0 rfl) ?_
  refine lv_iconst (v := 0) hx hb dJ5_init_d00df_18 (by decide) ?_
  refine va_put (D := (dC, dI)) (ci := 0) (v := .int 0) (ty := .byte) (C := RJ4) (T := TJ4) (N := 4) hx hb hts hwJ4 tyJ4 tyJ4_ok nmJ4 hown hK hP hD hS 0 rfl rfl 1 (by decide) hf_22 (fun _ h9 => h9) rfl (by decide +kernel) rfl rfl (Nat.le_of_ble_eq_true rfl) dJ5_init_d00df_19 (fun H locs hP hD hS => ?_)
  have hP : va_P (dC, dI) vwCl (sbW cB ob b 16 K00 ++ R) H := hP
  have hD : va_D (aB base) (sbW cB ob b 16 K00 ++ R) := D_iff.mpr (by have h := D_iff.mp hD; exact h)
  refine lv_goto (tgt := 38) hx hb dJ5_init_d00df_22 (by decide) ?_
  exact W_le (by omega) (by omega) (W.vret hx hb hr (fun t ht _ => retB rfl ⟨b, rfl⟩ hP hD hS ht) hS.2.2 dJ5_init_d00df_38)
def rmJ4_init_da8c8 : Room := { frames := 3, cells := 1, slots := 16, locals := 70 }
set_option maxHeartbeats 8000000 in
set_option maxRecDepth 100000 in
theorem tJ4_init_da8c8 {l : Launch} {dC : Nat → ClassId} {dI : Nat → Nat → Nat} {cB : ClassId} {ob base : Nat} {R : va_W} : Met l yJ4_init_da8c8 wsJ4_init_da8c8 rmJ4_init_da8c8 (cBp (dC, dI) vwCl [(cB, .byte)] base ((ob, .inr (0, [.null, .int 0, .int 0, .int 0])) :: R) [.ref ob]) (cBe (dC, dI) vwCl base none (fun ws => ∃ b, ws = sbW cB ob b 16 K00 ++ R)) 1 16 (aB base) := by
  refine Met.ofW (cc := cJ4_init_da8c8) (maxL := 1) (ret := none) (by decide) rfl ?_
  intro p e s m args below meth c s₁ B hml hv
  obtain ⟨rfl, hP, hK, hD, hbs, hE⟩ := hv
  have hx := B.exec
  have hb := B.bytes
  have hr := B.returns
  have hts := atoms_spec (ws := wsJ4_init_da8c8) B.pre
  have hown : s.vm.findClass RJ4 = some m.cls := findClass_of_methodNamed B.named
  have hlocks := B.notSynchronized
  have hin : meth.name = "<init>" := (name_of_methodNamed B.named B.method).1
  have hS : va_S (aB base) s.heap s.heap [] := va_S.rf
  have hl := lv_entry ([.ref ob]) (n := 1) (Nat.le_of_ble_eq_true rfl)
  rw [lg_entry_eq]
  generalize (lg_sl ([.ref ob]) ++ List.replicate (1 - (lg_sl ([.ref ob])).length) Slot.unset).toArray = ls at hl ⊢
  have hl : lv_has ls 1 [(0, .ref ob)] := hl
  refine lv_aload_n hx hb dJ4_init_da8c8_0 rfl (lv_at hl 0 rfl) ?_
  refine lv_bipush (v := 16) hx hb dJ4_init_da8c8_1 (by decide) ?_
  refine call_IBE (As := [.int 16]) (rest := []) ⟨hx, hb, hml, hown, hts⟩ (tJ5_init_d00df (l := l) (dC := dC) (dI := dI) (cB := cB) (ob := ob) (base := base) (R := R)) (cwI 1 hts gJ4_init_da8c8_J5_init_d00df rfl rfl rfl (hts (.initialized RJ5) (by decide +kernel)) (hts (.methodLink RJ4 1 yJ5_init_d00df) (by decide +kernel)) (hts (.instanceMethod yJ5_init_d00df) (by decide +kernel)) rfl (by decide +kernel) ⟨Nat.le_of_ble_eq_true rfl, Nat.le_of_ble_eq_true rfl⟩) hK hP hD hS hbs (fun U hU hW => Env_step rfl rfl hE va_S.rf hU hW) (by rfl) hl.1 rfl (Nat.le_of_ble_eq_true rfl) dJ4_init_da8c8_3 ⟨Nat.le_refl _, Nat.le_refl _⟩ (fun H locs ws9 hW9 hP hD _ hS => ?_)
  exact W_le (by omega) (by omega) (W.vret hx hb hr (fun t ht _ => retB rfl hW9 hP hD hS ht) hS.2.2 dJ4_init_da8c8_6)
def rmX1_init : Room := { frames := 4, cells := 2, slots := 20, locals := 100 }
set_option maxHeartbeats 8000000 in
set_option maxRecDepth 100000 in
theorem tX1_init {l : Launch} {dC : Nat → ClassId} {dI : Nat → Nat → Nat} {cB : ClassId} {ob base : Nat} {R : va_W} : Met l yX1_init wsX1_init rmX1_init (cBp (dC, dI) vwCl [(cB, .byte)] base ((ob, .inr (2, [.null, .int 0, .int 0, .int 0, .int 0, .int 0])) :: R) [.ref ob]) (cBe (dC, dI) vwCl base none (fun ws => ∃ a b, ws = cmW cB ob a b 16 K00 ++ R)) 2 20 (aB base) := by
  refine Met.ofW (cc := cX1_init) (maxL := 1) (ret := none) (by decide) rfl ?_
  intro p e s m args below meth c s₁ B hml hv
  obtain ⟨rfl, hP, hK, hD, hbs, hE⟩ := hv
  have hx := B.exec
  have hb := B.bytes
  have hr := B.returns
  have hts := atoms_spec (ws := wsX1_init) B.pre
  have hown : s.vm.findClass RX1 = some m.cls := findClass_of_methodNamed B.named
  have hlocks := B.notSynchronized
  have hin : meth.name = "<init>" := (name_of_methodNamed B.named B.method).1
  have hf_12 := hts (.fieldLink RX1 12 "CaravanLogs$Commands" "text" "Ljava/lang/StringBuilder;") (by decide +kernel)
  have hf_18 := hts (.fieldLink RX1 18 "CaravanLogs$Commands" "at" "I") (by decide +kernel)
  have hf_22 := hts (.fieldLink RX1 22 "CaravanLogs$Commands" "kind" "I") (by decide +kernel)
  have hf_25 := hts (.fieldLink RX1 25 "CaravanLogs$Commands" "first" "I") (by decide +kernel)
  have hf_28 := hts (.fieldLink RX1 28 "CaravanLogs$Commands" "second" "I") (by decide +kernel)
  have hf_31 := hts (.fieldLink RX1 31 "CaravanLogs$Commands" "third" "I") (by decide +kernel)
  have hwX1 : ∀ w ∈ u_ws RX1 TX1 6, w ∈ wsX1_init := by decide +kernel
  have hwJ4 : ∀ w ∈ u_ws RJ4 TJ4 4, w ∈ wsX1_init := by decide +kernel
  have hS : va_S (aB base) s.heap s.heap [] := va_S.rf
  have hl := lv_entry ([.ref ob]) (n := 1) (Nat.le_of_ble_eq_true rfl)
  rw [lg_entry_eq]
  generalize (lg_sl ([.ref ob]) ++ List.replicate (1 - (lg_sl ([.ref ob])).length) Slot.unset).toArray = ls at hl ⊢
  have hl : lv_has ls 1 [(0, .ref ob)] := hl
  have hA : ∀ q : Nat, s.heap.size ≤ q → aB base q := fun z hz => Nat.le_trans hbs hz
  refine lv_aload_n hx hb dX1_init_0 rfl (lv_at hl 0 rfl) ?_
  refine W.objInit hx hb hown (hts (.methodLink RX1 3 objectInit) (by decide +kernel)) (hts (.instanceMethod objectInit) (by decide +kernel)) (hts _ (List.mem_of_getElem? (i := 3) rfl)) rfl (by rw [hml]; exact hl.1) rfl dX1_init_1 (Nat.le_of_ble_eq_true rfl) (Nat.le_of_ble_eq_true rfl) ?_
  refine W.eq (g2 := F0 m 4 ls []) rfl ?_
  refine lv_aload_n hx hb dX1_init_4 rfl (lv_at hl 0 rfl) ?_
  refine va_new (ci := 0) (fs := [.null, .int 0, .int 0, .int 0]) (C := RJ4) (T := TJ4) (N := 4) hx hb hts hwJ4 tyJ4 tyJ4_ok hown (hts (.classLink RX1 9 RJ4) (by decide +kernel)) (hts (.instantiable RJ4 4) (by decide +kernel)) (hts (.initialized RJ4) (by decide +kernel)) hK hP hD hS hA rfl dfJ4 (by show _ ≤ 2; omega) (by show _ ≤ 20; omega) dX1_init_5 (fun a H hP hD hS => ?_)
  have hP := P_perm (List.perm_append_singleton _ _) hP
  have hD := D_perm (List.perm_append_singleton _ _) hD
  refine lv_dup hx hb dX1_init_8 rfl ?_
  refine call_IBE (As := []) (rest := [.ref a, .ref ob]) ⟨hx, hb, hml, hown, hts⟩ (tJ4_init_da8c8 (l := l) (dC := dC) (dI := dI) (cB := cB) (ob := a) (base := base) (R := ((ob, .inr (2, [.null, .int 0, .int 0, .int 0, .int 0, .int 0])) :: R))) (cwI 0 hts gX1_init_J4_init_da8c8 rfl rfl rfl (hts (.initialized RJ4) (by decide +kernel)) (hts (.methodLink RX1 11 yJ4_init_da8c8) (by decide +kernel)) (hts (.instanceMethod yJ4_init_da8c8) (by decide +kernel)) rfl (by decide +kernel) ⟨Nat.le_of_ble_eq_true rfl, Nat.le_of_ble_eq_true rfl⟩) hK hP hD hS (Nat.le_trans hbs hS.1) (fun U hU hW => Env_step rfl rfl hE hS hU hW) (by rfl) hl.1 rfl (Nat.le_of_ble_eq_true rfl) dX1_init_9 ⟨by show _ ≤ 2; omega, by show _ ≤ 20; omega⟩ (fun H locs ws9 hW9 hP hD _ hS => ?_)
  obtain ⟨b, rfl⟩ := hW9
  refine va_putF (D := (dC, dI)) (ci := 2) (v := .ref a) (ty := .object "java/lang/StringBuilder") (C := RX1) (T := TX1) (N := 6) hx hb hts hwX1 tyX1 tyX1_ok nmX1 hown hK hP hD hS 2 rfl rfl 0 (by decide) hf_12 (fun _ h9 => h9) rfl hin rfl (by decide +kernel) rfl rfl (Nat.le_of_ble_eq_true rfl) dX1_init_12 (fun H locs hP hD hS => ?_)
  refine lv_aload_n hx hb dX1_init_15 rfl (lv_at hl 0 rfl) ?_
  refine lv_iconst (v := 0) hx hb dX1_init_16 (by decide) ?_
  refine va_put (D := (dC, dI)) (ci := 2) (v := .int 0) (ty := .int) (C := RX1) (T := TX1) (N := 6) hx hb hts hwX1 tyX1 tyX1_ok nmX1 hown hK hP hD hS 2 rfl rfl 1 (by decide) hf_18 (fun _ h9 => h9) rfl (by decide +kernel) rfl rfl (Nat.le_of_ble_eq_true rfl) dX1_init_17 (fun H locs hP hD hS => ?_)
  refine lv_aload_n hx hb dX1_init_20 rfl (lv_at hl 0 rfl) ?_
  refine lv_iconst (v := 0) hx hb dX1_init_21 (by decide) ?_
  refine va_put (D := (dC, dI)) (ci := 2) (v := .int 0) (ty := .int) (C := RX1) (T := TX1) (N := 6) hx hb hts hwX1 tyX1 tyX1_ok nmX1 hown hK hP hD hS 2 rfl rfl 2 (by decide) hf_22 (fun _ h9 => h9) rfl (by decide +kernel) rfl rfl (Nat.le_of_ble_eq_true rfl) dX1_init_22 (fun H locs hP hD hS => ?_)
  refine lv_aload_n hx hb dX1_init_25 rfl (lv_at hl 0 rfl) ?_
  refine lv_iconst (v := 0) hx hb dX1_init_26 (by decide) ?_
  refine va_put (D := (dC, dI)) (ci := 2) (v := .int 0) (ty := .int) (C := RX1) (T := TX1) (N := 6) hx hb hts hwX1 tyX1 tyX1_ok nmX1 hown hK hP hD hS 2 rfl rfl 3 (by decide) hf_25 (fun _ h9 => h9) rfl (by decide +kernel) rfl rfl (Nat.le_of_ble_eq_true rfl) dX1_init_27 (fun H locs hP hD hS => ?_)
  refine lv_aload_n hx hb dX1_init_30 rfl (lv_at hl 0 rfl) ?_
  refine lv_iconst (v := 0) hx hb dX1_init_31 (by decide) ?_
  refine va_put (D := (dC, dI)) (ci := 2) (v := .int 0) (ty := .int) (C := RX1) (T := TX1) (N := 6) hx hb hts hwX1 tyX1 tyX1_ok nmX1 hown hK hP hD hS 2 rfl rfl 4 (by decide) hf_28 (fun _ h9 => h9) rfl (by decide +kernel) rfl rfl (Nat.le_of_ble_eq_true rfl) dX1_init_32 (fun H locs hP hD hS => ?_)
  refine lv_aload_n hx hb dX1_init_35 rfl (lv_at hl 0 rfl) ?_
  refine lv_iconst (v := 0) hx hb dX1_init_36 (by decide) ?_
  refine va_put (D := (dC, dI)) (ci := 2) (v := .int 0) (ty := .int) (C := RX1) (T := TX1) (N := 6) hx hb hts hwX1 tyX1 tyX1_ok nmX1 hown hK hP hD hS 2 rfl rfl 5 (by decide) hf_31 (fun _ h9 => h9) rfl (by decide +kernel) rfl rfl (Nat.le_of_ble_eq_true rfl) dX1_init_37 (fun H locs hP hD hS => ?_)
  have hp : (sbW cB a b 16 K00 ++ ((ob, .inr (2, [.ref a, .int 0, .int 0, .int 0, .int 0, .int 0])) :: R)).Perm (cmW cB ob a b 16 K00 ++ R) := ((List.Perm.swap _ _ _).cons _).trans (List.Perm.swap _ _ _)
  have hP := P_perm hp hP
  have hD := D_perm hp hD
  exact W_le (by omega) (by omega) (W.vret hx hb hr (fun t ht _ => retB rfl ⟨a, b, rfl⟩ hP hD hS ht) hS.2.2 dX1_init_40)
def Oi : OT := fun k => if k < 12 then pcK A0t else if k = 12 then (fun f i => if f = 0 ∧ 3 ≤ i ∧ i ≤ 6 then -4 else 0) else K00
theorem OF_i {Z : Nat → Nat} (h1 : Z 1 = 16) (h3 : Z 3 = 16) : OF Z Oi := by
  have e : CF 16 K00 := ⟨⟨0, rfl, Nat.zero_le _⟩, by decide, fun _ _ => rfl, fun _ => rfl⟩
  unfold OF
  rw [h1, h3]
  exact ⟨e, e⟩
def cBpo (D : va_G) (cl : List vw_C) (tys : List (ClassId × FieldType)) (base : Nat) (ws : va_W) (av : List Value) : Array Value → State → Prop := fun v U => cBp D cl tys base ws av v U ∧ va_AO RX0 U
theorem cBpo_blind (D : va_G) (cl : List vw_C) (tys : List (ClassId × FieldType)) (base : Nat) (ws : va_W) (av : List Value) : FrameBlind (cBpo D cl tys base ws av) := fun a U g mk q => ⟨cBp_blind D cl tys base ws av a U g mk q.1, va_AO.moved (u := U) (U := U.calling g mk a) (Vm.Alike.refl U.vm) q.2⟩
theorem chunk_perm {A B D E : List va_W} {R : va_W} : ((A ++ (B ++ (D ++ E))).flatten ++ R).Perm ((A ++ (D ++ (B ++ E))).reverse.flatten ++ R) := by
  refine List.Perm.append_right R ?_
  refine List.Perm.flatten ?_
  refine List.Perm.trans ?_ (List.reverse_perm _).symm
  refine List.Perm.append_left A ?_
  rw [← List.append_assoc, ← List.append_assoc]
  exact List.Perm.append_right E List.perm_append_comm
def rmX2_init : Room := { frames := 5, cells := 138, slots := 2406, locals := 130 }
set_option maxHeartbeats 8000000 in
set_option maxRecDepth 100000 in
theorem tX2_init {l : Launch} {dC : Nat → ClassId} {dI : Nat → Nat → Nat} {cI cB cP : ClassId} {ob base : Nat} {R : va_W} : Met l yX2_init wsX2_init rmX2_init (cBpo (dC, dI) vwCl [(cI, .int), (cB, .byte), (cP, .object RX0)] base ((ob, .inr (3, [.null, .null, .null, .null, .int 0, .null, .int 0, .int 0, .null, .null, .int 0, .int 0, .int 0, .int 0])) :: R) [.ref ob]) (cBe (dC, dI) vwCl base none (fun ws => ∃ (ad : Nat → Nat → Nat) (Z : Nat → Nat), ad 0 0 = ob ∧ ws = outW cI cB cP ad Z Oi ++ R ∧ OF Z Oi)) 138 2406 (aB base) := by
  refine Met.ofW (cc := cX2_init) (maxL := 2) (ret := none) (by decide) rfl ?_
  intro p e s m args below meth c s₁ B hml hv
  obtain ⟨⟨rfl, hP, hK, hD, hbs, hE⟩, hAO⟩ := hv
  have hx := B.exec
  have hb := B.bytes
  have hr := B.returns
  have hts := atoms_spec (ws := wsX2_init) B.pre
  have hown : s.vm.findClass RX2 = some m.cls := findClass_of_methodNamed B.named
  have hlocks := B.notSynchronized
  have hin : meth.name = "<init>" := (name_of_methodNamed B.named B.method).1
  have hf_10 := hts (.fieldLink RX2 10 "CaravanLogs" "now" "LCaravanLogs$Caravan;") (by decide +kernel)
  have hf_16 := hts (.fieldLink RX2 16 "CaravanLogs" "before" "LCaravanLogs$Caravan;") (by decide +kernel)
  have hf_19 := hts (.fieldLink RX2 19 "CaravanLogs" "trial" "LCaravanLogs$Caravan;") (by decide +kernel)
  have hf_22 := hts (.fieldLink RX2 22 "CaravanLogs" "snapshot" "LCaravanLogs$Caravan;") (by decide +kernel)
  have hf_25 := hts (.fieldLink RX2 25 "CaravanLogs" "hasSnapshot" "Z") (by decide +kernel)
  have hf_29 := hts (.fieldLink RX2 29 "CaravanLogs" "past" "[LCaravanLogs$Caravan;") (by decide +kernel)
  have hf_33 := hts (.fieldLink RX2 33 "CaravanLogs" "latest" "I") (by decide +kernel)
  have hf_37 := hts (.fieldLink RX2 37 "CaravanLogs" "undoable" "I") (by decide +kernel)
  have hf_43 := hts (.fieldLink RX2 43 "CaravanLogs" "commands" "LCaravanLogs$Commands;") (by decide +kernel)
  have hf_50 := hts (.fieldLink RX2 50 "CaravanLogs" "line" "Ljava/lang/StringBuilder;") (by decide +kernel)
  have hf_54 := hts (.fieldLink RX2 54 "CaravanLogs" "command" "I") (by decide +kernel)
  have hf_57 := hts (.fieldLink RX2 57 "CaravanLogs" "refusedReason" "I") (by decide +kernel)
  have hf_60 := hts (.fieldLink RX2 60 "CaravanLogs" "refusedDetail" "I") (by decide +kernel)
  have hf_63 := hts (.fieldLink RX2 63 "CaravanLogs" "refusedCommand" "I") (by decide +kernel)
  have hwX2 : ∀ w ∈ u_ws RX2 TX2 14, w ∈ wsX2_init := by decide +kernel
  have hwX1 : ∀ w ∈ u_ws RX1 TX1 6, w ∈ wsX2_init := by decide +kernel
  have hwX0 : ∀ w ∈ u_ws RX0 TX0 16, w ∈ wsX2_init := by decide +kernel
  have hwJ4 : ∀ w ∈ u_ws RJ4 TJ4 4, w ∈ wsX2_init := by decide +kernel
  have hS : va_S (aB base) s.heap s.heap [] := va_S.rf
  have hl := lv_entry ([.ref ob]) (n := 2) (Nat.le_of_ble_eq_true rfl)
  rw [lg_entry_eq]
  generalize (lg_sl ([.ref ob]) ++ List.replicate (2 - (lg_sl ([.ref ob])).length) Slot.unset).toArray = ls at hl ⊢
  have hl : lv_has ls 2 [(0, .ref ob)] := hl
  have hA : ∀ q : Nat, s.heap.size ≤ q → aB base q := fun z hz => Nat.le_trans hbs hz
  have hKI : va_K (dC, dI) vwCl [(cI, .int)] s := K_tys (fun x hx => by simp only [List.mem_cons, List.not_mem_nil, or_false] at hx ⊢; simp [hx]) hK
  have hKB : va_K (dC, dI) vwCl [(cB, .byte)] s := K_tys (fun x hx => by simp only [List.mem_cons, List.not_mem_nil, or_false] at hx ⊢; simp [hx]) hK
  refine lv_aload_n hx hb dX2_init_0 rfl (lv_at hl 0 rfl) ?_
  refine W.objInit hx hb hown (hts (.methodLink RX2 1 objectInit) (by decide +kernel)) (hts (.instanceMethod objectInit) (by decide +kernel)) (hts _ (List.mem_of_getElem? (i := 3) rfl)) rfl (by rw [hml]; exact hl.1) rfl dX2_init_1 (Nat.le_of_ble_eq_true rfl) (Nat.le_of_ble_eq_true rfl) ?_
  refine W.eq (g2 := F0 m 4 ls []) rfl ?_
  refine lv_aload_n hx hb dX2_init_4 rfl (lv_at hl 0 rfl) ?_
  refine va_new (ci := 1) (fs := [.null, .null, .null, .null, .null, .null, .null, .null, .null, .null, .int 0, .int 0, .int 0, .int 0, .int 0, .int 0]) (C := RX0) (T := TX0) (N := 16) hx hb hts hwX0 tyX0 tyX0_ok hown (hts (.classLink RX2 7 RX0) (by decide +kernel)) (hts (.instantiable RX0 16) (by decide +kernel)) (hts (.initialized RX0) (by decide +kernel)) hK hP hD hS hA rfl dfX0 (by show _ ≤ 138; omega) (by show _ ≤ 2406; omega) dX2_init_5 (fun c0 H hP hD hS => ?_)
  have hP := P_perm (List.perm_append_singleton _ _) hP
  have hD := D_perm (List.perm_append_singleton _ _) hD
  refine lv_dup hx hb dX2_init_8 rfl ?_
  refine call_IBE (As := []) (rest := [.ref c0, .ref ob]) ⟨hx, hb, hml, hown, hts⟩ (tX0_init (l := l) (dC := dC) (dI := dI) (cI := cI) (ob := c0) (base := base) (R := ((ob, .inr (3, [.null, .null, .null, .null, .int 0, .null, .int 0, .int 0, .null, .null, .int 0, .int 0, .int 0, .int 0])) :: R : va_W))) (cwI 0 hts gX2_init_X0_init rfl rfl rfl (hts (.initialized RX0) (by decide +kernel)) (hts (.methodLink RX2 9 yX0_init) (by decide +kernel)) (hts (.instanceMethod yX0_init) (by decide +kernel)) rfl (by decide +kernel) ⟨Nat.le_of_ble_eq_true rfl, Nat.le_of_ble_eq_true rfl⟩) hKI hP hD hS (Nat.le_trans hbs hS.1) (fun U hU hW => Env_step rfl rfl hE hS hU hW) (by rfl) hl.1 rfl (Nat.le_of_ble_eq_true rfl) dX2_init_9 ⟨by show _ ≤ 138; omega, by show _ ≤ 2406; omega⟩ (fun H locs ws9 hW9 hP hD _ hS => ?_)
  obtain ⟨f0, rfl⟩ := hW9
  refine va_putF (D := (dC, dI)) (ci := 3) (v := .ref c0) (ty := .object "CaravanLogs$Caravan") (C := RX2) (T := TX2) (N := 14) hx hb hts hwX2 tyX2 tyX2_ok nmX2 hown hK hP hD hS 11 rfl rfl 0 (by decide) hf_10 (fun _ h9 => h9) rfl hin rfl (by decide +kernel) rfl rfl (Nat.le_of_ble_eq_true rfl) dX2_init_12 (fun H locs hP hD hS => ?_)
  have hP : va_P (dC, dI) vwCl (cvW cI c0 f0 (pcK A0t) ++ ((ob, .inr (3, [.ref c0, .null, .null, .null, .int 0, .null, .int 0, .int 0, .null, .null, .int 0, .int 0, .int 0, .int 0])) :: R) : va_W) H := hP
  have hD : va_D (aB base) (cvW cI c0 f0 (pcK A0t) ++ ((ob, .inr (3, [.ref c0, .null, .null, .null, .int 0, .null, .int 0, .int 0, .null, .null, .int 0, .int 0, .int 0, .int 0])) :: R) : va_W) := D_iff.mpr (by have h := D_iff.mp hD; exact h)
  refine lv_aload_n hx hb dX2_init_15 rfl (lv_at hl 0 rfl) ?_
  refine va_new (ci := 1) (fs := [.null, .null, .null, .null, .null, .null, .null, .null, .null, .null, .int 0, .int 0, .int 0, .int 0, .int 0, .int 0]) (C := RX0) (T := TX0) (N := 16) hx hb hts hwX0 tyX0 tyX0_ok hown (hts (.classLink RX2 7 RX0) (by decide +kernel)) (hts (.instantiable RX0 16) (by decide +kernel)) (hts (.initialized RX0) (by decide +kernel)) hK hP hD hS hA rfl dfX0 (by show _ ≤ 138; omega) (by show _ ≤ 2406; omega) dX2_init_16 (fun c1 H hP hD hS => ?_)
  have hP := P_perm (List.perm_append_singleton _ _) hP
  have hD := D_perm (List.perm_append_singleton _ _) hD
  refine lv_dup hx hb dX2_init_19 rfl ?_
  refine call_IBE (As := []) (rest := [.ref c1, .ref ob]) ⟨hx, hb, hml, hown, hts⟩ (tX0_init (l := l) (dC := dC) (dI := dI) (cI := cI) (ob := c1) (base := base) (R := (cvW cI c0 f0 (pcK A0t) ++ ((ob, .inr (3, [.ref c0, .null, .null, .null, .int 0, .null, .int 0, .int 0, .null, .null, .int 0, .int 0, .int 0, .int 0])) :: R) : va_W))) (cwI 0 hts gX2_init_X0_init rfl rfl rfl (hts (.initialized RX0) (by decide +kernel)) (hts (.methodLink RX2 9 yX0_init) (by decide +kernel)) (hts (.instanceMethod yX0_init) (by decide +kernel)) rfl (by decide +kernel) ⟨Nat.le_of_ble_eq_true rfl, Nat.le_of_ble_eq_true rfl⟩) hKI hP hD hS (Nat.le_trans hbs hS.1) (fun U hU hW => Env_step rfl rfl hE hS hU hW) (by rfl) hl.1 rfl (Nat.le_of_ble_eq_true rfl) dX2_init_20 ⟨by show _ ≤ 138; omega, by show _ ≤ 2406; omega⟩ (fun H locs ws9 hW9 hP hD _ hS => ?_)
  obtain ⟨f1, rfl⟩ := hW9
  refine va_putF (D := (dC, dI)) (ci := 3) (v := .ref c1) (ty := .object "CaravanLogs$Caravan") (C := RX2) (T := TX2) (N := 14) hx hb hts hwX2 tyX2 tyX2_ok nmX2 hown hK hP hD hS 22 rfl rfl 1 (by decide) hf_16 (fun _ h9 => h9) rfl hin rfl (by decide +kernel) rfl rfl (Nat.le_of_ble_eq_true rfl) dX2_init_23 (fun H locs hP hD hS => ?_)
  have hP : va_P (dC, dI) vwCl (cvW cI c1 f1 (pcK A0t) ++ (cvW cI c0 f0 (pcK A0t) ++ ((ob, .inr (3, [.ref c0, .ref c1, .null, .null, .int 0, .null, .int 0, .int 0, .null, .null, .int 0, .int 0, .int 0, .int 0])) :: R)) : va_W) H := hP
  have hD : va_D (aB base) (cvW cI c1 f1 (pcK A0t) ++ (cvW cI c0 f0 (pcK A0t) ++ ((ob, .inr (3, [.ref c0, .ref c1, .null, .null, .int 0, .null, .int 0, .int 0, .null, .null, .int 0, .int 0, .int 0, .int 0])) :: R)) : va_W) := D_iff.mpr (by have h := D_iff.mp hD; exact h)
  refine lv_aload_n hx hb dX2_init_26 rfl (lv_at hl 0 rfl) ?_
  refine va_new (ci := 1) (fs := [.null, .null, .null, .null, .null, .null, .null, .null, .null, .null, .int 0, .int 0, .int 0, .int 0, .int 0, .int 0]) (C := RX0) (T := TX0) (N := 16) hx hb hts hwX0 tyX0 tyX0_ok hown (hts (.classLink RX2 7 RX0) (by decide +kernel)) (hts (.instantiable RX0 16) (by decide +kernel)) (hts (.initialized RX0) (by decide +kernel)) hK hP hD hS hA rfl dfX0 (by show _ ≤ 138; omega) (by show _ ≤ 2406; omega) dX2_init_27 (fun c2 H hP hD hS => ?_)
  have hP := P_perm (List.perm_append_singleton _ _) hP
  have hD := D_perm (List.perm_append_singleton _ _) hD
  refine lv_dup hx hb dX2_init_30 rfl ?_
  refine call_IBE (As := []) (rest := [.ref c2, .ref ob]) ⟨hx, hb, hml, hown, hts⟩ (tX0_init (l := l) (dC := dC) (dI := dI) (cI := cI) (ob := c2) (base := base) (R := (cvW cI c1 f1 (pcK A0t) ++ (cvW cI c0 f0 (pcK A0t) ++ ((ob, .inr (3, [.ref c0, .ref c1, .null, .null, .int 0, .null, .int 0, .int 0, .null, .null, .int 0, .int 0, .int 0, .int 0])) :: R)) : va_W))) (cwI 0 hts gX2_init_X0_init rfl rfl rfl (hts (.initialized RX0) (by decide +kernel)) (hts (.methodLink RX2 9 yX0_init) (by decide +kernel)) (hts (.instanceMethod yX0_init) (by decide +kernel)) rfl (by decide +kernel) ⟨Nat.le_of_ble_eq_true rfl, Nat.le_of_ble_eq_true rfl⟩) hKI hP hD hS (Nat.le_trans hbs hS.1) (fun U hU hW => Env_step rfl rfl hE hS hU hW) (by rfl) hl.1 rfl (Nat.le_of_ble_eq_true rfl) dX2_init_31 ⟨by show _ ≤ 138; omega, by show _ ≤ 2406; omega⟩ (fun H locs ws9 hW9 hP hD _ hS => ?_)
  obtain ⟨f2, rfl⟩ := hW9
  refine va_putF (D := (dC, dI)) (ci := 3) (v := .ref c2) (ty := .object "CaravanLogs$Caravan") (C := RX2) (T := TX2) (N := 14) hx hb hts hwX2 tyX2 tyX2_ok nmX2 hown hK hP hD hS 33 rfl rfl 2 (by decide) hf_19 (fun _ h9 => h9) rfl hin rfl (by decide +kernel) rfl rfl (Nat.le_of_ble_eq_true rfl) dX2_init_34 (fun H locs hP hD hS => ?_)
  have hP : va_P (dC, dI) vwCl (cvW cI c2 f2 (pcK A0t) ++ (cvW cI c1 f1 (pcK A0t) ++ (cvW cI c0 f0 (pcK A0t) ++ ((ob, .inr (3, [.ref c0, .ref c1, .ref c2, .null, .int 0, .null, .int 0, .int 0, .null, .null, .int 0, .int 0, .int 0, .int 0])) :: R))) : va_W) H := hP
  have hD : va_D (aB base) (cvW cI c2 f2 (pcK A0t) ++ (cvW cI c1 f1 (pcK A0t) ++ (cvW cI c0 f0 (pcK A0t) ++ ((ob, .inr (3, [.ref c0, .ref c1, .ref c2, .null, .int 0, .null, .int 0, .int 0, .null, .null, .int 0, .int 0, .int 0, .int 0])) :: R))) : va_W) := D_iff.mpr (by have h := D_iff.mp hD; exact h)
  refine lv_aload_n hx hb dX2_init_37 rfl (lv_at hl 0 rfl) ?_
  refine va_new (ci := 1) (fs := [.null, .null, .null, .null, .null, .null, .null, .null, .null, .null, .int 0, .int 0, .int 0, .int 0, .int 0, .int 0]) (C := RX0) (T := TX0) (N := 16) hx hb hts hwX0 tyX0 tyX0_ok hown (hts (.classLink RX2 7 RX0) (by decide +kernel)) (hts (.instantiable RX0 16) (by decide +kernel)) (hts (.initialized RX0) (by decide +kernel)) hK hP hD hS hA rfl dfX0 (by show _ ≤ 138; omega) (by show _ ≤ 2406; omega) dX2_init_38 (fun c3 H hP hD hS => ?_)
  have hP := P_perm (List.perm_append_singleton _ _) hP
  have hD := D_perm (List.perm_append_singleton _ _) hD
  refine lv_dup hx hb dX2_init_41 rfl ?_
  refine call_IBE (As := []) (rest := [.ref c3, .ref ob]) ⟨hx, hb, hml, hown, hts⟩ (tX0_init (l := l) (dC := dC) (dI := dI) (cI := cI) (ob := c3) (base := base) (R := (cvW cI c2 f2 (pcK A0t) ++ (cvW cI c1 f1 (pcK A0t) ++ (cvW cI c0 f0 (pcK A0t) ++ ((ob, .inr (3, [.ref c0, .ref c1, .ref c2, .null, .int 0, .null, .int 0, .int 0, .null, .null, .int 0, .int 0, .int 0, .int 0])) :: R))) : va_W))) (cwI 0 hts gX2_init_X0_init rfl rfl rfl (hts (.initialized RX0) (by decide +kernel)) (hts (.methodLink RX2 9 yX0_init) (by decide +kernel)) (hts (.instanceMethod yX0_init) (by decide +kernel)) rfl (by decide +kernel) ⟨Nat.le_of_ble_eq_true rfl, Nat.le_of_ble_eq_true rfl⟩) hKI hP hD hS (Nat.le_trans hbs hS.1) (fun U hU hW => Env_step rfl rfl hE hS hU hW) (by rfl) hl.1 rfl (Nat.le_of_ble_eq_true rfl) dX2_init_42 ⟨by show _ ≤ 138; omega, by show _ ≤ 2406; omega⟩ (fun H locs ws9 hW9 hP hD _ hS => ?_)
  obtain ⟨f3, rfl⟩ := hW9
  refine va_putF (D := (dC, dI)) (ci := 3) (v := .ref c3) (ty := .object "CaravanLogs$Caravan") (C := RX2) (T := TX2) (N := 14) hx hb hts hwX2 tyX2 tyX2_ok nmX2 hown hK hP hD hS 44 rfl rfl 3 (by decide) hf_22 (fun _ h9 => h9) rfl hin rfl (by decide +kernel) rfl rfl (Nat.le_of_ble_eq_true rfl) dX2_init_45 (fun H locs hP hD hS => ?_)
  have hP : va_P (dC, dI) vwCl (cvW cI c3 f3 (pcK A0t) ++ (cvW cI c2 f2 (pcK A0t) ++ (cvW cI c1 f1 (pcK A0t) ++ (cvW cI c0 f0 (pcK A0t) ++ ((ob, .inr (3, [.ref c0, .ref c1, .ref c2, .ref c3, .int 0, .null, .int 0, .int 0, .null, .null, .int 0, .int 0, .int 0, .int 0])) :: R)))) : va_W) H := hP
  have hD : va_D (aB base) (cvW cI c3 f3 (pcK A0t) ++ (cvW cI c2 f2 (pcK A0t) ++ (cvW cI c1 f1 (pcK A0t) ++ (cvW cI c0 f0 (pcK A0t) ++ ((ob, .inr (3, [.ref c0, .ref c1, .ref c2, .ref c3, .int 0, .null, .int 0, .int 0, .null, .null, .int 0, .int 0, .int 0, .int 0])) :: R)))) : va_W) := D_iff.mpr (by have h := D_iff.mp hD; exact h)
  refine lv_aload_n hx hb dX2_init_48 rfl (lv_at hl 0 rfl) ?_
  refine lv_iconst (v := 0) hx hb dX2_init_49 (by decide) ?_
  refine va_put (D := (dC, dI)) (ci := 3) (v := .int 0) (ty := .boolean) (C := RX2) (T := TX2) (N := 14) hx hb hts hwX2 tyX2 tyX2_ok nmX2 hown hK hP hD hS 44 rfl rfl 4 (by decide) hf_25 (fun _ h9 => h9) rfl (by decide +kernel) rfl rfl (Nat.le_of_ble_eq_true rfl) dX2_init_50 (fun H locs hP hD hS => ?_)
  have hP : va_P (dC, dI) vwCl (cvW cI c3 f3 (pcK A0t) ++ (cvW cI c2 f2 (pcK A0t) ++ (cvW cI c1 f1 (pcK A0t) ++ (cvW cI c0 f0 (pcK A0t) ++ ((ob, .inr (3, [.ref c0, .ref c1, .ref c2, .ref c3, .int 0, .null, .int 0, .int 0, .null, .null, .int 0, .int 0, .int 0, .int 0])) :: R)))) : va_W) H := hP
  have hD : va_D (aB base) (cvW cI c3 f3 (pcK A0t) ++ (cvW cI c2 f2 (pcK A0t) ++ (cvW cI c1 f1 (pcK A0t) ++ (cvW cI c0 f0 (pcK A0t) ++ ((ob, .inr (3, [.ref c0, .ref c1, .ref c2, .ref c3, .int 0, .null, .int 0, .int 0, .null, .null, .int 0, .int 0, .int 0, .int 0])) :: R)))) : va_W) := D_iff.mpr (by have h := D_iff.mp hD; exact h)
  refine lv_aload_n hx hb dX2_init_53 rfl (lv_at hl 0 rfl) ?_
  refine lv_bipush (v := 8) hx hb dX2_init_54 (by decide) ?_
  refine va_newq (N' := 8) hx hb hown (hts (.classLink RX2 7 RX0) (by decide +kernel)) hAO hK hP hD hS hA (by decide) (by decide) (by decide) (by show _ ≤ 138; omega) (by show _ ≤ 2406; omega) dX2_init_56 (fun pa cA H hK2 hP hD hS => ?_)
  have ec : cA = cP := by
    obtain ⟨kA, co, -, -, -, n1⟩ := (hK2.2 3 _ rfl).2
    obtain ⟨kB, co2, -, -, -, n2⟩ := (hK.2 2 _ rfl).2
    exact Option.some.inj (n1.symm.trans n2)
  rw [ec] at hP hD
  clear hK2 ec
  have hP := P_perm (List.perm_append_singleton _ _) hP
  have hD := D_perm (List.perm_append_singleton _ _) hD
  refine va_putF (D := (dC, dI)) (ci := 3) (v := .ref pa) (ty := .array (.object "CaravanLogs$Caravan")) (C := RX2) (T := TX2) (N := 14) hx hb hts hwX2 tyX2 tyX2_ok nmX2 hown hK hP hD hS 45 rfl rfl 5 (by decide) hf_29 (fun _ h9 => h9) rfl hin rfl (by decide +kernel) rfl rfl (Nat.le_of_ble_eq_true rfl) dX2_init_59 (fun H locs hP hD hS => ?_)
  have hP : va_P (dC, dI) vwCl ((pa, .inl (cP, 8, .inr (.inr (.inr (.inr (fun _ => none)))))) :: cvW cI c3 f3 (pcK A0t) ++ (cvW cI c2 f2 (pcK A0t) ++ (cvW cI c1 f1 (pcK A0t) ++ (cvW cI c0 f0 (pcK A0t) ++ ((ob, .inr (3, [.ref c0, .ref c1, .ref c2, .ref c3, .int 0, .ref pa, .int 0, .int 0, .null, .null, .int 0, .int 0, .int 0, .int 0])) :: R)))) : va_W) H := hP
  have hD : va_D (aB base) ((pa, .inl (cP, 8, .inr (.inr (.inr (.inr (fun _ => none)))))) :: cvW cI c3 f3 (pcK A0t) ++ (cvW cI c2 f2 (pcK A0t) ++ (cvW cI c1 f1 (pcK A0t) ++ (cvW cI c0 f0 (pcK A0t) ++ ((ob, .inr (3, [.ref c0, .ref c1, .ref c2, .ref c3, .int 0, .ref pa, .int 0, .int 0, .null, .null, .int 0, .int 0, .int 0, .int 0])) :: R)))) : va_W) := D_iff.mpr (by have h := D_iff.mp hD; exact h)
  refine lv_aload_n hx hb dX2_init_62 rfl (lv_at hl 0 rfl) ?_
  refine lv_iconst (v := 0) hx hb dX2_init_63 (by decide) ?_
  refine va_put (D := (dC, dI)) (ci := 3) (v := .int 0) (ty := .int) (C := RX2) (T := TX2) (N := 14) hx hb hts hwX2 tyX2 tyX2_ok nmX2 hown hK hP hD hS 45 rfl rfl 6 (by decide) hf_33 (fun _ h9 => h9) rfl (by decide +kernel) rfl rfl (Nat.le_of_ble_eq_true rfl) dX2_init_64 (fun H locs hP hD hS => ?_)
  have hP : va_P (dC, dI) vwCl ((pa, .inl (cP, 8, .inr (.inr (.inr (.inr (fun _ => none)))))) :: cvW cI c3 f3 (pcK A0t) ++ (cvW cI c2 f2 (pcK A0t) ++ (cvW cI c1 f1 (pcK A0t) ++ (cvW cI c0 f0 (pcK A0t) ++ ((ob, .inr (3, [.ref c0, .ref c1, .ref c2, .ref c3, .int 0, .ref pa, .int 0, .int 0, .null, .null, .int 0, .int 0, .int 0, .int 0])) :: R)))) : va_W) H := hP
  have hD : va_D (aB base) ((pa, .inl (cP, 8, .inr (.inr (.inr (.inr (fun _ => none)))))) :: cvW cI c3 f3 (pcK A0t) ++ (cvW cI c2 f2 (pcK A0t) ++ (cvW cI c1 f1 (pcK A0t) ++ (cvW cI c0 f0 (pcK A0t) ++ ((ob, .inr (3, [.ref c0, .ref c1, .ref c2, .ref c3, .int 0, .ref pa, .int 0, .int 0, .null, .null, .int 0, .int 0, .int 0, .int 0])) :: R)))) : va_W) := D_iff.mpr (by have h := D_iff.mp hD; exact h)
  refine lv_aload_n hx hb dX2_init_67 rfl (lv_at hl 0 rfl) ?_
  refine lv_iconst (v := 0) hx hb dX2_init_68 (by decide) ?_
  refine va_put (D := (dC, dI)) (ci := 3) (v := .int 0) (ty := .int) (C := RX2) (T := TX2) (N := 14) hx hb hts hwX2 tyX2 tyX2_ok nmX2 hown hK hP hD hS 45 rfl rfl 7 (by decide) hf_37 (fun _ h9 => h9) rfl (by decide +kernel) rfl rfl (Nat.le_of_ble_eq_true rfl) dX2_init_69 (fun H locs hP hD hS => ?_)
  have hP : va_P (dC, dI) vwCl ((pa, .inl (cP, 8, .inr (.inr (.inr (.inr (fun _ => none)))))) :: cvW cI c3 f3 (pcK A0t) ++ (cvW cI c2 f2 (pcK A0t) ++ (cvW cI c1 f1 (pcK A0t) ++ (cvW cI c0 f0 (pcK A0t) ++ ((ob, .inr (3, [.ref c0, .ref c1, .ref c2, .ref c3, .int 0, .ref pa, .int 0, .int 0, .null, .null, .int 0, .int 0, .int 0, .int 0])) :: R)))) : va_W) H := hP
  have hD : va_D (aB base) ((pa, .inl (cP, 8, .inr (.inr (.inr (.inr (fun _ => none)))))) :: cvW cI c3 f3 (pcK A0t) ++ (cvW cI c2 f2 (pcK A0t) ++ (cvW cI c1 f1 (pcK A0t) ++ (cvW cI c0 f0 (pcK A0t) ++ ((ob, .inr (3, [.ref c0, .ref c1, .ref c2, .ref c3, .int 0, .ref pa, .int 0, .int 0, .null, .null, .int 0, .int 0, .int 0, .int 0])) :: R)))) : va_W) := D_iff.mpr (by have h := D_iff.mp hD; exact h)
  refine lv_aload_n hx hb dX2_init_72 rfl (lv_at hl 0 rfl) ?_
  refine va_new (ci := 2) (fs := [.null, .int 0, .int 0, .int 0, .int 0, .int 0]) (C := RX1) (T := TX1) (N := 6) hx hb hts hwX1 tyX1 tyX1_ok hown (hts (.classLink RX2 40 RX1) (by decide +kernel)) (hts (.instantiable RX1 6) (by decide +kernel)) (hts (.initialized RX1) (by decide +kernel)) hK hP hD hS hA rfl dfX1 (by show _ ≤ 138; omega) (by show _ ≤ 2406; omega) dX2_init_73 (fun cm H hP hD hS => ?_)
  have hP := P_perm (List.perm_append_singleton _ _) hP
  have hD := D_perm (List.perm_append_singleton _ _) hD
  refine lv_dup hx hb dX2_init_76 rfl ?_
  refine call_INBE (As := []) (rest := [.ref cm, .ref ob]) ⟨hx, hb, hml, hown, hts⟩ (tX1_init (l := l) (dC := dC) (dI := dI) (cB := cB) (ob := cm) (base := base) (R := ((pa, .inl (cP, 8, .inr (.inr (.inr (.inr (fun _ => none)))))) :: cvW cI c3 f3 (pcK A0t) ++ (cvW cI c2 f2 (pcK A0t) ++ (cvW cI c1 f1 (pcK A0t) ++ (cvW cI c0 f0 (pcK A0t) ++ ((ob, .inr (3, [.ref c0, .ref c1, .ref c2, .ref c3, .int 0, .ref pa, .int 0, .int 0, .null, .null, .int 0, .int 0, .int 0, .int 0])) :: R)))) : va_W))) ⟨va_cnB 0 hts gX2_init_X1_init_n42 rfl rfl rfl hE.2.2.2.2.2 (hts (.initialized RX1) (by decide +kernel)) (by decide +kernel) ⟨Nat.le_of_ble_eq_true rfl, Nat.le_of_ble_eq_true rfl⟩, rfl, hts (.instanceMethod yX1_init) (by decide +kernel)⟩ hKB hP hD hS (Nat.le_trans hbs hS.1) (fun U hU hW => Env_step rfl rfl hE hS hU hW) (by rfl) hl.1 rfl (Nat.le_of_ble_eq_true rfl) dX2_init_77 ⟨by show _ ≤ 138; omega, by show _ ≤ 2406; omega⟩ (fun H locs ws9 hW9 hP hD _ hS => ?_)
  obtain ⟨ca, cb, rfl⟩ := hW9
  refine va_putF (D := (dC, dI)) (ci := 3) (v := .ref cm) (ty := .object "CaravanLogs$Commands") (C := RX2) (T := TX2) (N := 14) hx hb hts hwX2 tyX2 tyX2_ok nmX2 hown hK hP hD hS 48 rfl rfl 8 (by decide) hf_43 (fun _ h9 => h9) rfl hin rfl (by decide +kernel) rfl rfl (Nat.le_of_ble_eq_true rfl) dX2_init_80 (fun H locs hP hD hS => ?_)
  have hP : va_P (dC, dI) vwCl (cmW cB cm ca cb 16 K00 ++ ((pa, .inl (cP, 8, .inr (.inr (.inr (.inr (fun _ => none)))))) :: cvW cI c3 f3 (pcK A0t) ++ (cvW cI c2 f2 (pcK A0t) ++ (cvW cI c1 f1 (pcK A0t) ++ (cvW cI c0 f0 (pcK A0t) ++ ((ob, .inr (3, [.ref c0, .ref c1, .ref c2, .ref c3, .int 0, .ref pa, .int 0, .int 0, .ref cm, .null, .int 0, .int 0, .int 0, .int 0])) :: R))))) : va_W) H := hP
  have hD : va_D (aB base) (cmW cB cm ca cb 16 K00 ++ ((pa, .inl (cP, 8, .inr (.inr (.inr (.inr (fun _ => none)))))) :: cvW cI c3 f3 (pcK A0t) ++ (cvW cI c2 f2 (pcK A0t) ++ (cvW cI c1 f1 (pcK A0t) ++ (cvW cI c0 f0 (pcK A0t) ++ ((ob, .inr (3, [.ref c0, .ref c1, .ref c2, .ref c3, .int 0, .ref pa, .int 0, .int 0, .ref cm, .null, .int 0, .int 0, .int 0, .int 0])) :: R))))) : va_W) := D_iff.mpr (by have h := D_iff.mp hD; exact h)
  refine lv_aload_n hx hb dX2_init_83 rfl (lv_at hl 0 rfl) ?_
  refine va_new (ci := 0) (fs := [.null, .int 0, .int 0, .int 0]) (C := RJ4) (T := TJ4) (N := 4) hx hb hts hwJ4 tyJ4 tyJ4_ok hown (hts (.classLink RX2 47 RJ4) (by decide +kernel)) (hts (.instantiable RJ4 4) (by decide +kernel)) (hts (.initialized RJ4) (by decide +kernel)) hK hP hD hS hA rfl dfJ4 (by show _ ≤ 138; omega) (by show _ ≤ 2406; omega) dX2_init_84 (fun la H hP hD hS => ?_)
  have hP := P_perm (List.perm_append_singleton _ _) hP
  have hD := D_perm (List.perm_append_singleton _ _) hD
  refine lv_dup hx hb dX2_init_87 rfl ?_
  refine call_IBE (As := []) (rest := [.ref la, .ref ob]) ⟨hx, hb, hml, hown, hts⟩ (tJ4_init_da8c8 (l := l) (dC := dC) (dI := dI) (cB := cB) (ob := la) (base := base) (R := (cmW cB cm ca cb 16 K00 ++ ((pa, .inl (cP, 8, .inr (.inr (.inr (.inr (fun _ => none)))))) :: cvW cI c3 f3 (pcK A0t) ++ (cvW cI c2 f2 (pcK A0t) ++ (cvW cI c1 f1 (pcK A0t) ++ (cvW cI c0 f0 (pcK A0t) ++ ((ob, .inr (3, [.ref c0, .ref c1, .ref c2, .ref c3, .int 0, .ref pa, .int 0, .int 0, .ref cm, .null, .int 0, .int 0, .int 0, .int 0])) :: R))))) : va_W))) (cwI 0 hts gX2_init_J4_init_da8c8 rfl rfl rfl (hts (.initialized RJ4) (by decide +kernel)) (hts (.methodLink RX2 49 yJ4_init_da8c8) (by decide +kernel)) (hts (.instanceMethod yJ4_init_da8c8) (by decide +kernel)) rfl (by decide +kernel) ⟨Nat.le_of_ble_eq_true rfl, Nat.le_of_ble_eq_true rfl⟩) hKB hP hD hS (Nat.le_trans hbs hS.1) (fun U hU hW => Env_step rfl rfl hE hS hU hW) (by rfl) hl.1 rfl (Nat.le_of_ble_eq_true rfl) dX2_init_88 ⟨by show _ ≤ 138; omega, by show _ ≤ 2406; omega⟩ (fun H locs ws9 hW9 hP hD _ hS => ?_)
  obtain ⟨lb, rfl⟩ := hW9
  refine va_putF (D := (dC, dI)) (ci := 3) (v := .ref la) (ty := .object "java/lang/StringBuilder") (C := RX2) (T := TX2) (N := 14) hx hb hts hwX2 tyX2 tyX2_ok nmX2 hown hK hP hD hS 50 rfl rfl 9 (by decide) hf_50 (fun _ h9 => h9) rfl hin rfl (by decide +kernel) rfl rfl (Nat.le_of_ble_eq_true rfl) dX2_init_91 (fun H locs hP hD hS => ?_)
  have hP : va_P (dC, dI) vwCl (sbW cB la lb 16 K00 ++ (cmW cB cm ca cb 16 K00 ++ ((pa, .inl (cP, 8, .inr (.inr (.inr (.inr (fun _ => none)))))) :: cvW cI c3 f3 (pcK A0t) ++ (cvW cI c2 f2 (pcK A0t) ++ (cvW cI c1 f1 (pcK A0t) ++ (cvW cI c0 f0 (pcK A0t) ++ ((ob, .inr (3, [.ref c0, .ref c1, .ref c2, .ref c3, .int 0, .ref pa, .int 0, .int 0, .ref cm, .ref la, .int 0, .int 0, .int 0, .int 0])) :: R)))))) : va_W) H := hP
  have hD : va_D (aB base) (sbW cB la lb 16 K00 ++ (cmW cB cm ca cb 16 K00 ++ ((pa, .inl (cP, 8, .inr (.inr (.inr (.inr (fun _ => none)))))) :: cvW cI c3 f3 (pcK A0t) ++ (cvW cI c2 f2 (pcK A0t) ++ (cvW cI c1 f1 (pcK A0t) ++ (cvW cI c0 f0 (pcK A0t) ++ ((ob, .inr (3, [.ref c0, .ref c1, .ref c2, .ref c3, .int 0, .ref pa, .int 0, .int 0, .ref cm, .ref la, .int 0, .int 0, .int 0, .int 0])) :: R)))))) : va_W) := D_iff.mpr (by have h := D_iff.mp hD; exact h)
  refine lv_aload_n hx hb dX2_init_94 rfl (lv_at hl 0 rfl) ?_
  refine lv_bipush (v := (-4)) hx hb dX2_init_95 (by decide) ?_
  refine va_put (D := (dC, dI)) (ci := 3) (v := .int (-4)) (ty := .int) (C := RX2) (T := TX2) (N := 14) hx hb hts hwX2 tyX2 tyX2_ok nmX2 hown hK hP hD hS 50 rfl rfl 10 (by decide) hf_54 (fun _ h9 => h9) rfl (by decide +kernel) rfl rfl (Nat.le_of_ble_eq_true rfl) dX2_init_97 (fun H locs hP hD hS => ?_)
  have hP : va_P (dC, dI) vwCl (sbW cB la lb 16 K00 ++ (cmW cB cm ca cb 16 K00 ++ ((pa, .inl (cP, 8, .inr (.inr (.inr (.inr (fun _ => none)))))) :: cvW cI c3 f3 (pcK A0t) ++ (cvW cI c2 f2 (pcK A0t) ++ (cvW cI c1 f1 (pcK A0t) ++ (cvW cI c0 f0 (pcK A0t) ++ ((ob, .inr (3, [.ref c0, .ref c1, .ref c2, .ref c3, .int 0, .ref pa, .int 0, .int 0, .ref cm, .ref la, .int (-4), .int 0, .int 0, .int 0])) :: R)))))) : va_W) H := hP
  have hD : va_D (aB base) (sbW cB la lb 16 K00 ++ (cmW cB cm ca cb 16 K00 ++ ((pa, .inl (cP, 8, .inr (.inr (.inr (.inr (fun _ => none)))))) :: cvW cI c3 f3 (pcK A0t) ++ (cvW cI c2 f2 (pcK A0t) ++ (cvW cI c1 f1 (pcK A0t) ++ (cvW cI c0 f0 (pcK A0t) ++ ((ob, .inr (3, [.ref c0, .ref c1, .ref c2, .ref c3, .int 0, .ref pa, .int 0, .int 0, .ref cm, .ref la, .int (-4), .int 0, .int 0, .int 0])) :: R)))))) : va_W) := D_iff.mpr (by have h := D_iff.mp hD; exact h)
  refine lv_aload_n hx hb dX2_init_100 rfl (lv_at hl 0 rfl) ?_
  refine lv_bipush (v := (-4)) hx hb dX2_init_101 (by decide) ?_
  refine va_put (D := (dC, dI)) (ci := 3) (v := .int (-4)) (ty := .int) (C := RX2) (T := TX2) (N := 14) hx hb hts hwX2 tyX2 tyX2_ok nmX2 hown hK hP hD hS 50 rfl rfl 11 (by decide) hf_57 (fun _ h9 => h9) rfl (by decide +kernel) rfl rfl (Nat.le_of_ble_eq_true rfl) dX2_init_103 (fun H locs hP hD hS => ?_)
  have hP : va_P (dC, dI) vwCl (sbW cB la lb 16 K00 ++ (cmW cB cm ca cb 16 K00 ++ ((pa, .inl (cP, 8, .inr (.inr (.inr (.inr (fun _ => none)))))) :: cvW cI c3 f3 (pcK A0t) ++ (cvW cI c2 f2 (pcK A0t) ++ (cvW cI c1 f1 (pcK A0t) ++ (cvW cI c0 f0 (pcK A0t) ++ ((ob, .inr (3, [.ref c0, .ref c1, .ref c2, .ref c3, .int 0, .ref pa, .int 0, .int 0, .ref cm, .ref la, .int (-4), .int (-4), .int 0, .int 0])) :: R)))))) : va_W) H := hP
  have hD : va_D (aB base) (sbW cB la lb 16 K00 ++ (cmW cB cm ca cb 16 K00 ++ ((pa, .inl (cP, 8, .inr (.inr (.inr (.inr (fun _ => none)))))) :: cvW cI c3 f3 (pcK A0t) ++ (cvW cI c2 f2 (pcK A0t) ++ (cvW cI c1 f1 (pcK A0t) ++ (cvW cI c0 f0 (pcK A0t) ++ ((ob, .inr (3, [.ref c0, .ref c1, .ref c2, .ref c3, .int 0, .ref pa, .int 0, .int 0, .ref cm, .ref la, .int (-4), .int (-4), .int 0, .int 0])) :: R)))))) : va_W) := D_iff.mpr (by have h := D_iff.mp hD; exact h)
  refine lv_aload_n hx hb dX2_init_106 rfl (lv_at hl 0 rfl) ?_
  refine lv_bipush (v := (-4)) hx hb dX2_init_107 (by decide) ?_
  refine va_put (D := (dC, dI)) (ci := 3) (v := .int (-4)) (ty := .int) (C := RX2) (T := TX2) (N := 14) hx hb hts hwX2 tyX2 tyX2_ok nmX2 hown hK hP hD hS 50 rfl rfl 12 (by decide) hf_60 (fun _ h9 => h9) rfl (by decide +kernel) rfl rfl (Nat.le_of_ble_eq_true rfl) dX2_init_109 (fun H locs hP hD hS => ?_)
  have hP : va_P (dC, dI) vwCl (sbW cB la lb 16 K00 ++ (cmW cB cm ca cb 16 K00 ++ ((pa, .inl (cP, 8, .inr (.inr (.inr (.inr (fun _ => none)))))) :: cvW cI c3 f3 (pcK A0t) ++ (cvW cI c2 f2 (pcK A0t) ++ (cvW cI c1 f1 (pcK A0t) ++ (cvW cI c0 f0 (pcK A0t) ++ ((ob, .inr (3, [.ref c0, .ref c1, .ref c2, .ref c3, .int 0, .ref pa, .int 0, .int 0, .ref cm, .ref la, .int (-4), .int (-4), .int (-4), .int 0])) :: R)))))) : va_W) H := hP
  have hD : va_D (aB base) (sbW cB la lb 16 K00 ++ (cmW cB cm ca cb 16 K00 ++ ((pa, .inl (cP, 8, .inr (.inr (.inr (.inr (fun _ => none)))))) :: cvW cI c3 f3 (pcK A0t) ++ (cvW cI c2 f2 (pcK A0t) ++ (cvW cI c1 f1 (pcK A0t) ++ (cvW cI c0 f0 (pcK A0t) ++ ((ob, .inr (3, [.ref c0, .ref c1, .ref c2, .ref c3, .int 0, .ref pa, .int 0, .int 0, .ref cm, .ref la, .int (-4), .int (-4), .int (-4), .int 0])) :: R)))))) : va_W) := D_iff.mpr (by have h := D_iff.mp hD; exact h)
  refine lv_aload_n hx hb dX2_init_112 rfl (lv_at hl 0 rfl) ?_
  refine lv_bipush (v := (-4)) hx hb dX2_init_113 (by decide) ?_
  refine va_put (D := (dC, dI)) (ci := 3) (v := .int (-4)) (ty := .int) (C := RX2) (T := TX2) (N := 14) hx hb hts hwX2 tyX2 tyX2_ok nmX2 hown hK hP hD hS 50 rfl rfl 13 (by decide) hf_63 (fun _ h9 => h9) rfl (by decide +kernel) rfl rfl (Nat.le_of_ble_eq_true rfl) dX2_init_115 (fun H locs hP hD hS => ?_)
  have hP : va_P (dC, dI) vwCl (sbW cB la lb 16 K00 ++ (cmW cB cm ca cb 16 K00 ++ ((pa, .inl (cP, 8, .inr (.inr (.inr (.inr (fun _ => none)))))) :: cvW cI c3 f3 (pcK A0t) ++ (cvW cI c2 f2 (pcK A0t) ++ (cvW cI c1 f1 (pcK A0t) ++ (cvW cI c0 f0 (pcK A0t) ++ ((ob, .inr (3, [.ref c0, .ref c1, .ref c2, .ref c3, .int 0, .ref pa, .int 0, .int 0, .ref cm, .ref la, .int (-4), .int (-4), .int (-4), .int (-4)])) :: R)))))) : va_W) H := hP
  have hD : va_D (aB base) (sbW cB la lb 16 K00 ++ (cmW cB cm ca cb 16 K00 ++ ((pa, .inl (cP, 8, .inr (.inr (.inr (.inr (fun _ => none)))))) :: cvW cI c3 f3 (pcK A0t) ++ (cvW cI c2 f2 (pcK A0t) ++ (cvW cI c1 f1 (pcK A0t) ++ (cvW cI c0 f0 (pcK A0t) ++ ((ob, .inr (3, [.ref c0, .ref c1, .ref c2, .ref c3, .int 0, .ref pa, .int 0, .int 0, .ref cm, .ref la, .int (-4), .int (-4), .int (-4), .int (-4)])) :: R)))))) : va_W) := D_iff.mpr (by have h := D_iff.mp hD; exact h)
  refine lv_iconst (v := 0) hx hb dX2_init_118 (by decide) ?_
  refine lv_istore_n (lv' := [(1, .int 0), (0, .ref ob)]) hx hb dX2_init_119 rfl hl (by decide) rfl (fun ls hl => ?_)
  refine lv_iload_n hx hb dX2_init_120 rfl (lv_at hl 0 rfl) ?_
  refine lv_bipush (v := 8) hx hb dX2_init_121 (by decide) ?_
  refine lv_icmp_ge (tgt := 145) hx hb dX2_init_123 (by decide) (fun c1 => absurd c1 (by decide)) (fun _ => ?_)
  refine lv_aload_n hx hb dX2_init_126 rfl (lv_at hl 1 rfl) ?_
  refine va_get (D := (dC, dI)) (ci := 3) (v := .ref pa) (C := RX2) (T := TX2) (N := 14) hx hb hts hwX2 hown hK hP 50 rfl rfl 5 (by decide) hf_29 (fun _ h9 => h9) rfl dX2_init_127 ?_
  refine lv_iload_n hx hb dX2_init_130 rfl (lv_at hl 0 rfl) ?_
  refine va_new (ci := 1) (fs := [.null, .null, .null, .null, .null, .null, .null, .null, .null, .null, .int 0, .int 0, .int 0, .int 0, .int 0, .int 0]) (C := RX0) (T := TX0) (N := 16) hx hb hts hwX0 tyX0 tyX0_ok hown (hts (.classLink RX2 7 RX0) (by decide +kernel)) (hts (.instantiable RX0 16) (by decide +kernel)) (hts (.initialized RX0) (by decide +kernel)) hK hP hD hS hA rfl dfX0 (by show _ ≤ 138; omega) (by show _ ≤ 2406; omega) dX2_init_131 (fun c4 H hP hD hS => ?_)
  have hP := P_perm (List.perm_append_singleton _ _) hP
  have hD := D_perm (List.perm_append_singleton _ _) hD
  refine lv_dup hx hb dX2_init_134 rfl ?_
  refine call_IBE (As := []) (rest := [.ref c4, .int 0, .ref pa]) ⟨hx, hb, hml, hown, hts⟩ (tX0_init (l := l) (dC := dC) (dI := dI) (cI := cI) (ob := c4) (base := base) (R := (sbW cB la lb 16 K00 ++ (cmW cB cm ca cb 16 K00 ++ ((pa, .inl (cP, 8, .inr (.inr (.inr (.inr (fun _ => none)))))) :: cvW cI c3 f3 (pcK A0t) ++ (cvW cI c2 f2 (pcK A0t) ++ (cvW cI c1 f1 (pcK A0t) ++ (cvW cI c0 f0 (pcK A0t) ++ ((ob, .inr (3, [.ref c0, .ref c1, .ref c2, .ref c3, .int 0, .ref pa, .int 0, .int 0, .ref cm, .ref la, .int (-4), .int (-4), .int (-4), .int (-4)])) :: R)))))) : va_W))) (cwI 0 hts gX2_init_X0_init rfl rfl rfl (hts (.initialized RX0) (by decide +kernel)) (hts (.methodLink RX2 9 yX0_init) (by decide +kernel)) (hts (.instanceMethod yX0_init) (by decide +kernel)) rfl (by decide +kernel) ⟨Nat.le_of_ble_eq_true rfl, Nat.le_of_ble_eq_true rfl⟩) hKI hP hD hS (Nat.le_trans hbs hS.1) (fun U hU hW => Env_step rfl rfl hE hS hU hW) (by rfl) hl.1 rfl (Nat.le_of_ble_eq_true rfl) dX2_init_135 ⟨by show _ ≤ 138; omega, by show _ ≤ 2406; omega⟩ (fun H locs ws9 hW9 hP hD _ hS => ?_)
  obtain ⟨f4, rfl⟩ := hW9
  refine va_astq hx hb hK hP hD hS 16 2 0 1 rfl rfl rfl rfl (show ¬ ((0 : Int32) < 0 ∨ 8 ≤ (0 : Int32).toNatClampNeg) by decide) dX2_init_138 (fun H locs hP hD hS => ?_)
  have hP : va_P (dC, dI) vwCl (cvW cI c4 f4 (pcK A0t) ++ (sbW cB la lb 16 K00 ++ (cmW cB cm ca cb 16 K00 ++ ((pa, .inl (cP, 8, .inr (.inr (.inr (.inr (va_up (fun _ => none) 0 (some c4))))))) :: cvW cI c3 f3 (pcK A0t) ++ (cvW cI c2 f2 (pcK A0t) ++ (cvW cI c1 f1 (pcK A0t) ++ (cvW cI c0 f0 (pcK A0t) ++ ((ob, .inr (3, [.ref c0, .ref c1, .ref c2, .ref c3, .int 0, .ref pa, .int 0, .int 0, .ref cm, .ref la, .int (-4), .int (-4), .int (-4), .int (-4)])) :: R))))))) : va_W) H := hP
  have hD : va_D (aB base) (cvW cI c4 f4 (pcK A0t) ++ (sbW cB la lb 16 K00 ++ (cmW cB cm ca cb 16 K00 ++ ((pa, .inl (cP, 8, .inr (.inr (.inr (.inr (va_up (fun _ => none) 0 (some c4))))))) :: cvW cI c3 f3 (pcK A0t) ++ (cvW cI c2 f2 (pcK A0t) ++ (cvW cI c1 f1 (pcK A0t) ++ (cvW cI c0 f0 (pcK A0t) ++ ((ob, .inr (3, [.ref c0, .ref c1, .ref c2, .ref c3, .int 0, .ref pa, .int 0, .int 0, .ref cm, .ref la, .int (-4), .int (-4), .int (-4), .int (-4)])) :: R))))))) : va_W) := D_iff.mpr (by have h := D_iff.mp hD; exact h)
  refine lv_iinc (v := 1) (lv' := [(1, .int 1), (0, .ref ob)]) hx hb dX2_init_139 hl (k := 0) rfl rfl (by decide) rfl (fun ls hl => ?_)
  refine lv_goto (tgt := 120) hx hb dX2_init_142 (by decide) ?_
  refine lv_iload_n hx hb dX2_init_120 rfl (lv_at hl 0 rfl) ?_
  refine lv_bipush (v := 8) hx hb dX2_init_121 (by decide) ?_
  refine lv_icmp_ge (tgt := 145) hx hb dX2_init_123 (by decide) (fun c1 => absurd c1 (by decide)) (fun _ => ?_)
  refine lv_aload_n hx hb dX2_init_126 rfl (lv_at hl 1 rfl) ?_
  refine va_get (D := (dC, dI)) (ci := 3) (v := .ref pa) (C := RX2) (T := TX2) (N := 14) hx hb hts hwX2 hown hK hP 61 rfl rfl 5 (by decide) hf_29 (fun _ h9 => h9) rfl dX2_init_127 ?_
  refine lv_iload_n hx hb dX2_init_130 rfl (lv_at hl 0 rfl) ?_
  refine va_new (ci := 1) (fs := [.null, .null, .null, .null, .null, .null, .null, .null, .null, .null, .int 0, .int 0, .int 0, .int 0, .int 0, .int 0]) (C := RX0) (T := TX0) (N := 16) hx hb hts hwX0 tyX0 tyX0_ok hown (hts (.classLink RX2 7 RX0) (by decide +kernel)) (hts (.instantiable RX0 16) (by decide +kernel)) (hts (.initialized RX0) (by decide +kernel)) hK hP hD hS hA rfl dfX0 (by show _ ≤ 138; omega) (by show _ ≤ 2406; omega) dX2_init_131 (fun c5 H hP hD hS => ?_)
  have hP := P_perm (List.perm_append_singleton _ _) hP
  have hD := D_perm (List.perm_append_singleton _ _) hD
  refine lv_dup hx hb dX2_init_134 rfl ?_
  refine call_IBE (As := []) (rest := [.ref c5, .int 1, .ref pa]) ⟨hx, hb, hml, hown, hts⟩ (tX0_init (l := l) (dC := dC) (dI := dI) (cI := cI) (ob := c5) (base := base) (R := (cvW cI c4 f4 (pcK A0t) ++ (sbW cB la lb 16 K00 ++ (cmW cB cm ca cb 16 K00 ++ ((pa, .inl (cP, 8, .inr (.inr (.inr (.inr (va_up (fun _ => none) 0 (some c4))))))) :: cvW cI c3 f3 (pcK A0t) ++ (cvW cI c2 f2 (pcK A0t) ++ (cvW cI c1 f1 (pcK A0t) ++ (cvW cI c0 f0 (pcK A0t) ++ ((ob, .inr (3, [.ref c0, .ref c1, .ref c2, .ref c3, .int 0, .ref pa, .int 0, .int 0, .ref cm, .ref la, .int (-4), .int (-4), .int (-4), .int (-4)])) :: R))))))) : va_W))) (cwI 0 hts gX2_init_X0_init rfl rfl rfl (hts (.initialized RX0) (by decide +kernel)) (hts (.methodLink RX2 9 yX0_init) (by decide +kernel)) (hts (.instanceMethod yX0_init) (by decide +kernel)) rfl (by decide +kernel) ⟨Nat.le_of_ble_eq_true rfl, Nat.le_of_ble_eq_true rfl⟩) hKI hP hD hS (Nat.le_trans hbs hS.1) (fun U hU hW => Env_step rfl rfl hE hS hU hW) (by rfl) hl.1 rfl (Nat.le_of_ble_eq_true rfl) dX2_init_135 ⟨by show _ ≤ 138; omega, by show _ ≤ 2406; omega⟩ (fun H locs ws9 hW9 hP hD _ hS => ?_)
  obtain ⟨f5, rfl⟩ := hW9
  refine va_astq hx hb hK hP hD hS 27 2 0 1 rfl rfl rfl rfl (show ¬ ((1 : Int32) < 0 ∨ 8 ≤ (1 : Int32).toNatClampNeg) by decide) dX2_init_138 (fun H locs hP hD hS => ?_)
  have hP : va_P (dC, dI) vwCl (cvW cI c5 f5 (pcK A0t) ++ (cvW cI c4 f4 (pcK A0t) ++ (sbW cB la lb 16 K00 ++ (cmW cB cm ca cb 16 K00 ++ ((pa, .inl (cP, 8, .inr (.inr (.inr (.inr (va_up (va_up (fun _ => none) 0 (some c4)) 1 (some c5))))))) :: cvW cI c3 f3 (pcK A0t) ++ (cvW cI c2 f2 (pcK A0t) ++ (cvW cI c1 f1 (pcK A0t) ++ (cvW cI c0 f0 (pcK A0t) ++ ((ob, .inr (3, [.ref c0, .ref c1, .ref c2, .ref c3, .int 0, .ref pa, .int 0, .int 0, .ref cm, .ref la, .int (-4), .int (-4), .int (-4), .int (-4)])) :: R)))))))) : va_W) H := hP
  have hD : va_D (aB base) (cvW cI c5 f5 (pcK A0t) ++ (cvW cI c4 f4 (pcK A0t) ++ (sbW cB la lb 16 K00 ++ (cmW cB cm ca cb 16 K00 ++ ((pa, .inl (cP, 8, .inr (.inr (.inr (.inr (va_up (va_up (fun _ => none) 0 (some c4)) 1 (some c5))))))) :: cvW cI c3 f3 (pcK A0t) ++ (cvW cI c2 f2 (pcK A0t) ++ (cvW cI c1 f1 (pcK A0t) ++ (cvW cI c0 f0 (pcK A0t) ++ ((ob, .inr (3, [.ref c0, .ref c1, .ref c2, .ref c3, .int 0, .ref pa, .int 0, .int 0, .ref cm, .ref la, .int (-4), .int (-4), .int (-4), .int (-4)])) :: R)))))))) : va_W) := D_iff.mpr (by have h := D_iff.mp hD; exact h)
  refine lv_iinc (v := 2) (lv' := [(1, .int 2), (0, .ref ob)]) hx hb dX2_init_139 hl (k := 0) rfl rfl (by decide) rfl (fun ls hl => ?_)
  refine lv_goto (tgt := 120) hx hb dX2_init_142 (by decide) ?_
  refine lv_iload_n hx hb dX2_init_120 rfl (lv_at hl 0 rfl) ?_
  refine lv_bipush (v := 8) hx hb dX2_init_121 (by decide) ?_
  refine lv_icmp_ge (tgt := 145) hx hb dX2_init_123 (by decide) (fun c1 => absurd c1 (by decide)) (fun _ => ?_)
  refine lv_aload_n hx hb dX2_init_126 rfl (lv_at hl 1 rfl) ?_
  refine va_get (D := (dC, dI)) (ci := 3) (v := .ref pa) (C := RX2) (T := TX2) (N := 14) hx hb hts hwX2 hown hK hP 72 rfl rfl 5 (by decide) hf_29 (fun _ h9 => h9) rfl dX2_init_127 ?_
  refine lv_iload_n hx hb dX2_init_130 rfl (lv_at hl 0 rfl) ?_
  refine va_new (ci := 1) (fs := [.null, .null, .null, .null, .null, .null, .null, .null, .null, .null, .int 0, .int 0, .int 0, .int 0, .int 0, .int 0]) (C := RX0) (T := TX0) (N := 16) hx hb hts hwX0 tyX0 tyX0_ok hown (hts (.classLink RX2 7 RX0) (by decide +kernel)) (hts (.instantiable RX0 16) (by decide +kernel)) (hts (.initialized RX0) (by decide +kernel)) hK hP hD hS hA rfl dfX0 (by show _ ≤ 138; omega) (by show _ ≤ 2406; omega) dX2_init_131 (fun c6 H hP hD hS => ?_)
  have hP := P_perm (List.perm_append_singleton _ _) hP
  have hD := D_perm (List.perm_append_singleton _ _) hD
  refine lv_dup hx hb dX2_init_134 rfl ?_
  refine call_IBE (As := []) (rest := [.ref c6, .int 2, .ref pa]) ⟨hx, hb, hml, hown, hts⟩ (tX0_init (l := l) (dC := dC) (dI := dI) (cI := cI) (ob := c6) (base := base) (R := (cvW cI c5 f5 (pcK A0t) ++ (cvW cI c4 f4 (pcK A0t) ++ (sbW cB la lb 16 K00 ++ (cmW cB cm ca cb 16 K00 ++ ((pa, .inl (cP, 8, .inr (.inr (.inr (.inr (va_up (va_up (fun _ => none) 0 (some c4)) 1 (some c5))))))) :: cvW cI c3 f3 (pcK A0t) ++ (cvW cI c2 f2 (pcK A0t) ++ (cvW cI c1 f1 (pcK A0t) ++ (cvW cI c0 f0 (pcK A0t) ++ ((ob, .inr (3, [.ref c0, .ref c1, .ref c2, .ref c3, .int 0, .ref pa, .int 0, .int 0, .ref cm, .ref la, .int (-4), .int (-4), .int (-4), .int (-4)])) :: R)))))))) : va_W))) (cwI 0 hts gX2_init_X0_init rfl rfl rfl (hts (.initialized RX0) (by decide +kernel)) (hts (.methodLink RX2 9 yX0_init) (by decide +kernel)) (hts (.instanceMethod yX0_init) (by decide +kernel)) rfl (by decide +kernel) ⟨Nat.le_of_ble_eq_true rfl, Nat.le_of_ble_eq_true rfl⟩) hKI hP hD hS (Nat.le_trans hbs hS.1) (fun U hU hW => Env_step rfl rfl hE hS hU hW) (by rfl) hl.1 rfl (Nat.le_of_ble_eq_true rfl) dX2_init_135 ⟨by show _ ≤ 138; omega, by show _ ≤ 2406; omega⟩ (fun H locs ws9 hW9 hP hD _ hS => ?_)
  obtain ⟨f6, rfl⟩ := hW9
  refine va_astq hx hb hK hP hD hS 38 2 0 1 rfl rfl rfl rfl (show ¬ ((2 : Int32) < 0 ∨ 8 ≤ (2 : Int32).toNatClampNeg) by decide) dX2_init_138 (fun H locs hP hD hS => ?_)
  have hP : va_P (dC, dI) vwCl (cvW cI c6 f6 (pcK A0t) ++ (cvW cI c5 f5 (pcK A0t) ++ (cvW cI c4 f4 (pcK A0t) ++ (sbW cB la lb 16 K00 ++ (cmW cB cm ca cb 16 K00 ++ ((pa, .inl (cP, 8, .inr (.inr (.inr (.inr (va_up (va_up (va_up (fun _ => none) 0 (some c4)) 1 (some c5)) 2 (some c6))))))) :: cvW cI c3 f3 (pcK A0t) ++ (cvW cI c2 f2 (pcK A0t) ++ (cvW cI c1 f1 (pcK A0t) ++ (cvW cI c0 f0 (pcK A0t) ++ ((ob, .inr (3, [.ref c0, .ref c1, .ref c2, .ref c3, .int 0, .ref pa, .int 0, .int 0, .ref cm, .ref la, .int (-4), .int (-4), .int (-4), .int (-4)])) :: R))))))))) : va_W) H := hP
  have hD : va_D (aB base) (cvW cI c6 f6 (pcK A0t) ++ (cvW cI c5 f5 (pcK A0t) ++ (cvW cI c4 f4 (pcK A0t) ++ (sbW cB la lb 16 K00 ++ (cmW cB cm ca cb 16 K00 ++ ((pa, .inl (cP, 8, .inr (.inr (.inr (.inr (va_up (va_up (va_up (fun _ => none) 0 (some c4)) 1 (some c5)) 2 (some c6))))))) :: cvW cI c3 f3 (pcK A0t) ++ (cvW cI c2 f2 (pcK A0t) ++ (cvW cI c1 f1 (pcK A0t) ++ (cvW cI c0 f0 (pcK A0t) ++ ((ob, .inr (3, [.ref c0, .ref c1, .ref c2, .ref c3, .int 0, .ref pa, .int 0, .int 0, .ref cm, .ref la, .int (-4), .int (-4), .int (-4), .int (-4)])) :: R))))))))) : va_W) := D_iff.mpr (by have h := D_iff.mp hD; exact h)
  refine lv_iinc (v := 3) (lv' := [(1, .int 3), (0, .ref ob)]) hx hb dX2_init_139 hl (k := 0) rfl rfl (by decide) rfl (fun ls hl => ?_)
  refine lv_goto (tgt := 120) hx hb dX2_init_142 (by decide) ?_
  refine lv_iload_n hx hb dX2_init_120 rfl (lv_at hl 0 rfl) ?_
  refine lv_bipush (v := 8) hx hb dX2_init_121 (by decide) ?_
  refine lv_icmp_ge (tgt := 145) hx hb dX2_init_123 (by decide) (fun c1 => absurd c1 (by decide)) (fun _ => ?_)
  refine lv_aload_n hx hb dX2_init_126 rfl (lv_at hl 1 rfl) ?_
  refine va_get (D := (dC, dI)) (ci := 3) (v := .ref pa) (C := RX2) (T := TX2) (N := 14) hx hb hts hwX2 hown hK hP 83 rfl rfl 5 (by decide) hf_29 (fun _ h9 => h9) rfl dX2_init_127 ?_
  refine lv_iload_n hx hb dX2_init_130 rfl (lv_at hl 0 rfl) ?_
  refine va_new (ci := 1) (fs := [.null, .null, .null, .null, .null, .null, .null, .null, .null, .null, .int 0, .int 0, .int 0, .int 0, .int 0, .int 0]) (C := RX0) (T := TX0) (N := 16) hx hb hts hwX0 tyX0 tyX0_ok hown (hts (.classLink RX2 7 RX0) (by decide +kernel)) (hts (.instantiable RX0 16) (by decide +kernel)) (hts (.initialized RX0) (by decide +kernel)) hK hP hD hS hA rfl dfX0 (by show _ ≤ 138; omega) (by show _ ≤ 2406; omega) dX2_init_131 (fun c7 H hP hD hS => ?_)
  have hP := P_perm (List.perm_append_singleton _ _) hP
  have hD := D_perm (List.perm_append_singleton _ _) hD
  refine lv_dup hx hb dX2_init_134 rfl ?_
  refine call_IBE (As := []) (rest := [.ref c7, .int 3, .ref pa]) ⟨hx, hb, hml, hown, hts⟩ (tX0_init (l := l) (dC := dC) (dI := dI) (cI := cI) (ob := c7) (base := base) (R := (cvW cI c6 f6 (pcK A0t) ++ (cvW cI c5 f5 (pcK A0t) ++ (cvW cI c4 f4 (pcK A0t) ++ (sbW cB la lb 16 K00 ++ (cmW cB cm ca cb 16 K00 ++ ((pa, .inl (cP, 8, .inr (.inr (.inr (.inr (va_up (va_up (va_up (fun _ => none) 0 (some c4)) 1 (some c5)) 2 (some c6))))))) :: cvW cI c3 f3 (pcK A0t) ++ (cvW cI c2 f2 (pcK A0t) ++ (cvW cI c1 f1 (pcK A0t) ++ (cvW cI c0 f0 (pcK A0t) ++ ((ob, .inr (3, [.ref c0, .ref c1, .ref c2, .ref c3, .int 0, .ref pa, .int 0, .int 0, .ref cm, .ref la, .int (-4), .int (-4), .int (-4), .int (-4)])) :: R))))))))) : va_W))) (cwI 0 hts gX2_init_X0_init rfl rfl rfl (hts (.initialized RX0) (by decide +kernel)) (hts (.methodLink RX2 9 yX0_init) (by decide +kernel)) (hts (.instanceMethod yX0_init) (by decide +kernel)) rfl (by decide +kernel) ⟨Nat.le_of_ble_eq_true rfl, Nat.le_of_ble_eq_true rfl⟩) hKI hP hD hS (Nat.le_trans hbs hS.1) (fun U hU hW => Env_step rfl rfl hE hS hU hW) (by rfl) hl.1 rfl (Nat.le_of_ble_eq_true rfl) dX2_init_135 ⟨by show _ ≤ 138; omega, by show _ ≤ 2406; omega⟩ (fun H locs ws9 hW9 hP hD _ hS => ?_)
  obtain ⟨f7, rfl⟩ := hW9
  refine va_astq hx hb hK hP hD hS 49 2 0 1 rfl rfl rfl rfl (show ¬ ((3 : Int32) < 0 ∨ 8 ≤ (3 : Int32).toNatClampNeg) by decide) dX2_init_138 (fun H locs hP hD hS => ?_)
  have hP : va_P (dC, dI) vwCl (cvW cI c7 f7 (pcK A0t) ++ (cvW cI c6 f6 (pcK A0t) ++ (cvW cI c5 f5 (pcK A0t) ++ (cvW cI c4 f4 (pcK A0t) ++ (sbW cB la lb 16 K00 ++ (cmW cB cm ca cb 16 K00 ++ ((pa, .inl (cP, 8, .inr (.inr (.inr (.inr (va_up (va_up (va_up (va_up (fun _ => none) 0 (some c4)) 1 (some c5)) 2 (some c6)) 3 (some c7))))))) :: cvW cI c3 f3 (pcK A0t) ++ (cvW cI c2 f2 (pcK A0t) ++ (cvW cI c1 f1 (pcK A0t) ++ (cvW cI c0 f0 (pcK A0t) ++ ((ob, .inr (3, [.ref c0, .ref c1, .ref c2, .ref c3, .int 0, .ref pa, .int 0, .int 0, .ref cm, .ref la, .int (-4), .int (-4), .int (-4), .int (-4)])) :: R)))))))))) : va_W) H := hP
  have hD : va_D (aB base) (cvW cI c7 f7 (pcK A0t) ++ (cvW cI c6 f6 (pcK A0t) ++ (cvW cI c5 f5 (pcK A0t) ++ (cvW cI c4 f4 (pcK A0t) ++ (sbW cB la lb 16 K00 ++ (cmW cB cm ca cb 16 K00 ++ ((pa, .inl (cP, 8, .inr (.inr (.inr (.inr (va_up (va_up (va_up (va_up (fun _ => none) 0 (some c4)) 1 (some c5)) 2 (some c6)) 3 (some c7))))))) :: cvW cI c3 f3 (pcK A0t) ++ (cvW cI c2 f2 (pcK A0t) ++ (cvW cI c1 f1 (pcK A0t) ++ (cvW cI c0 f0 (pcK A0t) ++ ((ob, .inr (3, [.ref c0, .ref c1, .ref c2, .ref c3, .int 0, .ref pa, .int 0, .int 0, .ref cm, .ref la, .int (-4), .int (-4), .int (-4), .int (-4)])) :: R)))))))))) : va_W) := D_iff.mpr (by have h := D_iff.mp hD; exact h)
  refine lv_iinc (v := 4) (lv' := [(1, .int 4), (0, .ref ob)]) hx hb dX2_init_139 hl (k := 0) rfl rfl (by decide) rfl (fun ls hl => ?_)
  refine lv_goto (tgt := 120) hx hb dX2_init_142 (by decide) ?_
  refine lv_iload_n hx hb dX2_init_120 rfl (lv_at hl 0 rfl) ?_
  refine lv_bipush (v := 8) hx hb dX2_init_121 (by decide) ?_
  refine lv_icmp_ge (tgt := 145) hx hb dX2_init_123 (by decide) (fun c1 => absurd c1 (by decide)) (fun _ => ?_)
  refine lv_aload_n hx hb dX2_init_126 rfl (lv_at hl 1 rfl) ?_
  refine va_get (D := (dC, dI)) (ci := 3) (v := .ref pa) (C := RX2) (T := TX2) (N := 14) hx hb hts hwX2 hown hK hP 94 rfl rfl 5 (by decide) hf_29 (fun _ h9 => h9) rfl dX2_init_127 ?_
  refine lv_iload_n hx hb dX2_init_130 rfl (lv_at hl 0 rfl) ?_
  refine va_new (ci := 1) (fs := [.null, .null, .null, .null, .null, .null, .null, .null, .null, .null, .int 0, .int 0, .int 0, .int 0, .int 0, .int 0]) (C := RX0) (T := TX0) (N := 16) hx hb hts hwX0 tyX0 tyX0_ok hown (hts (.classLink RX2 7 RX0) (by decide +kernel)) (hts (.instantiable RX0 16) (by decide +kernel)) (hts (.initialized RX0) (by decide +kernel)) hK hP hD hS hA rfl dfX0 (by show _ ≤ 138; omega) (by show _ ≤ 2406; omega) dX2_init_131 (fun c8 H hP hD hS => ?_)
  have hP := P_perm (List.perm_append_singleton _ _) hP
  have hD := D_perm (List.perm_append_singleton _ _) hD
  refine lv_dup hx hb dX2_init_134 rfl ?_
  refine call_IBE (As := []) (rest := [.ref c8, .int 4, .ref pa]) ⟨hx, hb, hml, hown, hts⟩ (tX0_init (l := l) (dC := dC) (dI := dI) (cI := cI) (ob := c8) (base := base) (R := (cvW cI c7 f7 (pcK A0t) ++ (cvW cI c6 f6 (pcK A0t) ++ (cvW cI c5 f5 (pcK A0t) ++ (cvW cI c4 f4 (pcK A0t) ++ (sbW cB la lb 16 K00 ++ (cmW cB cm ca cb 16 K00 ++ ((pa, .inl (cP, 8, .inr (.inr (.inr (.inr (va_up (va_up (va_up (va_up (fun _ => none) 0 (some c4)) 1 (some c5)) 2 (some c6)) 3 (some c7))))))) :: cvW cI c3 f3 (pcK A0t) ++ (cvW cI c2 f2 (pcK A0t) ++ (cvW cI c1 f1 (pcK A0t) ++ (cvW cI c0 f0 (pcK A0t) ++ ((ob, .inr (3, [.ref c0, .ref c1, .ref c2, .ref c3, .int 0, .ref pa, .int 0, .int 0, .ref cm, .ref la, .int (-4), .int (-4), .int (-4), .int (-4)])) :: R)))))))))) : va_W))) (cwI 0 hts gX2_init_X0_init rfl rfl rfl (hts (.initialized RX0) (by decide +kernel)) (hts (.methodLink RX2 9 yX0_init) (by decide +kernel)) (hts (.instanceMethod yX0_init) (by decide +kernel)) rfl (by decide +kernel) ⟨Nat.le_of_ble_eq_true rfl, Nat.le_of_ble_eq_true rfl⟩) hKI hP hD hS (Nat.le_trans hbs hS.1) (fun U hU hW => Env_step rfl rfl hE hS hU hW) (by rfl) hl.1 rfl (Nat.le_of_ble_eq_true rfl) dX2_init_135 ⟨by show _ ≤ 138; omega, by show _ ≤ 2406; omega⟩ (fun H locs ws9 hW9 hP hD _ hS => ?_)
  obtain ⟨f8, rfl⟩ := hW9
  refine va_astq hx hb hK hP hD hS 60 2 0 1 rfl rfl rfl rfl (show ¬ ((4 : Int32) < 0 ∨ 8 ≤ (4 : Int32).toNatClampNeg) by decide) dX2_init_138 (fun H locs hP hD hS => ?_)
  have hP : va_P (dC, dI) vwCl (cvW cI c8 f8 (pcK A0t) ++ (cvW cI c7 f7 (pcK A0t) ++ (cvW cI c6 f6 (pcK A0t) ++ (cvW cI c5 f5 (pcK A0t) ++ (cvW cI c4 f4 (pcK A0t) ++ (sbW cB la lb 16 K00 ++ (cmW cB cm ca cb 16 K00 ++ ((pa, .inl (cP, 8, .inr (.inr (.inr (.inr (va_up (va_up (va_up (va_up (va_up (fun _ => none) 0 (some c4)) 1 (some c5)) 2 (some c6)) 3 (some c7)) 4 (some c8))))))) :: cvW cI c3 f3 (pcK A0t) ++ (cvW cI c2 f2 (pcK A0t) ++ (cvW cI c1 f1 (pcK A0t) ++ (cvW cI c0 f0 (pcK A0t) ++ ((ob, .inr (3, [.ref c0, .ref c1, .ref c2, .ref c3, .int 0, .ref pa, .int 0, .int 0, .ref cm, .ref la, .int (-4), .int (-4), .int (-4), .int (-4)])) :: R))))))))))) : va_W) H := hP
  have hD : va_D (aB base) (cvW cI c8 f8 (pcK A0t) ++ (cvW cI c7 f7 (pcK A0t) ++ (cvW cI c6 f6 (pcK A0t) ++ (cvW cI c5 f5 (pcK A0t) ++ (cvW cI c4 f4 (pcK A0t) ++ (sbW cB la lb 16 K00 ++ (cmW cB cm ca cb 16 K00 ++ ((pa, .inl (cP, 8, .inr (.inr (.inr (.inr (va_up (va_up (va_up (va_up (va_up (fun _ => none) 0 (some c4)) 1 (some c5)) 2 (some c6)) 3 (some c7)) 4 (some c8))))))) :: cvW cI c3 f3 (pcK A0t) ++ (cvW cI c2 f2 (pcK A0t) ++ (cvW cI c1 f1 (pcK A0t) ++ (cvW cI c0 f0 (pcK A0t) ++ ((ob, .inr (3, [.ref c0, .ref c1, .ref c2, .ref c3, .int 0, .ref pa, .int 0, .int 0, .ref cm, .ref la, .int (-4), .int (-4), .int (-4), .int (-4)])) :: R))))))))))) : va_W) := D_iff.mpr (by have h := D_iff.mp hD; exact h)
  refine lv_iinc (v := 5) (lv' := [(1, .int 5), (0, .ref ob)]) hx hb dX2_init_139 hl (k := 0) rfl rfl (by decide) rfl (fun ls hl => ?_)
  refine lv_goto (tgt := 120) hx hb dX2_init_142 (by decide) ?_
  refine lv_iload_n hx hb dX2_init_120 rfl (lv_at hl 0 rfl) ?_
  refine lv_bipush (v := 8) hx hb dX2_init_121 (by decide) ?_
  refine lv_icmp_ge (tgt := 145) hx hb dX2_init_123 (by decide) (fun c1 => absurd c1 (by decide)) (fun _ => ?_)
  refine lv_aload_n hx hb dX2_init_126 rfl (lv_at hl 1 rfl) ?_
  refine va_get (D := (dC, dI)) (ci := 3) (v := .ref pa) (C := RX2) (T := TX2) (N := 14) hx hb hts hwX2 hown hK hP 105 rfl rfl 5 (by decide) hf_29 (fun _ h9 => h9) rfl dX2_init_127 ?_
  refine lv_iload_n hx hb dX2_init_130 rfl (lv_at hl 0 rfl) ?_
  refine va_new (ci := 1) (fs := [.null, .null, .null, .null, .null, .null, .null, .null, .null, .null, .int 0, .int 0, .int 0, .int 0, .int 0, .int 0]) (C := RX0) (T := TX0) (N := 16) hx hb hts hwX0 tyX0 tyX0_ok hown (hts (.classLink RX2 7 RX0) (by decide +kernel)) (hts (.instantiable RX0 16) (by decide +kernel)) (hts (.initialized RX0) (by decide +kernel)) hK hP hD hS hA rfl dfX0 (by show _ ≤ 138; omega) (by show _ ≤ 2406; omega) dX2_init_131 (fun c9 H hP hD hS => ?_)
  have hP := P_perm (List.perm_append_singleton _ _) hP
  have hD := D_perm (List.perm_append_singleton _ _) hD
  refine lv_dup hx hb dX2_init_134 rfl ?_
  refine call_IBE (As := []) (rest := [.ref c9, .int 5, .ref pa]) ⟨hx, hb, hml, hown, hts⟩ (tX0_init (l := l) (dC := dC) (dI := dI) (cI := cI) (ob := c9) (base := base) (R := (cvW cI c8 f8 (pcK A0t) ++ (cvW cI c7 f7 (pcK A0t) ++ (cvW cI c6 f6 (pcK A0t) ++ (cvW cI c5 f5 (pcK A0t) ++ (cvW cI c4 f4 (pcK A0t) ++ (sbW cB la lb 16 K00 ++ (cmW cB cm ca cb 16 K00 ++ ((pa, .inl (cP, 8, .inr (.inr (.inr (.inr (va_up (va_up (va_up (va_up (va_up (fun _ => none) 0 (some c4)) 1 (some c5)) 2 (some c6)) 3 (some c7)) 4 (some c8))))))) :: cvW cI c3 f3 (pcK A0t) ++ (cvW cI c2 f2 (pcK A0t) ++ (cvW cI c1 f1 (pcK A0t) ++ (cvW cI c0 f0 (pcK A0t) ++ ((ob, .inr (3, [.ref c0, .ref c1, .ref c2, .ref c3, .int 0, .ref pa, .int 0, .int 0, .ref cm, .ref la, .int (-4), .int (-4), .int (-4), .int (-4)])) :: R))))))))))) : va_W))) (cwI 0 hts gX2_init_X0_init rfl rfl rfl (hts (.initialized RX0) (by decide +kernel)) (hts (.methodLink RX2 9 yX0_init) (by decide +kernel)) (hts (.instanceMethod yX0_init) (by decide +kernel)) rfl (by decide +kernel) ⟨Nat.le_of_ble_eq_true rfl, Nat.le_of_ble_eq_true rfl⟩) hKI hP hD hS (Nat.le_trans hbs hS.1) (fun U hU hW => Env_step rfl rfl hE hS hU hW) (by rfl) hl.1 rfl (Nat.le_of_ble_eq_true rfl) dX2_init_135 ⟨by show _ ≤ 138; omega, by show _ ≤ 2406; omega⟩ (fun H locs ws9 hW9 hP hD _ hS => ?_)
  obtain ⟨f9, rfl⟩ := hW9
  refine va_astq hx hb hK hP hD hS 71 2 0 1 rfl rfl rfl rfl (show ¬ ((5 : Int32) < 0 ∨ 8 ≤ (5 : Int32).toNatClampNeg) by decide) dX2_init_138 (fun H locs hP hD hS => ?_)
  have hP : va_P (dC, dI) vwCl (cvW cI c9 f9 (pcK A0t) ++ (cvW cI c8 f8 (pcK A0t) ++ (cvW cI c7 f7 (pcK A0t) ++ (cvW cI c6 f6 (pcK A0t) ++ (cvW cI c5 f5 (pcK A0t) ++ (cvW cI c4 f4 (pcK A0t) ++ (sbW cB la lb 16 K00 ++ (cmW cB cm ca cb 16 K00 ++ ((pa, .inl (cP, 8, .inr (.inr (.inr (.inr (va_up (va_up (va_up (va_up (va_up (va_up (fun _ => none) 0 (some c4)) 1 (some c5)) 2 (some c6)) 3 (some c7)) 4 (some c8)) 5 (some c9))))))) :: cvW cI c3 f3 (pcK A0t) ++ (cvW cI c2 f2 (pcK A0t) ++ (cvW cI c1 f1 (pcK A0t) ++ (cvW cI c0 f0 (pcK A0t) ++ ((ob, .inr (3, [.ref c0, .ref c1, .ref c2, .ref c3, .int 0, .ref pa, .int 0, .int 0, .ref cm, .ref la, .int (-4), .int (-4), .int (-4), .int (-4)])) :: R)))))))))))) : va_W) H := hP
  have hD : va_D (aB base) (cvW cI c9 f9 (pcK A0t) ++ (cvW cI c8 f8 (pcK A0t) ++ (cvW cI c7 f7 (pcK A0t) ++ (cvW cI c6 f6 (pcK A0t) ++ (cvW cI c5 f5 (pcK A0t) ++ (cvW cI c4 f4 (pcK A0t) ++ (sbW cB la lb 16 K00 ++ (cmW cB cm ca cb 16 K00 ++ ((pa, .inl (cP, 8, .inr (.inr (.inr (.inr (va_up (va_up (va_up (va_up (va_up (va_up (fun _ => none) 0 (some c4)) 1 (some c5)) 2 (some c6)) 3 (some c7)) 4 (some c8)) 5 (some c9))))))) :: cvW cI c3 f3 (pcK A0t) ++ (cvW cI c2 f2 (pcK A0t) ++ (cvW cI c1 f1 (pcK A0t) ++ (cvW cI c0 f0 (pcK A0t) ++ ((ob, .inr (3, [.ref c0, .ref c1, .ref c2, .ref c3, .int 0, .ref pa, .int 0, .int 0, .ref cm, .ref la, .int (-4), .int (-4), .int (-4), .int (-4)])) :: R)))))))))))) : va_W) := D_iff.mpr (by have h := D_iff.mp hD; exact h)
  refine lv_iinc (v := 6) (lv' := [(1, .int 6), (0, .ref ob)]) hx hb dX2_init_139 hl (k := 0) rfl rfl (by decide) rfl (fun ls hl => ?_)
  refine lv_goto (tgt := 120) hx hb dX2_init_142 (by decide) ?_
  refine lv_iload_n hx hb dX2_init_120 rfl (lv_at hl 0 rfl) ?_
  refine lv_bipush (v := 8) hx hb dX2_init_121 (by decide) ?_
  refine lv_icmp_ge (tgt := 145) hx hb dX2_init_123 (by decide) (fun c1 => absurd c1 (by decide)) (fun _ => ?_)
  refine lv_aload_n hx hb dX2_init_126 rfl (lv_at hl 1 rfl) ?_
  refine va_get (D := (dC, dI)) (ci := 3) (v := .ref pa) (C := RX2) (T := TX2) (N := 14) hx hb hts hwX2 hown hK hP 116 rfl rfl 5 (by decide) hf_29 (fun _ h9 => h9) rfl dX2_init_127 ?_
  refine lv_iload_n hx hb dX2_init_130 rfl (lv_at hl 0 rfl) ?_
  refine va_new (ci := 1) (fs := [.null, .null, .null, .null, .null, .null, .null, .null, .null, .null, .int 0, .int 0, .int 0, .int 0, .int 0, .int 0]) (C := RX0) (T := TX0) (N := 16) hx hb hts hwX0 tyX0 tyX0_ok hown (hts (.classLink RX2 7 RX0) (by decide +kernel)) (hts (.instantiable RX0 16) (by decide +kernel)) (hts (.initialized RX0) (by decide +kernel)) hK hP hD hS hA rfl dfX0 (by show _ ≤ 138; omega) (by show _ ≤ 2406; omega) dX2_init_131 (fun c10 H hP hD hS => ?_)
  have hP := P_perm (List.perm_append_singleton _ _) hP
  have hD := D_perm (List.perm_append_singleton _ _) hD
  refine lv_dup hx hb dX2_init_134 rfl ?_
  refine call_IBE (As := []) (rest := [.ref c10, .int 6, .ref pa]) ⟨hx, hb, hml, hown, hts⟩ (tX0_init (l := l) (dC := dC) (dI := dI) (cI := cI) (ob := c10) (base := base) (R := (cvW cI c9 f9 (pcK A0t) ++ (cvW cI c8 f8 (pcK A0t) ++ (cvW cI c7 f7 (pcK A0t) ++ (cvW cI c6 f6 (pcK A0t) ++ (cvW cI c5 f5 (pcK A0t) ++ (cvW cI c4 f4 (pcK A0t) ++ (sbW cB la lb 16 K00 ++ (cmW cB cm ca cb 16 K00 ++ ((pa, .inl (cP, 8, .inr (.inr (.inr (.inr (va_up (va_up (va_up (va_up (va_up (va_up (fun _ => none) 0 (some c4)) 1 (some c5)) 2 (some c6)) 3 (some c7)) 4 (some c8)) 5 (some c9))))))) :: cvW cI c3 f3 (pcK A0t) ++ (cvW cI c2 f2 (pcK A0t) ++ (cvW cI c1 f1 (pcK A0t) ++ (cvW cI c0 f0 (pcK A0t) ++ ((ob, .inr (3, [.ref c0, .ref c1, .ref c2, .ref c3, .int 0, .ref pa, .int 0, .int 0, .ref cm, .ref la, .int (-4), .int (-4), .int (-4), .int (-4)])) :: R)))))))))))) : va_W))) (cwI 0 hts gX2_init_X0_init rfl rfl rfl (hts (.initialized RX0) (by decide +kernel)) (hts (.methodLink RX2 9 yX0_init) (by decide +kernel)) (hts (.instanceMethod yX0_init) (by decide +kernel)) rfl (by decide +kernel) ⟨Nat.le_of_ble_eq_true rfl, Nat.le_of_ble_eq_true rfl⟩) hKI hP hD hS (Nat.le_trans hbs hS.1) (fun U hU hW => Env_step rfl rfl hE hS hU hW) (by rfl) hl.1 rfl (Nat.le_of_ble_eq_true rfl) dX2_init_135 ⟨by show _ ≤ 138; omega, by show _ ≤ 2406; omega⟩ (fun H locs ws9 hW9 hP hD _ hS => ?_)
  obtain ⟨f10, rfl⟩ := hW9
  refine va_astq hx hb hK hP hD hS 82 2 0 1 rfl rfl rfl rfl (show ¬ ((6 : Int32) < 0 ∨ 8 ≤ (6 : Int32).toNatClampNeg) by decide) dX2_init_138 (fun H locs hP hD hS => ?_)
  have hP : va_P (dC, dI) vwCl (cvW cI c10 f10 (pcK A0t) ++ (cvW cI c9 f9 (pcK A0t) ++ (cvW cI c8 f8 (pcK A0t) ++ (cvW cI c7 f7 (pcK A0t) ++ (cvW cI c6 f6 (pcK A0t) ++ (cvW cI c5 f5 (pcK A0t) ++ (cvW cI c4 f4 (pcK A0t) ++ (sbW cB la lb 16 K00 ++ (cmW cB cm ca cb 16 K00 ++ ((pa, .inl (cP, 8, .inr (.inr (.inr (.inr (va_up (va_up (va_up (va_up (va_up (va_up (va_up (fun _ => none) 0 (some c4)) 1 (some c5)) 2 (some c6)) 3 (some c7)) 4 (some c8)) 5 (some c9)) 6 (some c10))))))) :: cvW cI c3 f3 (pcK A0t) ++ (cvW cI c2 f2 (pcK A0t) ++ (cvW cI c1 f1 (pcK A0t) ++ (cvW cI c0 f0 (pcK A0t) ++ ((ob, .inr (3, [.ref c0, .ref c1, .ref c2, .ref c3, .int 0, .ref pa, .int 0, .int 0, .ref cm, .ref la, .int (-4), .int (-4), .int (-4), .int (-4)])) :: R))))))))))))) : va_W) H := hP
  have hD : va_D (aB base) (cvW cI c10 f10 (pcK A0t) ++ (cvW cI c9 f9 (pcK A0t) ++ (cvW cI c8 f8 (pcK A0t) ++ (cvW cI c7 f7 (pcK A0t) ++ (cvW cI c6 f6 (pcK A0t) ++ (cvW cI c5 f5 (pcK A0t) ++ (cvW cI c4 f4 (pcK A0t) ++ (sbW cB la lb 16 K00 ++ (cmW cB cm ca cb 16 K00 ++ ((pa, .inl (cP, 8, .inr (.inr (.inr (.inr (va_up (va_up (va_up (va_up (va_up (va_up (va_up (fun _ => none) 0 (some c4)) 1 (some c5)) 2 (some c6)) 3 (some c7)) 4 (some c8)) 5 (some c9)) 6 (some c10))))))) :: cvW cI c3 f3 (pcK A0t) ++ (cvW cI c2 f2 (pcK A0t) ++ (cvW cI c1 f1 (pcK A0t) ++ (cvW cI c0 f0 (pcK A0t) ++ ((ob, .inr (3, [.ref c0, .ref c1, .ref c2, .ref c3, .int 0, .ref pa, .int 0, .int 0, .ref cm, .ref la, .int (-4), .int (-4), .int (-4), .int (-4)])) :: R))))))))))))) : va_W) := D_iff.mpr (by have h := D_iff.mp hD; exact h)
  refine lv_iinc (v := 7) (lv' := [(1, .int 7), (0, .ref ob)]) hx hb dX2_init_139 hl (k := 0) rfl rfl (by decide) rfl (fun ls hl => ?_)
  refine lv_goto (tgt := 120) hx hb dX2_init_142 (by decide) ?_
  refine lv_iload_n hx hb dX2_init_120 rfl (lv_at hl 0 rfl) ?_
  refine lv_bipush (v := 8) hx hb dX2_init_121 (by decide) ?_
  refine lv_icmp_ge (tgt := 145) hx hb dX2_init_123 (by decide) (fun c1 => absurd c1 (by decide)) (fun _ => ?_)
  refine lv_aload_n hx hb dX2_init_126 rfl (lv_at hl 1 rfl) ?_
  refine va_get (D := (dC, dI)) (ci := 3) (v := .ref pa) (C := RX2) (T := TX2) (N := 14) hx hb hts hwX2 hown hK hP 127 rfl rfl 5 (by decide) hf_29 (fun _ h9 => h9) rfl dX2_init_127 ?_
  refine lv_iload_n hx hb dX2_init_130 rfl (lv_at hl 0 rfl) ?_
  refine va_new (ci := 1) (fs := [.null, .null, .null, .null, .null, .null, .null, .null, .null, .null, .int 0, .int 0, .int 0, .int 0, .int 0, .int 0]) (C := RX0) (T := TX0) (N := 16) hx hb hts hwX0 tyX0 tyX0_ok hown (hts (.classLink RX2 7 RX0) (by decide +kernel)) (hts (.instantiable RX0 16) (by decide +kernel)) (hts (.initialized RX0) (by decide +kernel)) hK hP hD hS hA rfl dfX0 (by show _ ≤ 138; omega) (by show _ ≤ 2406; omega) dX2_init_131 (fun c11 H hP hD hS => ?_)
  have hP := P_perm (List.perm_append_singleton _ _) hP
  have hD := D_perm (List.perm_append_singleton _ _) hD
  refine lv_dup hx hb dX2_init_134 rfl ?_
  refine call_IBE (As := []) (rest := [.ref c11, .int 7, .ref pa]) ⟨hx, hb, hml, hown, hts⟩ (tX0_init (l := l) (dC := dC) (dI := dI) (cI := cI) (ob := c11) (base := base) (R := (cvW cI c10 f10 (pcK A0t) ++ (cvW cI c9 f9 (pcK A0t) ++ (cvW cI c8 f8 (pcK A0t) ++ (cvW cI c7 f7 (pcK A0t) ++ (cvW cI c6 f6 (pcK A0t) ++ (cvW cI c5 f5 (pcK A0t) ++ (cvW cI c4 f4 (pcK A0t) ++ (sbW cB la lb 16 K00 ++ (cmW cB cm ca cb 16 K00 ++ ((pa, .inl (cP, 8, .inr (.inr (.inr (.inr (va_up (va_up (va_up (va_up (va_up (va_up (va_up (fun _ => none) 0 (some c4)) 1 (some c5)) 2 (some c6)) 3 (some c7)) 4 (some c8)) 5 (some c9)) 6 (some c10))))))) :: cvW cI c3 f3 (pcK A0t) ++ (cvW cI c2 f2 (pcK A0t) ++ (cvW cI c1 f1 (pcK A0t) ++ (cvW cI c0 f0 (pcK A0t) ++ ((ob, .inr (3, [.ref c0, .ref c1, .ref c2, .ref c3, .int 0, .ref pa, .int 0, .int 0, .ref cm, .ref la, .int (-4), .int (-4), .int (-4), .int (-4)])) :: R))))))))))))) : va_W))) (cwI 0 hts gX2_init_X0_init rfl rfl rfl (hts (.initialized RX0) (by decide +kernel)) (hts (.methodLink RX2 9 yX0_init) (by decide +kernel)) (hts (.instanceMethod yX0_init) (by decide +kernel)) rfl (by decide +kernel) ⟨Nat.le_of_ble_eq_true rfl, Nat.le_of_ble_eq_true rfl⟩) hKI hP hD hS (Nat.le_trans hbs hS.1) (fun U hU hW => Env_step rfl rfl hE hS hU hW) (by rfl) hl.1 rfl (Nat.le_of_ble_eq_true rfl) dX2_init_135 ⟨by show _ ≤ 138; omega, by show _ ≤ 2406; omega⟩ (fun H locs ws9 hW9 hP hD _ hS => ?_)
  obtain ⟨f11, rfl⟩ := hW9
  refine va_astq hx hb hK hP hD hS 93 2 0 1 rfl rfl rfl rfl (show ¬ ((7 : Int32) < 0 ∨ 8 ≤ (7 : Int32).toNatClampNeg) by decide) dX2_init_138 (fun H locs hP hD hS => ?_)
  have hP : va_P (dC, dI) vwCl (cvW cI c11 f11 (pcK A0t) ++ (cvW cI c10 f10 (pcK A0t) ++ (cvW cI c9 f9 (pcK A0t) ++ (cvW cI c8 f8 (pcK A0t) ++ (cvW cI c7 f7 (pcK A0t) ++ (cvW cI c6 f6 (pcK A0t) ++ (cvW cI c5 f5 (pcK A0t) ++ (cvW cI c4 f4 (pcK A0t) ++ (sbW cB la lb 16 K00 ++ (cmW cB cm ca cb 16 K00 ++ ((pa, .inl (cP, 8, .inr (.inr (.inr (.inr (va_up (va_up (va_up (va_up (va_up (va_up (va_up (va_up (fun _ => none) 0 (some c4)) 1 (some c5)) 2 (some c6)) 3 (some c7)) 4 (some c8)) 5 (some c9)) 6 (some c10)) 7 (some c11))))))) :: cvW cI c3 f3 (pcK A0t) ++ (cvW cI c2 f2 (pcK A0t) ++ (cvW cI c1 f1 (pcK A0t) ++ (cvW cI c0 f0 (pcK A0t) ++ ((ob, .inr (3, [.ref c0, .ref c1, .ref c2, .ref c3, .int 0, .ref pa, .int 0, .int 0, .ref cm, .ref la, .int (-4), .int (-4), .int (-4), .int (-4)])) :: R)))))))))))))) : va_W) H := hP
  have hD : va_D (aB base) (cvW cI c11 f11 (pcK A0t) ++ (cvW cI c10 f10 (pcK A0t) ++ (cvW cI c9 f9 (pcK A0t) ++ (cvW cI c8 f8 (pcK A0t) ++ (cvW cI c7 f7 (pcK A0t) ++ (cvW cI c6 f6 (pcK A0t) ++ (cvW cI c5 f5 (pcK A0t) ++ (cvW cI c4 f4 (pcK A0t) ++ (sbW cB la lb 16 K00 ++ (cmW cB cm ca cb 16 K00 ++ ((pa, .inl (cP, 8, .inr (.inr (.inr (.inr (va_up (va_up (va_up (va_up (va_up (va_up (va_up (va_up (fun _ => none) 0 (some c4)) 1 (some c5)) 2 (some c6)) 3 (some c7)) 4 (some c8)) 5 (some c9)) 6 (some c10)) 7 (some c11))))))) :: cvW cI c3 f3 (pcK A0t) ++ (cvW cI c2 f2 (pcK A0t) ++ (cvW cI c1 f1 (pcK A0t) ++ (cvW cI c0 f0 (pcK A0t) ++ ((ob, .inr (3, [.ref c0, .ref c1, .ref c2, .ref c3, .int 0, .ref pa, .int 0, .int 0, .ref cm, .ref la, .int (-4), .int (-4), .int (-4), .int (-4)])) :: R)))))))))))))) : va_W) := D_iff.mpr (by have h := D_iff.mp hD; exact h)
  refine lv_iinc (v := 8) (lv' := [(1, .int 8), (0, .ref ob)]) hx hb dX2_init_139 hl (k := 0) rfl rfl (by decide) rfl (fun ls hl => ?_)
  refine lv_goto (tgt := 120) hx hb dX2_init_142 (by decide) ?_
  refine lv_iload_n hx hb dX2_init_120 rfl (lv_at hl 0 rfl) ?_
  refine lv_bipush (v := 8) hx hb dX2_init_121 (by decide) ?_
  refine lv_icmp_ge (tgt := 145) hx hb dX2_init_123 (by decide) (fun _ => ?_) (fun c1 => absurd (show (8 : Int32) ≤ 8 by decide) c1)
  have hq : ∀ i, i < 8 → (va_up (va_up (va_up (va_up (va_up (va_up (va_up (va_up (fun _ => none) 0 (some c4)) 1 (some c5)) 2 (some c6)) 3 (some c7)) 4 (some c8)) 5 (some c9)) 6 (some c10)) 7 (some c11)) i = (fun i => some (([c0, c1, c2, c3, c4, c5, c6, c7, c8, c9, c10, c11] : List Nat).getD (4 + i) 0)) i := by
    intro i hi
    rcases (show i = 0 ∨ i = 1 ∨ i = 2 ∨ i = 3 ∨ i = 4 ∨ i = 5 ∨ i = 6 ∨ i = 7 by omega) with rfl | rfl | rfl | rfl | rfl | rfl | rfl | rfl <;> rfl
  have hP := P_swapq (X := (cvW cI c11 f11 (pcK A0t) ++ (cvW cI c10 f10 (pcK A0t) ++ (cvW cI c9 f9 (pcK A0t) ++ (cvW cI c8 f8 (pcK A0t) ++ (cvW cI c7 f7 (pcK A0t) ++ (cvW cI c6 f6 (pcK A0t) ++ (cvW cI c5 f5 (pcK A0t) ++ (cvW cI c4 f4 (pcK A0t) ++ (sbW cB la lb 16 K00 ++ (cmW cB cm ca cb 16 K00))))))))))) (Y := (cvW cI c3 f3 (pcK A0t) ++ (cvW cI c2 f2 (pcK A0t) ++ (cvW cI c1 f1 (pcK A0t) ++ (cvW cI c0 f0 (pcK A0t) ++ ((ob, .inr (3, [.ref c0, .ref c1, .ref c2, .ref c3, .int 0, .ref pa, .int 0, .int 0, .ref cm, .ref la, .int (-4), .int (-4), .int (-4), .int (-4)])) :: R)))))) hq hP
  have hP : va_P (dC, dI) vwCl (([cvW cI c11 f11 (pcK A0t), cvW cI c10 f10 (pcK A0t), cvW cI c9 f9 (pcK A0t), cvW cI c8 f8 (pcK A0t), cvW cI c7 f7 (pcK A0t), cvW cI c6 f6 (pcK A0t), cvW cI c5 f5 (pcK A0t), cvW cI c4 f4 (pcK A0t)] ++ ([sbW cB la lb 16 K00, cmW cB cm ca cb 16 K00, [(pa, .inl (cP, 8, .inr (.inr (.inr (.inr (fun i => some (([c0, c1, c2, c3, c4, c5, c6, c7, c8, c9, c10, c11] : List Nat).getD (4 + i) 0)))))))]] ++ ([cvW cI c3 f3 (pcK A0t), cvW cI c2 f2 (pcK A0t), cvW cI c1 f1 (pcK A0t), cvW cI c0 f0 (pcK A0t)] ++ [[(ob, .inr (3, [.ref c0, .ref c1, .ref c2, .ref c3, .int 0, .ref pa, .int 0, .int 0, .ref cm, .ref la, .int (-4), .int (-4), .int (-4), .int (-4)]))]])) : List va_W).flatten ++ R) H := hP
  have hD : va_D (aB base) (([cvW cI c11 f11 (pcK A0t), cvW cI c10 f10 (pcK A0t), cvW cI c9 f9 (pcK A0t), cvW cI c8 f8 (pcK A0t), cvW cI c7 f7 (pcK A0t), cvW cI c6 f6 (pcK A0t), cvW cI c5 f5 (pcK A0t), cvW cI c4 f4 (pcK A0t)] ++ ([sbW cB la lb 16 K00, cmW cB cm ca cb 16 K00, [(pa, .inl (cP, 8, .inr (.inr (.inr (.inr (fun i => some (([c0, c1, c2, c3, c4, c5, c6, c7, c8, c9, c10, c11] : List Nat).getD (4 + i) 0)))))))]] ++ ([cvW cI c3 f3 (pcK A0t), cvW cI c2 f2 (pcK A0t), cvW cI c1 f1 (pcK A0t), cvW cI c0 f0 (pcK A0t)] ++ [[(ob, .inr (3, [.ref c0, .ref c1, .ref c2, .ref c3, .int 0, .ref pa, .int 0, .int 0, .ref cm, .ref la, .int (-4), .int (-4), .int (-4), .int (-4)]))]])) : List va_W).flatten ++ R) := D_iff.mpr (by have h := D_iff.mp hD; exact h)
  have hP := P_perm chunk_perm hP
  have hD := D_perm chunk_perm hD
  obtain ⟨ad, ead⟩ : ∃ ad : Nat → Nat → Nat, ad = fun a b => if a = 0 then ([ob, pa, cm, ca, la] : List Nat).getD b 0 else if b = 0 then ([c0, c1, c2, c3, c4, c5, c6, c7, c8, c9, c10, c11] : List Nat).getD (a - 1) 0 else (([f0, f1, f2, f3, f4, f5, f6, f7, f8, f9, f10, f11] : List (Nat → Nat)).getD (a - 1) (fun _ => 0)) (b - 1) := ⟨_, rfl⟩
  obtain ⟨Z, eZ⟩ : ∃ Z : Nat → Nat, Z = fun i => ([cb, 16, lb, 16] : List Nat).getD i 0 := ⟨_, rfl⟩
  have h00 : ad 0 0 = ob := by rw [ead]; rfl
  have ea : ∀ i : Nat, some (([c0, c1, c2, c3, c4, c5, c6, c7, c8, c9, c10, c11] : List Nat).getD (4 + i) 0) = some (ad (5 + i) 0) := fun i => by
    rw [ead]
    show _ = some (if 5 + i = 0 then _ else if 0 = 0 then _ else _)
    rw [if_neg (by omega), if_pos rfl, show 5 + i - 1 = 4 + i by omega]
  have efn : (fun i => some (([c0, c1, c2, c3, c4, c5, c6, c7, c8, c9, c10, c11] : List Nat).getD (4 + i) 0)) = fun i => some (ad (5 + i) 0) := funext ea
  rw [efn] at hP hD
  have hP : va_P (dC, dI) vwCl (outW cI cB cP ad Z Oi ++ R) H := by
    rw [eZ]
    have h := hP
    rw [ead] at h ⊢
    exact h
  have hD : va_D (aB base) (outW cI cB cP ad Z Oi ++ R) := by
    rw [eZ]
    have h := hD
    rw [ead] at h ⊢
    exact h
  exact W_le (by omega) (by omega) (W.vret hx hb hr (fun t ht _ => retB rfl ⟨ad, Z, h00, rfl, OF_i (by rw [eZ]; rfl) (by rw [eZ]; rfl)⟩ hP hD hS ht) hS.2.2 dX2_init_145)
