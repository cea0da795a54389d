/-! ===== a builder grows, takes a sign or a number, is cut to nothing ===== -/
def cNb (D : va_G) (cl : List vw_C) (base : Nat) (ws : va_W) (cB : ClassId) (q : Nat) (f : Nat → Int32) : Array Value → State → Outcome → State → Prop := fun _ st oc t => ∃ nb : Nat, oc = .returned (some (.ref nb)) ∧ va_P D cl ((nb, .inl (cB, q, .inl f)) :: ws) t.heap ∧ va_D (aB base) ((nb, .inl (cB, q, .inl f)) :: ws) ∧ va_F (aB base) st t
theorem P_tail {D : va_G} {cl : List vw_C} {x : Nat × va_E} {ws : va_W} {H : Heap} (h : va_P D cl (x :: ws) H) : va_P D cl ws H := P_mem.mpr fun y hy => P_mem.mp h y (List.mem_cons_of_mem x hy)
theorem D_tail {A : Nat → Prop} {x : Nat × va_E} {ws : va_W} (h : va_D A (x :: ws)) : va_D A ws := by
  have h2 := D_iff.mp h
  rw [List.map_cons, List.nodup_cons] at h2
  exact D_iff.mpr ⟨h2.1.2, fun q hq => h2.2 q (List.mem_cons_of_mem _ hq)⟩
section KN
variable {p : Program} {l : Launch} {e : Env} {R : Room} {s : State} {m : MethodId} {args : Array Value} {below : List Frame} {meth : Method} {c : Code} {H : Heap} {locs : List Loc} {cells slots : Nat} {Q : State → Prop}
variable {pc : Nat} {ls : Array Slot} {rest st0 : List Value} {a : Array Value} {H0 : Heap} {mc ms base : Nat} {D : va_G} {cl : List vw_C} {o : Option Value} {Wp : va_W → Prop}
variable {y x : MethodName} {bytes cc : ByteArray} {maxL nL n index : Nat} {ret : Option FieldType} {ws : List Cond} {rm : Room} {Ts : List Cond} {own C owner : String} {b : Addr} {As : List Value} {tys : List (ClassId × FieldType)} {wsC : va_W} {r : Int32} {cB : ClassId} {q : Nat} {f : Nat → Int32}
theorem cl_nb (hr : va_Run p l e R s m args below meth c H locs cells slots mc ms (F0 m pc ls st0) rest (cNb D cl base wsC cB q f a) (aB base)) (hS : va_S (aB base) H0 H locs)
    (kk : ∀ (H1 : Heap) (locs1 : List Loc) (nb : Nat), va_P D cl ((nb, .inl (cB, q, .inl f)) :: wsC) H1 → va_D (aB base) ((nb, .inl (cB, q, .inl f)) :: wsC) → H.size ≤ H1.size → va_S (aB base) H0 H1 locs1 → W p l e R s m args below meth c H1 locs1 (cells + mc) (slots + ms) Q (F0 m (pc + 3) ls (.ref nb :: rest))) : W p l e R s m args below meth c H locs cells slots Q (F0 m pc ls st0) := by
  intro T hT X
  obtain ⟨v, st₀, t, T', L1, h0, X', hL, e1, e2, ⟨nb, hv, hp, hd, hz, hk⟩, st⟩ := hr T hT X
  cases hv
  rw [h0] at hz hk
  obtain ⟨t2, a1, b1⟩ := kk T'.heap (locs ++ L1) nb (by rw [e1]; exact hp) hd (by rw [e1]; exact hz)
    ⟨Nat.le_trans hS.1 (by rw [e1]; exact hz), fun q h1 h2 => by rw [e1, hk q (Nat.lt_of_lt_of_le h1 hS.1) h2]; exact hS.2.1 q h1 h2, fun q hq => by
      rcases List.mem_append.mp hq with h | h
      · exact hS.2.2 q h
      · exact hL q h⟩ T' rfl X'
  exact ⟨t2, st t2 a1, b1⟩
theorem call_SNb (S : CallFix p m c cc nL s args Ts own) (hM : Met l y ws rm (cBp D cl tys base wsC As) (cNb D cl base wsC cB q f) mc ms (aB base)) (cw : CallB R s args own index y bytes maxL ret ws rm mc ms n ∧ (Cond.static y).before args s = true) (hK : va_K D cl tys s) (hP : va_P D cl wsC H) (hD : va_D (aB base) wsC) (hS : va_S (aB base) H0 H locs) (hbs : base ≤ H.size) (hEU : ∀ U : State, U.heap = H → s.WarmedH U.vm → EnvB base U)
    (hn : As.length = n) (hsz : ls.size = nL) (hst : st0 = As.reverse ++ rest) (hW : (rest.map fun v => v.category).sum ≤ 8) (hdg : decode cc pc = .ok (.invokestatic index, 3)) (hcs : cells + mc ≤ R.cells ∧ slots + ms ≤ R.slots)
    (kk : ∀ (H1 : Heap) (locs1 : List Loc) (nb : Nat), va_P D cl ((nb, .inl (cB, q, .inl f)) :: wsC) H1 → va_D (aB base) ((nb, .inl (cB, q, .inl f)) :: wsC) → H.size ≤ H1.size → va_S (aB base) H0 H1 locs1 → W p l e R s m args below meth c H1 locs1 (cells + mc) (slots + ms) Q (F0 m (pc + 3) ls (.ref nb :: rest))) : W p l e R s m args below meth c H locs cells slots Q (F0 m pc ls st0) :=
  cl_nb (va_runS (As := As) (rest := rest) S hM cw ⟨cBp_blind _ _ _ _ _ _, preB hK hP hD hbs hEU _⟩ rfl hn hsz hst (lv_room hW) hdg hcs) hS kk
theorem call_SBE (S : CallFix p m c cc nL s args Ts own) (hM : Met l y ws rm (cBp D cl tys base wsC As) (cBe D cl base o Wp) mc ms (aB base)) (cw : CallB R s args own index y bytes maxL ret ws rm mc ms n ∧ (Cond.static y).before args s = true) (hK : va_K D cl tys s) (hP : va_P D cl wsC H) (hD : va_D (aB base) wsC) (hS : va_S (aB base) H0 H locs) (hbs : base ≤ H.size) (hEU : ∀ U : State, U.heap = H → s.WarmedH U.vm → EnvB base U)
    (hn : As.length = n) (hsz : ls.size = nL) (hst : st0 = As.reverse ++ rest) (hW : (rest.map fun v => v.category).sum ≤ 8) (hdg : decode cc pc = .ok (.invokestatic index, 3)) (hcs : cells + mc ≤ R.cells ∧ slots + ms ≤ R.slots)
    (kk : ∀ (H1 : Heap) (locs1 : List Loc) (ws1 : va_W), Wp ws1 → va_P D cl ws1 H1 → va_D (aB base) ws1 → H.size ≤ H1.size → va_S (aB base) H0 H1 locs1 → W p l e R s m args below meth c H1 locs1 (cells + mc) (slots + ms) Q (F0 m (pc + 3) ls (o.toList ++ rest))) : W p l e R s m args below meth c H locs cells slots Q (F0 m pc ls st0) :=
  cl_big (va_runS (As := As) (rest := rest) S hM cw ⟨cBp_blind _ _ _ _ _ _, preB hK hP hD hbs hEU _⟩ rfl hn hsz hst (lv_room hW) hdg hcs) hS kk
end KN
def rmJ7_copyOf_9075b : Room := { frames := 2, cells := 1, slots := 256, locals := 100 }
set_option maxHeartbeats 4000000 in
set_option maxRecDepth 100000 in
theorem tJ7_copyOf_9075b {l : Launch} {dC : Nat → ClassId} {dI : Nat → Nat → Nat} {cB : ClassId} {ap mm base q : Nat} {R : va_W} {f : Nat → Int32} (hq : mm < q) (hq2 : q ≤ 256) (hfit : sb_Fit f) (hz : ∀ j, mm ≤ j → f j = 0) : Met l yJ7_copyOf_9075b wsJ7_copyOf_9075b rmJ7_copyOf_9075b (cBp (dC, dI) vwCl [(cB, .byte)] base ((ap, .inl (cB, mm, .inl f)) :: R) [.ref ap, .int (nI q)]) (cNb (dC, dI) vwCl base ((ap, .inl (cB, mm, .inl f)) :: R) cB q f) 1 256 (aB base) := by
  refine Met.ofW (cc := cJ7_copyOf_9075b) (maxL := 3) (ret := (some (.array .byte))) (by decide) rfl ?_
  intro p e s m args below meth c s₁ B hml hv
  obtain ⟨rfl, hP, hK, hD, hbs, hE⟩ := hv
  have hx := B.exec
  have hb := B.bytes
  have hr := B.returns
  have hts := atoms_spec (ws := wsJ7_copyOf_9075b) B.pre
  have hown : s.vm.findClass RJ7 = some m.cls := findClass_of_methodNamed B.named
  have hlocks := B.notSynchronized
  have hS : va_S (aB base) s.heap s.heap [] := va_S.rf
  have hl := lv_entry ([.ref ap, .int (nI q)]) (n := 3) (Nat.le_of_ble_eq_true rfl)
  rw [lg_entry_eq]
  generalize (lg_sl ([.ref ap, .int (nI q)]) ++ List.replicate (3 - (lg_sl ([.ref ap, .int (nI q)])).length) Slot.unset).toArray = ls at hl ⊢
  have hl : lv_has ls 3 [(0, .ref ap), (1, .int (nI q))] := hl
  refine lv_iload_n hx hb dJ7_copyOf_9075b_0 rfl (lv_at hl 1 rfl) ?_
  refine lv_aload_n hx hb dJ7_copyOf_9075b_1 rfl (lv_at hl 0 rfl) ?_
  refine va_alen (v := nI mm) hx hb hK hP 0 0 rfl rfl rfl dJ7_copyOf_9075b_2 ?_
  refine lv_icmp_ne (tgt := 14) hx hb dJ7_copyOf_9075b_3 (by decide) (fun c1 => ?_) (fun c1 => absurd ((nI_eq (by omega) (by omega)).mp c1) (by omega))
  refine lv_iload_n hx hb dJ7_copyOf_9075b_14 rfl (lv_at hl 1 rfl) ?_
  refine va_newa (atype := .byte) (ty := .byte) (N' := q) (a0 := (q, .inl (fun _ => 0))) hx hb (hts (.arrayClass .byte) (by decide +kernel)) rfl hK hP hD hS (fun z hz => Nat.le_trans hbs hz) (fun cA => by rw [vp_cell_i]; rfl) (nI_pos (by omega)) (nI_clamp (by omega)) (by show q * 1 ≤ 536870912; omega) (Nat.le_refl 1) (by show 0 + q ≤ 256; omega) dJ7_copyOf_9075b_15 (fun nb cA H hK hP hD hS => ?_)
  have ec : cA = cB := Option.some.inj ((va_nm_byte (hK.2 1 _ rfl).2).symm.trans (va_nm_byte (hK.2 0 _ rfl).2))
  rw [ec] at hK hP hD
  have hP : va_P (dC, dI) vwCl ((nb, .inl (cB, q, .inl (fun _ => 0))) :: (ap, .inl (cB, mm, .inl f)) :: R) H := P_perm (List.perm_append_singleton _ _) hP
  have hD : va_D (aB base) ((nb, .inl (cB, q, .inl (fun _ => (0 : Int32)))) :: (ap, .inl (cB, mm, .inl f)) :: R) := D_perm (List.perm_append_singleton _ _) hD
  refine lv_astore_n (lv' := [(2, .ref nb), (0, .ref ap), (1, .int (nI q))]) hx hb dJ7_copyOf_9075b_17 rfl hl (by decide) rfl (fun ls hl => ?_)
  refine lv_aload_n hx hb dJ7_copyOf_9075b_18 rfl (lv_at hl 1 rfl) ?_
  refine lv_iconst (v := 0) hx hb dJ7_copyOf_9075b_19 (by decide) ?_
  refine lv_aload_n hx hb dJ7_copyOf_9075b_20 rfl (lv_at hl 0 rfl) ?_
  refine lv_iconst (v := 0) hx hb dJ7_copyOf_9075b_21 (by decide) ?_
  refine lv_aload_n hx hb dJ7_copyOf_9075b_22 rfl (lv_at hl 1 rfl) ?_
  refine va_alen (v := nI mm) hx hb hK hP 1 0 rfl rfl rfl dJ7_copyOf_9075b_23 ?_
  refine lv_iload_n hx hb dJ7_copyOf_9075b_24 rfl (lv_at hl 2 rfl) ?_
  refine va_mmin hx hb (hml.trans hl.1.symm) hown (hts (.methodLink RJ7 304 Lib.Math.min.name) (by decide +kernel)) (hts (.static Lib.Math.min.name) (by decide +kernel)) (hts (.initialized "java/lang/Math") (by decide +kernel)) (hts (.code Lib.Math.min.name Lib.Math.min.code 2 (some .int)) (by decide +kernel)) (Nat.le_of_ble_eq_true rfl) (Nat.le_of_ble_eq_true rfl) (Nat.le_refl 1) (by show 0 + q ≤ 256; omega) dJ7_copyOf_9075b_25 ?_
  rw [if_neg (nI_nlt (show mm ≤ q by omega) (by omega))]
  refine va_copyi hx hb (hml.trans hl.1.symm) hown (hts (.methodLink RJ7 150 arraycopyName) (by decide +kernel)) (hts (.native arraycopyName) (by decide +kernel)) (hts (.static arraycopyName) (by decide +kernel)) (hts (.initialized "java/lang/System") (by decide +kernel)) hK hP hD hS 1 0 0 0 rfl rfl rfl rfl rfl (by decide) (by decide) (nI_pos (by omega)) (by rw [sb_cl0, nI_clamp (by omega)]; omega) (by rw [sb_cl0, nI_clamp (by omega)]; omega) (fun i _ => hfit _) (Nat.le_of_ble_eq_true rfl) (by decide +kernel) dJ7_copyOf_9075b_28 (fun H locs hP hD hS => ?_)
  have ef : va_cpy f (fun _ => (0 : Int32)) (0 : Int32).toNatClampNeg (0 : Int32).toNatClampNeg (nI mm).toNatClampNeg = f := by
    funext j
    rw [sb_cl0, nI_clamp (by omega)]
    by_cases w : j < mm
    · rw [sb_cpy0 w]
    · rw [pk_cpy_out (Or.inr (by omega)), hz j (by omega)]
  rw [ef] at hP hD
  refine lv_aload_n hx hb dJ7_copyOf_9075b_31 rfl (lv_at hl 0 rfl) ?_
  exact W_le (by omega) (by omega) (W.aret hx hb hr (Or.inr ⟨_, rfl⟩) (Or.inr ⟨_, rfl⟩) (fun t ht _ => ⟨nb, rfl, by rw [ht]; exact hP, hD, hS.F ht⟩) hS.2.2 dJ7_copyOf_9075b_32)
theorem new_cap {N mm w : Nat} {K : KT} (h1 : mm < w) (h2 : w ≤ 127) : mJ5_newCapacity_0f7a4 N mm K (nI w) = some (nI (max w (2 * mm + 2))) := by
  unfold mJ5_newCapacity_0f7a4 mJ8_newLength_cabcc
  rw [sb_shl0, sb_shl0, nsub (by omega), show nI mm + 2 = nI (mm + 2) from nadd mm 2, imax_n (by omega) (by omega), nadd, if_neg (nI_nle (by omega) (by omega)), if_neg (show ¬ (2147483639 : Int32) < nI (mm + max (w - mm) (mm + 2)) from nI_nlt (a := 2147483639) (by omega) (by omega)), bdP_n, if_neg (show ¬ nI (mm + max (w - mm) (mm + 2)) = 2147483647 from fun q => by have := (nI_eq (b := 2147483647) (by omega) (by omega)).mp q; omega), sb_shr0, show mm + max (w - mm) (mm + 2) = max w (2 * mm + 2) by omega]
def rmJ5_ensureCapacityInternal_d00df : Room := { frames := 4, cells := 1, slots := 256, locals := 130 }
set_option maxHeartbeats 4000000 in
set_option maxRecDepth 100000 in
theorem tJ5_ensureCapacityInternal_d00df {l : Launch} {dC : Nat → ClassId} {dI : Nat → Nat → Nat} {cB : ClassId} {ob sb mm base w : Nat} {R : va_W} {K : KT} (hw : w ≤ 127) (hCF : CF mm K) : Met l yJ5_ensureCapacityInternal_d00df wsJ5_ensureCapacityInternal_d00df rmJ5_ensureCapacityInternal_d00df (cBp (dC, dI) vwCl [(cB, .byte)] base (sbW cB ob sb mm K ++ R) [.ref ob, .int (nI w)]) (cBe (dC, dI) vwCl base none (fun ws => ∃ b m, ws = sbW cB ob b m K ++ R ∧ CF m K ∧ w ≤ m)) 1 256 (aB base) := by
  refine Met.ofW (cc := cJ5_ensureCapacityInternal_d00df) (maxL := 3) (ret := none) (by decide) rfl ?_
  intro p e s m args below meth c s₁ B hml hv
  obtain ⟨rfl, hP, hK, hD, hbs, hE⟩ := hv
  have hx := B.exec
  have hb := B.bytes
  have hr := B.returns
  have hts := atoms_spec (ws := wsJ5_ensureCapacityInternal_d00df) B.pre
  have hown : s.vm.findClass RJ5 = some m.cls := findClass_of_methodNamed B.named
  have hlocks := B.notSynchronized
  have hf_15 := hts (.fieldLink RJ5 15 "java/lang/AbstractStringBuilder" "value" "[B") (by decide +kernel)
  have hf_22 := hts (.fieldLink RJ5 22 "java/lang/AbstractStringBuilder" "coder" "B") (by decide +kernel)
  have hwJ4 : ∀ w ∈ u_ws RJ4 TJ4 4, w ∈ wsJ5_ensureCapacityInternal_d00df := by decide +kernel
  have hS : va_S (aB base) s.heap s.heap [] := va_S.rf
  have hl := lv_entry ([.ref ob, .int (nI w)]) (n := 3) (Nat.le_of_ble_eq_true rfl)
  rw [lg_entry_eq]
  generalize (lg_sl ([.ref ob, .int (nI w)]) ++ List.replicate (3 - (lg_sl ([.ref ob, .int (nI w)])).length) Slot.unset).toArray = ls at hl ⊢
  have hl : lv_has ls 3 [(0, .ref ob), (1, .int (nI w))] := hl
  have hmm : mm ≤ 256 := hCF.2.1
  refine lv_aload_n hx hb dJ5_ensureCapacityInternal_d00df_0 rfl (lv_at hl 0 rfl) ?_
  refine va_get (D := (dC, dI)) (ci := 0) (v := .ref sb) (C := RJ4) (T := TJ4) (N := 4) hx hb hts hwJ4 hown hK hP 0 rfl rfl 0 (by decide) hf_15 (fun _ h9 => h9) rfl dJ5_ensureCapacityInternal_d00df_1 ?_
  refine va_alen (v := nI mm) hx hb hK hP 1 0 rfl rfl rfl dJ5_ensureCapacityInternal_d00df_4 ?_
  refine lv_aload_n hx hb dJ5_ensureCapacityInternal_d00df_5 rfl (lv_at hl 0 rfl) ?_
  refine va_get (D := (dC, dI)) (ci := 0) (v := .int ((0 : Int32))) (C := RJ4) (T := TJ4) (N := 4) hx hb hts hwJ4 hown hK hP 0 rfl rfl 1 (by decide) hf_22 (fun _ h9 => h9) rfl dJ5_ensureCapacityInternal_d00df_6 ?_
  refine lv_ishr hx hb dJ5_ensureCapacityInternal_d00df_9 ?_
  rw [sb_shr0]
  refine lv_istore_n (lv' := [(2, .int (nI mm)), (0, .ref ob), (1, .int (nI w))]) hx hb dJ5_ensureCapacityInternal_d00df_10 rfl hl (by decide) rfl (fun ls hl => ?_)
  refine lv_iload_n hx hb dJ5_ensureCapacityInternal_d00df_11 rfl (lv_at hl 2 rfl) ?_
  refine lv_iload_n hx hb dJ5_ensureCapacityInternal_d00df_12 rfl (lv_at hl 0 rfl) ?_
  refine lv_isub hx hb dJ5_ensureCapacityInternal_d00df_13 ?_
  have e0 := pk_sub_toInt (a := w) (b := mm) (by omega) (by omega)
  refine lv_if_le (tgt := 38) hx hb dJ5_ensureCapacityInternal_d00df_14 (by decide) (fun c1 => ?_) (fun c1 => ?_)
  · have hwm : w ≤ mm := by
      have h9 := Int32.le_iff_toInt_le.mp c1
      rw [e0, show (0 : Int32).toInt = 0 by decide] at h9
      omega
    exact W_le (by omega) (by omega) (W.vret hx hb hr (fun t ht _ => retB rfl ⟨sb, mm, rfl, hCF, hwm⟩ hP hD hS ht) hS.2.2 dJ5_ensureCapacityInternal_d00df_38)
  · have hwm : mm < w := by
      have h9 : ¬ (nI w - nI mm).toInt ≤ (0 : Int32).toInt := fun z => c1 (Int32.le_iff_toInt_le.mpr z)
      rw [e0, show (0 : Int32).toInt = 0 by decide] at h9
      omega
    refine lv_aload_n hx hb dJ5_ensureCapacityInternal_d00df_17 rfl (lv_at hl 1 rfl) ?_
    refine lv_aload_n hx hb dJ5_ensureCapacityInternal_d00df_18 rfl (lv_at hl 1 rfl) ?_
    refine va_get (D := (dC, dI)) (ci := 0) (v := .ref sb) (C := RJ4) (T := TJ4) (N := 4) hx hb hts hwJ4 hown hK hP 0 rfl rfl 0 (by decide) hf_15 (fun _ h9 => h9) rfl dJ5_ensureCapacityInternal_d00df_19 ?_
    refine lv_aload_n hx hb dJ5_ensureCapacityInternal_d00df_22 rfl (lv_at hl 1 rfl) ?_
    refine lv_iload_n hx hb dJ5_ensureCapacityInternal_d00df_23 rfl (lv_at hl 2 rfl) ?_
    refine call_BUP (As := [.int (nI w)]) (rest := [.ref sb, .ref ob]) ⟨hx, hb, hml, hown, hts⟩ (tJ5_newCapacity_0f7a4 (l := l) (dC := dC) (dI := dI) (cB := cB) (ob := ob) (sb := sb) (mm := mm) (base := base) (R := R) (new_cap (N := 0) hwm hw) hCF) (va_cwU 1 hts gJ5_ensureCapacityInternal_d00df_J5_newCapacity_0f7a4_u104J4 rfl rfl rfl rfl (by decide +kernel) ⟨Nat.le_of_ble_eq_true rfl, Nat.le_of_ble_eq_true rfl⟩) hK hP hD hbs (fun U hU hW => Env_step rfl rfl hE va_S.rf hU hW) 0 rfl rfl (by rfl) hl.1 rfl (Nat.le_of_ble_eq_true rfl) dJ5_ensureCapacityInternal_d00df_24 ⟨Nat.zero_le _, Nat.zero_le _⟩ ?_
    refine lv_aload_n hx hb dJ5_ensureCapacityInternal_d00df_27 rfl (lv_at hl 1 rfl) ?_
    refine va_get (D := (dC, dI)) (ci := 0) (v := .int ((0 : Int32))) (C := RJ4) (T := TJ4) (N := 4) hx hb hts hwJ4 hown hK hP 0 rfl rfl 1 (by decide) hf_22 (fun _ h9 => h9) rfl dJ5_ensureCapacityInternal_d00df_28 ?_
    refine lv_ishl hx hb dJ5_ensureCapacityInternal_d00df_31 ?_
    rw [sb_shl0]
    have hp1 : (sbW cB ob sb mm K ++ R).Perm ((sb, .inl (cB, mm, .inl (K 0))) :: (ob, .inr (0, [.ref sb, .int 0, .int (K 1 1), .int (K 1 0)])) :: R) := List.Perm.swap _ _ _
    refine call_SNb (As := [.ref sb, .int (nI (max w (2 * mm + 2)))]) (rest := [.ref ob]) ⟨hx, hb, hml, hown, hts⟩ (tJ7_copyOf_9075b (l := l) (dC := dC) (dI := dI) (cB := cB) (ap := sb) (mm := mm) (base := base) (q := max w (2 * mm + 2)) (R := (ob, .inr (0, [.ref sb, .int 0, .int (K 1 1), .int (K 1 0)])) :: R) (f := K 0) (by omega) (by omega) hCF.2.2.2 hCF.2.2.1) (va_cwS 2 hts gJ5_ensureCapacityInternal_d00df_J7_copyOf_9075b rfl rfl rfl (by decide +kernel) ⟨Nat.le_of_ble_eq_true rfl, Nat.le_of_ble_eq_true rfl⟩) hK (P_perm hp1 hP) (D_perm hp1 hD) hS hbs (fun U hU hW => Env_step rfl rfl hE va_S.rf hU hW) (by rfl) hl.1 rfl (Nat.le_of_ble_eq_true rfl) dJ5_ensureCapacityInternal_d00df_32 ⟨Nat.le_refl _, Nat.le_refl _⟩ (fun H locs nb hP hD _ hS => ?_)
    refine va_put (D := (dC, dI)) (ci := 0) (v := .ref nb) (ty := .array .byte) (C := RJ4) (T := TJ4) (N := 4) hx hb hts hwJ4 tyJ4 tyJ4_ok nmJ4 hown hK hP hD hS 2 rfl rfl 0 (by decide) hf_15 (fun _ h9 => h9) rfl (by decide +kernel) rfl rfl (Nat.le_of_ble_eq_true rfl) dJ5_ensureCapacityInternal_d00df_35 (fun H locs hP hD hS => ?_)
    have hP : va_P (dC, dI) vwCl ((nb, .inl (cB, max w (2 * mm + 2), .inl (K 0))) :: (sb, .inl (cB, mm, .inl (K 0))) :: (ob, .inr (0, [.ref nb, .int 0, .int (K 1 1), .int (K 1 0)])) :: R) H := hP
    have hD : va_D (aB base) ((nb, .inl (cB, max w (2 * mm + 2), .inl (K 0))) :: (sb, .inl (cB, mm, .inl (K 0))) :: (ob, .inr (0, [.ref nb, .int 0, .int (K 1 1), .int (K 1 0)])) :: R) := hD
    have hp2 : ((nb, .inl (cB, max w (2 * mm + 2), .inl (K 0))) :: (sb, .inl (cB, mm, .inl (K 0))) :: (ob, .inr (0, [.ref nb, .int 0, .int (K 1 1), .int (K 1 0)])) :: R : va_W).Perm ((sb, .inl (cB, mm, .inl (K 0))) :: (ob, .inr (0, [.ref nb, .int 0, .int (K 1 1), .int (K 1 0)])) :: (nb, .inl (cB, max w (2 * mm + 2), .inl (K 0))) :: R) := (List.Perm.swap _ _ _).trans ((List.Perm.swap _ _ _).cons _)
    have hP2 := P_tail (P_perm hp2 hP)
    have hD2 := D_tail (D_perm hp2 hD)
    obtain ⟨⟨n9, hn9, hn8⟩, -, hz, hfit⟩ := hCF
    exact W_le (by omega) (by omega) (W.vret hx hb hr (fun t ht _ => retB rfl ⟨nb, max w (2 * mm + 2), rfl, ⟨⟨n9, hn9, by omega⟩, by omega, fun j hj => hz j (by omega), hfit⟩, by omega⟩ hP2 hD2 hS ht) hS.2.2 dJ5_ensureCapacityInternal_d00df_38)
theorem i2b_n : ∀ j, j < 128 → (nI j).toInt8.toInt32 = nI j := by decide +kernel
theorem nar_n : ∀ j, j < 128 → vp_nar .byte (nI j) = nI j := by decide +kernel
theorem fitb_n : ∀ j, j < 128 → fits .byte (.int (nI j)) = true := by decide +kernel
theorem isLat {N mm : Nat} {K : KT} : mJ5_isLatin1_aae02 N mm K = some 1 := by
  unfold mJ5_isLatin1_aae02 fJ5_isLatin1_aae02_18
  rw [if_neg (by decide), if_pos (show (0 : Int32) = 0 from rfl)]
  exact gdo _
/-- a sign that fits in seven bits is put behind the others -/
def s_cC (K : KT) (v : Int32) : Option KT := if (0 ≤ v ∧ v < 128) ∧ (0 ≤ K 1 0 ∧ K 1 0 < 127) then some (apS K v) else none
theorem s_cC_in {K K1 : KT} {v : Int32} (h : s_cC K v = some K1) : ∃ n j : Nat, n < 127 ∧ j < 128 ∧ K 1 0 = nI n ∧ v = nI j ∧ K1 = apS K (nI j) := by
  unfold s_cC at h
  split at h
  · rename_i g
    obtain ⟨⟨g1, g2⟩, g3, g4⟩ := g
    obtain ⟨j, hj, rfl⟩ := nI_of (Int32.not_lt.mpr g1)
    obtain ⟨n, hn, en⟩ := nI_of (Int32.not_lt.mpr g3)
    rw [en] at g4
    exact ⟨n, j, (nI_ltI (b := 127) hn (by decide)).mp g4, (nI_ltI (b := 128) hj (by decide)).mp g2, en, rfl, (Option.some.inj h).symm⟩
  · cases h
theorem s_cC_keep {K K1 : KT} {v : Int32} (h : s_cC K v = some K1) : ∀ i, 2 ≤ i → K1 1 i = K 1 i := by
  intro i hi
  obtain ⟨n, j, -, -, -, -, rfl⟩ := s_cC_in h
  unfold apS
  rw [fset_eq, pk_un (by omega), fset_ne (by decide)]
theorem sbW_ap {cB : ClassId} {ob b m n j : Nat} {K : KT} (hn : K 1 0 = nI n) (hn2 : n < 127) : sbW cB ob b m (apS K (nI j)) = [(ob, .inr (0, [.ref b, .int 0, .int (K 1 1), .int (nI (n + 1))])), (b, .inl (cB, m, .inl (upd (K 0) n (nI j))))] := by
  unfold sbW apS
  rw [fset_eq, pk_un (show (1 : Nat) ≠ 0 by decide), pk_us, fset_ne (show (0 : Nat) ≠ 1 by decide), fset_ne (show (1 : Nat) ≠ 0 by decide), fset_eq, hn, nI_clamp (by omega), show nI n + 1 = nI (n + 1) from nadd n 1]
theorem CF_ap {m n j : Nat} {K : KT} (h : CF m K) (hn : K 1 0 = nI n) (hn2 : n < 127) (hm : n + 1 ≤ m) (hj : j < 128) : CF m (apS K (nI j)) := by
  obtain ⟨-, h2, h3, h4⟩ := h
  have e0 : apS K (nI j) 0 = upd (K 0) n (nI j) := by
    unfold apS
    rw [fset_ne (show (0 : Nat) ≠ 1 by decide), fset_eq, hn, nI_clamp (by omega)]
  have e1 : apS K (nI j) 1 0 = nI (n + 1) := by
    unfold apS
    rw [fset_eq, pk_us, hn]
    exact nadd n 1
  refine ⟨⟨n + 1, e1, hm⟩, h2, fun i hi => ?_, ?_⟩
  · rw [e0, pk_un (by omega)]; exact h3 i hi
  · rw [e0]; exact sb_fitU h4 (fitb_n j hj)
def rmJ5_append_3fe6f : Room := { frames := 5, cells := 1, slots := 256, locals := 160 }
set_option maxHeartbeats 4000000 in
set_option maxRecDepth 100000 in
theorem tJ5_append_3fe6f {l : Launch} {dC : Nat → ClassId} {dI : Nat → Nat → Nat} {cB : ClassId} {ob sb mm base : Nat} {R : va_W} {K K1 : KT} {v : Int32} (hf : s_cC K v = some K1) (hCF : CF mm K) : Met l yJ5_append_3fe6f wsJ5_append_3fe6f rmJ5_append_3fe6f (cBp (dC, dI) vwCl [(cB, .byte)] base (sbW cB ob sb mm K ++ R) [.ref ob, .int v]) (cBe (dC, dI) vwCl base (some (.ref ob)) (fun ws => ∃ b m, ws = sbW cB ob b m K1 ++ R ∧ CF m K1)) 1 256 (aB base) := by
  obtain ⟨n, j, hn, hj, en, rfl, rfl⟩ := s_cC_in hf
  refine Met.ofW (cc := cJ5_append_3fe6f) (maxL := 2) (ret := (some (.object "java/lang/AbstractStringBuilder"))) (by decide) rfl ?_
  intro p e s m args below meth c s₁ B hml hv
  obtain ⟨rfl, hP, hK, hD, hbs, hE⟩ := hv
  have hx := B.exec
  have hb := B.bytes
  have hr := B.returns
  have hts := atoms_spec (ws := wsJ5_append_3fe6f) B.pre
  have hown : s.vm.findClass RJ5 = some m.cls := findClass_of_methodNamed B.named
  have hlocks := B.notSynchronized
  have hf_15 := hts (.fieldLink RJ5 15 "java/lang/AbstractStringBuilder" "value" "[B") (by decide +kernel)
  have hf_79 := hts (.fieldLink RJ5 79 "java/lang/AbstractStringBuilder" "count" "I") (by decide +kernel)
  have hwJ4 : ∀ w ∈ u_ws RJ4 TJ4 4, w ∈ wsJ5_append_3fe6f := by decide +kernel
  have hS : va_S (aB base) s.heap s.heap [] := va_S.rf
  have hl := lv_entry ([.ref ob, .int (nI j)]) (n := 2) (Nat.le_of_ble_eq_true rfl)
  rw [lg_entry_eq]
  generalize (lg_sl ([.ref ob, .int (nI j)]) ++ List.replicate (2 - (lg_sl ([.ref ob, .int (nI j)])).length) Slot.unset).toArray = ls at hl ⊢
  have hl : lv_has ls 2 [(0, .ref ob), (1, .int (nI j))] := hl
  refine lv_aload_n hx hb dJ5_append_3fe6f_0 rfl (lv_at hl 0 rfl) ?_
  refine lv_aload_n hx hb dJ5_append_3fe6f_1 rfl (lv_at hl 0 rfl) ?_
  refine va_get (D := (dC, dI)) (ci := 0) (v := .int (K 1 0)) (C := RJ4) (T := TJ4) (N := 4) hx hb hts hwJ4 hown hK hP 0 rfl rfl 3 (by decide) hf_79 (fun _ h9 => h9) rfl dJ5_append_3fe6f_2 ?_
  refine lv_iconst (v := 1) hx hb dJ5_append_3fe6f_5 (by decide) ?_
  refine lv_iadd hx hb dJ5_append_3fe6f_6 ?_
  rw [en, show nI n + 1 = nI (n + 1) from nadd n 1]
  refine call_BUE (As := [.int (nI (n + 1))]) (rest := []) ⟨hx, hb, hml, hown, hts⟩ (tJ5_ensureCapacityInternal_d00df (l := l) (dC := dC) (dI := dI) (cB := cB) (ob := ob) (sb := sb) (mm := mm) (base := base) (w := n + 1) (R := R) (by omega) hCF) (va_cwU 1 hts gJ5_append_3fe6f_J5_ensureCapacityInternal_d00df_u100J4 rfl rfl rfl rfl (by decide +kernel) ⟨Nat.le_of_ble_eq_true rfl, Nat.le_of_ble_eq_true rfl⟩) hK hP hD hS hbs (fun U hU hW => Env_step rfl rfl hE va_S.rf hU hW) 0 rfl rfl (by rfl) hl.1 rfl (Nat.le_of_ble_eq_true rfl) dJ5_append_3fe6f_7 ⟨Nat.le_refl _, Nat.le_refl _⟩ (fun H locs ws9 hW9 hP hD hz hS => ?_)
  obtain ⟨b, mb, rfl, hCb, hmb⟩ := hW9
  refine lv_aload_n hx hb dJ5_append_3fe6f_10 rfl (lv_at hl 0 rfl) ?_
  refine call_BUP (As := []) (rest := []) ⟨hx, hb, hml, hown, hts⟩ (tJ5_isLatin1_aae02 (l := l) (dC := dC) (dI := dI) (cB := cB) (ob := ob) (sb := b) (mm := mb) (base := base) (R := R) (isLat (N := 0)) hCb) (va_cwU 0 hts gJ5_append_3fe6f_J5_isLatin1_aae02_u83J4 rfl rfl rfl rfl (by decide +kernel) ⟨Nat.le_of_ble_eq_true rfl, Nat.le_of_ble_eq_true rfl⟩) hK hP hD (Nat.le_trans hbs hS.1) (fun U hU hW => Env_step rfl rfl hE hS hU hW) 0 rfl rfl (by rfl) hl.1 rfl (Nat.le_of_ble_eq_true rfl) dJ5_append_3fe6f_11 ⟨Nat.le_refl _, Nat.le_refl _⟩ ?_
  refine lv_if_eq (tgt := 45) hx hb dJ5_append_3fe6f_14 (by decide) (fun c1 => absurd c1 (by decide)) (fun _ => ?_)
  refine lv_iload_n hx hb dJ5_append_3fe6f_17 rfl (lv_at hl 1 rfl) ?_
  have hen : mJ1_canEncode_fc78d 0 (nI j) = some 1 := by
    unfold mJ1_canEncode_fc78d fJ1_canEncode_fc78d_12
    rw [if_neg (show ¬ (255 : Int32) < nI j from nI_nlt (a := 255) (by omega) (by omega))]
    exact gdo _
  refine call_SP (As := [.int (nI j)]) (rest := []) ⟨hx, hb, hml, hown, hts⟩ (tJ1_canEncode_fc78d (l := l) hen) (va_cwS 1 hts gJ5_append_3fe6f_J1_canEncode_fc78d rfl rfl rfl (by decide +kernel) ⟨Nat.le_of_ble_eq_true rfl, Nat.le_of_ble_eq_true rfl⟩) (by rfl) hl.1 rfl (Nat.le_of_ble_eq_true rfl) dJ5_append_3fe6f_18 ⟨Nat.le_refl _, Nat.le_refl _⟩ ?_
  refine lv_if_eq (tgt := 45) hx hb dJ5_append_3fe6f_21 (by decide) (fun c1 => absurd c1 (by decide)) (fun _ => ?_)
  refine lv_aload_n hx hb dJ5_append_3fe6f_24 rfl (lv_at hl 0 rfl) ?_
  refine va_get (D := (dC, dI)) (ci := 0) (v := .ref b) (C := RJ4) (T := TJ4) (N := 4) hx hb hts hwJ4 hown hK hP 0 rfl rfl 0 (by decide) hf_15 (fun _ h9 => h9) rfl dJ5_append_3fe6f_25 ?_
  refine lv_aload_n hx hb dJ5_append_3fe6f_28 rfl (lv_at hl 0 rfl) ?_
  refine lv_dup hx hb dJ5_append_3fe6f_29 rfl ?_
  refine va_get (D := (dC, dI)) (ci := 0) (v := .int (K 1 0)) (C := RJ4) (T := TJ4) (N := 4) hx hb hts hwJ4 hown hK hP 0 rfl rfl 3 (by decide) hf_79 (fun _ h9 => h9) rfl dJ5_append_3fe6f_30 ?_
  refine lv_dup_x1 hx hb dJ5_append_3fe6f_33 rfl rfl ?_
  refine lv_iconst (v := 1) hx hb dJ5_append_3fe6f_34 (by decide) ?_
  refine lv_iadd hx hb dJ5_append_3fe6f_35 ?_
  rw [en, show nI n + 1 = nI (n + 1) from nadd n 1]
  refine va_put (D := (dC, dI)) (ci := 0) (v := .int (nI (n + 1))) (ty := .int) (C := RJ4) (T := TJ4) (N := 4) hx hb hts hwJ4 tyJ4 tyJ4_ok nmJ4 hown hK hP hD hS 0 rfl rfl 3 (by decide) hf_79 (fun _ h9 => h9) rfl (by decide +kernel) rfl rfl (Nat.le_of_ble_eq_true rfl) dJ5_append_3fe6f_36 (fun H locs hP hD hS => ?_)
  refine lv_iload_n hx hb dJ5_append_3fe6f_39 rfl (lv_at hl 1 rfl) ?_
  refine lv_i2b (v := nI j) hx hb dJ5_append_3fe6f_40 (i2b_n j hj) ?_
  refine va_bast hx hb hK hP hD hS 1 0 rfl rfl (pk_in n mb (by omega) rfl (by have := hCb.2.1; omega)) dJ5_append_3fe6f_41 (fun H locs hP hD hS => ?_)
  have hP : va_P (dC, dI) vwCl (sbW cB ob b mb (apS K (nI j)) ++ R) H := by
    rw [sbW_ap en hn]
    rw [nar_n j hj, nI_clamp (by omega)] at hP
    exact hP
  have hD : va_D (aB base) (sbW cB ob b mb (apS K (nI j)) ++ R) := D_iff.mpr (by have h := D_iff.mp hD; exact h)
  refine lv_goto (tgt := 75) hx hb dJ5_append_3fe6f_42 (by decide) ?_
  refine lv_aload_n hx hb dJ5_append_3fe6f_75 rfl (lv_at hl 0 rfl) ?_
  exact W_le (by omega) (by omega) (W.aret hx hb hr (Or.inl ⟨_, rfl⟩) (Or.inr ⟨_, rfl⟩) (fun t ht _ => retB rfl ⟨b, mb, rfl, CF_ap hCb en hn hmb hj⟩ hP hD hS ht) hS.2.2 dJ5_append_3fe6f_76)
def rmJ4_append_cf468 : Room := { frames := 6, cells := 1, slots := 256, locals := 190 }
set_option maxHeartbeats 4000000 in
set_option maxRecDepth 100000 in
theorem tS_cC {l : Launch} {dC : Nat → ClassId} {dI : Nat → Nat → Nat} {cB : ClassId} {ob sb mm base : Nat} {R : va_W} {K K1 : KT} {v : Int32} (hf : s_cC K v = some K1) (hCF : CF mm K) : Met l yJ4_append_cf468 wsJ4_append_cf468 rmJ4_append_cf468 (cBp (dC, dI) vwCl [(cB, .byte)] base (sbW cB ob sb mm K ++ R) [.ref ob, .int v]) (cBe (dC, dI) vwCl base (some (.ref ob)) (fun ws => ∃ b m, ws = sbW cB ob b m K1 ++ R ∧ CF m K1)) 1 256 (aB base) := by
  refine Met.ofW (cc := cJ4_append_cf468) (maxL := 2) (ret := (some (.object "java/lang/StringBuilder"))) (by decide) rfl ?_
  intro p e s m args below meth c s₁ B hml hv
  obtain ⟨rfl, hP, hK, hD, hbs, hE⟩ := hv
  have hx := B.exec
  have hb := B.bytes
  have hr := B.returns
  have hts := atoms_spec (ws := wsJ4_append_cf468) B.pre
  have hown : s.vm.findClass RJ4 = some m.cls := findClass_of_methodNamed B.named
  have hlocks := B.notSynchronized
  have hS : va_S (aB base) s.heap s.heap [] := va_S.rf
  have hl := lv_entry ([.ref ob, .int v]) (n := 2) (Nat.le_of_ble_eq_true rfl)
  rw [lg_entry_eq]
  generalize (lg_sl ([.ref ob, .int v]) ++ List.replicate (2 - (lg_sl ([.ref ob, .int v])).length) Slot.unset).toArray = ls at hl ⊢
  have hl : lv_has ls 2 [(0, .ref ob), (1, .int v)] := hl
  refine lv_aload_n hx hb dJ4_append_cf468_0 rfl (lv_at hl 0 rfl) ?_
  refine lv_iload_n hx hb dJ4_append_cf468_1 rfl (lv_at hl 1 rfl) ?_
  refine call_BSUE (As := [.int v]) (rest := []) (hK.1 0 _ rfl).2 ⟨hx, hb, hml, hown, hts⟩ (tJ5_append_3fe6f (l := l) (dC := dC) (dI := dI) (cB := cB) (ob := ob) (sb := sb) (mm := mm) (base := base) (R := R) hf hCF) (va_cwSU 1 hts gJ4_append_cf468_J5_append_3fe6f_s50 rfl rfl rfl (by decide +kernel) ⟨Nat.le_of_ble_eq_true rfl, Nat.le_of_ble_eq_true rfl⟩) hK hP hD hS hbs (fun U hU hW => Env_step rfl rfl hE va_S.rf hU hW) 0 rfl rfl (by rfl) hl.1 rfl (Nat.le_of_ble_eq_true rfl) dJ4_append_cf468_2 ⟨Nat.le_refl _, Nat.le_refl _⟩ (fun H locs ws9 hW9 hP hD _ hS => ?_)
  refine lv_pop hx hb dJ4_append_cf468_5 rfl ?_
  refine lv_aload_n hx hb dJ4_append_cf468_6 rfl (lv_at hl 0 rfl) ?_
  exact W_le (by omega) (by omega) (W.aret hx hb hr (Or.inl ⟨_, rfl⟩) (Or.inr ⟨_, rfl⟩) (fun t ht _ => retB rfl hW9 hP hD hS ht) hS.2.2 dJ4_append_cf468_7)
/-! ===== a number's digits ===== -/
/-- v's digits, the last one just before place p -/
def dput (f : Nat → Int32) (p v : Nat) : Nat → Int32 := fun x => if p - sb_dg v ≤ x ∧ x < p then nI (48 + v / 10 ^ (p - 1 - x) % 10) else f x
theorem dOnes_n {r : Nat} (h : r < 100) : dOnes r = nI (48 + r % 10) := by
  have e : ∀ r, r < 100 → dOnes r = nI (48 + r % 10) := by decide +kernel
  exact e r h
theorem dTens_n {r : Nat} (h : r < 100) : dTens r = nI (48 + r / 10) := by
  have e : ∀ r, r < 100 → dTens r = nI (48 + r / 10) := by decide +kernel
  exact e r h
theorem dg_1 {v : Nat} (h : v < 10) : sb_dg v = 1 := by unfold sb_dg; rw [if_pos h]
theorem dg_2 {v : Nat} (h : 10 ≤ v) (h2 : v < 100) : sb_dg v = 2 := by unfold sb_dg; rw [if_neg (by omega), if_pos h2]
theorem dput_1 {f : Nat → Int32} {p v : Nat} (h : v < 10) (hp : 1 ≤ p) : upd f (p - 1) (nI (48 + v % 10)) = dput f p v := by
  funext x
  unfold upd dput
  rw [dg_1 h]
  by_cases q : x = p - 1
  · rw [if_pos q, if_pos (by omega), q, show p - 1 - (p - 1) = 0 by omega, Nat.pow_zero, Nat.div_one]
  · rw [if_neg q, if_neg (by omega)]
theorem dput_2 {f : Nat → Int32} {p v : Nat} (h : 10 ≤ v) (h2 : v < 100) (hp : 2 ≤ p) : upd (upd f (p - 1) (nI (48 + v % 10))) (p - 2) (nI (48 + v / 10)) = dput f p v := by
  funext x
  unfold upd dput
  rw [dg_2 h h2]
  by_cases q2 : x = p - 2
  · rw [if_pos q2, if_pos (by omega), q2, show p - 1 - (p - 2) = 1 by omega, Nat.pow_one, Nat.mod_eq_of_lt (show v / 10 < 10 by omega)]
  · rw [if_neg q2]
    by_cases q : x = p - 1
    · rw [if_pos q, if_pos (by omega), q, show p - 1 - (p - 1) = 0 by omega, Nat.pow_zero, Nat.div_one]
    · rw [if_neg q, if_neg (by omega)]
theorem dput_h {f : Nat → Int32} {p v : Nat} (h : 100 ≤ v) (hv : v < 2 ^ 31) (hp : sb_dg v ≤ p) : dput (upd (upd f (p - 1) (nI (48 + v % 100 % 10))) (p - 2) (nI (48 + v % 100 / 10))) (p - 2) (v / 100) = dput f p v := by
  have hd := sb_dg100 h hv
  have hd1 := (sb_dg_in (v / 100)).1
  funext x
  unfold dput
  rw [hd]
  by_cases q : p - (sb_dg (v / 100) + 2) ≤ x ∧ x < p
  · rw [if_pos q]
    by_cases q1 : x < p - 2
    · rw [if_pos (by omega), Nat.div_div_eq_div_mul, show (100 : Nat) * 10 ^ (p - 2 - 1 - x) = 10 ^ (p - 1 - x) by rw [show p - 1 - x = p - 2 - 1 - x + 2 by omega, Nat.pow_add, Nat.mul_comm]]
    · rw [if_neg (by omega)]
      unfold upd
      by_cases q2 : x = p - 2
      · rw [if_pos q2, q2, show p - 1 - (p - 2) = 1 by omega, Nat.pow_one, show v % 100 / 10 = v / 10 % 10 by omega]
      · rw [if_neg q2, if_pos (by omega), show p - 1 - x = 0 by omega, Nat.pow_zero, Nat.div_one, show v % 100 % 10 = v % 10 by omega]
  · rw [if_neg q, if_neg (by omega)]
    unfold upd
    rw [if_neg (by omega), if_neg (by omega)]
theorem neg_n (v : Nat) : -(-nI v) = nI v := Int32.neg_neg
theorem gc_last {N mm p v : Nat} {K : KT} (hv : v < 100) (hp : sb_dg v ≤ p) (hm : p ≤ mm) (hm2 : mm ≤ 256) : fJ6_getChars_ba4f3_72 N mm K (-nI v) (nI p) 0 = some (nI (p - sb_dg v), rset K 0 (dput (K 0) p v)) := by
  have hd := (sb_dg_in v).1
  have r0 : ∀ (f g : Nat → Int32), rset (rset K 0 f) 0 g = rset K 0 g := fun f g => by
    funext j
    by_cases q : j = 0
    · rw [q, rset_eq, rset_eq]
    · rw [rset_ne q, rset_ne q, rset_ne q]
  have fr : ∀ (J : KT) (i : Nat) (x : Int32), fset J 0 i x = rset J 0 (upd (J 0) i x) := fun J i x => by
    funext j
    by_cases q : j = 0
    · rw [q, fset_eq, rset_eq]
    · rw [fset_ne q, rset_ne q]
  unfold fJ6_getChars_ba4f3_72
  rw [neg_n, rdA_n hv (by decide), dOnes_n hv, ndec (by omega), nar_n _ (by omega), wrA_n (by omega) (by omega)]
  unfold fJ6_getChars_ba4f3_104 fJ6_getChars_ba4f3_118
  rw [if_pos (show (0 : Int32) = 0 from rfl)]
  by_cases h10 : v < 10
  · rw [if_pos (show (-9 : Int32) ≤ -nI v from (sb_nle (a := 9) (by decide) (by omega)).mpr (by omega)), fr, dput_1 h10 (by omega), dg_1 h10]
  · have h2 := dg_2 (by omega) hv
    rw [if_neg (show ¬ (-9 : Int32) ≤ -nI v from fun q => by have := (sb_nle (a := 9) (b := v) (by decide) (by omega)).mp q; omega), rdA_n hv (by decide), dTens_n hv, ndec (by omega), nar_n _ (by omega), wrA_n (by omega) (by omega), if_pos (show (0 : Int32) = 0 from rfl), fr, fr, r0, rset_eq, show p - 1 - 1 = p - 2 by omega, dput_2 (by omega) hv (by omega), h2]
theorem gc_loop {N mm : Nat} (hm2 : mm ≤ 256) : ∀ (k n p v : Nat) (K : KT), k < n → v < 100 * 100 ^ k → v < 2 ^ 31 → sb_dg v ≤ p → p ≤ mm → fJ6_getChars_ba4f3_22 N mm n K (-nI v) (nI p) 0 = some (nI (p - sb_dg v), rset K 0 (dput (K 0) p v)) := by
  intro k
  induction k with
  | zero =>
    intro n p v K hn hv hv2 hp hm
    obtain ⟨z, rfl⟩ : ∃ z, n = z + 1 := ⟨n - 1, by omega⟩
    rw [Nat.pow_zero] at hv
    unfold fJ6_getChars_ba4f3_22
    rw [if_pos (show (-100 : Int32) < -nI v from (sb_nlt (a := 100) (by decide) hv2).mpr (by omega))]
    exact gc_last (by omega) hp hm hm2
  | succ k ih =>
    intro n p v K hn hv hv2 hp hm
    obtain ⟨z, rfl⟩ : ∃ z, n = z + 1 := ⟨n - 1, by omega⟩
    unfold fJ6_getChars_ba4f3_22
    by_cases h100 : v < 100
    · rw [if_pos (show (-100 : Int32) < -nI v from (sb_nlt (a := 100) (by decide) hv2).mpr (by omega))]
      exact gc_last h100 hp hm hm2
    · have hd := sb_dg100 (by omega) hv2
      have hd1 := (sb_dg_in (v / 100)).1
      have hr : v % 100 < 100 := by omega
      rw [if_neg (show ¬ (-100 : Int32) < -nI v from fun q => by have := (sb_nlt (a := 100) (b := v) (by decide) hv2).mp q; omega), sb_ndiv hv2, sb_nrem hv2, rdA_n hr (by decide), dOnes_n hr, ndec (by omega), nar_n _ (by omega), wrA_n (by omega) (by omega), rdA_n hr (by decide), dTens_n hr, ndec (by omega), nar_n _ (by omega), wrA_n (by omega) (by omega), show p - 1 - 1 = p - 2 by omega]
      rw [Nat.pow_succ] at hv
      have hi := ih z (p - 2) (v / 100) (fset (fset K 0 (p - 1) (nI (48 + v % 100 % 10))) 0 (p - 2) (nI (48 + v % 100 / 10))) (by omega) (by omega) (by omega) (by omega) (by omega)
      rw [fset_eq, fset_eq, dput_h (by omega) hv2 hp] at hi
      rw [hi, show p - 2 - sb_dg (v / 100) = p - sb_dg v by omega]
      congr 2
      funext j
      by_cases q : j = 0
      · rw [q, rset_eq, rset_eq]
      · rw [rset_ne q, rset_ne q, fset_ne q, fset_ne q]
theorem gc_all {mm p v : Nat} {K : KT} (hm2 : mm ≤ 256) (hv : v < 2 ^ 31) (hp : sb_dg v ≤ p) (hm : p ≤ mm) : mJ6_getChars_ba4f3 7 mm K (nI v) (nI p) = some (nI (p - sb_dg v), rset K 0 (dput (K 0) p v)) := by
  unfold mJ6_getChars_ba4f3 fJ6_getChars_ba4f3_12
  rw [if_pos (nI_pos' hv), if_pos (show (0 : Int32) = 0 from rfl)]
  exact gc_loop hm2 5 7 p v K (by decide) (by omega) hv hp hm
theorem ss_loop {N v : Nat} (hv : v < 2 ^ 31) : ∀ (k n i : Nat), k < n → i + k = 10 → 1 ≤ i → i ≤ sb_dg v → fJ6_stringSize_0f7a4_16 N n (-nI v) 0 (-nI (10 ^ i)) (nI i) = some (nI (sb_dg v)) := by
  intro k
  have hd := sb_dg_in v
  induction k with
  | zero =>
    intro n i hn hi h1 h2
    obtain ⟨z, rfl⟩ : ∃ z, n = z + 1 := ⟨n - 1, by omega⟩
    unfold fJ6_stringSize_0f7a4_16
    rw [show (10 : Int32) = nI 10 from rfl, ite_le (by omega) (by omega), if_pos (by omega), show (0 : Int32) = nI 0 from rfl, nadd, show sb_dg v = 10 + 0 by omega]
  | succ k ih =>
    intro n i hn hi h1 h2
    obtain ⟨z, rfl⟩ : ∃ z, n = z + 1 := ⟨n - 1, by omega⟩
    have hpow : ∀ i, i < 10 → 1 ≤ i → (10 ^ i < 2 ^ 31 ∧ (sb_dg v ≤ i ↔ v < 10 ^ i)) := by
      intro i hi h1
      have hc : i = 1 ∨ i = 2 ∨ i = 3 ∨ i = 4 ∨ i = 5 ∨ i = 6 ∨ i = 7 ∨ i = 8 ∨ i = 9 := by omega
      unfold sb_dg
      rcases hc with rfl | rfl | rfl | rfl | rfl | rfl | rfl | rfl | rfl
      all_goals
        refine ⟨by decide, ?_⟩
        (repeat' split) <;> omega
    obtain ⟨p1, p2⟩ := hpow i (by omega) h1
    unfold fJ6_stringSize_0f7a4_16
    rw [if_neg (show ¬ (10 : Int32) ≤ nI i from nI_ge (a := i) (b := 10) (by omega) (by decide))]
    by_cases q : sb_dg v ≤ i
    · have q2 := p2.mp q
      rw [if_neg (show ¬ -nI v ≤ -nI (10 ^ i) from fun w => by have := (sb_nle hv p1).mp w; omega), show (0 : Int32) = nI 0 from rfl, nadd, show sb_dg v = i + 0 by omega]
    · have q2 : ¬ v < 10 ^ i := fun w => q (p2.mpr w)
      have em : (10 : Int32) * -nI (10 ^ i) = -nI (10 ^ (i + 1)) := by
        rw [Int32.mul_neg, show (10 : Int32) = nI 10 from rfl, nmul, Nat.pow_succ, Nat.mul_comm]
      rw [if_pos ((sb_nle hv p1).mpr (by omega)), em, show nI i + 1 = nI (i + 1) from nadd i 1]
      exact ih z (i + 1) (by omega) (by omega) (by omega) (by omega)
theorem ss_all {v : Nat} (hv : v < 2 ^ 31) : mJ6_stringSize_0f7a4 11 (nI v) = some (nI (sb_dg v)) := by
  unfold mJ6_stringSize_0f7a4 fJ6_stringSize_0f7a4_11
  rw [if_neg (nI_pos hv)]
  exact ss_loop hv 9 11 1 (by decide) (by decide) (by decide) (sb_dg_in v).1
/-- a number is put behind the others -/
def s_cI (K : KT) (v : Int32) : Option KT := if 0 ≤ v ∧ 0 ≤ K 1 0 ∧ (K 1 0).toNatClampNeg + sb_dg v.toNatClampNeg ≤ 127 then some (fset (rset K 0 (dput (K 0) ((K 1 0).toNatClampNeg + sb_dg v.toNatClampNeg) v.toNatClampNeg)) 1 0 (nI ((K 1 0).toNatClampNeg + sb_dg v.toNatClampNeg))) else none
theorem s_cI_in {K K1 : KT} {v : Int32} (h : s_cI K v = some K1) : ∃ n x : Nat, x < 2 ^ 31 ∧ n + sb_dg x ≤ 127 ∧ K 1 0 = nI n ∧ v = nI x ∧ K1 = fset (rset K 0 (dput (K 0) (n + sb_dg x) x)) 1 0 (nI (n + sb_dg x)) := by
  unfold s_cI at h
  split at h
  · rename_i g
    obtain ⟨g1, g2, g3⟩ := g
    obtain ⟨x, hx, rfl⟩ := nI_of (Int32.not_lt.mpr g1)
    obtain ⟨n, hn, en⟩ := nI_of (Int32.not_lt.mpr g2)
    rw [en, nI_clamp hn, nI_clamp hx] at g3 h
    exact ⟨n, x, hx, g3, en, rfl, (Option.some.inj h).symm⟩
  · cases h
theorem s_cI_keep {K K1 : KT} {v : Int32} (h : s_cI K v = some K1) : ∀ i, 2 ≤ i → K1 1 i = K 1 i := by
  intro i hi
  obtain ⟨n, x, -, -, -, -, rfl⟩ := s_cI_in h
  rw [fset_eq, pk_un (by omega), rset_ne (by decide)]
theorem dput_fit {f : Nat → Int32} {p v : Nat} (h : sb_Fit f) : sb_Fit (dput f p v) := by
  intro j
  unfold dput
  split
  · exact fitb_n _ (by omega)
  · exact h j
def rmJ5_append_c97b9 : Room := { frames := 5, cells := 1, slots := 256, locals := 160 }
set_option maxHeartbeats 4000000 in
set_option maxRecDepth 100000 in
theorem tJ5_append_c97b9 {l : Launch} {dC : Nat → ClassId} {dI : Nat → Nat → Nat} {cB : ClassId} {ob sb mm base : Nat} {R : va_W} {K K1 : KT} {v : Int32} (hf : s_cI K v = some K1) (hCF : CF mm K) : Met l yJ5_append_c97b9 wsJ5_append_c97b9 rmJ5_append_c97b9 (cBp (dC, dI) vwCl [(cB, .byte)] base (sbW cB ob sb mm K ++ R) [.ref ob, .int v]) (cBe (dC, dI) vwCl base (some (.ref ob)) (fun ws => ∃ b m, ws = sbW cB ob b m K1 ++ R ∧ CF m K1)) 1 256 (aB base) := by
  obtain ⟨n, x, hx9, hn, en, rfl, rfl⟩ := s_cI_in hf
  refine Met.ofW (cc := cJ5_append_c97b9) (maxL := 4) (ret := (some (.object "java/lang/AbstractStringBuilder"))) (by decide) rfl ?_
  intro p e s m args below meth c s₁ B hml hv
  obtain ⟨rfl, hP, hK, hD, hbs, hE⟩ := hv
  have hx := B.exec
  have hb := B.bytes
  have hr := B.returns
  have hts := atoms_spec (ws := wsJ5_append_c97b9) B.pre
  have hown : s.vm.findClass RJ5 = some m.cls := findClass_of_methodNamed B.named
  have hlocks := B.notSynchronized
  have hf_15 := hts (.fieldLink RJ5 15 "java/lang/AbstractStringBuilder" "value" "[B") (by decide +kernel)
  have hf_79 := hts (.fieldLink RJ5 79 "java/lang/AbstractStringBuilder" "count" "I") (by decide +kernel)
  have hwJ4 : ∀ w ∈ u_ws RJ4 TJ4 4, w ∈ wsJ5_append_c97b9 := by decide +kernel
  have hS : va_S (aB base) s.heap s.heap [] := va_S.rf
  have hl := lv_entry ([.ref ob, .int (nI x)]) (n := 4) (Nat.le_of_ble_eq_true rfl)
  rw [lg_entry_eq]
  generalize (lg_sl ([.ref ob, .int (nI x)]) ++ List.replicate (4 - (lg_sl ([.ref ob, .int (nI x)])).length) Slot.unset).toArray = ls at hl ⊢
  have hl : lv_has ls 4 [(0, .ref ob), (1, .int (nI x))] := hl
  refine lv_aload_n hx hb dJ5_append_c97b9_0 rfl (lv_at hl 0 rfl) ?_
  refine va_get (D := (dC, dI)) (ci := 0) (v := .int (K 1 0)) (C := RJ4) (T := TJ4) (N := 4) hx hb hts hwJ4 hown hK hP 0 rfl rfl 3 (by decide) hf_79 (fun _ h9 => h9) rfl dJ5_append_c97b9_1 ?_
  rw [en]
  refine lv_istore_n (lv' := [(2, .int (nI n)), (0, .ref ob), (1, .int (nI x))]) hx hb dJ5_append_c97b9_4 rfl hl (by decide) rfl (fun ls hl => ?_)
  refine lv_iload_n hx hb dJ5_append_c97b9_5 rfl (lv_at hl 0 rfl) ?_
  refine lv_iload_n hx hb dJ5_append_c97b9_6 rfl (lv_at hl 2 rfl) ?_
  refine call_SP (As := [.int (nI x)]) (rest := [.int (nI n)]) ⟨hx, hb, hml, hown, hts⟩ (tJ6_stringSize_0f7a4 (l := l) (ss_all hx9)) (va_cwS 1 hts gJ5_append_c97b9_J6_stringSize_0f7a4 rfl rfl rfl (by decide +kernel) ⟨Nat.le_of_ble_eq_true rfl, Nat.le_of_ble_eq_true rfl⟩) (by rfl) hl.1 rfl (Nat.le_of_ble_eq_true rfl) dJ5_append_c97b9_7 ⟨Nat.zero_le _, Nat.zero_le _⟩ ?_
  refine lv_iadd hx hb dJ5_append_c97b9_10 ?_
  rw [nadd]
  refine lv_istore_n (lv' := [(3, .int (nI (n + sb_dg x))), (2, .int (nI n)), (0, .ref ob), (1, .int (nI x))]) hx hb dJ5_append_c97b9_11 rfl hl (by decide) rfl (fun ls hl => ?_)
  refine lv_aload_n hx hb dJ5_append_c97b9_12 rfl (lv_at hl 2 rfl) ?_
  refine lv_iload_n hx hb dJ5_append_c97b9_13 rfl (lv_at hl 0 rfl) ?_
  refine call_BUE (As := [.int (nI (n + sb_dg x))]) (rest := []) ⟨hx, hb, hml, hown, hts⟩ (tJ5_ensureCapacityInternal_d00df (l := l) (dC := dC) (dI := dI) (cB := cB) (ob := ob) (sb := sb) (mm := mm) (base := base) (w := n + sb_dg x) (R := R) hn hCF) (va_cwU 1 hts gJ5_append_c97b9_J5_ensureCapacityInternal_d00df_u100J4 rfl rfl rfl rfl (by decide +kernel) ⟨Nat.le_of_ble_eq_true rfl, Nat.le_of_ble_eq_true rfl⟩) hK hP hD hS hbs (fun U hU hW => Env_step rfl rfl hE va_S.rf hU hW) 0 rfl rfl (by rfl) hl.1 rfl (Nat.le_of_ble_eq_true rfl) dJ5_append_c97b9_14 ⟨Nat.le_refl _, Nat.le_refl _⟩ (fun H locs ws9 hW9 hP hD hz hS => ?_)
  obtain ⟨b, mb, rfl, hCb, hmb⟩ := hW9
  refine lv_aload_n hx hb dJ5_append_c97b9_17 rfl (lv_at hl 2 rfl) ?_
  refine call_BUP (As := []) (rest := []) ⟨hx, hb, hml, hown, hts⟩ (tJ5_isLatin1_aae02 (l := l) (dC := dC) (dI := dI) (cB := cB) (ob := ob) (sb := b) (mm := mb) (base := base) (R := R) (isLat (N := 0)) hCb) (va_cwU 0 hts gJ5_append_c97b9_J5_isLatin1_aae02_u83J4 rfl rfl rfl rfl (by decide +kernel) ⟨Nat.le_of_ble_eq_true rfl, Nat.le_of_ble_eq_true rfl⟩) hK hP hD (Nat.le_trans hbs hS.1) (fun U hU hW => Env_step rfl rfl hE hS hU hW) 0 rfl rfl (by rfl) hl.1 rfl (Nat.le_of_ble_eq_true rfl) dJ5_append_c97b9_18 ⟨Nat.le_refl _, Nat.le_refl _⟩ ?_
  refine lv_if_eq (tgt := 37) hx hb dJ5_append_c97b9_21 (by decide) (fun c1 => absurd c1 (by decide)) (fun _ => ?_)
  refine lv_iload_n hx hb dJ5_append_c97b9_24 rfl (lv_at hl 3 rfl) ?_
  refine lv_iload_n hx hb dJ5_append_c97b9_25 rfl (lv_at hl 0 rfl) ?_
  refine lv_aload_n hx hb dJ5_append_c97b9_26 rfl (lv_at hl 2 rfl) ?_
  refine va_get (D := (dC, dI)) (ci := 0) (v := .ref b) (C := RJ4) (T := TJ4) (N := 4) hx hb hts hwJ4 hown hK hP 0 rfl rfl 0 (by decide) hf_15 (fun _ h9 => h9) rfl dJ5_append_c97b9_27 ?_
  have hp1 : (sbW cB ob b mb K ++ R).Perm ((b, .inl (cB, mb, .inl (K 0))) :: (ob, .inr (0, [.ref b, .int 0, .int (K 1 1), .int (K 1 0)])) :: R) := List.Perm.swap _ _ _
  refine call_SBE (As := [.int (nI x), .int (nI (n + sb_dg x)), .ref b]) (rest := []) ⟨hx, hb, hml, hown, hts⟩ (tJ6_getChars_ba4f3 (l := l) (dC := dC) (dI := dI) (cB := cB) (ap := b) (mm := mb) (base := base) (R := (ob, .inr (0, [.ref b, .int 0, .int (K 1 1), .int (K 1 0)])) :: R) (gc_all (K := K) hCb.2.1 hx9 (by omega) hmb)) (va_cwS 3 hts gJ5_append_c97b9_J6_getChars_ba4f3 rfl rfl rfl (by decide +kernel) ⟨Nat.le_of_ble_eq_true rfl, Nat.le_of_ble_eq_true rfl⟩) hK (P_perm hp1 hP) (D_perm hp1 hD) hS (Nat.le_trans hbs hS.1) (fun U hU hW => Env_step rfl rfl hE hS hU hW) (by rfl) hl.1 rfl (Nat.le_of_ble_eq_true rfl) dJ5_append_c97b9_30 ⟨Nat.le_refl _, Nat.le_refl _⟩ (fun H locs ws9 hW9 hP hD hz hS => ?_)
  obtain ⟨rfl, -⟩ := hW9
  have hp2 : ((b, .inl (cB, mb, .inl (rset K 0 (dput (K 0) (n + sb_dg x) x) 0))) :: (ob, .inr (0, [.ref b, .int 0, .int (K 1 1), .int (K 1 0)])) :: R : va_W).Perm ((ob, .inr (0, [.ref b, .int 0, .int (K 1 1), .int (K 1 0)])) :: (b, .inl (cB, mb, .inl (rset K 0 (dput (K 0) (n + sb_dg x) x) 0))) :: R) := List.Perm.swap _ _ _
  have hP := P_perm hp2 hP
  have hD := D_perm hp2 hD
  refine lv_pop hx hb dJ5_append_c97b9_33 rfl ?_
  refine lv_goto (tgt := 48) hx hb dJ5_append_c97b9_34 (by decide) ?_
  refine lv_aload_n hx hb dJ5_append_c97b9_48 rfl (lv_at hl 2 rfl) ?_
  refine lv_iload_n hx hb dJ5_append_c97b9_49 rfl (lv_at hl 0 rfl) ?_
  refine va_put (D := (dC, dI)) (ci := 0) (v := .int (nI (n + sb_dg x))) (ty := .int) (C := RJ4) (T := TJ4) (N := 4) hx hb hts hwJ4 tyJ4 tyJ4_ok nmJ4 hown hK hP hD hS 0 rfl rfl 3 (by decide) hf_79 (fun _ h9 => h9) rfl (by decide +kernel) rfl rfl (Nat.le_of_ble_eq_true rfl) dJ5_append_c97b9_50 (fun H locs hP hD hS => ?_)
  have e0 : fset (rset K 0 (dput (K 0) (n + sb_dg x) x)) 1 0 (nI (n + sb_dg x)) 0 = dput (K 0) (n + sb_dg x) x := by rw [fset_ne (by decide), rset_eq]
  have e10 : fset (rset K 0 (dput (K 0) (n + sb_dg x) x)) 1 0 (nI (n + sb_dg x)) 1 0 = nI (n + sb_dg x) := by rw [fset_eq, pk_us]
  have e11 : fset (rset K 0 (dput (K 0) (n + sb_dg x) x)) 1 0 (nI (n + sb_dg x)) 1 1 = K 1 1 := by rw [fset_eq, pk_un (by decide), rset_ne (by decide)]
  have hP : va_P (dC, dI) vwCl (sbW cB ob b mb (fset (rset K 0 (dput (K 0) (n + sb_dg x) x)) 1 0 (nI (n + sb_dg x))) ++ R) H := by
    unfold sbW
    rw [e0, e10, e11]
    rw [rset_eq] at hP
    exact hP
  have hD : va_D (aB base) (sbW cB ob b mb (fset (rset K 0 (dput (K 0) (n + sb_dg x) x)) 1 0 (nI (n + sb_dg x))) ++ R) := D_iff.mpr (by have h := D_iff.mp hD; exact h)
  have hC2 : CF mb (fset (rset K 0 (dput (K 0) (n + sb_dg x) x)) 1 0 (nI (n + sb_dg x))) := by
    refine ⟨⟨n + sb_dg x, e10, hmb⟩, hCb.2.1, fun j hj => ?_, ?_⟩
    · rw [e0]
      unfold dput
      rw [if_neg (by omega)]
      exact hCb.2.2.1 j hj
    · rw [e0]; exact dput_fit hCb.2.2.2
  refine lv_aload_n hx hb dJ5_append_c97b9_53 rfl (lv_at hl 2 rfl) ?_
  exact W_le (by omega) (by omega) (W.aret hx hb hr (Or.inl ⟨_, rfl⟩) (Or.inr ⟨_, rfl⟩) (fun t ht _ => retB rfl ⟨b, mb, rfl, hC2⟩ hP hD hS ht) hS.2.2 dJ5_append_c97b9_54)
def rmJ4_append_bf812 : Room := { frames := 6, cells := 1, slots := 256, locals := 190 }
set_option maxHeartbeats 4000000 in
set_option maxRecDepth 100000 in
theorem tS_cI {l : Launch} {dC : Nat → ClassId} {dI : Nat → Nat → Nat} {cB : ClassId} {ob sb mm base : Nat} {R : va_W} {K K1 : KT} {v : Int32} (hf : s_cI K v = some K1) (hCF : CF mm K) : Met l yJ4_append_bf812 wsJ4_append_bf812 rmJ4_append_bf812 (cBp (dC, dI) vwCl [(cB, .byte)] base (sbW cB ob sb mm K ++ R) [.ref ob, .int v]) (cBe (dC, dI) vwCl base (some (.ref ob)) (fun ws => ∃ b m, ws = sbW cB ob b m K1 ++ R ∧ CF m K1)) 1 256 (aB base) := by
  refine Met.ofW (cc := cJ4_append_bf812) (maxL := 2) (ret := (some (.object "java/lang/StringBuilder"))) (by decide) rfl ?_
  intro p e s m args below meth c s₁ B hml hv
  obtain ⟨rfl, hP, hK, hD, hbs, hE⟩ := hv
  have hx := B.exec
  have hb := B.bytes
  have hr := B.returns
  have hts := atoms_spec (ws := wsJ4_append_bf812) B.pre
  have hown : s.vm.findClass RJ4 = some m.cls := findClass_of_methodNamed B.named
  have hlocks := B.notSynchronized
  have hS : va_S (aB base) s.heap s.heap [] := va_S.rf
  have hl := lv_entry ([.ref ob, .int v]) (n := 2) (Nat.le_of_ble_eq_true rfl)
  rw [lg_entry_eq]
  generalize (lg_sl ([.ref ob, .int v]) ++ List.replicate (2 - (lg_sl ([.ref ob, .int v])).length) Slot.unset).toArray = ls at hl ⊢
  have hl : lv_has ls 2 [(0, .ref ob), (1, .int v)] := hl
  refine lv_aload_n hx hb dJ4_append_bf812_0 rfl (lv_at hl 0 rfl) ?_
  refine lv_iload_n hx hb dJ4_append_bf812_1 rfl (lv_at hl 1 rfl) ?_
  refine call_BSUE (As := [.int v]) (rest := []) (hK.1 0 _ rfl).2 ⟨hx, hb, hml, hown, hts⟩ (tJ5_append_c97b9 (l := l) (dC := dC) (dI := dI) (cB := cB) (ob := ob) (sb := sb) (mm := mm) (base := base) (R := R) hf hCF) (va_cwSU 1 hts gJ4_append_bf812_J5_append_c97b9_s53 rfl rfl rfl (by decide +kernel) ⟨Nat.le_of_ble_eq_true rfl, Nat.le_of_ble_eq_true rfl⟩) hK hP hD hS hbs (fun U hU hW => Env_step rfl rfl hE va_S.rf hU hW) 0 rfl rfl (by rfl) hl.1 rfl (Nat.le_of_ble_eq_true rfl) dJ4_append_bf812_2 ⟨Nat.le_refl _, Nat.le_refl _⟩ (fun H locs ws9 hW9 hP hD _ hS => ?_)
  refine lv_pop hx hb dJ4_append_bf812_5 rfl ?_
  refine lv_aload_n hx hb dJ4_append_bf812_6 rfl (lv_at hl 0 rfl) ?_
  exact W_le (by omega) (by omega) (W.aret hx hb hr (Or.inl ⟨_, rfl⟩) (Or.inr ⟨_, rfl⟩) (fun t ht _ => retB rfl hW9 hP hD hS ht) hS.2.2 dJ4_append_bf812_7)
/-- cut to nothing -/
def s_cL (K : KT) (v : Int32) : Option KT := if v = 0 ∧ 0 ≤ K 1 0 then some (fset (if 0 < K 1 0 then fset K 1 1 1 else K) 1 0 0) else none
theorem s_cL_in {K K1 : KT} {v : Int32} (h : s_cL K v = some K1) : v = 0 ∧ K1 = fset (if 0 < K 1 0 then fset K 1 1 1 else K) 1 0 0 := by
  unfold s_cL at h
  split at h
  · rename_i g
    exact ⟨g.1, (Option.some.inj h).symm⟩
  · cases h
theorem s_cL_keep {K K1 : KT} {v : Int32} (h : s_cL K v = some K1) : ∀ i, 2 ≤ i → K1 1 i = K 1 i := by
  intro i hi
  obtain ⟨-, rfl⟩ := s_cL_in h
  rw [fset_eq, pk_un (by omega)]
  split
  · rw [fset_eq, pk_un (by omega)]
  · rfl
theorem CF_0 {m : Nat} {K : KT} (h : CF m K) : CF m (fset (if 0 < K 1 0 then fset K 1 1 1 else K) 1 0 0) := by
  have e0 : fset (if 0 < K 1 0 then fset K 1 1 1 else K) 1 0 0 0 = K 0 := by
    rw [fset_ne (by decide)]
    split
    · rw [fset_ne (by decide)]
    · rfl
  refine ⟨⟨0, by rw [fset_eq, pk_us]; rfl, Nat.zero_le _⟩, h.2.1, fun j hj => by rw [e0]; exact h.2.2.1 j hj, by rw [e0]; exact h.2.2.2⟩
def rmJ5_setLength_d00df : Room := { frames := 5, cells := 1, slots := 256, locals := 160 }
set_option maxHeartbeats 4000000 in
set_option maxRecDepth 100000 in
theorem tJ5_setLength_d00df {l : Launch} {dC : Nat → ClassId} {dI : Nat → Nat → Nat} {cB : ClassId} {ob sb mm base : Nat} {R : va_W} {K K1 : KT} {v : Int32} (hf : s_cL K v = some K1) (hCF : CF mm K) : Met l yJ5_setLength_d00df wsJ5_setLength_d00df rmJ5_setLength_d00df (cBp (dC, dI) vwCl [(cB, .byte)] base (sbW cB ob sb mm K ++ R) [.ref ob, .int v]) (cBe (dC, dI) vwCl base none (fun ws => ∃ b m, ws = sbW cB ob b m K1 ++ R ∧ CF m K1)) 1 256 (aB base) := by
  obtain ⟨rfl, rfl⟩ := s_cL_in hf
  obtain ⟨n, en, hnm⟩ := hCF.1
  have hm256 := hCF.2.1
  refine Met.ofW (cc := cJ5_setLength_d00df) (maxL := 2) (ret := none) (by decide) rfl ?_
  intro p e s m args below meth c s₁ B hml hv
  obtain ⟨rfl, hP, hK, hD, hbs, hE⟩ := hv
  have hx := B.exec
  have hb := B.bytes
  have hr := B.returns
  have hts := atoms_spec (ws := wsJ5_setLength_d00df) B.pre
  have hown : s.vm.findClass RJ5 = some m.cls := findClass_of_methodNamed B.named
  have hlocks := B.notSynchronized
  have hf_15 := hts (.fieldLink RJ5 15 "java/lang/AbstractStringBuilder" "value" "[B") (by decide +kernel)
  have hf_79 := hts (.fieldLink RJ5 79 "java/lang/AbstractStringBuilder" "count" "I") (by decide +kernel)
  have hf_73 := hts (.fieldLink RJ5 73 "java/lang/AbstractStringBuilder" "maybeLatin1" "Z") (by decide +kernel)
  have hwJ4 : ∀ w ∈ u_ws RJ4 TJ4 4, w ∈ wsJ5_setLength_d00df := by decide +kernel
  have hS : va_S (aB base) s.heap s.heap [] := va_S.rf
  have hl := lv_entry ([.ref ob, .int 0]) (n := 2) (Nat.le_of_ble_eq_true rfl)
  rw [lg_entry_eq]
  generalize (lg_sl ([.ref ob, .int 0]) ++ List.replicate (2 - (lg_sl ([.ref ob, .int 0])).length) Slot.unset).toArray = ls at hl ⊢
  have hl : lv_has ls 2 [(0, .ref ob), (1, .int 0)] := hl
  refine lv_iload_n hx hb dJ5_setLength_d00df_0 rfl (lv_at hl 1 rfl) ?_
  refine lv_if_ge (tgt := 13) hx hb dJ5_setLength_d00df_1 (by decide) (fun _ => ?_) (fun c1 => absurd (show (0 : Int32) ≤ 0 by decide) c1)
  refine lv_aload_n hx hb dJ5_setLength_d00df_13 rfl (lv_at hl 0 rfl) ?_
  refine lv_iload_n hx hb dJ5_setLength_d00df_14 rfl (lv_at hl 1 rfl) ?_
  refine call_BUE (As := [.int 0]) (rest := []) ⟨hx, hb, hml, hown, hts⟩ (tJ5_ensureCapacityInternal_d00df (l := l) (dC := dC) (dI := dI) (cB := cB) (ob := ob) (sb := sb) (mm := mm) (base := base) (w := 0) (R := R) (by omega) hCF) (va_cwU 1 hts gJ5_setLength_d00df_J5_ensureCapacityInternal_d00df_u100J4 rfl rfl rfl rfl (by decide +kernel) ⟨Nat.le_of_ble_eq_true rfl, Nat.le_of_ble_eq_true rfl⟩) hK hP hD hS hbs (fun U hU hW => Env_step rfl rfl hE va_S.rf hU hW) 0 rfl rfl (by rfl) hl.1 rfl (Nat.le_of_ble_eq_true rfl) dJ5_setLength_d00df_15 ⟨Nat.le_refl _, Nat.le_refl _⟩ (fun H locs ws9 hW9 hP hD hz hS => ?_)
  obtain ⟨b, mb, rfl, hCb, hmb⟩ := hW9
  refine lv_aload_n hx hb dJ5_setLength_d00df_18 rfl (lv_at hl 0 rfl) ?_
  refine va_get (D := (dC, dI)) (ci := 0) (v := .int (K 1 0)) (C := RJ4) (T := TJ4) (N := 4) hx hb hts hwJ4 hown hK hP 0 rfl rfl 3 (by decide) hf_79 (fun _ h9 => h9) rfl dJ5_setLength_d00df_19 ?_
  refine lv_iload_n hx hb dJ5_setLength_d00df_22 rfl (lv_at hl 1 rfl) ?_
  refine lv_icmp_ge (tgt := 63) hx hb dJ5_setLength_d00df_23 (by decide) (fun _ => ?_) (fun c1 => absurd (show (0 : Int32) ≤ K 1 0 by rw [en]; exact nI_pos' (by omega)) c1)
  refine lv_aload_n hx hb dJ5_setLength_d00df_63 rfl (lv_at hl 0 rfl) ?_
  refine va_get (D := (dC, dI)) (ci := 0) (v := .int (K 1 0)) (C := RJ4) (T := TJ4) (N := 4) hx hb hts hwJ4 hown hK hP 0 rfl rfl 3 (by decide) hf_79 (fun _ h9 => h9) rfl dJ5_setLength_d00df_64 ?_
  refine lv_iload_n hx hb dJ5_setLength_d00df_67 rfl (lv_at hl 1 rfl) ?_
  have fin : ∀ (J : KT) (H : Heap) (locs : List Loc), J = (if 0 < K 1 0 then fset K 1 1 1 else K) → va_P (dC, dI) vwCl (sbW cB ob b mb J ++ R) H → va_D (aB base) (sbW cB ob b mb J ++ R) → va_S (aB base) s.heap H locs → W p l e (headSpec wsJ5_setLength_d00df rmJ5_setLength_d00df).room s m ([.ref ob, .int 0] : List Value).toArray below meth c H locs 1 256 (MQ below (cBe (dC, dI) vwCl base none (fun ws => ∃ b m, ws = sbW cB ob b m (fset (if 0 < K 1 0 then fset K 1 1 1 else K) 1 0 0) ++ R ∧ CF m (fset (if 0 < K 1 0 then fset K 1 1 1 else K) 1 0 0))) ([.ref ob, .int 0] : List Value).toArray s 1 256 (aB base)) (F0 m 76 ls []) := by
    intro J H locs eJ hP hD hS
    refine lv_aload_n hx hb dJ5_setLength_d00df_76 rfl (lv_at hl 0 rfl) ?_
    refine lv_iload_n hx hb dJ5_setLength_d00df_77 rfl (lv_at hl 1 rfl) ?_
    refine va_put (D := (dC, dI)) (ci := 0) (v := .int 0) (ty := .int) (C := RJ4) (T := TJ4) (N := 4) hx hb hts hwJ4 tyJ4 tyJ4_ok nmJ4 hown hK hP hD hS 0 rfl rfl 3 (by decide) hf_79 (fun _ h9 => h9) rfl (by decide +kernel) rfl rfl (Nat.le_of_ble_eq_true rfl) dJ5_setLength_d00df_78 (fun H locs hP hD hS => ?_)
    have hP : va_P (dC, dI) vwCl (sbW cB ob b mb (fset J 1 0 0) ++ R) H := hP
    have hD : va_D (aB base) (sbW cB ob b mb (fset J 1 0 0) ++ R) := D_iff.mpr (by have h := D_iff.mp hD; exact h)
    rw [eJ] at hP hD
    exact W.vret hx hb hr (fun t ht _ => retB rfl ⟨b, mb, rfl, CF_0 hCb⟩ hP hD hS ht) hS.2.2 dJ5_setLength_d00df_81
  refine lv_icmp_le (tgt := 76) hx hb dJ5_setLength_d00df_68 (by decide) (fun c1 => ?_) (fun c1 => ?_)
  · exact fin K H locs (by rw [if_neg (Int32.not_lt.mpr c1)]) hP hD hS
  · refine lv_aload_n hx hb dJ5_setLength_d00df_71 rfl (lv_at hl 0 rfl) ?_
    refine lv_iconst (v := 1) hx hb dJ5_setLength_d00df_72 (by decide) ?_
    refine va_put (D := (dC, dI)) (ci := 0) (v := .int 1) (ty := .boolean) (C := RJ4) (T := TJ4) (N := 4) hx hb hts hwJ4 tyJ4 tyJ4_ok nmJ4 hown hK hP hD hS 0 rfl rfl 2 (by decide) hf_73 (fun _ h9 => h9) rfl (by decide +kernel) rfl rfl (Nat.le_of_ble_eq_true rfl) dJ5_setLength_d00df_73 (fun H locs hP hD hS => ?_)
    exact fin (fset K 1 1 1) H locs (by rw [if_pos (Int32.not_le.mp c1)]) hP (D_iff.mpr (by have h := D_iff.mp hD; exact h)) hS
def rmJ4_setLength_d00df : Room := { frames := 6, cells := 1, slots := 256, locals := 190 }
set_option maxHeartbeats 4000000 in
set_option maxRecDepth 100000 in
theorem tS_cL {l : Launch} {dC : Nat → ClassId} {dI : Nat → Nat → Nat} {cB : ClassId} {ob sb mm base : Nat} {R : va_W} {K K1 : KT} {v : Int32} (hf : s_cL K v = some K1) (hCF : CF mm K) : Met l yJ4_setLength_d00df wsJ4_setLength_d00df rmJ4_setLength_d00df (cBp (dC, dI) vwCl [(cB, .byte)] base (sbW cB ob sb mm K ++ R) [.ref ob, .int v]) (cBe (dC, dI) vwCl base none (fun ws => ∃ b m, ws = sbW cB ob b m K1 ++ R ∧ CF m K1)) 1 256 (aB base) := by
  refine Met.ofW (cc := cJ4_setLength_d00df) (maxL := 2) (ret := none) (by decide) rfl ?_
  intro p e s m args below meth c s₁ B hml hv
  obtain ⟨rfl, hP, hK, hD, hbs, hE⟩ := hv
  have hx := B.exec
  have hb := B.bytes
  have hr := B.returns
  have hts := atoms_spec (ws := wsJ4_setLength_d00df) B.pre
  have hown : s.vm.findClass RJ4 = some m.cls := findClass_of_methodNamed B.named
  have hlocks := B.notSynchronized
  have hS : va_S (aB base) s.heap s.heap [] := va_S.rf
  have hl := lv_entry ([.ref ob, .int v]) (n := 2) (Nat.le_of_ble_eq_true rfl)
  rw [lg_entry_eq]
  generalize (lg_sl ([.ref ob, .int v]) ++ List.replicate (2 - (lg_sl ([.ref ob, .int v])).length) Slot.unset).toArray = ls at hl ⊢
  have hl : lv_has ls 2 [(0, .ref ob), (1, .int v)] := hl
  refine lv_aload_n hx hb dJ4_setLength_d00df_0 rfl (lv_at hl 0 rfl) ?_
  refine lv_iload_n hx hb dJ4_setLength_d00df_1 rfl (lv_at hl 1 rfl) ?_
  refine call_BSUE (As := [.int v]) (rest := []) (hK.1 0 _ rfl).2 ⟨hx, hb, hml, hown, hts⟩ (tJ5_setLength_d00df (l := l) (dC := dC) (dI := dI) (cB := cB) (ob := ob) (sb := sb) (mm := mm) (base := base) (R := R) hf hCF) (va_cwSU 1 hts gJ4_setLength_d00df_J5_setLength_d00df_s333 rfl rfl rfl (by decide +kernel) ⟨Nat.le_of_ble_eq_true rfl, Nat.le_of_ble_eq_true rfl⟩) hK hP hD hS hbs (fun U hU hW => Env_step rfl rfl hE va_S.rf hU hW) 0 rfl rfl (by rfl) hl.1 rfl (Nat.le_of_ble_eq_true rfl) dJ4_setLength_d00df_2 ⟨Nat.le_refl _, Nat.le_refl _⟩ (fun H locs ws9 hW9 hP hD _ hS => ?_)
  exact W_le (by omega) (by omega) (W.vret hx hb hr (fun t ht _ => retB rfl hW9 hP hD hS ht) hS.2.2 dJ4_setLength_d00df_5)
