section KO
variable {p : Program} {l : Launch} {e : Env} {R : Room} {s : State} {m : MethodId} {args : Array Value} {below : List Frame} {meth : Method} {c : Code} {H : Heap} {locs : List Loc} {cells slots : Nat} {Q : State → Prop}
variable {pc : Nat} {ls : Array Slot} {rest st0 : List Value} {H0 : Heap} {mc ms base : Nat} {D : va_G} {cl : List vw_C} {o : Option Value} {Wp : va_W → Prop}
variable {y : MethodName} {bytes cc : ByteArray} {maxL nL n index : Nat} {ws : List Cond} {rm : Room} {Ts : List Cond} {own : String} {b : Addr} {As : List Value} {tys : List (ClassId × FieldType)} {wsC : va_W}
theorem call_IBOE (S : CallFix p m c cc nL s args Ts own) (hM : Met l y ws rm (cBpo D cl tys base wsC (.ref b :: As)) (cBe D cl base o Wp) mc ms (aB base)) (cw : CallB R s args own index y bytes maxL none ws rm mc ms n ∧ y.name = "<init>" ∧ (Cond.instanceMethod y).before args s = true) (hAO : va_AO RX0 s) (hK : va_K D cl tys s) (hP : va_P D cl wsC H) (hD : va_D (aB base) wsC) (hS : va_S (aB base) H0 H locs) (hbs : base ≤ H.size) (hEU : ∀ U : State, U.heap = H → s.WarmedH U.vm → EnvB base U)
    (hn : As.length = n) (hsz : ls.size = nL) (hst : st0 = As.reverse ++ .ref b :: rest) (hW : (rest.map fun v => v.category).sum ≤ 8) (hdg : decode cc pc = .ok (.invokespecial index, 3)) (hcs : cells + mc ≤ R.cells ∧ slots + ms ≤ R.slots)
    (kk : ∀ (H1 : Heap) (locs1 : List Loc) (ws1 : va_W), Wp ws1 → va_P D cl ws1 H1 → va_D (aB base) ws1 → H.size ≤ H1.size → va_S (aB base) H0 H1 locs1 → W p l e R s m args below meth c H1 locs1 (cells + mc) (slots + ms) Q (F0 m (pc + 3) ls (o.toList ++ rest))) : W p l e R s m args below meth c H locs cells slots Q (F0 m pc ls st0) :=
  cl_big (va_runI (As := As) (rest := rest) S hM cw ⟨cBpo_blind _ _ _ _ _ _, fun U hU hW => ⟨preB hK hP hD hbs hEU _ U hU hW, va_AO.moved hW.alike hAO⟩⟩ rfl hn hsz hst (lv_room hW) hdg hcs) hS kk
end KO
set_option maxHeartbeats 8000000 in
set_option maxRecDepth 100000 in
theorem whole_start {p : Program} {e : Env} {s : State} {m : MethodId} {below : List Frame} {meth : Method} {c : Code} (l : Launch) (hflags : l.flags = flags0) {b L : Nat} {xs : Nat → Int32} (hL : L ≤ 2048) (C0 : lw_At p s m meth c b L xs) : W p l e room_1 s m #[Value.ref b] below meth c s.heap [] 0 0 (lw_Z below #[Value.ref b] s) (entryFrame m ([Value.ref b] : List Value).toArray 4) := by
  obtain ⟨hx, hb, hr, hml, hown, hts0, hX, hbl, hlocks, hgv⟩ := C0
  have hE := law_env hgv hts0
  obtain ⟨dC, dI, cI, cB, cC, cP, hK2, hK3, hAO⟩ := law_K hts0
  have hts : ∀ w ∈ wsL_law, w.before #[Value.ref b] s = true := fun w hw => hts0 w (wsL_law_in w hw)
  have hF : LFix p s m meth c b L xs dC dI cI cB cC cP := ⟨hx, hb, hr, hml, hown, hts, hX, hbl, hlocks, hE, hK2, hK3⟩
  have hown : s.vm.findClass RL = some m.cls := hown
  have hS : va_S (aB s.heap.size) s.heap s.heap [] := va_S.rf
  have hA : ∀ z : Nat, s.heap.size ≤ z → aB s.heap.size z := fun z hz => hz
  have hP : va_P (dC, dI) vwCl [] s.heap := fun k x hk => by simp at hk
  have hD : va_D (aB s.heap.size) [] := ⟨fun i j x y hi => by simp at hi, fun k x hk => by simp at hk⟩
  have hl := lv_entry ([.ref b]) (n := 4) (Nat.le_of_ble_eq_true rfl)
  rw [lg_entry_eq]
  generalize (lg_sl ([.ref b]) ++ List.replicate (4 - (lg_sl ([.ref b])).length) Slot.unset).toArray = ls at hl ⊢
  have hl : lv_has ls 4 [(0, .ref b)] := hl
  refine va_new (ci := 3) (fs := [.null, .null, .null, .null, .int 0, .null, .int 0, .int 0, .null, .null, .int 0, .int 0, .int 0, .int 0]) (C := RX2) (T := TX2) (N := 14) hx hb hts inlX2 tyX2 tyX2_ok hown (hts (.classLink RL 7 RX2) (by decide +kernel)) (hts (.instantiable RX2 14) (by decide +kernel)) (hts (.initialized RX2) (by decide +kernel)) hK2 hP hD hS hA rfl dfX2 (by show _ ≤ 600000; omega) (by show _ ≤ 7302250; omega) dL_law_0 (fun ox H hP hD hS => ?_)
  refine lv_dup hx hb dL_law_3 rfl ?_
  refine call_IBOE (As := []) (rest := [.ref ox]) ⟨hx, hb, hml, hown, hts⟩ (tX2_init (l := l) (dC := dC) (dI := dI) (cI := cI) (cB := cB) (cP := cP) (ob := ox) (base := s.heap.size) (R := [])) (cwI 0 hts gL_law_X2_init rfl rfl rfl (hts (.initialized RX2) (by decide +kernel)) (hts (.methodLink RL 9 yX2_init) (by decide +kernel)) (hts (.instanceMethod yX2_init) (by decide +kernel)) rfl (by decide +kernel) ⟨(Nat.le_of_ble_eq_true rfl), (Nat.le_of_ble_eq_true rfl)⟩) hAO hK2 hP hD hS hS.1 (fun U hU hW => Env_step rfl rfl hE hS hU hW) (by rfl) hl.1 rfl (Nat.le_of_ble_eq_true rfl) dL_law_4 ⟨by show _ ≤ 600000; omega, by show _ ≤ 7302250; omega⟩ (fun H locs ws9 hW9 hP hD _ hS => ?_)
  obtain ⟨ad, Z, h0, rfl, hO⟩ := hW9
  have hP1 : va_P (dC, dI) vwCl (outW cI cB cP ad Z Oi) H := by
    have h := hP
    rw [List.append_nil] at h
    exact h
  have hD1 : va_D (aB s.heap.size) (outW cI cB cP ad Z Oi) := by
    have h := hD
    rw [List.append_nil] at h
    exact h
  have hS1 := hS
  subst h0
  refine lv_astore_n (lv' := [(1, .ref (ad 0 0)), (0, .ref b)]) hx hb dL_law_7 rfl hl (by decide) rfl (fun ls hl => ?_)
  refine va_new (ci := 4) (fs := [.null, .null, .null, .null, .int 0, .null, .int 0, .null, .int 0, .null, .int 0, .int 0, .int 0, .null, .int 0, .int 0, .int 0]) (C := RX3) (T := TX3) (N := 17) hx hb hts inlX3 tyX3 tyX3_ok hown (hts (.classLink RL 10 RX3) (by decide +kernel)) (hts (.instantiable RX3 17) (by decide +kernel)) (hts (.initialized RX3) (by decide +kernel)) hK3 hP1 hD1 hS1 hA rfl dfX3 (by show _ ≤ 600000; omega) (by show _ ≤ 7302250; omega) dL_law_8 (fun ob H hP hD hS => ?_)
  have hP := P_perm (List.perm_append_singleton _ _) hP
  have hD := D_perm (List.perm_append_singleton _ _) hD
  refine lv_dup hx hb dL_law_11 rfl ?_
  refine call_IBE (As := []) (rest := [.ref ob]) ⟨hx, hb, hml, hown, hts⟩ (tX3_init (l := l) (dC := dC) (dI := dI) (cI := cI) (cC := cC) (ob := ob) (base := s.heap.size) (R := outW cI cB cP ad Z Oi)) (cwI 0 hts gL_law_X3_init rfl rfl rfl (hts (.initialized RX3) (by decide +kernel)) (hts (.methodLink RL 12 yX3_init) (by decide +kernel)) (hts (.instanceMethod yX3_init) (by decide +kernel)) rfl (by decide +kernel) ⟨(Nat.le_of_ble_eq_true rfl), (Nat.le_of_ble_eq_true rfl)⟩) hK3 hP hD hS hS.1 (fun U hU hW => Env_step rfl rfl hE hS hU hW) (by rfl) hl.1 rfl (Nat.le_of_ble_eq_true rfl) dL_law_12 ⟨by show _ ≤ 600000; omega, by show _ ≤ 7302250; omega⟩ (fun H locs ws9 hW9 hP hD _ hS => ?_)
  obtain ⟨q, rfl⟩ := hW9
  have hP := P_perm List.perm_append_comm hP
  have hD := D_perm List.perm_append_comm hD
  refine lv_astore_n (lv' := [(2, .ref ob), (1, .ref (ad 0 0)), (0, .ref b)]) hx hb dL_law_15 rfl hl (by decide) rfl (fun ls hl => ?_)
  refine lv_iconst (v := 0) hx hb dL_law_16 (by decide) ?_
  refine lv_istore_n (lv' := [(3, .int 0), (2, .ref ob), (1, .ref (ad 0 0)), (0, .ref b)]) hx hb dL_law_17 rfl hl (by decide) rfl (fun ls hl => ?_)
  refine W.widen (k := 148) (n := 4942) (by omega) (by omega) ?_
  exact law_loop hF hL 512 0 12 148 4942 H locs ls (LV_of hP hD hS hO J_i) (by decide) (by decide) (by decide) (by omega) (by decide) (lv_sub hl [3, 2, 1, 0] rfl)
