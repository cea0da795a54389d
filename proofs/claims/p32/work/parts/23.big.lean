/-! ===== contracts over everything that was made since 'base' ===== -/
theorem Env_step {w1 w2 : Cond} {base : Nat} {s U : State} {H : Heap} {locs : List Loc} (h1 : w1 = .methodLinkNest RX0 108 yX2_sumOf "CaravanLogs") (h2 : w2 = .methodLinkNest RX2 42 yX1_init "CaravanLogs") (hE : EnvW w1 w2 base s) (hS : va_S (aB base) s.heap H locs) (hU : U.heap = H) (hW : s.WarmedH U.vm) : EnvW w1 w2 base U := by
  subst hU
  obtain ⟨e1, ⟨t, e2, e3⟩, ⟨t', e4, e5⟩, e6, e7, e8⟩ := hE
  have hq : ∀ a : Nat, a < s.heap.size → ¬ aB base a → U.heap[a]? = s.heap[a]? := hS.2.1
  have hA := hW.alike
  refine ⟨(e1.moved hA).kept hq, ⟨t, (e2.moved hA).kept hq, (e3.moved hA).kept hq⟩, ⟨t', (e4.moved hA).kept hq, (e5.moved hA).kept hq⟩, (e6.moved hA).kept hq, ?_, ?_⟩
  · subst h1; exact va_Nw.warmM hW e7
  · subst h2; exact va_Nw.warmM hW e8
def nw1 : Cond := .methodLinkNest RX0 108 yX2_sumOf "CaravanLogs"
def nw2 : Cond := .methodLinkNest RX2 42 yX1_init "CaravanLogs"
abbrev EnvB (base : Nat) (U : State) : Prop := EnvW nw1 nw2 base U
def cBp (D : va_G) (cl : List vw_C) (tys : List (ClassId × FieldType)) (base : Nat) (ws : va_W) (av : List Value) : Array Value → State → Prop := fun v U => v = av.toArray ∧ va_P D cl ws U.heap ∧ va_K D cl tys U ∧ va_D (aB base) ws ∧ base ≤ U.heap.size ∧ EnvB base U
def cBe (D : va_G) (cl : List vw_C) (base : Nat) (o : Option Value) (Wp : va_W → Prop) : Array Value → State → Outcome → State → Prop := fun _ st oc t => oc = .returned o ∧ ∃ ws, Wp ws ∧ va_P D cl ws t.heap ∧ va_D (aB base) ws ∧ va_F (aB base) st t
theorem cBp_blind (D : va_G) (cl : List vw_C) (tys : List (ClassId × FieldType)) (base : Nat) (ws : va_W) (av : List Value) : FrameBlind (cBp D cl tys base ws av) := fun a U g mk q => ⟨q.1, q.2.1, va_K.moved (u := U) (U := U.calling g mk a) (Vm.Alike.refl U.vm) q.2.2.1, q.2.2.2.1, q.2.2.2.2.1, q.2.2.2.2.2⟩
theorem retB {D : va_G} {cl : List vw_C} {base : Nat} {Wp : va_W → Prop} {o o' : Option Value} {ws : va_W} {st t : State} {H : Heap} {locs : List Loc} {a : Array Value} (ho : o = o') (hw : Wp ws) (hP : va_P D cl ws H) (hD : va_D (aB base) ws) (hS : va_S (aB base) st.heap H locs) (ht : t.heap = H) : cBe D cl base o' Wp a st (.returned o) t := by
  subst ho
  exact ⟨rfl, ws, hw, by rw [ht]; exact hP, hD, hS.F ht⟩
section KB
variable {p : Program} {l : Launch} {e : Env} {R : Room} {s : State} {m : MethodId} {args : Array Value} {below : List Frame} {meth : Method} {c : Code} {H : Heap} {locs : List Loc} {cells slots : Nat} {Q : State → Prop}
variable {pc : Nat} {ls : Array Slot} {rest st0 : List Value} {a : Array Value} {H0 : Heap} {mc ms base : Nat} {D : va_G} {cl : List vw_C} {o : Option Value} {Wp : va_W → Prop}
theorem cl_big (hr : va_Run p l e R s m args below meth c H locs cells slots mc ms (F0 m pc ls st0) rest (cBe D cl base o Wp a) (aB base)) (hS : va_S (aB base) H0 H locs)
    (kk : ∀ (H1 : Heap) (locs1 : List Loc) (ws : va_W), Wp ws → va_P D cl ws H1 → va_D (aB base) ws → H.size ≤ H1.size → va_S (aB base) H0 H1 locs1 → W p l e R s m args below meth c H1 locs1 (cells + mc) (slots + ms) Q (F0 m (pc + 3) ls (o.toList ++ rest))) : W p l e R s m args below meth c H locs cells slots Q (F0 m pc ls st0) := by
  intro T hT X
  obtain ⟨v, st₀, t, T', L1, h0, X', hL, e1, e2, ⟨hv, ws, hw, hp, hd, hz, hk⟩, st⟩ := hr T hT X
  cases hv
  rw [h0] at hz hk
  obtain ⟨t2, a1, b1⟩ := kk T'.heap (locs ++ L1) ws hw (by rw [e1]; exact hp) hd (by rw [e1]; exact hz)
    ⟨Nat.le_trans hS.1 (by rw [e1]; exact hz), fun q h1 h2 => by rw [e1, hk q (Nat.lt_of_lt_of_le h1 hS.1) h2]; exact hS.2.1 q h1 h2, fun q hq => by
      rcases List.mem_append.mp hq with h | h
      · exact hS.2.2 q h
      · exact hL q h⟩ T' rfl X'
  exact ⟨t2, st t2 a1, b1⟩
end KB
theorem retBe {α : Type} {D : va_G} {cl : List vw_C} {base : Nat} {w : α → va_W} {e r : Int32} {K1 K2 : α} {st t : State} {H : Heap} {locs : List Loc} {a : Array Value} (h : some (e, K1) = some (r, K2)) (hP : va_P D cl (w K1) H) (hD : va_D (aB base) (w K1)) (hS : va_S (aB base) st.heap H locs) (ht : t.heap = H) : cBe D cl base (some (.int r)) (fun ws => ws = w K2) a st (.returned (some (.int e))) t := by
  cases h
  exact retB rfl rfl hP hD hS ht
theorem retBev {α : Type} {D : va_G} {cl : List vw_C} {base : Nat} {w : α → va_W} {e r : Int32} {K1 K2 : α} {st t : State} {H : Heap} {locs : List Loc} {a : Array Value} (h : some (e, K1) = some (r, K2)) (hP : va_P D cl (w K1) H) (hD : va_D (aB base) (w K1)) (hS : va_S (aB base) st.heap H locs) (ht : t.heap = H) : cBe D cl base none (fun ws => ws = w K2) a st (.returned none) t := by
  cases h
  exact retB rfl rfl hP hD hS ht
section KB2
variable {p : Program} {l : Launch} {e : Env} {R : Room} {s : State} {m : MethodId} {args : Array Value} {below : List Frame} {meth : Method} {c : Code} {H : Heap} {locs : List Loc} {cells slots : Nat} {Q : State → Prop}
variable {pc : Nat} {ls : Array Slot} {rest st0 : List Value} {a : Array Value} {H0 : Heap} {mc ms base : Nat}
variable {y x : MethodName} {bytes cc : ByteArray} {maxL nL n index : Nat} {ret : Option FieldType} {ws : List Cond} {rm : Room} {Ts : List Cond} {own C owner : String} {b : Addr} {As : List Value} {D : va_G} {cl : List vw_C} {tys : List (ClassId × FieldType)} {wsC : va_W} {r : Int32} {o : Option Value} {Wp : va_W → Prop}
theorem preB (hK : va_K D cl tys s) (hP : va_P D cl wsC H) (hD : va_D (aB base) wsC) (hbs : base ≤ H.size) (hEU : ∀ U : State, U.heap = H → s.WarmedH U.vm → EnvB base U) (av : List Value) : ∀ U : State, U.heap = H → s.WarmedH U.vm → cBp D cl tys base wsC av av.toArray U := fun U hU hW => ⟨rfl, by rw [hU]; exact hP, va_K.moved hW.alike hK, hD, by rw [hU]; exact hbs, hEU U hU hW⟩
/-- calls that change nothing -/
theorem call_BVP (S : CallFix p m c cc nL s args Ts own) (hM : Met l y ws rm (cBp D cl tys base wsC (.ref b :: As)) (cQp r) 0 0 (fun _ => False)) (cw : CallW R s args own C index y bytes maxL ret ws rm 0 0 n) (hK : va_K D cl tys s) (hP : va_P D cl wsC H) (hD : va_D (aB base) wsC) (hbs : base ≤ H.size) (hEU : ∀ U : State, U.heap = H → s.WarmedH U.vm → EnvB base U) (q0 : Nat) {ci : Nat} {fs : List Value} {T : u_T} {N : Nat} (hc : cl[ci]? = some (C, T, N)) (he : wsC[q0]? = some (b, .inr (ci, fs)))
    (hn : As.length = n) (hsz : ls.size = nL) (hst : st0 = As.reverse ++ .ref b :: rest) (hW : (rest.map fun v => v.category).sum ≤ 8) (hdg : decode cc pc = .ok (.invokevirtual index, 3)) (hcs : cells ≤ R.cells ∧ slots ≤ R.slots)
    (kk : W p l e R s m args below meth c H locs cells slots Q (F0 m (pc + 3) ls (.int r :: rest))) : W p l e R s m args below meth c H locs cells slots Q (F0 m pc ls st0) :=
  cl_pure (va_runV (As := As) (rest := rest) S hM cw ⟨cBp_blind _ _ _ _ _ _, va_recv hK hP hc he, preB hK hP hD hbs hEU _⟩ rfl hn hsz hst (lv_room hW) hdg hcs) kk
theorem call_BUP (S : CallFix p m c cc nL s args Ts own) (hM : Met l y ws rm (cBp D cl tys base wsC (.ref b :: As)) (cQp r) 0 0 (fun _ => False)) (cw : va_CU R s args own C owner index x y bytes maxL ret ws rm 0 0 n) (hK : va_K D cl tys s) (hP : va_P D cl wsC H) (hD : va_D (aB base) wsC) (hbs : base ≤ H.size) (hEU : ∀ U : State, U.heap = H → s.WarmedH U.vm → EnvB base U) (q0 : Nat) {ci : Nat} {fs : List Value} {T : u_T} {N : Nat} (hc : cl[ci]? = some (C, T, N)) (he : wsC[q0]? = some (b, .inr (ci, fs)))
    (hn : As.length = n) (hsz : ls.size = nL) (hst : st0 = As.reverse ++ .ref b :: rest) (hW : (rest.map fun v => v.category).sum ≤ 8) (hdg : decode cc pc = .ok (.invokevirtual index, 3)) (hcs : cells ≤ R.cells ∧ slots ≤ R.slots)
    (kk : W p l e R s m args below meth c H locs cells slots Q (F0 m (pc + 3) ls (.int r :: rest))) : W p l e R s m args below meth c H locs cells slots Q (F0 m pc ls st0) :=
  cl_pure (va_runU (As := As) (rest := rest) S hM cw ⟨cBp_blind _ _ _ _ _ _, va_recv hK hP hc he, preB hK hP hD hbs hEU _⟩ rfl hn hsz hst (lv_room hW) hdg hcs) kk
theorem call_BSUP {cC : ClassId} (hat : ClassAt s C cC) (S : CallFix p m c cc nL s args Ts own) (hM : Met l y ws rm (cBp D cl tys base wsC (.ref b :: As)) (cQp r) 0 0 (fun _ => False)) (cw : va_CS R s args own index y bytes maxL ret ws rm 0 0 n) (hK : va_K D cl tys s) (hP : va_P D cl wsC H) (hD : va_D (aB base) wsC) (hbs : base ≤ H.size) (hEU : ∀ U : State, U.heap = H → s.WarmedH U.vm → EnvB base U) (q0 : Nat) {ci : Nat} {fs : List Value} {T : u_T} {N : Nat} (hc : cl[ci]? = some (C, T, N)) (he : wsC[q0]? = some (b, .inr (ci, fs)))
    (hn : As.length = n) (hsz : ls.size = nL) (hst : st0 = As.reverse ++ .ref b :: rest) (hW : (rest.map fun v => v.category).sum ≤ 8) (hdg : decode cc pc = .ok (.invokespecial index, 3)) (hcs : cells ≤ R.cells ∧ slots ≤ R.slots)
    (kk : W p l e R s m args below meth c H locs cells slots Q (F0 m (pc + 3) ls (.int r :: rest))) : W p l e R s m args below meth c H locs cells slots Q (F0 m pc ls st0) :=
  cl_pure (va_runSU (As := As) (rest := rest) hat S hM cw ⟨cBp_blind _ _ _ _ _ _, va_recv hK hP hc he, preB hK hP hD hbs hEU _⟩ rfl hn hsz hst (lv_room hW) hdg hcs) kk
/-- calls that write, and make up to mc cells -/
theorem call_BVE (S : CallFix p m c cc nL s args Ts own) (hM : Met l y ws rm (cBp D cl tys base wsC (.ref b :: As)) (cBe D cl base o Wp) mc ms (aB base)) (cw : CallW R s args own C index y bytes maxL ret ws rm mc ms n) (hK : va_K D cl tys s) (hP : va_P D cl wsC H) (hD : va_D (aB base) wsC) (hS : va_S (aB base) H0 H locs) (hbs : base ≤ H.size) (hEU : ∀ U : State, U.heap = H → s.WarmedH U.vm → EnvB base U) (q0 : Nat) {ci : Nat} {fs : List Value} {T : u_T} {N : Nat} (hc : cl[ci]? = some (C, T, N)) (he : wsC[q0]? = some (b, .inr (ci, fs)))
    (hn : As.length = n) (hsz : ls.size = nL) (hst : st0 = As.reverse ++ .ref b :: rest) (hW : (rest.map fun v => v.category).sum ≤ 8) (hdg : decode cc pc = .ok (.invokevirtual index, 3)) (hcs : cells + mc ≤ R.cells ∧ slots + ms ≤ R.slots)
    (kk : ∀ (H1 : Heap) (locs1 : List Loc) (ws1 : va_W), Wp ws1 → va_P D cl ws1 H1 → va_D (aB base) ws1 → H.size ≤ H1.size → va_S (aB base) H0 H1 locs1 → W p l e R s m args below meth c H1 locs1 (cells + mc) (slots + ms) Q (F0 m (pc + 3) ls (o.toList ++ rest))) : W p l e R s m args below meth c H locs cells slots Q (F0 m pc ls st0) :=
  cl_big (va_runV (As := As) (rest := rest) S hM cw ⟨cBp_blind _ _ _ _ _ _, va_recv hK hP hc he, preB hK hP hD hbs hEU _⟩ rfl hn hsz hst (lv_room hW) hdg hcs) hS kk
theorem call_BUE (S : CallFix p m c cc nL s args Ts own) (hM : Met l y ws rm (cBp D cl tys base wsC (.ref b :: As)) (cBe D cl base o Wp) mc ms (aB base)) (cw : va_CU R s args own C owner index x y bytes maxL ret ws rm mc ms n) (hK : va_K D cl tys s) (hP : va_P D cl wsC H) (hD : va_D (aB base) wsC) (hS : va_S (aB base) H0 H locs) (hbs : base ≤ H.size) (hEU : ∀ U : State, U.heap = H → s.WarmedH U.vm → EnvB base U) (q0 : Nat) {ci : Nat} {fs : List Value} {T : u_T} {N : Nat} (hc : cl[ci]? = some (C, T, N)) (he : wsC[q0]? = some (b, .inr (ci, fs)))
    (hn : As.length = n) (hsz : ls.size = nL) (hst : st0 = As.reverse ++ .ref b :: rest) (hW : (rest.map fun v => v.category).sum ≤ 8) (hdg : decode cc pc = .ok (.invokevirtual index, 3)) (hcs : cells + mc ≤ R.cells ∧ slots + ms ≤ R.slots)
    (kk : ∀ (H1 : Heap) (locs1 : List Loc) (ws1 : va_W), Wp ws1 → va_P D cl ws1 H1 → va_D (aB base) ws1 → H.size ≤ H1.size → va_S (aB base) H0 H1 locs1 → W p l e R s m args below meth c H1 locs1 (cells + mc) (slots + ms) Q (F0 m (pc + 3) ls (o.toList ++ rest))) : W p l e R s m args below meth c H locs cells slots Q (F0 m pc ls st0) :=
  cl_big (va_runU (As := As) (rest := rest) S hM cw ⟨cBp_blind _ _ _ _ _ _, va_recv hK hP hc he, preB hK hP hD hbs hEU _⟩ rfl hn hsz hst (lv_room hW) hdg hcs) hS kk
theorem call_BSUE {cC : ClassId} (hat : ClassAt s C cC) (S : CallFix p m c cc nL s args Ts own) (hM : Met l y ws rm (cBp D cl tys base wsC (.ref b :: As)) (cBe D cl base o Wp) mc ms (aB base)) (cw : va_CS R s args own index y bytes maxL ret ws rm mc ms n) (hK : va_K D cl tys s) (hP : va_P D cl wsC H) (hD : va_D (aB base) wsC) (hS : va_S (aB base) H0 H locs) (hbs : base ≤ H.size) (hEU : ∀ U : State, U.heap = H → s.WarmedH U.vm → EnvB base U) (q0 : Nat) {ci : Nat} {fs : List Value} {T : u_T} {N : Nat} (hc : cl[ci]? = some (C, T, N)) (he : wsC[q0]? = some (b, .inr (ci, fs)))
    (hn : As.length = n) (hsz : ls.size = nL) (hst : st0 = As.reverse ++ .ref b :: rest) (hW : (rest.map fun v => v.category).sum ≤ 8) (hdg : decode cc pc = .ok (.invokespecial index, 3)) (hcs : cells + mc ≤ R.cells ∧ slots + ms ≤ R.slots)
    (kk : ∀ (H1 : Heap) (locs1 : List Loc) (ws1 : va_W), Wp ws1 → va_P D cl ws1 H1 → va_D (aB base) ws1 → H.size ≤ H1.size → va_S (aB base) H0 H1 locs1 → W p l e R s m args below meth c H1 locs1 (cells + mc) (slots + ms) Q (F0 m (pc + 3) ls (o.toList ++ rest))) : W p l e R s m args below meth c H locs cells slots Q (F0 m pc ls st0) :=
  cl_big (va_runSU (As := As) (rest := rest) hat S hM cw ⟨cBp_blind _ _ _ _ _ _, va_recv hK hP hc he, preB hK hP hD hbs hEU _⟩ rfl hn hsz hst (lv_room hW) hdg hcs) hS kk
/-- copyFrom of one of the caravans -/
theorem call_copy {cI cB cP : ClassId} {ad : Nat → Nat → Nat} {Z : Nat → Nat} {O : OT} {Rr : va_W} {j i : Nat} (S : CallFix p m c cc nL s args Ts own) (hj : j < 12) (hi : i < 12) (hij : j ≠ i)
    (hM : Met l y ws rm (cPe D cl tys (cvL (ad (1 + j) 0) (fun f => ad (1 + j) (1 + f)) ++ cvL (ad (1 + i) 0) (fun f => ad (1 + i) (1 + f))) (cvW cI (ad (1 + j) 0) (fun f => ad (1 + j) (1 + f)) (O j) ++ cvW cI (ad (1 + i) 0) (fun f => ad (1 + i) (1 + f)) (O i)) [.ref (ad (1 + j) 0), .ref (ad (1 + i) 0)]) (cEv D cl (cvL (ad (1 + j) 0) (fun f => ad (1 + j) (1 + f)) ++ cvL (ad (1 + i) 0) (fun f => ad (1 + i) (1 + f))) (cvW cI (ad (1 + j) 0) (fun f => ad (1 + j) (1 + f)) (O i) ++ cvW cI (ad (1 + i) 0) (fun f => ad (1 + i) (1 + f)) (O i))) 0 0 (aL (cvL (ad (1 + j) 0) (fun f => ad (1 + j) (1 + f)) ++ cvL (ad (1 + i) 0) (fun f => ad (1 + i) (1 + f)))))
    (cw : CallW R s args own C index y bytes maxL ret ws rm 0 0 1) (hK : va_K D cl tys s) (hP : va_P D cl (outW cI cB cP ad Z O ++ Rr) H) (hD : va_D (aB base) (outW cI cB cP ad Z O ++ Rr)) (hS : va_S (aB base) H0 H locs) {T : u_T} {N : Nat} (hc : cl[1]? = some (C, T, N))
    (hsz : ls.size = nL) (hst : st0 = .ref (ad (1 + i) 0) :: .ref (ad (1 + j) 0) :: rest) (hW : (rest.map fun v => v.category).sum ≤ 8) (hdg : decode cc pc = .ok (.invokevirtual index, 3)) (hcs : cells ≤ R.cells ∧ slots ≤ R.slots)
    (kk : ∀ (H1 : Heap) (locs1 : List Loc), va_P D cl (outW cI cB cP ad Z (oset O j (O i)) ++ Rr) H1 → va_D (aB base) (outW cI cB cP ad Z (oset O j (O i)) ++ Rr) → va_S (aB base) H0 H1 locs1 → W p l e R s m args below meth c H1 locs1 cells slots Q (F0 m (pc + 3) ls rest)) : W p l e R s m args below meth c H locs cells slots Q (F0 m pc ls st0) := by
  obtain ⟨X, p1, p2⟩ := out_two cI cB cP ad Z O Rr hj hi hij
  have hP1 := P_perm p1 hP
  have hD1 := D_perm p1 hD
  have ew : ((cvJ cI ad O j ++ cvJ cI ad O i) : va_W).map Prod.fst = cvL (ad (1 + j) 0) (fun f => ad (1 + j) (1 + f)) ++ cvL (ad (1 + i) 0) (fun f => ad (1 + i) (1 + f)) := by rw [List.map_append, cvJ_ads, cvJ_ads]
  have ew2 : ((cvJ cI ad (oset O j (O i)) j ++ cvJ cI ad O i) : va_W).map Prod.fst = cvL (ad (1 + j) 0) (fun f => ad (1 + j) (1 + f)) ++ cvL (ad (1 + i) 0) (fun f => ad (1 + i) (1 + f)) := by rw [List.map_append, cvJ_ads, cvJ_ads]
  obtain ⟨q1, q2, q3⟩ := aL_in (X := []) hP1 hD1 ew
  refine cl_effv (va_runV (As := [.ref (ad (1 + i) 0)]) (rest := rest) S hM cw ⟨cPe_blind _ _ _ _ _ _, va_recv hK q1 hc (q0 := 0) rfl, fun U hU hWm => ⟨rfl, by rw [hU]; exact q1, va_K.moved hWm.alike hK, q2⟩⟩ rfl rfl hsz hst (lv_room hW) hdg hcs) hS q3 (fun H1 locs1 hP2 hD2 hk hS2 => ?_)
  have hP3 : va_P D cl (cvJ cI ad (oset O j (O i)) j ++ cvJ cI ad O i) H1 := by
    unfold cvJ
    rw [oset_eq]
    exact hP2
  obtain ⟨z1, z2⟩ := aL_back (X := []) hP1 hD1 ew ew2 hP3 hk.2
  exact kk H1 locs1 (P_perm (p2 (O i)).symm z1) (D_perm (p2 (O i)).symm z2) hS2
end KB2
/-- a builder's bytes: n of them count, the rest of its room is 0 -/
def CF (mm : Nat) (K : KT) : Prop := (∃ n, K 1 0 = nI n ∧ n ≤ mm) ∧ mm ≤ 256 ∧ (∀ j, mm ≤ j → K 0 j = 0) ∧ sb_Fit (K 0)
theorem CF_pt {mm : Nat} {K : KT} {i : Nat} {v : Int32} (h : CF mm K) (hi : i ≠ 0) : CF mm (fset K 1 i v) := by
  have e0 : fset K 1 i v 0 = K 0 := fset_ne (by decide)
  have e1 : fset K 1 i v 1 0 = K 1 0 := by
    rw [fset_eq]
    unfold upd
    rw [if_neg (Ne.symm hi)]
  unfold CF
  rw [e0, e1]
  exact h
theorem cm_sb {cB : ClassId} {c a b m : Nat} {K : KT} {R : va_W} : (cmW cB c a b m K ++ R).Perm (sbW cB a b m K ++ ((c, .inr (2, [.ref a, .int (K 1 2), .int (K 1 3), .int (K 1 4), .int (K 1 5), .int (K 1 6)])) :: R)) := List.perm_middle.symm
theorem retC {α : Type} {D : va_G} {cl : List vw_C} {base : Nat} {w : α → va_W} {cf : α → Prop} {e r : Int32} {K1 K2 : α} {st t : State} {H : Heap} {locs : List Loc} {a : Array Value} (h : some (e, K1) = some (r, K2)) (hc : cf K1) (hP : va_P D cl (w K1) H) (hD : va_D (aB base) (w K1)) (hS : va_S (aB base) st.heap H locs) (ht : t.heap = H) : cBe D cl base (some (.int r)) (fun ws => ws = w K2 ∧ cf K2) a st (.returned (some (.int e))) t := by
  cases h
  exact retB rfl ⟨rfl, hc⟩ hP hD hS ht
theorem retCv {α : Type} {D : va_G} {cl : List vw_C} {base : Nat} {w : α → va_W} {cf : α → Prop} {e r : Int32} {K1 K2 : α} {st t : State} {H : Heap} {locs : List Loc} {a : Array Value} (h : some (e, K1) = some (r, K2)) (hc : cf K1) (hP : va_P D cl (w K1) H) (hD : va_D (aB base) (w K1)) (hS : va_S (aB base) st.heap H locs) (ht : t.heap = H) : cBe D cl base none (fun ws => ws = w K2 ∧ cf K2) a st (.returned none) t := by
  cases h
  exact retB rfl ⟨rfl, hc⟩ hP hD hS ht
