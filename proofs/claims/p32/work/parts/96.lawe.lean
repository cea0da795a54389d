/-! ===== the law: its start, its loop ===== -/
theorem dfX2 : ∀ j, j < 14 → defaultValue (tyX2 j) = vp_V [.null, .null, .null, .null, .int 0, .null, .int 0, .int 0, .null, .null, .int 0, .int 0, .int 0, .int 0] j := by
  intro j hj
  rcases (show j = 0 ∨ j = 1 ∨ j = 2 ∨ j = 3 ∨ j = 4 ∨ j = 5 ∨ j = 6 ∨ j = 7 ∨ j = 8 ∨ j = 9 ∨ j = 10 ∨ j = 11 ∨ j = 12 ∨ j = 13 by omega) with rfl | rfl | rfl | rfl | rfl | rfl | rfl | rfl | rfl | rfl | rfl | rfl | rfl | rfl <;> rfl
def lwdgt (n : String) (f : Nat → Int32) : List Cond := (List.range 100).map (fun j => Cond.eq (.elem (.static "java/lang/Integer" n "[B") (.int (Int32.ofNat j))) (.int (f j)))
theorem lwdg_mem {n : String} {f : Nat → Int32} {T : Cond} {k : Nat} (h : ((flatC T).drop k).take 100 = lwdgt n f) : ∀ j, j < 100 → (Cond.eq (.elem (.static "java/lang/Integer" n "[B") (.int (Int32.ofNat j))) (.int (f j))) ∈ flatC T := fun j hj => by
  have hm : (Cond.eq (.elem (.static "java/lang/Integer" n "[B") (.int (Int32.ofNat j))) (.int (f j))) ∈ lwdgt n f := List.mem_map.mpr ⟨j, List.mem_range.mpr hj, rfl⟩
  rw [← h] at hm
  exact List.mem_of_mem_drop (List.mem_of_mem_take hm)
set_option maxRecDepth 100000 in
theorem lwdg_1 : ((flatC (Jvm.Cond.and given_1 narrow_1)).drop 12).take 100 = lwdgt "DigitOnes" (fun j => sb_b (48 + j % 10)) := by decide +kernel
set_option maxRecDepth 100000 in
theorem lwdg_2 : ((flatC (Jvm.Cond.and given_1 narrow_1)).drop 115).take 100 = lwdgt "DigitTens" (fun j => sb_b (48 + j / 10)) := by decide +kernel
set_option maxHeartbeats 8000000 in
set_option maxRecDepth 100000 in
theorem law_env {s : State} {b : Nat} (h : (Jvm.Cond.and given_1 narrow_1).before #[Value.ref b] s = true) (hts : ∀ w ∈ lw_tbl, w.before #[Value.ref b] s = true) : EnvB s.heap.size s := by
  have hn := flat_of_before _ h
  have hA : ∀ a : Nat, a < s.heap.size → ¬ aB s.heap.size a := fun a h1 h2 => absurd h1 (Nat.not_lt.mpr h2)
  have h1 := lwdg_mem lwdg_1
  have h2 := lwdg_mem lwdg_2
  refine ⟨va_Zof (args := #[Value.ref b]) (hts (.laysStatic "java/lang/String" "COMPACT_STRINGS" "Z") (by decide +kernel)) (hts (.initialized "java/lang/String") (by decide +kernel)) (va_eqi (hn (.eq (.static "java/lang/String" "COMPACT_STRINGS" "Z") (.int 1)) (by decide +kernel))) hA, ?_, ?_, va_Zqof (args := #[Value.ref b]) (hts (.laysStatic "jdk/internal/util/Preconditions" "SIOOBE_FORMATTER" "Ljava/util/function/BiFunction;") (by decide +kernel)) (hts (.initialized "jdk/internal/util/Preconditions") (by decide +kernel)) (hn (.isRef (.static "jdk/internal/util/Preconditions" "SIOOBE_FORMATTER" "Ljava/util/function/BiFunction;")) (by decide +kernel)) hA, va_Nw.of rfl (hts nw1 (by decide +kernel)), va_Nw.of rfl (hts nw2 (by decide +kernel))⟩
  · obtain ⟨t, ht, hT⟩ := va_Tof (args := #[Value.ref b]) (s := s) (tm := .static "java/lang/Integer" "DigitOnes" "[B") (ty := .byte) (N := 100) (f := tOnes) (A := aB s.heap.size) (by decide) (hn _ (by decide +kernel)) (va_eqt (hn _ (by decide +kernel))) (fun j hj => va_eqt (hn _ (h1 j hj))) hA
    exact ⟨t, va_Zref (hts (.laysStatic "java/lang/Integer" "DigitOnes" "[B") (by decide +kernel)) (hts (.initialized "java/lang/Integer") (by decide +kernel)) ht hA, hT⟩
  · obtain ⟨t, ht, hT⟩ := va_Tof (args := #[Value.ref b]) (s := s) (tm := .static "java/lang/Integer" "DigitTens" "[B") (ty := .byte) (N := 100) (f := tTens) (A := aB s.heap.size) (by decide) (hn _ (by decide +kernel)) (va_eqt (hn _ (by decide +kernel))) (fun j hj => va_eqt (hn _ (h2 j hj))) hA
    exact ⟨t, va_Zref (hts (.laysStatic "java/lang/Integer" "DigitTens" "[B") (by decide +kernel)) (hts (.initialized "java/lang/Integer") (by decide +kernel)) ht hA, hT⟩
theorem arr_of {args : Array Value} {s : State} {t : FieldType} (h : (Cond.arrayClass t).before args s = true) : ∃ cA : ClassId, ArrOfT s cA t ∧ s.vm.findClass ("[" ++ t.toString) = some cA := by
  obtain ⟨cA, kA, comp, h1, h2, h3⟩ := Cond.arrayClass_spec h
  exact ⟨cA, fun n z => ⟨fun k h => (by cases h), kA, h2, comp, h3⟩, h1⟩
set_option maxHeartbeats 8000000 in
set_option maxRecDepth 100000 in
theorem law_K {s : State} {b : Nat} (hts : ∀ w ∈ lw_tbl, w.before #[Value.ref b] s = true) : ∃ (dC : Nat → ClassId) (dI : Nat → Nat → Nat) (cI cB cP : ClassId), va_K (dC, dI) vwCl [(cI, .int), (cB, .byte), (cP, .object RX0)] s ∧ va_AO RX0 s := by
  obtain ⟨c0, i0, k0⟩ := u_known hts inJ4 (hts (.instantiable RJ4 4) (by decide +kernel))
  obtain ⟨c1, i1, k1⟩ := u_known hts inX0 (hts (.instantiable RX0 16) (by decide +kernel))
  obtain ⟨c2, i2, k2⟩ := u_known hts inX1 (hts (.instantiable RX1 6) (by decide +kernel))
  obtain ⟨c3, i3, k3⟩ := u_known hts inX2 (hts (.instantiable RX2 14) (by decide +kernel))
  obtain ⟨c4, i4, k4⟩ := u_known hts inJ0 (hts (.instantiable RJ0 4) (by decide +kernel))
  obtain ⟨cI, aI, nmI⟩ := arr_of (hts (.arrayClass .int) (by decide +kernel))
  obtain ⟨cB, aBy, nmB⟩ := arr_of (hts (.arrayClass .byte) (by decide +kernel))
  have hao := hts (.arrayOver (.object RX0)) (by decide +kernel)
  obtain ⟨comp, cP, kP, p1, -, p3, p4, p5⟩ := Cond.arrayOver_spec hao
  have aP : ArrOfT s cP (.object RX0) := fun n z => ⟨fun k h => (by cases h), kP, p3, comp, p4⟩
  have hcl : ∀ (c : Nat) (q : vw_C), vwCl[c]? = some q → u_Kn s q.1 q.2.1 q.2.2 (([c0, c1, c2, c3, c4] : List ClassId).getD c c0) (([i0, i1, i2, i3, i4] : List (Nat → Nat)).getD c i0) := by
    intro c q hq
    have hlt : c < 5 := (List.getElem?_eq_some_iff.mp hq).1
    rcases (show c = 0 ∨ c = 1 ∨ c = 2 ∨ c = 3 ∨ c = 4 by omega) with rfl | rfl | rfl | rfl | rfl
    · cases hq; exact k0
    · cases hq; exact k1
    · cases hq; exact k2
    · cases hq; exact k3
    · cases hq; exact k4
  refine ⟨fun c => ([c0, c1, c2, c3, c4] : List ClassId).getD c c0, fun c => ([i0, i1, i2, i3, i4] : List (Nat → Nat)).getD c i0, cI, cB, cP, ⟨hcl, ?_⟩, va_AO.of hao⟩
  · intro k x hx
    have hlt : k < 3 := (List.getElem?_eq_some_iff.mp hx).1
    rcases (show k = 0 ∨ k = 1 ∨ k = 2 by omega) with rfl | rfl | rfl
    · cases hx; exact ⟨aI, nmI⟩
    · cases hx; exact ⟨aBy, nmB⟩
    · cases hx; exact ⟨aP, kP, comp, p3, p4, p1, p5⟩
section KO
variable {p : Program} {l : Launch} {e : Env} {R : Room} {s : State} {m : MethodId} {args : Array Value} {below : List Frame} {meth : Method} {c : Code} {H : Heap} {locs : List Loc} {cells slots : Nat} {Q : State → Prop}
variable {pc : Nat} {ls : Array Slot} {rest st0 : List Value} {H0 : Heap} {mc ms base : Nat} {D : va_G} {cl : List vw_C} {o : Option Value} {Wp : va_W → Prop}
variable {y : MethodName} {bytes cc : ByteArray} {maxL nL n index : Nat} {ws : List Cond} {rm : Room} {Ts : List Cond} {own : String} {b : Addr} {As : List Value} {tys : List (ClassId × FieldType)} {wsC : va_W}
theorem call_IBOE (S : CallFix p m c cc nL s args Ts own) (hM : Met l y ws rm (cBpo D cl tys base wsC (.ref b :: As)) (cBe D cl base o Wp) mc ms (aB base)) (cw : CallB R s args own index y bytes maxL none ws rm mc ms n ∧ y.name = "<init>" ∧ (Cond.instanceMethod y).before args s = true) (hAO : va_AO RX0 s) (hK : va_K D cl tys s) (hP : va_P D cl wsC H) (hD : va_D (aB base) wsC) (hS : va_S (aB base) H0 H locs) (hbs : base ≤ H.size) (hEU : ∀ U : State, U.heap = H → s.WarmedH U.vm → EnvB base U)
    (hn : As.length = n) (hsz : ls.size = nL) (hst : st0 = As.reverse ++ .ref b :: rest) (hW : (rest.map fun v => v.category).sum ≤ 8) (hdg : decode cc pc = .ok (.invokespecial index, 3)) (hcs : cells + mc ≤ R.cells ∧ slots + ms ≤ R.slots)
    (kk : ∀ (H1 : Heap) (locs1 : List Loc) (ws1 : va_W), Wp ws1 → va_P D cl ws1 H1 → va_D (aB base) ws1 → H.size ≤ H1.size → va_S (aB base) H0 H1 locs1 → W p l e R s m args below meth c H1 locs1 (cells + mc) (slots + ms) Q (F0 m (pc + 3) ls (o.toList ++ rest))) : W p l e R s m args below meth c H locs cells slots Q (F0 m pc ls st0) :=
  cl_big (va_runI (As := As) (rest := rest) S hM cw ⟨cBpo_blind _ _ _ _ _ _, fun U hU hW => ⟨preB hK hP hD hbs hEU _ U hU hW, va_AO.moved hW.alike hAO⟩⟩ rfl hn hsz hst (lv_room hW) hdg hcs) hS kk
end KO
def lTm (i : Nat) : Term := .string RL (lIx i)
theorem lw_mex : ∀ i, i < 6 → Cond.exactly (lTm i) "java/lang/String" ∈ flatC (Jvm.Cond.and given_1 narrow_1) := by decide +kernel
theorem lw_mco : ∀ i, i < 6 → Cond.eq (.field (lTm i) "java/lang/String" "coder" "B") (.int 0) ∈ flatC (Jvm.Cond.and given_1 narrow_1) := by decide +kernel
theorem lw_mar : ∀ i, i < 6 → Cond.arrayOf (.field (lTm i) "java/lang/String" "value" "[B") .byte ∈ flatC (Jvm.Cond.and given_1 narrow_1) := by decide +kernel
theorem lw_mle : ∀ i, i < 6 → Cond.eq (.length (.field (lTm i) "java/lang/String" "value" "[B")) (.int (Int32.ofNat (lLen.getD i 0))) ∈ flatC (Jvm.Cond.and given_1 narrow_1) := by decide +kernel
theorem lw_mel : ∀ i, i < 6 → ∀ j, j < lLen.getD i 0 → Cond.eq (.elem (.field (lTm i) "java/lang/String" "value" "[B") (.int (Int32.ofNat j))) (.int ((lByt.getD i []).getD j 0)) ∈ flatC (Jvm.Cond.and given_1 narrow_1) := by decide +kernel
theorem lw_mne : ∀ i, i < 6 → ∀ j, j < 6 → i ≠ j → Cond.not (Cond.eq (lTm i) (lTm j)) ∈ flatC (Jvm.Cond.and given_1 narrow_1) ∨ Cond.not (Cond.eq (lTm j) (lTm i)) ∈ flatC (Jvm.Cond.and given_1 narrow_1) := by decide +kernel
theorem lw_mst : ∀ i, i < 6 → Cond.stringRef RL (lIx i) (lTx i) ∈ lw_tbl := by decide +kernel
theorem law_str {s : State} {b : Nat} (h : (Jvm.Cond.and given_1 narrow_1).before #[Value.ref b] s = true) (hts : ∀ w ∈ lw_tbl, w.before #[Value.ref b] s = true) : ∃ adK adV : Nat → Nat, vk_S 6 lLen lByt adK adV (aB s.heap.size) s s.heap ∧ ∀ i, i < 6 → vk_R RL (lIx i) (lTx i) (adK i) s := by
  have hn := flat_of_before _ h
  have hA : ∀ a : Nat, a < s.heap.size → ¬ aB s.heap.size a := fun a h1 h2 => absurd h1 (Nat.not_lt.mpr h2)
  obtain ⟨adK, adV, h1, h2⟩ := vk_Sof (args := #[Value.ref b]) (s := s) (N := 6) (tm := lTm) (len := lLen) (byt := lByt) (A := aB s.heap.size) (by decide) (fun i hi => hn _ (lw_mex i hi)) (fun i hi => hn _ (lw_mco i hi)) (fun i hi => hn _ (lw_mar i hi)) (fun i hi => hn _ (lw_mle i hi)) (fun i hi j hj => hn _ (lw_mel i hi j hj)) (fun i j hi hj hij => (lw_mne i hi j hj hij).imp (fun q => hn _ q) (fun q => hn _ q)) hA
  exact ⟨adK, adV, h1, fun i hi => vk_R.of (hts _ (lw_mst i hi)) (h2 i hi)⟩
