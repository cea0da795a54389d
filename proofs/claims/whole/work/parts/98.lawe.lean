/-! ===== the law: its start, its loop ===== -/
theorem dfX2 : ∀ j, j < 14 → defaultValue (tyX2 j) = vp_V [.null, .null, .null, .null, .int 0, .null, .int 0, .int 0, .null, .null, .int 0, .int 0, .int 0, .int 0] j := by
  intro j hj
  rcases (show j = 0 ∨ j = 1 ∨ j = 2 ∨ j = 3 ∨ j = 4 ∨ j = 5 ∨ j = 6 ∨ j = 7 ∨ j = 8 ∨ j = 9 ∨ j = 10 ∨ j = 11 ∨ j = 12 ∨ j = 13 by omega) with rfl | rfl | rfl | rfl | rfl | rfl | rfl | rfl | rfl | rfl | rfl | rfl | rfl | rfl <;> rfl
theorem dfX3 : ∀ j, j < 17 → defaultValue (tyX3 j) = vp_V [.null, .null, .null, .null, .int 0, .null, .int 0, .null, .int 0, .null, .int 0, .int 0, .int 0, .null, .int 0, .int 0, .int 0] j := by
  intro j hj
  rcases (show j = 0 ∨ j = 1 ∨ j = 2 ∨ j = 3 ∨ j = 4 ∨ j = 5 ∨ j = 6 ∨ j = 7 ∨ j = 8 ∨ j = 9 ∨ j = 10 ∨ j = 11 ∨ j = 12 ∨ j = 13 ∨ j = 14 ∨ j = 15 ∨ j = 16 by omega) with rfl | rfl | rfl | rfl | rfl | rfl | rfl | rfl | rfl | rfl | rfl | rfl | rfl | rfl | rfl | rfl | rfl <;> rfl
def lwdgt (n : String) (f : Nat → Int32) : List Cond := (List.range 100).map (fun j => Cond.eq (.elem (.static "java/lang/Integer" n "[B") (.int (Int32.ofNat j))) (.int (f j)))
theorem lwdg_mem {n : String} {f : Nat → Int32} {T : Cond} {k : Nat} (h : ((flatC T).drop k).take 100 = lwdgt n f) : ∀ j, j < 100 → (Cond.eq (.elem (.static "java/lang/Integer" n "[B") (.int (Int32.ofNat j))) (.int (f j))) ∈ flatC T := fun j hj => by
  have hm : (Cond.eq (.elem (.static "java/lang/Integer" n "[B") (.int (Int32.ofNat j))) (.int (f j))) ∈ lwdgt n f := List.mem_map.mpr ⟨j, List.mem_range.mpr hj, rfl⟩
  rw [← h] at hm
  exact List.mem_of_mem_drop (List.mem_of_mem_take hm)
set_option maxRecDepth 100000 in
theorem lwdg_1 : ((flatC (Jvm.Cond.and given_1 narrow_1)).drop 8).take 100 = lwdgt "DigitOnes" (fun j => sb_b (48 + j % 10)) := by decide +kernel
set_option maxRecDepth 100000 in
theorem lwdg_2 : ((flatC (Jvm.Cond.and given_1 narrow_1)).drop 111).take 100 = lwdgt "DigitTens" (fun j => sb_b (48 + j / 10)) := by decide +kernel
set_option maxHeartbeats 8000000 in
set_option maxRecDepth 100000 in
theorem law_env {s : State} {b : Nat} (h : (Jvm.Cond.and given_1 narrow_1).before #[Value.ref b] s = true) (hts : ∀ w ∈ lw_tbl, w.before #[Value.ref b] s = true) : EnvB s.heap.size s := by
  have hn := flat_of_before _ h
  have hA : ∀ a : Nat, a < s.heap.size → ¬ aB s.heap.size a := fun a h1 h2 => absurd h1 (Nat.not_lt.mpr h2)
  have h1 := lwdg_mem lwdg_1
  have h2 := lwdg_mem lwdg_2
  refine ⟨va_Zof (args := #[Value.ref b]) (hts (.laysStatic "java/lang/String" "COMPACT_STRINGS" "Z") (by decide +kernel)) (hts (.initialized "java/lang/String") (by decide +kernel)) (va_eqi (hn (.eq (.static "java/lang/String" "COMPACT_STRINGS" "Z") (.int 1)) (by decide +kernel))) hA, ?_, ?_, va_Zqof (args := #[Value.ref b]) (hts (.laysStatic "jdk/internal/util/Preconditions" "SIOOBE_FORMATTER" "Ljava/util/function/BiFunction;") (by decide +kernel)) (hts (.initialized "jdk/internal/util/Preconditions") (by decide +kernel)) (hn (.isRef (.static "jdk/internal/util/Preconditions" "SIOOBE_FORMATTER" "Ljava/util/function/BiFunction;")) (by decide +kernel)) hA, va_Nw.of rfl (hts nw1 (by decide +kernel)), va_Nw.of rfl (hts nw2 (by decide +kernel))⟩
  · obtain ⟨t, ht, hT⟩ := va_Tof (args := #[Value.ref b]) (s := s) (tm := .static "java/lang/Integer" "DigitOnes" "[B") (ty := .byte) (N := 100) (f := tOnes) (A := aB s.heap.size) (by decide) (hn _ (by decide +kernel)) (va_eqt (hn _ (by decide +kernel))) (fun j hj => va_eqt (hn _ (h1 j hj))) hA
    exact ⟨t, va_Zref (hts (.laysStatic "java/lang/Integer" "DigitOnes" "[B") (by decide +kernel)) (hts (.initialized "java/lang/Integer") (by decide +kernel)) ht hA, hT⟩
  · obtain ⟨t, ht, hT⟩ := va_Tof (args := #[Value.ref b]) (s := s) (tm := .static "java/lang/Integer" "DigitTens" "[B") (ty := .byte) (N := 100) (f := tTens) (A := aB s.heap.size) (by decide) (hn _ (by decide +kernel)) (va_eqt (hn _ (by decide +kernel))) (fun j hj => va_eqt (hn _ (h2 j hj))) hA
    exact ⟨t, va_Zref (hts (.laysStatic "java/lang/Integer" "DigitTens" "[B") (by decide +kernel)) (hts (.initialized "java/lang/Integer") (by decide +kernel)) ht hA, hT⟩
theorem arr_of {args : Array Value} {s : State} {t : FieldType} (h : (Cond.arrayClass t).before args s = true) : ∃ cA : ClassId, ArrOfT s cA t ∧ s.vm.findClass ("[" ++ t.toString) = some cA := by
  obtain ⟨cA, kA, comp, h1, h2, h3⟩ := Cond.arrayClass_spec h
  exact ⟨cA, fun n z => ⟨fun k h => (by cases h), kA, h2, comp, h3⟩, h1⟩
set_option maxHeartbeats 8000000 in
set_option maxRecDepth 100000 in
theorem law_K {s : State} {b : Nat} (hts : ∀ w ∈ lw_tbl, w.before #[Value.ref b] s = true) : ∃ (dC : Nat → ClassId) (dI : Nat → Nat → Nat) (cI cB cC cP : ClassId), va_K (dC, dI) vwCl [(cI, .int), (cB, .byte), (cP, .object RX0)] s ∧ va_K (dC, dI) vwCl [(cI, .int), (cC, .char)] s ∧ va_AO RX0 s := by
  obtain ⟨c0, i0, k0⟩ := u_known hts inJ4 (hts (.instantiable RJ4 4) (by decide +kernel))
  obtain ⟨c1, i1, k1⟩ := u_known hts inX0 (hts (.instantiable RX0 16) (by decide +kernel))
  obtain ⟨c2, i2, k2⟩ := u_known hts inX1 (hts (.instantiable RX1 6) (by decide +kernel))
  obtain ⟨c3, i3, k3⟩ := u_known hts inX2 (hts (.instantiable RX2 14) (by decide +kernel))
  obtain ⟨c4, i4, k4⟩ := u_known hts inX3 (hts (.instantiable RX3 17) (by decide +kernel))
  obtain ⟨cI, aI, nmI⟩ := arr_of (hts (.arrayClass .int) (by decide +kernel))
  obtain ⟨cB, aBy, nmB⟩ := arr_of (hts (.arrayClass .byte) (by decide +kernel))
  obtain ⟨cC, aC, nmC⟩ := arr_of (hts (.arrayClass .char) (by decide +kernel))
  have hao := hts (.arrayOver (.object RX0)) (by decide +kernel)
  obtain ⟨comp, cP, kP, p1, -, p3, p4, p5⟩ := Cond.arrayOver_spec hao
  have aP : ArrOfT s cP (.object RX0) := fun n z => ⟨fun k h => (by cases h), kP, p3, comp, p4⟩
  have hcl : ∀ (c : Nat) (q : vw_C), vwCl[c]? = some q → u_Kn s q.1 q.2.1 q.2.2 (([c0, c1, c2, c3, c4] : List ClassId).getD c c0) (([i0, i1, i2, i3, i4] : List (Nat → Nat)).getD c i0) := by
    intro c q hq
    have hlt : c < 5 := (List.getElem?_eq_some_iff.mp hq).1
    rcases (show c = 0 ∨ c = 1 ∨ c = 2 ∨ c = 3 ∨ c = 4 by omega) with rfl | rfl | rfl | rfl | rfl
    · cases hq; exact k0
    · cases hq; exact k1
    · cases hq; exact k2
    · cases hq; exact k3
    · cases hq; exact k4
  refine ⟨fun c => ([c0, c1, c2, c3, c4] : List ClassId).getD c c0, fun c => ([i0, i1, i2, i3, i4] : List (Nat → Nat)).getD c i0, cI, cB, cC, cP, ⟨hcl, ?_⟩, ⟨hcl, ?_⟩, va_AO.of hao⟩
  · intro k x hx
    have hlt : k < 3 := (List.getElem?_eq_some_iff.mp hx).1
    rcases (show k = 0 ∨ k = 1 ∨ k = 2 by omega) with rfl | rfl | rfl
    · cases hx; exact ⟨aI, nmI⟩
    · cases hx; exact ⟨aBy, nmB⟩
    · cases hx; exact ⟨aP, kP, comp, p3, p4, p1, p5⟩
  · intro k x hx
    have hlt : k < 2 := (List.getElem?_eq_some_iff.mp hx).1
    rcases (show k = 0 ∨ k = 1 by omega) with rfl | rfl
    · cases hx; exact ⟨aI, nmI⟩
    · cases hx; exact ⟨aC, nmC⟩
