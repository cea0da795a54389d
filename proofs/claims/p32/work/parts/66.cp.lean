/-! ===== the reference copies its rows ===== -/
theorem cp_tries {N : Nat} : ∀ (k n i : Nat) (K : KT), k < n → i + k = 186 → (∀ x, x < i → K 1 x = K 0 x) → ∃ K', fX3_tries_2 N n K (nI i) = some (0, K') ∧ (∀ j, j ≠ 1 → K' j = K j) ∧ ∀ x, x < 186 → K' 1 x = K 0 x := by
  intro k
  induction k with
  | zero =>
    intro n i K hn hi h
    obtain ⟨m, rfl⟩ : ∃ m, n = m + 1 := ⟨n - 1, by omega⟩
    unfold fX3_tries_2
    rw [show (186 : Int32) = nI 186 from rfl, ite_le (by decide) (by omega), if_pos (by omega)]
    exact ⟨K, rfl, fun _ _ => rfl, fun x hx => h x (by omega)⟩
  | succ k ih =>
    intro n i K hn hi h
    obtain ⟨m, rfl⟩ : ∃ m, n = m + 1 := ⟨n - 1, by omega⟩
    unfold fX3_tries_2
    rw [show (186 : Int32) = nI 186 from rfl, ite_le (by decide) (by omega), if_neg (by omega), rdA_n (by omega) (by decide), wrA_n (by omega) (by decide), i1, nadd]
    obtain ⟨K', e1, e2, e3⟩ := ih m (i + 1) (fset K 1 i (K 0 i)) (by omega) (by omega) (fun x hx => by
      rw [fset_ne (show (0 : Nat) ≠ 1 by decide), fset_eq]
      by_cases q : x = i
      · rw [q]; exact pk_us
      · rw [pk_un q]; exact h x (by omega))
    exact ⟨K', e1, fun j hj => by rw [e2 j hj, fset_ne hj], fun x hx => by rw [e3 x hx, fset_ne (by decide)]⟩
theorem cp_remembers {N : Nat} : ∀ (k n i : Nat) (K : KT), k < n → i + k = 186 → (∀ x, x < i → K 2 x = K 0 x) → ∃ K', fX3_remembers_2 N n K (nI i) = some (0, K') ∧ (∀ j, j ≠ 2 → K' j = K j) ∧ ∀ x, x < 186 → K' 2 x = K 0 x := by
  intro k
  induction k with
  | zero =>
    intro n i K hn hi h
    obtain ⟨m, rfl⟩ : ∃ m, n = m + 1 := ⟨n - 1, by omega⟩
    unfold fX3_remembers_2
    rw [show (186 : Int32) = nI 186 from rfl, ite_le (by decide) (by omega), if_pos (by omega)]
    exact ⟨K, rfl, fun _ _ => rfl, fun x hx => h x (by omega)⟩
  | succ k ih =>
    intro n i K hn hi h
    obtain ⟨m, rfl⟩ : ∃ m, n = m + 1 := ⟨n - 1, by omega⟩
    unfold fX3_remembers_2
    rw [show (186 : Int32) = nI 186 from rfl, ite_le (by decide) (by omega), if_neg (by omega), rdA_n (by omega) (by decide), wrA_n (by omega) (by decide), i1, nadd]
    obtain ⟨K', e1, e2, e3⟩ := ih m (i + 1) (fset K 2 i (K 0 i)) (by omega) (by omega) (fun x hx => by
      rw [fset_ne (show (0 : Nat) ≠ 2 by decide), fset_eq]
      by_cases q : x = i
      · rw [q]; exact pk_us
      · rw [pk_un q]; exact h x (by omega))
    exact ⟨K', e1, fun j hj => by rw [e2 j hj, fset_ne hj], fun x hx => by rw [e3 x hx, fset_ne (by decide)]⟩
theorem cp_forgets {N : Nat} : ∀ (k n i : Nat) (K : KT), k < n → i + k = 186 → (∀ x, x < i → K 0 x = K 2 x) → ∃ K', fX3_forgets_2 N n K (nI i) = some (0, K') ∧ (∀ j, j ≠ 0 → K' j = K j) ∧ ∀ x, x < 186 → K' 0 x = K 2 x := by
  intro k
  induction k with
  | zero =>
    intro n i K hn hi h
    obtain ⟨m, rfl⟩ : ∃ m, n = m + 1 := ⟨n - 1, by omega⟩
    unfold fX3_forgets_2
    rw [show (186 : Int32) = nI 186 from rfl, ite_le (by decide) (by omega), if_pos (by omega)]
    exact ⟨K, rfl, fun _ _ => rfl, fun x hx => h x (by omega)⟩
  | succ k ih =>
    intro n i K hn hi h
    obtain ⟨m, rfl⟩ : ∃ m, n = m + 1 := ⟨n - 1, by omega⟩
    unfold fX3_forgets_2
    rw [show (186 : Int32) = nI 186 from rfl, ite_le (by decide) (by omega), if_neg (by omega), rdA_n (by omega) (by decide), wrA_n (by omega) (by decide), i1, nadd]
    obtain ⟨K', e1, e2, e3⟩ := ih m (i + 1) (fset K 0 i (K 2 i)) (by omega) (by omega) (fun x hx => by
      rw [fset_ne (show (2 : Nat) ≠ 0 by decide), fset_eq]
      by_cases q : x = i
      · rw [q]; exact pk_us
      · rw [pk_un q]; exact h x (by omega))
    exact ⟨K', e1, fun j hj => by rw [e2 j hj, fset_ne hj], fun x hx => by rw [e3 x hx, fset_ne (by decide)]⟩
theorem cp_back {N : Nat} {r : Int32} : ∀ (k n i : Nat) (K : KT), k < n → i + k = 186 → (∀ x, x < i → K 0 x = K 1 x) → ∃ K', fX3_ends_6 N n K r (nI i) = some (r, K') ∧ (∀ j, j ≠ 0 → K' j = K j) ∧ ∀ x, x < 186 → K' 0 x = K 1 x := by
  intro k
  induction k with
  | zero =>
    intro n i K hn hi h
    obtain ⟨m, rfl⟩ : ∃ m, n = m + 1 := ⟨n - 1, by omega⟩
    unfold fX3_ends_6
    rw [show (186 : Int32) = nI 186 from rfl, ite_le (by decide) (by omega), if_pos (by omega)]
    exact ⟨K, rfl, fun _ _ => rfl, fun x hx => h x (by omega)⟩
  | succ k ih =>
    intro n i K hn hi h
    obtain ⟨m, rfl⟩ : ∃ m, n = m + 1 := ⟨n - 1, by omega⟩
    unfold fX3_ends_6
    rw [show (186 : Int32) = nI 186 from rfl, ite_le (by decide) (by omega), if_neg (by omega), rdA_n (by omega) (by decide), wrA_n (by omega) (by decide), i1, nadd]
    obtain ⟨K', e1, e2, e3⟩ := ih m (i + 1) (fset K 0 i (K 1 i)) (by omega) (by omega) (fun x hx => by
      rw [fset_ne (show (1 : Nat) ≠ 0 by decide), fset_eq]
      by_cases q : x = i
      · rw [q]; exact pk_us
      · rw [pk_un q]; exact h x (by omega))
    exact ⟨K', e1, fun j hj => by rw [e2 j hj, fset_ne hj], fun x hx => by rw [e3 x hx, fset_ne (by decide)]⟩
theorem cp_save {N : Nat} : ∀ (k n i : Nat) (K : KT), k < n → i + k = 186 → (∀ x, x < i → K 4 x = K 0 x) → ∃ K', fX3_save_7 N n K (nI i) = fX3_save_32 N K' ∧ (∀ j, j ≠ 4 → K' j = K j) ∧ ∀ x, x < 186 → K' 4 x = K 0 x := by
  intro k
  induction k with
  | zero =>
    intro n i K hn hi h
    obtain ⟨m, rfl⟩ : ∃ m, n = m + 1 := ⟨n - 1, by omega⟩
    unfold fX3_save_7
    rw [show (186 : Int32) = nI 186 from rfl, ite_le (by decide) (by omega), if_pos (by omega)]
    exact ⟨K, rfl, fun _ _ => rfl, fun x hx => h x (by omega)⟩
  | succ k ih =>
    intro n i K hn hi h
    obtain ⟨m, rfl⟩ : ∃ m, n = m + 1 := ⟨n - 1, by omega⟩
    unfold fX3_save_7
    rw [show (186 : Int32) = nI 186 from rfl, ite_le (by decide) (by omega), if_neg (by omega), rdA_n (by omega) (by decide), wrA_n (by omega) (by decide), i1, nadd]
    obtain ⟨K', e1, e2, e3⟩ := ih m (i + 1) (fset K 4 i (K 0 i)) (by omega) (by omega) (fun x hx => by
      rw [fset_ne (show (0 : Nat) ≠ 4 by decide), fset_eq]
      by_cases q : x = i
      · rw [q]; exact pk_us
      · rw [pk_un q]; exact h x (by omega))
    exact ⟨K', e1, fun j hj => by rw [e2 j hj, fset_ne hj], fun x hx => by rw [e3 x hx, fset_ne (by decide)]⟩
theorem cp_restore {N : Nat} : ∀ (k n i : Nat) (K : KT), k < n → i + k = 186 → (∀ x, x < i → K 0 x = K 4 x) → ∃ K', fX3_restore_12 N n K (nI i) = fX3_restore_37 N K' ∧ (∀ j, j ≠ 0 → K' j = K j) ∧ ∀ x, x < 186 → K' 0 x = K 4 x := by
  intro k
  induction k with
  | zero =>
    intro n i K hn hi h
    obtain ⟨m, rfl⟩ : ∃ m, n = m + 1 := ⟨n - 1, by omega⟩
    unfold fX3_restore_12
    rw [show (186 : Int32) = nI 186 from rfl, ite_le (by decide) (by omega), if_pos (by omega)]
    exact ⟨K, rfl, fun _ _ => rfl, fun x hx => h x (by omega)⟩
  | succ k ih =>
    intro n i K hn hi h
    obtain ⟨m, rfl⟩ : ∃ m, n = m + 1 := ⟨n - 1, by omega⟩
    unfold fX3_restore_12
    rw [show (186 : Int32) = nI 186 from rfl, ite_le (by decide) (by omega), if_neg (by omega), rdA_n (by omega) (by decide), wrA_n (by omega) (by decide), i1, nadd]
    obtain ⟨K', e1, e2, e3⟩ := ih m (i + 1) (fset K 0 i (K 4 i)) (by omega) (by omega) (fun x hx => by
      rw [fset_ne (show (4 : Nat) ≠ 0 by decide), fset_eq]
      by_cases q : x = i
      · rw [q]; exact pk_us
      · rw [pk_un q]; exact h x (by omega))
    exact ⟨K', e1, fun j hj => by rw [e2 j hj, fset_ne hj], fun x hx => by rw [e3 x hx, fset_ne (by decide)]⟩
theorem cp_undo {N u : Nat} (hu : u < 8) : ∀ (k n i : Nat) (K : KT), k < n → i + k = 186 → K 8 0 = nI u → (∀ x, x < i → K 0 x = K 3 (186 * u + x)) → ∃ K', fX3_undo_22 N n K (nI i) = some (nI u, K') ∧ (∀ j, j ≠ 0 → K' j = K j) ∧ ∀ x, x < 186 → K' 0 x = K 3 (186 * u + x) := by
  intro k
  induction k with
  | zero =>
    intro n i K hn hi h8 h
    obtain ⟨m, rfl⟩ : ∃ m, n = m + 1 := ⟨n - 1, by omega⟩
    unfold fX3_undo_22
    rw [show (186 : Int32) = nI 186 from rfl, ite_le (by decide) (by omega), if_pos (by omega), h8]
    exact ⟨K, rfl, fun _ _ => rfl, fun x hx => h x (by omega)⟩
  | succ k ih =>
    intro n i K hn hi h8 h
    obtain ⟨m, rfl⟩ : ∃ m, n = m + 1 := ⟨n - 1, by omega⟩
    unfold fX3_undo_22
    rw [show (186 : Int32) = nI 186 from rfl, ite_le (by decide) (by omega), if_neg (by omega), h8, nmul, nadd, rdA_n (by omega) (by decide), wrA_n (by omega) (by decide), i1, nadd]
    obtain ⟨K', e1, e2, e3⟩ := ih m (i + 1) (fset K 0 i (K 3 (186 * u + i))) (by omega) (by omega) (by rw [fset_ne (by decide)]; exact h8) (fun x hx => by
      rw [fset_ne (show (3 : Nat) ≠ 0 by decide), fset_eq]
      by_cases q : x = i
      · rw [q]; exact pk_us
      · rw [pk_un q]; exact h x (by omega))
    exact ⟨K', e1, fun j hj => by rw [e2 j hj, fset_ne hj], fun x hx => by rw [e3 x hx, fset_ne (by decide)]⟩
theorem cp_keep {N u : Nat} {r : Int32} (hu : u < 8) : ∀ (k n i : Nat) (K : KT), k < n → i + k = 186 → K 8 0 = nI u → (∀ x, x < i → K 3 (186 * u + x) = K 1 x) → ∃ K', fX3_ends_85 N n K r (nI i) = fX3_ends_119 N K' r ∧ (∀ j, j ≠ 3 → K' j = K j) ∧ (∀ x, x < 186 → K' 3 (186 * u + x) = K 1 x) ∧ ∀ y, y < 186 * u → K' 3 y = K 3 y := by
  intro k
  induction k with
  | zero =>
    intro n i K hn hi h8 h
    obtain ⟨m, rfl⟩ : ∃ m, n = m + 1 := ⟨n - 1, by omega⟩
    unfold fX3_ends_85
    rw [show (186 : Int32) = nI 186 from rfl, ite_le (by decide) (by omega), if_pos (by omega)]
    exact ⟨K, rfl, fun _ _ => rfl, fun x hx => h x (by omega), fun _ _ => rfl⟩
  | succ k ih =>
    intro n i K hn hi h8 h
    obtain ⟨m, rfl⟩ : ∃ m, n = m + 1 := ⟨n - 1, by omega⟩
    unfold fX3_ends_85
    rw [show (186 : Int32) = nI 186 from rfl, ite_le (by decide) (by omega), if_neg (by omega), h8, nmul, nadd, rdA_n (by omega) (by decide), wrA_n (by omega) (by decide), i1, nadd]
    obtain ⟨K', e1, e2, e3, e4⟩ := ih m (i + 1) (fset K 3 (186 * u + i) (K 1 i)) (by omega) (by omega) (by rw [fset_ne (by decide)]; exact h8) (fun x hx => by
      rw [fset_ne (show (1 : Nat) ≠ 3 by decide), fset_eq]
      by_cases q : x = i
      · rw [q]; exact pk_us
      · rw [pk_un (by omega)]; exact h x (by omega))
    refine ⟨K', e1, fun j hj => by rw [e2 j hj, fset_ne hj], fun x hx => by rw [e3 x hx, fset_ne (by decide)], fun y hy => ?_⟩
    rw [e4 y hy, fset_eq, pk_un (by omega)]
theorem cp_shift {N : Nat} {r : Int32} : ∀ (k n i : Nat) (K K0 : KT), k < n → i + k = 1302 → (∀ x, x < i → K 3 x = K0 3 (186 + x)) → (∀ x, i ≤ x → K 3 x = K0 3 x) → ∃ K', fX3_ends_44 N n K r (nI i) = fX3_ends_73 N K' r ∧ (∀ j, j ≠ 3 → K' j = K j) ∧ ∀ x, x < 1302 → K' 3 x = K0 3 (186 + x) := by
  intro k
  induction k with
  | zero =>
    intro n i K K0 hn hi h h2
    obtain ⟨m, rfl⟩ : ∃ m, n = m + 1 := ⟨n - 1, by omega⟩
    unfold fX3_ends_44
    rw [show (1302 : Int32) = nI 1302 from rfl, ite_le (by decide) (by omega), if_pos (by omega)]
    exact ⟨K, rfl, fun _ _ => rfl, fun x hx => h x (by omega)⟩
  | succ k ih =>
    intro n i K K0 hn hi h h2
    obtain ⟨m, rfl⟩ : ∃ m, n = m + 1 := ⟨n - 1, by omega⟩
    unfold fX3_ends_44
    rw [show (1302 : Int32) = nI 1302 from rfl, ite_le (by decide) (by omega), if_neg (by omega), show (186 : Int32) = nI 186 from rfl, nadd, rdA_n (by omega) (by decide), wrA_n (by omega) (by decide), i1, nadd]
    obtain ⟨K', e1, e2, e3⟩ := ih m (i + 1) (fset K 3 i (K 3 (186 + i))) K0 (by omega) (by omega) (fun x hx => by
      rw [fset_eq]
      by_cases q : x = i
      · rw [q, pk_us]; exact h2 _ (by omega)
      · rw [pk_un q]; exact h x (by omega)) (fun x hx => by rw [fset_eq, pk_un (by omega)]; exact h2 x (by omega))
    exact ⟨K', e1, fun j hj => by rw [e2 j hj, fset_ne hj], e3⟩
theorem r0_tries {N : Nat} {K : KT} (hN : 1400 ≤ N) : ∃ K', mX3_tries N K = some (0, K') ∧ (∀ j, j ≠ 1 → K' j = K j) ∧ ∀ x, x < 186 → K' 1 x = K 0 x := by
  unfold mX3_tries
  exact cp_tries 186 N 0 K (by omega) (by omega) (fun x hx => absurd hx (by omega))
theorem r0_remembers {N : Nat} {K : KT} (hN : 1400 ≤ N) : ∃ K', mX3_remembers N K = some (0, K') ∧ (∀ j, j ≠ 2 → K' j = K j) ∧ ∀ x, x < 186 → K' 2 x = K 0 x := by
  unfold mX3_remembers
  exact cp_remembers 186 N 0 K (by omega) (by omega) (fun x hx => absurd hx (by omega))
theorem r0_forgets {N : Nat} {K : KT} (hN : 1400 ≤ N) : ∃ K', mX3_forgets N K = some (0, K') ∧ (∀ j, j ≠ 0 → K' j = K j) ∧ ∀ x, x < 186 → K' 0 x = K 2 x := by
  unfold mX3_forgets
  exact cp_forgets 186 N 0 K (by omega) (by omega) (fun x hx => absurd hx (by omega))
theorem r0_endsN {N : Nat} {K : KT} {r : Int32} (hN : 1400 ≤ N) (hr : r < 0) : ∃ K', mX3_ends N K r = some (r, K') ∧ (∀ j, j ≠ 0 → K' j = K j) ∧ ∀ x, x < 186 → K' 0 x = K 1 x := by
  unfold mX3_ends
  rw [if_neg (Int32.not_le.mpr hr)]
  exact cp_back 186 N 0 K (by omega) (by omega) (fun x hx => absurd hx (by omega))
/-- a change is kept: the newest behind the others, the oldest one goes where there are eight -/
theorem r0_endsP {N u : Nat} {K : KT} {r : Int32} (hN : 1400 ≤ N) (hr : 0 ≤ r) (hu : u ≤ 8) (h8 : K 8 0 = nI u) : ∃ K', mX3_ends N K r = some (r, K') ∧ (∀ j, j ≠ 3 → j ≠ 8 → K' j = K j) ∧ (∀ i, i ≠ 0 → K' 8 i = K 8 i) ∧ K' 8 0 = nI (min (u + 1) 8) ∧ (∀ x, x < 186 → K' 3 (186 * min u 7 + x) = K 1 x) ∧ (∀ y, y < 186 * min u 7 → K' 3 y = K 3 (if u = 8 then 186 + y else y)) := by
  have keep : ∀ (w : Nat) (J : KT), w < 8 → J 8 0 = nI w → ∃ K', fX3_ends_83 N J r = some (r, K') ∧ (∀ j, j ≠ 3 → j ≠ 8 → K' j = J j) ∧ (∀ i, i ≠ 0 → K' 8 i = J 8 i) ∧ K' 8 0 = nI (w + 1) ∧ (∀ x, x < 186 → K' 3 (186 * w + x) = J 1 x) ∧ (∀ y, y < 186 * w → K' 3 y = J 3 y) := by
    intro w J hw hJ
    obtain ⟨K', e1, e2, e3, e4⟩ := cp_keep (N := N) (r := r) hw 186 N 0 J (by omega) (by omega) hJ (fun x hx => absurd hx (by omega))
    refine ⟨fset K' 8 0 (K' 8 0 + 1), ?_, fun j h3 h8 => by rw [fset_ne h8, e2 j h3], fun i hi => by rw [fset_eq, pk_un hi, e2 8 (by decide)], ?_, fun x hx => by rw [fset_ne (by decide)]; exact e3 x hx, fun y hy => by rw [fset_ne (by decide)]; exact e4 y hy⟩
    · unfold fX3_ends_83
      refine Eq.trans e1 ?_
      unfold fX3_ends_119
      rw [ptF_n]
    · rw [fset_eq, pk_us, e2 8 (by decide), hJ, i1, nadd]
  unfold mX3_ends
  rw [if_pos hr, h8, show (8 : Int32) = nI 8 from rfl, ite_eq (by omega) (by decide)]
  by_cases q : u = 8
  · rw [if_pos q]
    obtain ⟨K1, a1, a2, a3⟩ := cp_shift (N := N) (r := r) 1302 N 0 K K (by omega) (by omega) (fun x hx => absurd hx (by omega)) (fun _ _ => rfl)
    obtain ⟨K', e1, e2, e3, e4, e5, e6⟩ := keep 7 (fset K1 8 0 (K1 8 0 - 1)) (by decide) (by rw [fset_eq, pk_us, a2 8 (by decide), h8, q]; decide +kernel)
    refine ⟨K', ?_, fun j h3 h8 => by rw [e2 j h3 h8, fset_ne h8, a2 j h3], fun i hi => by rw [e3 i hi, fset_eq, pk_un hi, a2 8 (by decide)], ?_, ?_, ?_⟩
    · refine Eq.trans a1 ?_
      unfold fX3_ends_73
      rw [ptF_n]
      exact e1
    · rw [e4, show min (u + 1) 8 = 7 + 1 by omega]
    · intro x hx
      rw [show min u 7 = 7 by omega, e5 x hx, fset_ne (by decide), a2 1 (by decide)]
    · intro y hy
      rw [show min u 7 = 7 by omega] at hy
      rw [if_pos q, e6 y hy, fset_ne (by decide), a3 y (by omega)]
  · rw [if_neg q]
    obtain ⟨K', e1, e2, e3, e4, e5, e6⟩ := keep u K (by omega) h8
    refine ⟨K', e1, e2, e3, ?_, ?_, ?_⟩
    · rw [e4, show min (u + 1) 8 = u + 1 by omega]
    · intro x hx
      rw [show min u 7 = u by omega]
      exact e5 x hx
    · intro y hy
      rw [show min u 7 = u by omega] at hy
      rw [if_neg q]
      exact e6 y hy
