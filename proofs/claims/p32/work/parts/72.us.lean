/-! ===== undo, save, restore ===== -/
theorem j_undo {N B : Nat} {A : AT} {O : OT} {M : KT} (hN : 1400 ≤ N) (hJ : JX B A O M) : ∃ r O' M', mX2_undo N O = some (r, O') ∧ mX3_undo N M = some (r, M') ∧ J B O' M' := by
  have hJ0 := hJ.toJ
  obtain ⟨h1, h2, h3, ⟨u, l, P, s, S0, a1, a2, a3, a4, a5, a6, a7, ⟨a8, a9, a10⟩, b1, b2, b3, b4⟩, h5, h6, h7, h8⟩ := hJ
  unfold mX2_undo fX2_undo_21 mX3_undo
  rw [a9, rdP_n a2, a10, b3, ite_z (by omega), ite_z (by omega)]
  by_cases hu : u = 0
  · rw [if_pos hu, if_pos hu]
    exact ⟨_, _, _, rfl, rfl, hJ0⟩
  rw [if_neg hu, if_neg hu, ptF_n, show nI u - 1 = nI (u - 1) from nsub (b := 1) (by omega)]
  have e8 : fset M 8 0 (nI (u - 1)) 8 0 = nI (u - 1) := by rw [fset_eq, pk_us]
  obtain ⟨M', m1, m2, m3⟩ := cp_undo (N := N) (u := u - 1) (by omega) 186 N 0 (fset M 8 0 (nI (u - 1))) (by omega) (by omega) e8 (fun x hx => absurd hx (by omega))
  have eO : O (4 + l) = pcK (P (u - 1)) := by
    have := a6 (u - 1) (by omega)
    rw [show rix l u (u - 1) = 4 + l by unfold rix; omega] at this
    exact this
  have el : (nI l + 8 - 1) - (nI l + 8 - 1) / 8 * 8 = nI ((l + 7) % 8) := by
    rw [show (8 : Int32) = nI 8 from rfl, nadd, show nI (l + 8) - 1 = nI (l + 7) from nsub (b := 1) (by omega), pk_rem (by omega) (by decide) (by decide)]
  have m3' : ∀ x, x < 186 → M' 0 x = pcM (P (u - 1)) x := fun x hx => by
    rw [m3 x hx, fset_ne (by decide)]
    exact b1 (u - 1) (by omega) x hx
  have mj : ∀ j, j ≠ 0 → j ≠ 8 → M' j = M j := fun j j0 j8 => by rw [m2 j j0, fset_ne j8]
  have m8 : ∀ i, i ≠ 0 → M' 8 i = M 8 i := fun i hi => by rw [m2 8 (by decide), fset_eq, pk_un hi]
  rw [inO_n, inO_n, inO_n]
  have n12 : oset O 0 (O (4 + l)) 12 = O 12 := oset_ne (by decide)
  have hS : (fset (O 12) 0 1 (nI ((l + 7) % 8))) 0 2 = nI u := by rw [fset_eq, pk_un (by decide), a10]
  simp only [oset_eq, n12, a9, el, hS]
  rw [show nI u - 1 = nI (u - 1) from nsub (b := 1) (by omega), fset_eq, pk_us]
  have ok : ∀ X Y k, k ≠ 0 → k ≠ 12 → oset (oset (oset O 0 (O (4 + l))) 12 X) 12 Y k = O k := fun X Y k k0 k12 => by rw [oset_ne k12, oset_ne k12, oset_ne k0]
  refine ⟨_, _, _, rfl, m1, P (u - 1), a4 (u - 1) (by omega), ?_, m3', ⟨u - 1, (l + 7) % 8, P, s, S0, by omega, by omega, a3, fun j hj => a4 j (by omega), a5, fun j hj => ?_, fun q => ?_, ⟨?_, ?_, ?_⟩, fun j hj x hx => ?_, fun q x hx => ?_, ?_, ?_⟩, ?_, ?_, ?_, ?_⟩
  · rw [oset_ne (by decide), oset_ne (by decide), oset_eq, eO]
  · rw [ok _ _ _ (by unfold rix; omega) (by unfold rix; omega), show rix ((l + 7) % 8) (u - 1) j = rix l u j by unfold rix; omega]
    exact a6 j (by omega)
  · rw [ok _ _ _ (by decide) (by decide)]; exact a7 q
  · rw [oset_eq, fset_eq, pk_un (by decide), fset_eq, pk_un (by decide)]; exact a8
  · rw [oset_eq, fset_eq, pk_un (by decide), fset_eq, pk_us]
  · rw [oset_eq, fset_eq, pk_us]
  · rw [mj 3 (by decide) (by decide)]; exact b1 j (by omega) x hx
  · rw [mj 4 (by decide) (by decide)]; exact b2 q x hx
  · rw [m2 8 (by decide), e8]
  · rw [m8 1 (by decide)]; exact b4
  · exact JF_congr h5 (fun i i1 i2 => by rw [oset_eq, fset_eq, pk_un (by omega), fset_eq, pk_un (by omega)]) (fun i i1 i2 => m8 i (by omega))
  · exact JT_congr h6 (ok _ _ _ (by decide) (by decide)) (mj 6 (by decide) (by decide)) (m8 3 (by decide))
  · exact JL_congr h7 (ok _ _ _ (by decide) (by decide)) (mj 5 (by decide) (by decide)) (m8 2 (by decide))
  · rw [oset_eq, fset_eq, pk_un (by decide), fset_eq, pk_un (by decide)]; exact h8
theorem j_save {N B : Nat} {A : AT} {O : OT} {M : KT} (hN : 1400 ≤ N) (hJ : JX B A O M) : ∃ r O' M', mX2_save N O = some (r, O') ∧ mX3_save N M = some (r, M') ∧ J B O' M' := by
  obtain ⟨h1, h2, h3, ⟨u, l, P, s, S0, a1, a2, a3, a4, a5, a6, a7, ⟨a8, a9, a10⟩, b1, b2, b3, b4⟩, h5, h6, h7, h8⟩ := hJ
  unfold mX2_save mX3_save
  obtain ⟨M', m1, m2, m3⟩ := cp_save (N := N) 186 N 0 (fset M 8 1 1) (by omega) (by omega) (fun x hx => absurd hx (by omega))
  have mj : ∀ j, j ≠ 4 → j ≠ 8 → M' j = M j := fun j j0 j8 => by rw [m2 j j0, fset_ne j8]
  have m8 : ∀ i, i ≠ 1 → M' 8 i = M 8 i := fun i hi => by rw [m2 8 (by decide), fset_eq, pk_un hi]
  have e0 : M' 0 = pcM A := by rw [mj 0 (by decide) (by decide), h3]
  have fin : fX3_save_32 N M' = some (nI (A 10 5), M') := by
    unfold fX3_save_32
    rw [show (5 : Int32) = nI 5 from rfl, rdA_n (by decide) (by decide), e0]
    rfl
  rw [ptF_n, show fX3_save_7 N N (fset M 8 1 1) 0 = _ from m1, fin, inO_n, inO_n]
  have n12 : oset O 3 (O 0) 12 = O 12 := oset_ne (by decide)
  have ok : ∀ X k, k ≠ 3 → k ≠ 12 → oset (oset O 3 (O 0)) 12 X k = O k := fun X k k3 k12 => by rw [oset_ne k12, oset_ne k3]
  rw [n12, ok _ 0 (by decide) (by decide), h2, pcK_at (by decide)]
  refine ⟨_, _, _, rfl, rfl, A, h1, ?_, fun x _ => by rw [e0], ⟨u, l, P, 1, A, a1, a2, by decide, a4, fun _ => h1, fun j hj => ?_, fun _ => ?_, ⟨?_, ?_, ?_⟩, fun j hj x hx => ?_, fun _ x hx => ?_, ?_, ?_⟩, ?_, ?_, ?_, ?_⟩
  · rw [oset_ne (by decide), oset_ne (by decide), h2]
  · rw [oset_ne (by unfold rix; omega), oset_ne (by unfold rix; omega)]; exact a6 j hj
  · rw [oset_ne (by decide), oset_eq]
  · rw [oset_eq, fset_eq, pk_us]; rfl
  · rw [oset_eq, fset_eq, pk_un (by decide)]; exact a9
  · rw [oset_eq, fset_eq, pk_un (by decide)]; exact a10
  · rw [mj 3 (by decide) (by decide)]; exact b1 j hj x hx
  · rw [m3 x hx, fset_ne (by decide), h3]
  · rw [m8 0 (by decide)]; exact b3
  · rw [m2 8 (by decide), fset_eq, pk_us]; rfl
  · exact JF_congr h5 (fun i i1 i2 => by rw [oset_eq, fset_eq, pk_un (by omega)]) (fun i i1 i2 => m8 i (by omega))
  · exact JT_congr h6 (by rw [oset_ne (by decide), oset_ne (by decide)]) (mj 6 (by decide) (by decide)) (m8 3 (by decide))
  · exact JL_congr h7 (by rw [oset_ne (by decide), oset_ne (by decide)]) (mj 5 (by decide) (by decide)) (m8 2 (by decide))
  · rw [oset_eq, fset_eq, pk_un (by decide)]; exact h8
theorem j_restore {N B : Nat} {A : AT} {O : OT} {M : KT} (hN : 1400 ≤ N) (hJ : JX B A O M) : ∃ r O' M', mX2_restore N O = some (r, O') ∧ mX3_restore N M = some (r, M') ∧ J B O' M' := by
  have hJ0 := hJ.toJ
  obtain ⟨h1, h2, h3, ⟨u, l, P, s, S0, a1, a2, a3, a4, a5, a6, a7, ⟨a8, a9, a10⟩, b1, b2, b3, b4⟩, h5, h6, h7, h8⟩ := hJ
  unfold mX2_restore mX3_restore
  rw [a8, b4, ite_z (by omega), ite_z (by omega)]
  by_cases hs : s = 0
  · rw [if_pos hs, if_pos hs]
    exact ⟨_, _, _, rfl, rfl, hJ0⟩
  have s1 : s = 1 := by omega
  rw [if_neg hs, if_neg hs]
  obtain ⟨M1, m1, m2, m3⟩ := cp_restore (N := N) 186 N 0 M (by omega) (by omega) (fun x hx => absurd hx (by omega))
  have e0 : ∀ x, x < 186 → M1 0 x = pcM S0 x := fun x hx => by rw [m3 x hx]; exact b2 s1 x hx
  have fin : fX3_restore_37 N M1 = some (nI (S0 10 5), fset M1 8 0 0) := by
    unfold fX3_restore_37
    rw [ptF_n, show (5 : Int32) = nI 5 from rfl, rdA_n (by decide) (by decide), fset_ne (by decide), e0 5 (by decide)]
    rfl
  have mj : ∀ j, j ≠ 0 → j ≠ 8 → fset M1 8 0 0 j = M j := fun j j0 j8 => by rw [fset_ne j8, m2 j j0]
  have m8 : ∀ i, i ≠ 0 → fset M1 8 0 0 8 i = M 8 i := fun i hi => by rw [fset_eq, pk_un hi, m2 8 (by decide)]
  rw [show fX3_restore_12 N N M 0 = _ from m1, fin, inO_n, inO_n]
  have n12 : oset O 0 (O 3) 12 = O 12 := oset_ne (by decide)
  have ok : ∀ X k, k ≠ 0 → k ≠ 12 → oset (oset O 0 (O 3)) 12 X k = O k := fun X k k3 k12 => by rw [oset_ne k12, oset_ne k3]
  have n0 : ∀ X, oset (oset O 0 (O 3)) 12 X 0 = pcK S0 := fun X => by rw [oset_ne (by decide), oset_eq, a7 s1]
  rw [n12, n0, pcK_at (by decide)]
  refine ⟨_, _, _, rfl, rfl, S0, a5 s1, n0 _, fun x hx => by rw [fset_ne (by decide)]; exact e0 x hx, ⟨0, l, P, s, S0, by omega, a2, a3, fun j hj => absurd hj (by omega), a5, fun j hj => absurd hj (by omega), fun q => ?_, ⟨?_, ?_, ?_⟩, fun j hj => absurd hj (by omega), fun q x hx => ?_, ?_, ?_⟩, ?_, ?_, ?_, ?_⟩
  · rw [ok _ 3 (by decide) (by decide)]; exact a7 q
  · rw [oset_eq, fset_eq, pk_un (by decide)]; exact a8
  · rw [oset_eq, fset_eq, pk_un (by decide)]; exact a9
  · rw [oset_eq, fset_eq, pk_us]; rfl
  · rw [mj 4 (by decide) (by decide)]; exact b2 q x hx
  · rw [fset_eq, pk_us]; rfl
  · rw [m8 1 (by decide)]; exact b4
  · exact JF_congr h5 (fun i i1 i2 => by rw [oset_eq, fset_eq, pk_un (by omega)]) (fun i i1 i2 => m8 i (by omega))
  · exact JT_congr h6 (ok _ _ (by decide) (by decide)) (mj 6 (by decide) (by decide)) (m8 3 (by decide))
  · exact JL_congr h7 (ok _ _ (by decide) (by decide)) (mj 5 (by decide) (by decide)) (m8 2 (by decide))
  · rw [oset_eq, fset_eq, pk_un (by decide)]; exact h8
