/-! ===== the text of commands: the reference ===== -/
def MOK (T : Nat → Nat) (a : Nat) (M : KT) (x y z : Nat) : Prop := M 8 5 = nI (T a) ∧ M 7 0 = nI x ∧ (T a = 119 → M 7 1 = nI y) ∧ (T a = 114 → M 7 1 = nI y ∧ M 7 2 = nI z)
def MR1 (T : Nat → Nat) (n a : Nat) (M : KT) (q : Option (Int32 × KT)) : Prop := ∃ M', q = some (nI (cmdR T n a).1, M') ∧ ME M M' ∧ TM T n M' (cmdR T n a).2.1 ∧ ((cmdR T n a).1 = 1 → MOK T a M' (cmdR T n a).2.2.1 (cmdR T n a).2.2.2.1 (cmdR T n a).2.2.2.2)
theorem r3_takesY {N n a c : Nat} {T : Nat → Nat} {M : KT} (h : TM T n M a) (q : a < n) (qc : T a = c) : mX3_takes N M (nI c) = some (1, fset M 8 4 (nI (a + 1))) := by
  obtain ⟨h1, h2, h3, h4, h5⟩ := h
  unfold mX3_takes
  rw [h4, h2, ite_eq (by omega) (by omega), if_neg (by omega), rdA_n (by omega) (by decide), (h3 a q).2, qc, if_pos rfl, ptF_n, show nI a + 1 = nI (a + 1) from nadd a 1]
theorem r3_takesN {N n a c : Nat} {T : Nat → Nat} {M : KT} (h : TM T n M a) (hc : c < 128) (q : ¬ (a < n ∧ T a = c)) : mX3_takes N M (nI c) = some (0, M) := by
  obtain ⟨h1, h2, h3, h4, h5⟩ := h
  unfold mX3_takes fX3_takes_24
  rw [h4, h2, ite_eq (by omega) (by omega)]
  by_cases w : a = n
  · rw [if_pos w]
  · have h6 := h3 a (by omega)
    rw [if_neg w, rdA_n (by omega) (by decide), h6.2, ite_eq (by omega) (by omega), if_neg (fun z => q ⟨by omega, z⟩)]
theorem r3_85 {N c : Nat} {M : KT} (hc : c < 100) : fX3_digits_85 N M (nI c) = some (nI (bN (0 < c)), M) := by
  unfold fX3_digits_85 fX3_digits_94
  by_cases q : c ≤ 0
  · rw [if_pos (show nI c ≤ 0 from nI_le (b := 0) q (by decide)), bN_f (by omega)]; exact gd_n (Or.inl rfl)
  · rw [if_neg (show ¬ nI c ≤ 0 from nI_nle (by omega) (by omega)), bN_t (by omega)]; exact gd_n (Or.inr rfl)
theorem r3_itY {N n a z k w c v : Nat} {T : Nat → Nat} {M : KT} (h : TM T n M a) (q : dg T n a) (hk : k < 3) (hcw : c < w) (hw : w < 100) (hv : M 7 k = nI v) : fX3_digits_9 N (z + 1) M (nI k) (nI w) (nI c) = fX3_digits_9 N z (fset (fset M 8 4 (nI (a + 1))) 7 k (nI (10 * v + (T a - 48)))) (nI k) (nI w) (nI (c + 1)) := by
  obtain ⟨h1, h2, h3, h4, h5⟩ := h
  have q1 := q.1
  have q2 := q.2
  have e4 : nI 10 * nI v + nI (T a) - 48 = nI (10 * v + (T a - 48)) := by
    rw [nmul, nadd, show (48 : Int32) = nI 48 from rfl, nsub (by omega)]
    congr 1
    omega
  conv => lhs; unfold fX3_digits_9
  rw [ite_le (by omega) (by omega), if_neg (by omega), h2, h4, ite_le (by omega) (by omega), if_neg (by omega), rdA_n (by omega) (by decide), (h3 a q1).2, show mX3_in N (nI (T a)) 48 57 = some (nI (bN ((48 : Int32) ≤ nI (T a) ∧ nI (T a) ≤ 57))) from r0_in, bN_t ⟨nI_le (a := 48) (by omega) (by omega), nI_le (b := 57) (by omega) (by decide)⟩, bdP_n, if_neg (show ¬ nI 1 = 0 by decide), rdA_n hk (by decide), hv, ptF_n, show nI a + 1 = nI (a + 1) from nadd a 1, rdA_n (by omega) (by decide), fset_ne (show (6 : Nat) ≠ 8 by decide), (h3 a q1).2, show (10 : Int32) = nI 10 from rfl, e4, wrA_n hk (by decide), show nI c + 1 = nI (c + 1) from nadd c 1]
theorem r3_itN {N n a z k w c : Nat} {T : Nat → Nat} {M : KT} (h : TM T n M a) (q : ¬ dg T n a ∨ w ≤ c) (hw : w < 100) (hc : c < 100) : fX3_digits_9 N (z + 1) M (nI k) (nI w) (nI c) = some (nI (bN (0 < c)), M) := by
  obtain ⟨h1, h2, h3, h4, h5⟩ := h
  unfold fX3_digits_9
  rw [ite_le (by omega) (by omega)]
  by_cases q1 : w ≤ c
  · rw [if_pos q1]; exact r3_85 hc
  · have q2 := q.resolve_right q1
    rw [if_neg q1, h2, h4, ite_le (by omega) (by omega)]
    by_cases q3 : n ≤ a
    · rw [if_pos q3]; exact r3_85 hc
    · have h6 := h3 a (by omega)
      rw [if_neg q3, rdA_n (by omega) (by decide), h6.2, show mX3_in N (nI (T a)) 48 57 = some (nI (bN ((48 : Int32) ≤ nI (T a) ∧ nI (T a) ≤ 57))) from r0_in, bN_f (fun z => by
        have z1 := (nI_leI (a := 48) (b := T a) (by omega) (by omega)).mp z.1
        have z2 := (nI_leI (a := T a) (b := 57) (by omega) (by omega)).mp z.2
        omega), bdP_n, if_pos (show nI 0 = 0 from rfl)]
      exact r3_85 hc
theorem TM_it {T : Nat → Nat} {n a k : Nat} {M : KT} {v : Int32} (h : TM T n M a) (hb : a + 1 ≤ n) : TM T n (fset (fset M 8 4 (nI (a + 1))) 7 k v) (a + 1) := TM_7 (TM_at h hb)
theorem r3_d1Y {N n a k : Nat} {T : Nat → Nat} {M : KT} (hN : 100 ≤ N) (hk : k < 3) (h : TM T n M a) (q : dg T n a) : ∃ M', mX3_digits N M (nI k) 1 = some (1, M') ∧ ME M M' ∧ TM T n M' (a + 1) ∧ M' 7 k = nI (T a - 48) ∧ (∀ j, j ≠ k → M' 7 j = M 7 j) ∧ M' 8 5 = M 8 5 := by
  obtain ⟨z, rfl⟩ : ∃ z, N = z + 3 := ⟨N - 3, by omega⟩
  have q1 := q.1
  have h1 : TM T n (fset M 7 k (nI 0)) a := TM_7 h
  have e1 := r3_itY (N := z + 3) (z := z + 2) (c := 0) (w := 1) h1 q hk (by decide) (by decide) (v := 0) (by rw [fset_eq, pk_us])
  have h2 := TM_it (k := k) (v := nI (10 * 0 + (T a - 48))) h1 (by omega)
  have e2 := r3_itN (N := z + 3) (z := z + 1) (k := k) (c := 1) (w := 1) h2 (Or.inr (by decide)) (by decide) (by decide)
  unfold mX3_digits
  rw [wrA_n hk (by decide)]
  refine ⟨_, e1.trans e2, ?_, h2, ?_, ?_, ?_⟩
  · exact ME_7.trans ((ME_8 (Or.inl rfl)).trans ME_7)
  · rw [fset_eq, pk_us, Nat.mul_zero, Nat.zero_add]
  · intro j hj
    rw [fset_eq, pk_un hj, fset_ne (by decide), fset_eq, pk_un hj]
  · rw [fset_ne (by decide), fset_eq, pk_un (by decide), fset_ne (by decide)]
theorem r3_dN {N n a k w : Nat} {T : Nat → Nat} {M : KT} (hN : 100 ≤ N) (hk : k < 3) (hw : 1 ≤ w ∧ w ≤ 2) (h : TM T n M a) (q : ¬ dg T n a) : ∃ M', mX3_digits N M (nI k) (nI w) = some (0, M') ∧ ME M M' ∧ TM T n M' a := by
  obtain ⟨z, rfl⟩ : ∃ z, N = z + 3 := ⟨N - 3, by omega⟩
  have h1 : TM T n (fset M 7 k (nI 0)) a := TM_7 h
  have e1 := r3_itN (N := z + 3) (z := z + 2) (k := k) (c := 0) (w := w) h1 (Or.inl q) (by omega) (by decide)
  unfold mX3_digits
  rw [wrA_n hk (by decide)]
  exact ⟨_, e1, ME_7, h1⟩
theorem r3_d2Y {N n a : Nat} {T : Nat → Nat} {M : KT} (hN : 100 ≤ N) (h : TM T n M a) (q : dg T n a) (q2 : dg T n (a + 1)) : ∃ M', mX3_digits N M 0 2 = some (1, M') ∧ ME M M' ∧ TM T n M' (a + 2) ∧ M' 7 0 = nI (10 * (T a - 48) + (T (a + 1) - 48)) ∧ M' 8 5 = M 8 5 := by
  obtain ⟨z, rfl⟩ : ∃ z, N = z + 3 := ⟨N - 3, by omega⟩
  have q21 := q2.1
  have h1 : TM T n (fset M 7 0 (nI 0)) a := TM_7 h
  have e1 := r3_itY (N := z + 3) (z := z + 2) (k := 0) (c := 0) (w := 2) h1 q (by decide) (by decide) (by decide) (v := 0) (by rw [fset_eq, pk_us])
  have h2 := TM_it (k := 0) (v := nI (10 * 0 + (T a - 48))) h1 (by omega)
  have e2 := r3_itY (N := z + 3) (z := z + 1) (k := 0) (c := 1) (w := 2) h2 q2 (by decide) (by decide) (by decide) (v := T a - 48) (by rw [fset_eq, pk_us, Nat.mul_zero, Nat.zero_add])
  have h3 := TM_it (k := 0) (v := nI (10 * (T a - 48) + (T (a + 1) - 48))) h2 (by omega)
  have e3 := r3_itN (N := z + 3) (z := z) (k := 0) (c := 2) (w := 2) h3 (Or.inr (by decide)) (by decide) (by decide)
  unfold mX3_digits
  rw [show (0 : Int32) = nI 0 from rfl, wrA_n (by decide) (by decide)]
  refine ⟨_, (e1.trans e2).trans e3, ?_, h3, ?_, ?_⟩
  · exact (ME_7.trans ((ME_8 (Or.inl rfl)).trans ME_7)).trans ((ME_8 (Or.inl rfl)).trans ME_7)
  · rw [fset_eq, pk_us]
  · rw [fset_ne (by decide), fset_eq, pk_un (by decide), fset_ne (by decide), fset_eq, pk_un (by decide), fset_ne (by decide)]
theorem r3_d2O {N n a : Nat} {T : Nat → Nat} {M : KT} (hN : 100 ≤ N) (h : TM T n M a) (q : dg T n a) (q2 : ¬ dg T n (a + 1)) : ∃ M', mX3_digits N M 0 2 = some (1, M') ∧ ME M M' ∧ TM T n M' (a + 1) ∧ M' 7 0 = nI (T a - 48) ∧ M' 8 5 = M 8 5 := by
  obtain ⟨z, rfl⟩ : ∃ z, N = z + 3 := ⟨N - 3, by omega⟩
  have q1 := q.1
  have h1 : TM T n (fset M 7 0 (nI 0)) a := TM_7 h
  have e1 := r3_itY (N := z + 3) (z := z + 2) (k := 0) (c := 0) (w := 2) h1 q (by decide) (by decide) (by decide) (v := 0) (by rw [fset_eq, pk_us])
  have h2 := TM_it (k := 0) (v := nI (10 * 0 + (T a - 48))) h1 (by omega)
  have e2 := r3_itN (N := z + 3) (z := z + 1) (k := 0) (c := 1) (w := 2) h2 (Or.inl q2) (by decide) (by decide)
  unfold mX3_digits
  rw [show (0 : Int32) = nI 0 from rfl, wrA_n (by decide) (by decide)]
  refine ⟨_, e1.trans e2, ?_, h2, ?_, ?_⟩
  · exact ME_7.trans ((ME_8 (Or.inl rfl)).trans ME_7)
  · rw [fset_eq, pk_us, Nat.mul_zero, Nat.zero_add]
  · rw [fset_ne (by decide), fset_eq, pk_un (by decide), fset_ne (by decide)]
theorem r3_136 {N n a : Nat} {T : Nat → Nat} {M : KT} (hN : 100 ≤ N) (h : TM T n M a) (ha : a < n) (hk : T a = 100 ∨ T a = 107 ∨ T a = 109 ∨ T a = 122) : MR1 T n a M (fX3_isCommand_136 N (fset M 8 5 (nI (T a)))) := by
  have h1 : TM T n (fset (fset M 8 5 (nI (T a))) 8 4 (nI (a + 1))) (a + 1) := TM_at (TM_5 h) (by omega)
  have k1 : ME M (fset (fset M 8 5 (nI (T a))) 8 4 (nI (a + 1))) := (ME_8 (Or.inr rfl)).trans (ME_8 (Or.inl rfl))
  have e1 : fset M 8 5 (nI (T a)) 8 4 + 1 = nI (a + 1) := by
    rw [fset_eq, pk_un (by decide), h.2.2.2.1]
    exact nadd a 1
  unfold MR1 fX3_isCommand_136 cmdR
  rw [ptF_n, e1, if_pos ha, if_pos hk]
  by_cases q : dg T n (a + 1)
  · obtain ⟨M', g1, g2, g3, g4, g5, g6⟩ := r3_d1Y (k := 0) hN (by decide) h1 q
    rw [if_pos q, show mX3_digits N (fset (fset M 8 5 (nI (T a))) 8 4 (nI (a + 1))) 0 1 = _ from g1, bdE_n]
    refine ⟨M', gd_n (Or.inr rfl), k1.trans g2, g3, fun _ => ⟨?_, g4, fun w => absurd w (by omega), fun w => absurd w (by omega)⟩⟩
    rw [g6, fset_eq, pk_un (by decide), fset_eq, pk_us]
  · obtain ⟨M', g1, g2, g3⟩ := r3_dN (k := 0) (w := 1) hN (by decide) (by decide) h1 q
    rw [if_neg q, show mX3_digits N (fset (fset M 8 5 (nI (T a))) 8 4 (nI (a + 1))) 0 1 = _ from g1, bdE_n]
    exact ⟨M', gd_n (Or.inl rfl), k1.trans g2, g3, fun w => absurd (show (0 : Nat) = 1 from w) (by decide)⟩
theorem chr_small {t : Nat} (h : t < 128) : chr (nI t) := ⟨nI_pos' (by omega), nI_le (b := 65535) (by omega) (by decide)⟩
theorem r3_cmd {N n a : Nat} {T : Nat → Nat} {M : KT} (hN : 100 ≤ N) (h : TM T n M a) : MR1 T n a M (mX3_isCommand N M) := by
  unfold mX3_isCommand
  have hh := h
  obtain ⟨hn, h2, h3, h4, h5⟩ := hh
  rw [h4, h2, ite_eq (by omega) (by omega)]
  by_cases han : a = n
  · have ec : cmdR T n a = (0, a, 0, 0, 0) := by
      unfold cmdR
      rw [if_neg (by omega)]
    rw [if_pos han]
    unfold MR1
    rw [ec]
    exact ⟨M, rfl, ⟨fun _ _ _ => rfl, fun _ _ _ => rfl⟩, h, fun w => absurd (show (0 : Nat) = 1 from w) (by decide)⟩
  have ha : a < n := by omega
  obtain ⟨hr, hv⟩ := h3 a ha
  rw [if_neg han, rdA_n (by omega) (by decide), hv, gd_n (chr_small (by omega)), ptF_n]
  have e5 : fset M 8 5 (nI (T a)) 8 5 = nI (T a) := by rw [fset_eq, pk_us]
  have e4 : fset M 8 5 (nI (T a)) 8 4 = nI a := by rw [fset_eq, pk_un (by decide), h4]
  have h1 : TM T n (fset (fset M 8 5 (nI (T a))) 8 4 (nI (a + 1))) (a + 1) := TM_at (TM_5 h) (by omega)
  have k1 : ME M (fset (fset M 8 5 (nI (T a))) 8 4 (nI (a + 1))) := (ME_8 (Or.inr rfl)).trans (ME_8 (Or.inl rfl))
  have m5 : fset (fset M 8 5 (nI (T a))) 8 4 (nI (a + 1)) 8 5 = nI (T a) := by rw [fset_eq, pk_un (by decide), e5]
  rw [e5]
  by_cases t100 : T a = 100
  · have e := r3_136 (N := N) hN h ha (by omega)
    rw [t100] at e ⊢
    rw [if_pos (show nI 100 = 100 from rfl)]
    exact e
  by_cases t107 : T a = 107
  · have e := r3_136 (N := N) hN h ha (by omega)
    rw [t107] at e ⊢
    rw [if_neg (by decide), if_neg (by decide), if_neg (by decide), if_neg (by decide), if_neg (by decide), if_neg (by decide), if_neg (by decide), if_pos (show nI 107 = 107 from rfl)]
    exact e
  by_cases t109 : T a = 109
  · have e := r3_136 (N := N) hN h ha (by omega)
    rw [t109] at e ⊢
    rw [if_neg (by decide), if_neg (by decide), if_neg (by decide), if_neg (by decide), if_neg (by decide), if_neg (by decide), if_neg (by decide), if_neg (by decide), if_neg (by decide), if_pos (show nI 109 = 109 from rfl)]
    exact e
  by_cases t122 : T a = 122
  · have e := r3_136 (N := N) hN h ha (by omega)
    rw [t122] at e ⊢
    rw [if_neg (by decide), if_neg (by decide), if_neg (by decide), if_neg (by decide), if_neg (by decide), if_neg (by decide), if_neg (by decide), if_neg (by decide), if_neg (by decide), if_neg (by decide), if_neg (by decide), if_neg (by decide), if_neg (by decide), if_neg (by decide), if_neg (by decide), if_neg (by decide), if_neg (by decide), if_neg (by decide), if_neg (by decide), if_neg (by decide), if_neg (by decide), if_neg (by decide), if_pos (show nI 122 = 122 from rfl)]
    exact e
  by_cases t119 : T a = 119
  · have ec : cmdR T n a = (if dg T n (a + 1) then (if lt T n (a + 2) then (1, a + 3, T (a + 1) - 48, T (a + 2) - 97, 0) else (0, a + 2, 0, 0, 0)) else (0, a + 1, 0, 0, 0)) := by
      unfold cmdR
      rw [if_pos ha, if_neg (by omega), if_pos t119]
    rw [t119] at h1 k1 e4 m5 ⊢
    rw [if_neg (by decide), if_neg (by decide), if_neg (by decide), if_neg (by decide), if_neg (by decide), if_neg (by decide), if_neg (by decide), if_neg (by decide), if_neg (by decide), if_neg (by decide), if_neg (by decide), if_neg (by decide), if_neg (by decide), if_neg (by decide), if_neg (by decide), if_neg (by decide), if_neg (by decide), if_neg (by decide), if_neg (by decide), if_pos (show nI 119 = 119 from rfl), ptF_n, e4, show nI a + 1 = nI (a + 1) from nadd a 1]
    unfold MR1
    rw [ec]
    by_cases q : dg T n (a + 1)
    · obtain ⟨M2, g1, g2, g3, g4, g5, g6⟩ := r3_d1Y (k := 0) hN (by decide) h1 q
      have q1 := q.1
      rw [if_pos q, show mX3_digits N (fset (fset M 8 5 (nI 119)) 8 4 (nI (a + 1))) 0 1 = _ from g1, bdE_n, if_neg (show ¬ (1 : Int32) = 0 by decide), g3.2.2.2.1, g3.2.1, ite_eq (by omega) (by omega)]
      unfold fX3_isCommand_202
      by_cases w : a + 1 + 1 = n
      · rw [if_pos w, if_neg (fun z => by have := z.1; omega)]
        exact ⟨_, rfl, k1.trans g2, g3, fun w => absurd (show (0 : Nat) = 1 from w) (by decide)⟩
      · have h6 := g3.2.2.1 (a + 2) (by omega)
        rw [if_neg w, rdA_n (by omega) (by decide), h6.2, show mX3_in N (nI (T (a + 2))) 97 100 = some (nI (bN ((97 : Int32) ≤ nI (T (a + 2)) ∧ nI (T (a + 2)) ≤ 100))) from r0_in, bdP_n]
        by_cases q2 : lt T n (a + 2)
        · have q22 := q2.2
          rw [if_pos q2, bN_t ⟨nI_le (a := 97) (by omega) (by omega), nI_le (b := 100) (by omega) (by decide)⟩, if_neg (show ¬ nI 1 = 0 by decide), ptF_n, show nI (a + 1 + 1) + 1 = nI (a + 3) from nadd (a + 2) 1, rdA_n (by omega) (by decide), fset_ne (by decide), h6.2, show (97 : Int32) = nI 97 from rfl, nsub q22.1, show wrA (fset M2 8 4 (nI (a + 3))) 7 3 1 (nI (T (a + 2) - 97)) (fun K64 => some ((1 : Int32), K64)) = _ from wrA_n (i := 1) (by decide) (by decide)]
          refine ⟨_, rfl, (k1.trans g2).trans ((ME_8 (Or.inl rfl)).trans ME_7), TM_7 (TM_at g3 (by omega)), fun _ => ⟨?_, ?_, fun _ => ?_, fun z => absurd z (by omega)⟩⟩
          · rw [fset_ne (by decide), fset_eq, pk_un (by decide), g6, m5, t119]
          · rw [fset_eq, pk_un (by decide), fset_ne (by decide)]; exact g4
          · rw [fset_eq]; exact pk_us
        · rw [if_neg q2, bN_f (fun z => q2 ⟨by omega, by
            have z1 := (nI_leI (a := 97) (b := T (a + 2)) (by omega) (by omega)).mp z.1
            have z2 := (nI_leI (a := T (a + 2)) (b := 100) (by omega) (by omega)).mp z.2
            omega⟩), if_pos (show nI 0 = 0 from rfl)]
          exact ⟨_, rfl, k1.trans g2, g3, fun w => absurd (show (0 : Nat) = 1 from w) (by decide)⟩
    · obtain ⟨M2, g1, g2, g3⟩ := r3_dN (k := 0) (w := 1) hN (by decide) (by decide) h1 q
      rw [if_neg q, show mX3_digits N (fset (fset M 8 5 (nI 119)) 8 4 (nI (a + 1))) 0 1 = _ from g1, bdE_n, if_pos (show (0 : Int32) = 0 from rfl)]
      unfold fX3_isCommand_202
      exact ⟨_, rfl, k1.trans g2, g3, fun w => absurd (show (0 : Nat) = 1 from w) (by decide)⟩
  by_cases t112 : T a = 112
  · have ec : cmdR T n a = (if dg T n (a + 1) then (if dg T n (a + 2) then (1, a + 3, 10 * (T (a + 1) - 48) + (T (a + 2) - 48), 0, 0) else (1, a + 2, T (a + 1) - 48, 0, 0)) else (0, a + 1, 0, 0, 0)) := by
      unfold cmdR
      rw [if_pos ha, if_neg (by omega), if_neg t119, if_neg (by omega), if_pos t112]
    rw [t112] at h1 k1 e4 m5 ⊢
    rw [if_neg (by decide), if_neg (by decide), if_neg (by decide), if_neg (by decide), if_neg (by decide), if_neg (by decide), if_neg (by decide), if_neg (by decide), if_neg (by decide), if_neg (by decide), if_neg (by decide), if_neg (by decide), if_pos (show nI 112 = 112 from rfl), ptF_n, e4, show nI a + 1 = nI (a + 1) from nadd a 1]
    unfold MR1
    rw [ec]
    by_cases q : dg T n (a + 1)
    · rw [if_pos q]
      by_cases q2 : dg T n (a + 2)
      · obtain ⟨M2, g1, g2, g3, g4, g6⟩ := r3_d2Y hN h1 q q2
        rw [if_pos q2, g1, bdE_n]
        exact ⟨_, gd_n (Or.inr rfl), k1.trans g2, g3, fun _ => ⟨by rw [g6, m5, t112], g4, fun z => absurd z (by omega), fun z => absurd z (by omega)⟩⟩
      · obtain ⟨M2, g1, g2, g3, g4, g6⟩ := r3_d2O hN h1 q q2
        rw [if_neg q2, g1, bdE_n]
        exact ⟨_, gd_n (Or.inr rfl), k1.trans g2, g3, fun _ => ⟨by rw [g6, m5, t112], g4, fun z => absurd z (by omega), fun z => absurd z (by omega)⟩⟩
    · obtain ⟨M2, g1, g2, g3⟩ := r3_dN (k := 0) (w := 2) hN (by decide) (by decide) h1 q
      rw [if_neg q, show mX3_digits N (fset (fset M 8 5 (nI 112)) 8 4 (nI (a + 1))) 0 2 = _ from g1, bdE_n]
      exact ⟨_, gd_n (Or.inl rfl), k1.trans g2, g3, fun w => absurd (show (0 : Nat) = 1 from w) (by decide)⟩
  by_cases t114 : T a = 114
  · have ec : cmdR T n a = (if dg T n (a + 1) then (if dg T n (a + 2) then (if pm T n (a + 3) then (1, a + 4, T (a + 1) - 48, T (a + 2) - 48, if T (a + 3) = 43 then 1 else 0) else (0, a + 3, 0, 0, 0)) else (0, a + 2, 0, 0, 0)) else (0, a + 1, 0, 0, 0)) := by
      unfold cmdR
      rw [if_pos ha, if_neg (by omega), if_neg t119, if_pos t114]
    rw [t114] at h1 k1 e4 m5 ⊢
    rw [if_neg (by decide), if_neg (by decide), if_neg (by decide), if_neg (by decide), if_neg (by decide), if_neg (by decide), if_neg (by decide), if_neg (by decide), if_neg (by decide), if_neg (by decide), if_neg (by decide), if_neg (by decide), if_neg (by decide), if_neg (by decide), if_pos (show nI 114 = 114 from rfl), ptF_n, e4, show nI a + 1 = nI (a + 1) from nadd a 1]
    unfold MR1
    rw [ec]
    by_cases q : dg T n (a + 1)
    · obtain ⟨M2, g1, g2, g3, g4, g5, g6⟩ := r3_d1Y (k := 0) hN (by decide) h1 q
      rw [if_pos q, show mX3_digits N (fset (fset M 8 5 (nI 114)) 8 4 (nI (a + 1))) 0 1 = _ from g1, bdE_n, if_neg (show ¬ (1 : Int32) = 0 by decide)]
      unfold fX3_isCommand_298
      by_cases q2 : dg T n (a + 2)
      · obtain ⟨M3, s1, s2, s3, s4, s5, s6⟩ := r3_d1Y (k := 1) hN (by decide) g3 q2
        have q21 := q2.1
        rw [if_pos q2, show mX3_digits N M2 1 1 = _ from s1, bdE_n, if_neg (show ¬ (1 : Int32) = 0 by decide), s3.2.2.2.1, s3.2.1, ite_eq (by omega) (by omega)]
        have k3 := (k1.trans g2).trans s2
        have s70 : M3 7 0 = nI (T (a + 1) - 48) := by rw [s5 0 (by decide), g4]
        have s85 : M3 8 5 = nI (T a) := by rw [s6, g6, m5, t114]
        by_cases w : a + 1 + 1 + 1 = n
        · rw [if_pos w, if_neg (fun z => by have := z.1; omega)]
          exact ⟨_, rfl, k3, s3, fun w => absurd (show (0 : Nat) = 1 from w) (by decide)⟩
        · have h6 := s3.2.2.1 (a + 3) (by omega)
          have p4 : nI (a + 1 + 1 + 1) + 1 = nI (a + 4) := nadd (a + 3) 1
          have fin : pm T n (a + 3) → ∃ M', fX3_isCommand_300 N M3 = some (1, M') ∧ ME M M' ∧ TM T n M' (a + 4) ∧ MOK T a M' (T (a + 1) - 48) (T (a + 2) - 48) (if T (a + 3) = 43 then 1 else 0) := by
            intro q3
            unfold fX3_isCommand_300 fX3_isCommand_331
            rw [s3.2.2.2.1, p4, ptF_n, rdA_n (by omega) (by decide), fset_ne (by decide), h6.2, show (43 : Int32) = nI 43 from rfl, ite_eq (by omega) (by decide), show (2 : Int32) = nI 2 from rfl, wrA_n (by decide) (by decide), wrA_n (by decide) (by decide)]
            have good : ∀ (x : Int32), x = nI (if T (a + 3) = 43 then 1 else 0) → ME M (fset (fset M3 8 4 (nI (a + 4))) 7 2 x) ∧ TM T n (fset (fset M3 8 4 (nI (a + 4))) 7 2 x) (a + 4) ∧ MOK T a (fset (fset M3 8 4 (nI (a + 4))) 7 2 x) (T (a + 1) - 48) (T (a + 2) - 48) (if T (a + 3) = 43 then 1 else 0) := by
              intro x hx
              refine ⟨k3.trans ((ME_8 (Or.inl rfl)).trans ME_7), TM_7 (TM_at s3 (by omega)), ?_, ?_, fun z => absurd z (by omega), fun _ => ⟨?_, ?_⟩⟩
              · rw [fset_ne (by decide), fset_eq, pk_un (by decide), s85]
              · rw [fset_eq, pk_un (by decide), fset_ne (by decide), s70]
              · rw [fset_eq, pk_un (by decide), fset_ne (by decide), s4]
              · rw [fset_eq, pk_us, hx]
            by_cases c43 : T (a + 3) = 43
            · obtain ⟨y1, y2, y3⟩ := good 1 (by rw [if_pos c43]; rfl)
              rw [if_pos c43]
              exact ⟨_, rfl, y1, y2, y3⟩
            · obtain ⟨y1, y2, y3⟩ := good 0 (by rw [if_neg c43]; rfl)
              rw [if_neg c43]
              exact ⟨_, rfl, y1, y2, y3⟩
          rw [if_neg w, rdA_n (by omega) (by decide), h6.2, rdA_n (by omega) (by decide), h6.2, show (43 : Int32) = nI 43 from rfl, ite_eq (by omega) (by decide), show (45 : Int32) = nI 45 from rfl, ite_eq (by omega) (by decide)]
          by_cases q3 : pm T n (a + 3)
          · obtain ⟨M', y1, y2, y3, y4⟩ := fin q3
            rw [if_pos q3]
            by_cases c43 : T (a + 1 + 1 + 1) = 43
            · rw [if_pos c43]
              exact ⟨M', y1, y2, y3, fun _ => y4⟩
            · rw [if_neg c43, if_pos (q3.2.resolve_left c43)]
              exact ⟨M', y1, y2, y3, fun _ => y4⟩
          · rw [if_neg q3, if_neg (fun z => q3 ⟨by omega, Or.inl z⟩), if_neg (fun z => q3 ⟨by omega, Or.inr z⟩)]
            exact ⟨_, rfl, k3, s3, fun w => absurd (show (0 : Nat) = 1 from w) (by decide)⟩
      · obtain ⟨M3, s1, s2, s3⟩ := r3_dN (k := 1) (w := 1) hN (by decide) (by decide) g3 q2
        rw [if_neg q2, show mX3_digits N M2 1 1 = _ from s1, bdE_n, if_pos (show (0 : Int32) = 0 from rfl)]
        exact ⟨_, rfl, (k1.trans g2).trans s2, s3, fun w => absurd (show (0 : Nat) = 1 from w) (by decide)⟩
    · obtain ⟨M2, g1, g2, g3⟩ := r3_dN (k := 0) (w := 1) hN (by decide) (by decide) h1 q
      rw [if_neg q, show mX3_digits N (fset (fset M 8 5 (nI 114)) 8 4 (nI (a + 1))) 0 1 = _ from g1, bdE_n, if_pos (show (0 : Int32) = 0 from rfl)]
      unfold fX3_isCommand_298
      exact ⟨_, rfl, k1.trans g2, g3, fun w => absurd (show (0 : Nat) = 1 from w) (by decide)⟩
  have ec : cmdR T n a = (0, a, 0, 0, 0) := by
    unfold cmdR
    rw [if_pos ha, if_neg (by omega), if_neg t119, if_neg t114, if_neg t112]
  have hX : MR1 T n a M (fX3_isCommand_351 N (fset M 8 5 (nI (T a)))) := by
    unfold MR1 fX3_isCommand_351
    rw [ec]
    exact ⟨_, rfl, ME_8 (Or.inr rfl), TM_5 h, fun w => absurd (show (0 : Nat) = 1 from w) (by decide)⟩
  rw [if_neg (show ¬ nI (T a) = 100 from fun z => t100 ((nI_eq (b := 100) (by omega) (by decide)).mp z))]
  by_cases w101 : nI (T a) = 101
  · rw [if_pos w101]; exact hX
  rw [if_neg w101]
  by_cases w102 : nI (T a) = 102
  · rw [if_pos w102]; exact hX
  rw [if_neg w102]
  by_cases w103 : nI (T a) = 103
  · rw [if_pos w103]; exact hX
  rw [if_neg w103]
  by_cases w104 : nI (T a) = 104
  · rw [if_pos w104]; exact hX
  rw [if_neg w104]
  by_cases w105 : nI (T a) = 105
  · rw [if_pos w105]; exact hX
  rw [if_neg w105]
  by_cases w106 : nI (T a) = 106
  · rw [if_pos w106]; exact hX
  rw [if_neg w106]
  rw [if_neg (show ¬ nI (T a) = 107 from fun z => t107 ((nI_eq (b := 107) (by omega) (by decide)).mp z))]
  by_cases w108 : nI (T a) = 108
  · rw [if_pos w108]; exact hX
  rw [if_neg w108]
  rw [if_neg (show ¬ nI (T a) = 109 from fun z => t109 ((nI_eq (b := 109) (by omega) (by decide)).mp z))]
  by_cases w110 : nI (T a) = 110
  · rw [if_pos w110]; exact hX
  rw [if_neg w110]
  by_cases w111 : nI (T a) = 111
  · rw [if_pos w111]; exact hX
  rw [if_neg w111]
  rw [if_neg (show ¬ nI (T a) = 112 from fun z => t112 ((nI_eq (b := 112) (by omega) (by decide)).mp z))]
  by_cases w113 : nI (T a) = 113
  · rw [if_pos w113]; exact hX
  rw [if_neg w113]
  rw [if_neg (show ¬ nI (T a) = 114 from fun z => t114 ((nI_eq (b := 114) (by omega) (by decide)).mp z))]
  by_cases w115 : nI (T a) = 115
  · rw [if_pos w115]; exact hX
  rw [if_neg w115]
  by_cases w116 : nI (T a) = 116
  · rw [if_pos w116]; exact hX
  rw [if_neg w116]
  by_cases w117 : nI (T a) = 117
  · rw [if_pos w117]; exact hX
  rw [if_neg w117]
  by_cases w118 : nI (T a) = 118
  · rw [if_pos w118]; exact hX
  rw [if_neg w118]
  rw [if_neg (show ¬ nI (T a) = 119 from fun z => t119 ((nI_eq (b := 119) (by omega) (by decide)).mp z))]
  by_cases w120 : nI (T a) = 120
  · rw [if_pos w120]; exact hX
  rw [if_neg w120]
  by_cases w121 : nI (T a) = 121
  · rw [if_pos w121]; exact hX
  rw [if_neg w121]
  rw [if_neg (show ¬ nI (T a) = 122 from fun z => t122 ((nI_eq (b := 122) (by omega) (by decide)).mp z))]
  exact hX
