/-! ===== what the class and the reference have in common between two calls ===== -/
def rix (l u j : Nat) : Nat := 4 + (l + 8 - (u - 1 - j)) % 8
def JP (B u l : Nat) (P : Nat → AT) (s : Nat) (S0 : AT) (O : OT) (M : KT) : Prop :=
  u ≤ 8 ∧ l < 8 ∧ s ≤ 1 ∧ (∀ j, j < u → St B (P j)) ∧ (s = 1 → St B S0) ∧ (∀ j, j < u → O (rix l u j) = pcK (P j)) ∧ (s = 1 → O 3 = pcK S0) ∧ (O 12 0 0 = nI s ∧ O 12 0 1 = nI l ∧ O 12 0 2 = nI u) ∧ (∀ j, j < u → ∀ x, x < 186 → M 3 (186 * j + x) = pcM (P j) x) ∧ (s = 1 → ∀ x, x < 186 → M 4 x = pcM S0 x) ∧ M 8 0 = nI u ∧ M 8 1 = nI s
def JQ (B : Nat) (O : OT) (M : KT) : Prop := ∃ u l P s S0, JP B u l P s S0 O M
def JF (O : OT) (M : KT) : Prop := (M 8 6 = 0 ∧ O 12 0 4 = -4 ∧ O 12 0 5 = -4 ∧ O 12 0 6 = -4) ∨ (M 8 6 ≠ 0 ∧ O 12 0 4 = M 8 6 ∧ O 12 0 5 = M 8 7 ∧ O 12 0 6 = M 8 8)
def JT (O : OT) (M : KT) : Prop := ∃ (n : Nat) (T : Nat → Nat), n ≤ 70 ∧ (O 13 1 0 = nI n ∧ M 8 3 = nI n) ∧ ∀ i, i < n → (32 ≤ T i ∧ T i ≤ 126) ∧ O 13 0 i = nI (T i) ∧ M 6 i = nI (T i)
def JL (O : OT) (M : KT) : Prop := ∃ (n : Nat) (T : Nat → Nat), n ≤ 150 ∧ (O 14 1 0 = nI n ∧ M 8 2 = nI n) ∧ ∀ i, i < n → (32 ≤ T i ∧ T i ≤ 126) ∧ O 14 0 i = nI (T i) ∧ M 5 i = nI (T i)
/-- all of it; the reference's row of now is the picture itself -/
def JX (B : Nat) (A : AT) (O : OT) (M : KT) : Prop := St B A ∧ O 0 = pcK A ∧ M 0 = pcM A ∧ JQ B O M ∧ JF O M ∧ JT O M ∧ JL O M ∧ O 12 0 3 = -4
/-- all of it, the reference's row of now as far as it goes -/
def J (B : Nat) (O : OT) (M : KT) : Prop := ∃ A, St B A ∧ O 0 = pcK A ∧ (∀ x, x < 186 → M 0 x = pcM A x) ∧ JQ B O M ∧ JF O M ∧ JT O M ∧ JL O M ∧ O 12 0 3 = -4
theorem JQ_congr {B C : Nat} {O O' : OT} {M M' : KT} (h : JQ B O M) (hC : B ≤ C) (o : ∀ k, 3 ≤ k → k < 12 → O' k = O k) (o2 : ∀ i, i < 3 → O' 12 0 i = O 12 0 i) (m3 : ∀ x, x < 1488 → M' 3 x = M 3 x) (m4 : M' 4 = M 4) (m8 : ∀ i, i < 2 → M' 8 i = M 8 i) : JQ C O' M' := by
  obtain ⟨u, l, P, s, S0, a1, a2, a3, a4, a5, a6, a7, ⟨a8, a9, a10⟩, b1, b2, b3, b4⟩ := h
  refine ⟨u, l, P, s, S0, a1, a2, a3, fun j hj => (a4 j hj).mono hC, fun q => (a5 q).mono hC, fun j hj => ?_, fun q => ?_, ⟨?_, ?_, ?_⟩, fun j hj x hx => ?_, fun q x hx => ?_, ?_, ?_⟩
  · rw [o _ (by unfold rix; omega) (by unfold rix; omega)]; exact a6 j hj
  · rw [o 3 (by decide) (by decide)]; exact a7 q
  · rw [o2 0 (by decide)]; exact a8
  · rw [o2 1 (by decide)]; exact a9
  · rw [o2 2 (by decide)]; exact a10
  · rw [m3 _ (by omega)]; exact b1 j hj x hx
  · rw [m4]; exact b2 q x hx
  · rw [m8 0 (by decide)]; exact b3
  · rw [m8 1 (by decide)]; exact b4
theorem JF_congr {O O' : OT} {M M' : KT} (h : JF O M) (o : ∀ i, 4 ≤ i → i < 7 → O' 12 0 i = O 12 0 i) (m : ∀ i, 6 ≤ i → i < 9 → M' 8 i = M 8 i) : JF O' M' := by
  unfold JF
  rw [o 4 (by decide) (by decide), o 5 (by decide) (by decide), o 6 (by decide) (by decide), m 6 (by decide) (by decide), m 7 (by decide) (by decide), m 8 (by decide) (by decide)]
  exact h
theorem JT_congr {O O' : OT} {M M' : KT} (h : JT O M) (o : O' 13 = O 13) (m6 : M' 6 = M 6) (m8 : M' 8 3 = M 8 3) : JT O' M' := by
  unfold JT
  rw [o, m6, m8]
  exact h
theorem JL_congr {O O' : OT} {M M' : KT} (h : JL O M) (o : O' 14 = O 14) (m5 : M' 5 = M 5) (m8 : M' 8 2 = M 8 2) : JL O' M' := by
  unfold JL
  rw [o, m5, m8]
  exact h
theorem J_exact {B : Nat} {O : OT} {M : KT} (h : J B O M) : ∃ A, JX B A O (rm M A) ∧ ∀ x, x < 186 → M 0 x = pcM A x := by
  obtain ⟨A, h1, h2, h3, h4, h5, h6, h7, h8⟩ := h
  refine ⟨A, ⟨h1, h2, rm_0 _ _, JQ_congr h4 (Nat.le_refl _) (fun _ _ _ => rfl) (fun _ _ => rfl) (fun _ _ => by rw [rm_j (by decide)]) (rm_j (by decide)) (fun _ _ => by rw [rm_j (by decide)]), JF_congr h5 (fun _ _ _ => rfl) (fun _ _ _ => by rw [rm_j (by decide)]), JT_congr h6 rfl (rm_j (by decide)) (by rw [rm_j (by decide)]), JL_congr h7 rfl (rm_j (by decide)) (by rw [rm_j (by decide)]), h8⟩, h3⟩
theorem JX.toJ {B : Nat} {A : AT} {O : OT} {M : KT} (h : JX B A O M) : J B O M := ⟨A, h.1, h.2.1, fun x _ => by rw [h.2.2.1], h.2.2.2⟩
theorem J_mono {B C : Nat} {O : OT} {M : KT} (h : J B O M) (hC : B ≤ C) : J C O M := by
  obtain ⟨A, h1, h2, h3, h4, h5⟩ := h
  exact ⟨A, h1.mono hC, h2, h3, JQ_congr h4 hC (fun _ _ _ => rfl) (fun _ _ => rfl) (fun _ _ => rfl) rfl (fun _ _ => rfl), h5⟩
theorem c2_finN {N : Nat} {O : OT} {r : Int32} (hr : r < 0) : mX2_finishChange N O r = some (r, O) := by
  unfold mX2_finishChange
  rw [if_neg (Int32.not_le.mpr hr)]
theorem fin_pos {N B : Nat} {A : AT} {O : OT} {M : KT} {r : Int32} (hN : 1400 ≤ N) (hr : 0 ≤ r) (hA : St B A) (ho : O 1 = pcK A) (hm : ∀ x, x < 186 → M 1 x = pcM A x) (h : JQ B O M) : ∃ O' M', mX2_finishChange N O r = some (r, O') ∧ mX3_ends N M r = some (r, M') ∧ JQ B O' M' ∧ (∀ k, k < 4 ∨ 13 ≤ k → O' k = O k) ∧ (∀ i, i ≠ 1 → i ≠ 2 → O' 12 0 i = O 12 0 i) ∧ (∀ j, j ≠ 3 → j ≠ 8 → M' j = M j) ∧ ∀ i, i ≠ 0 → M' 8 i = M 8 i := by
  obtain ⟨u, l, P, s, S0, a1, a2, a3, a4, a5, a6, a7, ⟨a8, a9, a10⟩, b1, b2, b3, b4⟩ := h
  obtain ⟨M', m1, m2, m3, m4, m5, m6⟩ := r0_endsP (N := N) (K := M) (r := r) hN hr a1 b3
  have el : (O 12 0 1 + 1) - (O 12 0 1 + 1) / 8 * 8 = nI ((l + 1) % 8) := by
    rw [a9, i1, nadd, show (8 : Int32) = nI 8 from rfl, pk_rem (by omega) (by decide) (by decide)]
  have hl : (l + 1) % 8 < 8 := by omega
  have eu : (if (8 : Int32) < nI u + 1 then 8 else nI u + 1) = nI (min (u + 1) 8) := by
    rw [i1, nadd, show (8 : Int32) = nI 8 from rfl, ite_lt (by decide) (by omega)]
    by_cases q : 8 < u + 1
    · rw [if_pos q, show min (u + 1) 8 = 8 by omega]
    · rw [if_neg q, show min (u + 1) 8 = u + 1 by omega]
  have e1 : mX2_finishChange N O r = some (r, oset (oset (oset O 12 (fset (O 12) 0 1 (nI ((l + 1) % 8)))) (4 + (l + 1) % 8) (pcK A)) 12 (fset (fset (O 12) 0 1 (nI ((l + 1) % 8))) 0 2 (nI (min (u + 1) 8)))) := by
    unfold mX2_finishChange fX2_finishChange_41
    rw [if_pos hr, el, inO_n, oset_eq, fset_eq, pk_us, rdP_n hl, inO_n, oset_ne (i := 1) (j := 12) (by decide), ho, inO_n, oset_ne (i := 12) (j := 4 + (l + 1) % 8) (by omega), oset_eq, fset_eq, pk_un (j := 2) (k := 1) (by decide), a10, eu]
  have o12 : ∀ X : KT, oset (oset (oset O 12 (fset (O 12) 0 1 (nI ((l + 1) % 8)))) (4 + (l + 1) % 8) (pcK A)) 12 X 12 = X := fun X => oset_eq _ _ _
  have oo : ∀ X k, k ≠ 12 → k ≠ 4 + (l + 1) % 8 → oset (oset (oset O 12 (fset (O 12) 0 1 (nI ((l + 1) % 8)))) (4 + (l + 1) % 8) (pcK A)) 12 X k = O k := fun X k h1 h2 => by rw [oset_ne h1, oset_ne h2, oset_ne h1]
  have on : ∀ X, oset (oset (oset O 12 (fset (O 12) 0 1 (nI ((l + 1) % 8)))) (4 + (l + 1) % 8) (pcK A)) 12 X (4 + (l + 1) % 8) = pcK A := fun X => by rw [oset_ne (by omega), oset_eq]
  refine ⟨_, M', e1, m1, ⟨min (u + 1) 8, (l + 1) % 8, fun j => if j = min u 7 then A else P (if u = 8 then j + 1 else j), s, S0, by omega, hl, a3, ?_, a5, ?_, ?_, ⟨?_, ?_, ?_⟩, ?_, ?_, ?_, ?_⟩, ?_, ?_, m2, m3⟩
  · intro j hj
    by_cases q : j = min u 7
    · show St B (if j = min u 7 then A else P (if u = 8 then j + 1 else j))
      rw [if_pos q]; exact hA
    · show St B (if j = min u 7 then A else P (if u = 8 then j + 1 else j))
      rw [if_neg q]
      by_cases q8 : u = 8
      · rw [if_pos q8]; exact a4 _ (by omega)
      · rw [if_neg q8]; exact a4 _ (by omega)
  · intro j hj
    show _ = pcK (if j = min u 7 then A else P (if u = 8 then j + 1 else j))
    by_cases q : j = min u 7
    · rw [if_pos q, show rix ((l + 1) % 8) (min (u + 1) 8) j = 4 + (l + 1) % 8 by unfold rix; omega, on]
    · rw [if_neg q, oo _ _ (by unfold rix; omega) (by unfold rix; omega)]
      by_cases q8 : u = 8
      · rw [if_pos q8, show rix ((l + 1) % 8) (min (u + 1) 8) j = rix l u (j + 1) by unfold rix; omega]
        exact a6 _ (by omega)
      · rw [if_neg q8, show rix ((l + 1) % 8) (min (u + 1) 8) j = rix l u j by unfold rix; omega]
        exact a6 _ (by omega)
  · intro q
    rw [oo _ 3 (by decide) (by omega)]
    exact a7 q
  · rw [o12, fset_eq, pk_un (by decide), fset_eq, pk_un (by decide)]; exact a8
  · rw [o12, fset_eq, pk_un (by decide), fset_eq, pk_us]
  · rw [o12, fset_eq, pk_us]
  · intro j hj x hx
    show _ = pcM (if j = min u 7 then A else P (if u = 8 then j + 1 else j)) x
    by_cases q : j = min u 7
    · rw [if_pos q, q, m5 x hx]; exact hm x hx
    · rw [if_neg q, m6 _ (by omega)]
      by_cases q8 : u = 8
      · rw [if_pos q8, if_pos q8, show 186 + (186 * j + x) = 186 * (j + 1) + x by omega]
        exact b1 _ (by omega) x hx
      · rw [if_neg q8, if_neg q8]
        exact b1 _ (by omega) x hx
  · intro q x hx
    rw [m2 4 (by decide) (by decide)]
    exact b2 q x hx
  · exact m4
  · rw [m3 1 (by decide)]; exact b4
  · intro k hk
    exact oo _ k (by omega) (by omega)
  · intro i h1 h2
    rw [o12, fset_eq, pk_un h2, fset_eq, pk_un h1]
theorem j_change {N B : Nat} {A : AT} {O : OT} {M : KT} {f2 : OT → Option (Int32 × OT)} {f3 : KT → Option (Int32 × KT)} (hN : 1400 ≤ N) (hb : B + 20000 < 2 ^ 30) (hJ : JX B A O M) (hic : ∀ O1 M1, O1 0 = pcK A → M1 0 = pcM A → IC B A O1 M1 (f2 O1) (f3 M1)) :
    ∃ r O' M', inO (oset O 1 (O 0)) (fun O2 => bdO (f2 O2) (fun v3 O4 => bdO (mX2_finishChange N O4 v3) (fun v5 O6 => some (v5, O6)))) = some (r, O') ∧ bdE (mX3_tries N M) (fun _ K2 => bdE (f3 K2) (fun v3 K4 => bdE (mX3_ends N K4 v3) (fun v5 K6 => some (v5, K6)))) = some (r, M') ∧ J (B + 10000) O' M' := by
  obtain ⟨h1, h2, h3, h4, h5, h6, h7, h8⟩ := hJ
  obtain ⟨M1, t1, t2, t3⟩ := r0_tries (N := N) (K := M) hN
  have n0 : oset O 1 (O 0) 0 = pcK A := by rw [oset_ne (by decide), h2]
  have n1 : oset O 1 (O 0) 1 = pcK A := by rw [oset_eq, h2]
  have nk : ∀ k, k ≠ 1 → oset O 1 (O 0) k = O k := fun k hk => oset_ne hk
  obtain ⟨r, A', O', M', e2, e3, p0, q0, po, pm, hr⟩ := hic (oset O 1 (O 0)) M1 n0 (by rw [t2 0 (by decide), h3])
  rw [inO_n, e2, bdO_n, t1, bdE_n, e3, bdE_n]
  have neg : r < 0 → A' = A → JF O' M' → ((∀ i, i < 4 → O' 12 0 i = O 12 0 i) ∧ ∀ i, i < 6 → M' 8 i = M 8 i) → ∃ r' O'' M'', bdO (mX2_finishChange N O' r) (fun v5 O6 => some (v5, O6)) = some (r', O'') ∧ bdE (mX3_ends N M' r) (fun v5 K6 => some (v5, K6)) = some (r', M'') ∧ J (B + 10000) O'' M'' := by
    intro hr0 eA hF hsc
    obtain ⟨M2, g1, g2, g3⟩ := r0_endsN (N := N) (K := M') hN hr0
    rw [c2_finN hr0, bdO_n, g1, bdE_n]
    refine ⟨r, O', M2, rfl, rfl, A, h1.mono (by omega), by rw [p0, eA], ?_, ?_, ?_, ?_, ?_, ?_⟩
    · intro x hx
      rw [g3 x hx, pm 1 (by decide) (by decide), t3 x hx, h3]
    · refine JQ_congr h4 (by omega) (fun k k1 k2 => by rw [po k (by omega) (by omega), nk k (by omega)]) (fun i hi => hsc.1 i (by omega)) (fun x _ => by rw [g2 3 (by decide), pm 3 (by decide) (by decide), t2 3 (by decide)]) (by rw [g2 4 (by decide), pm 4 (by decide) (by decide), t2 4 (by decide)]) (fun i hi => by rw [g2 8 (by decide)]; exact hsc.2 i (by omega))
    · exact JF_congr hF (fun _ _ _ => rfl) (fun _ _ _ => by rw [g2 8 (by decide)])
    · exact JT_congr h6 (by rw [po 13 (by decide) (by decide), nk 13 (by decide)]) (by rw [g2 6 (by decide), pm 6 (by decide) (by decide), t2 6 (by decide)]) (by rw [g2 8 (by decide)]; exact hsc.2 3 (by decide))
    · exact JL_congr h7 (by rw [po 14 (by decide) (by decide), nk 14 (by decide)]) (by rw [g2 5 (by decide), pm 5 (by decide) (by decide), t2 5 (by decide)]) (by rw [g2 8 (by decide)]; exact hsc.2 2 (by decide))
    · rw [hsc.1 3 (by decide)]; exact h8
  rcases hr with ⟨⟨n, rfl, hn⟩, hs, c1, c2⟩ | ⟨hr, eA, c1, c2⟩ | ⟨rfl, eA, w, d, hw, c1, c2⟩
  · have o12 : O' 12 = O 12 := by rw [c1, nk 12 (by decide)]
    have m8 : M' 8 = M 8 := by rw [c2, t2 8 (by decide)]
    have hQ : JQ (B + 10000) O' M' := JQ_congr h4 (by omega) (fun k k1 k2 => by rw [po k (by omega) (by omega), nk k (by omega)]) (fun i _ => by rw [o12]) (fun x _ => by rw [pm 3 (by decide) (by decide), t2 3 (by decide)]) (by rw [pm 4 (by decide) (by decide), t2 4 (by decide)]) (fun i _ => by rw [m8])
    obtain ⟨O2, M2, g1, g2, g3, g4, g5, g6, g7⟩ := fin_pos (N := N) (A := A) hN (nI_pos' (n := n) (by omega)) (h1.mono (by omega)) (by rw [po 1 (by decide) (by decide), n1]) (fun x hx => by rw [pm 1 (by decide) (by decide), t3 x hx, h3]) hQ
    rw [g1, bdO_n, g2, bdE_n]
    refine ⟨_, O2, M2, rfl, rfl, A', hs, by rw [g4 0 (by decide), p0], ?_, g3, ?_, ?_, ?_, ?_⟩
    · intro x _
      rw [g6 0 (by decide) (by decide), q0]
    · exact JF_congr h5 (fun i i1 i2 => by rw [g5 i (by omega) (by omega), o12]) (fun i i1 i2 => by rw [g7 i (by omega), m8])
    · exact JT_congr h6 (by rw [g4 13 (by decide), po 13 (by decide) (by decide), nk 13 (by decide)]) (by rw [g6 6 (by decide) (by decide), pm 6 (by decide) (by decide), t2 6 (by decide)]) (by rw [g7 3 (by decide), m8])
    · exact JL_congr h7 (by rw [g4 14 (by decide), po 14 (by decide) (by decide), nk 14 (by decide)]) (by rw [g6 5 (by decide) (by decide), pm 5 (by decide) (by decide), t2 5 (by decide)]) (by rw [g7 2 (by decide), m8])
    · rw [g5 3 (by decide) (by decide), o12]; exact h8
  · have o12 : O' 12 = O 12 := by rw [c1, nk 12 (by decide)]
    have m8 : M' 8 = M 8 := by rw [c2, t2 8 (by decide)]
    refine neg (by rcases hr with rfl | rfl <;> decide) eA ?_ ⟨fun i _ => by rw [o12], fun i _ => by rw [m8]⟩
    exact JF_congr h5 (fun i _ _ => by rw [o12]) (fun i _ _ => by rw [m8])
  · have o12 : oset O 1 (O 0) 12 = O 12 := nk 12 (by decide)
    have m8 : M1 8 = M 8 := t2 8 (by decide)
    refine neg (by decide) eA (Or.inr ?_) ⟨fun i hi => ?_, fun i hi => ?_⟩
    · rw [c1, c2, o12, m8]
      refine ⟨?_, ?_, ?_, ?_⟩
      · rw [pk_un (by decide), pk_un (by decide), pk_us]; exact hw
      · rw [fset_eq, pk_un (by decide), fset_eq, pk_un (by decide), fset_eq, pk_us, pk_un (by decide), pk_un (by decide), pk_us]
      · rw [fset_eq, pk_un (by decide), fset_eq, pk_us, pk_un (by decide), pk_us]
      · rw [fset_eq, pk_us, pk_us]; exact h8
    · rw [c1, o12, fset_eq, pk_un (by omega), fset_eq, pk_un (by omega), fset_eq, pk_un (by omega)]
    · rw [c2, m8, pk_un (by omega), pk_un (by omega), pk_un (by omega)]
theorem j_dusk {N B : Nat} {A : AT} {O : OT} {M : KT} (hN : 1400 ≤ N) (hb : B + 20000 < 2 ^ 30) (hJ : JX B A O M) (p : Int32) : ∃ r O' M', mX2_dusk N O p = some (r, O') ∧ mX3_dusk N M p = some (r, M') ∧ J (B + 10000) O' M' :=
  j_change (f2 := fun O => mX2_bringDusk N O p) (f3 := fun M => mX3_dusks N M p) hN hb hJ (fun O1 M1 h1 h2 => ic_dusk hN hJ.1 hb h1 h2 p)
theorem j_write {N B : Nat} {A : AT} {O : OT} {M : KT} (hN : 1400 ≤ N) (hb : B + 20000 < 2 ^ 30) (hJ : JX B A O M) (p q : Int32) : ∃ r O' M', mX2_write N O p q = some (r, O') ∧ mX3_write N M p q = some (r, M') ∧ J (B + 10000) O' M' :=
  j_change (f2 := fun O => mX2_writePage N O p q) (f3 := fun M => mX3_writes N M p q) hN hb hJ (fun O1 M1 h1 h2 => ic_write hN hJ.1 hb h1 h2 p q)
theorem j_march {N B : Nat} {A : AT} {O : OT} {M : KT} (hN : 1400 ≤ N) (hb : B + 20000 < 2 ^ 30) (hJ : JX B A O M) (p : Int32) : ∃ r O' M', mX2_march N O p = some (r, O') ∧ mX3_march N M p = some (r, M') ∧ J (B + 10000) O' M' :=
  j_change (f2 := fun O => mX2_sendCaptain N O p) (f3 := fun M => mX3_marches N M p) hN hb hJ (fun O1 M1 h1 h2 => ic_march hN hJ.1 hb h1 h2 p)
theorem j_road {N B : Nat} {A : AT} {O : OT} {M : KT} (hN : 1400 ≤ N) (hb : B + 20000 < 2 ^ 30) (hJ : JX B A O M) (p q s : Int32) : ∃ r O' M', mX2_road N O p q s = some (r, O') ∧ mX3_road_ N M p q s = some (r, M') ∧ J (B + 10000) O' M' :=
  j_change (f2 := fun O => mX2_turnRoad N O p q s) (f3 := fun M => mX3_opens N M p q s) hN hb hJ (fun O1 M1 h1 h2 => ic_road hN hJ.1 hb h1 h2 p q s)
theorem j_sleep {N B : Nat} {A : AT} {O : OT} {M : KT} (hN : 1400 ≤ N) (hb : B + 20000 < 2 ^ 30) (hJ : JX B A O M) (p s : Int32) : ∃ r O' M', mX2_sleep N O p s = some (r, O') ∧ mX3_sleep N M p s = some (r, M') ∧ J (B + 10000) O' M' :=
  j_change (f2 := fun O => mX2_turnCamp N O p s) (f3 := fun M => mX3_sleeps N M p s) hN hb hJ (fun O1 M1 h1 h2 => ic_sleep hN hJ.1 hb h1 h2 p s)
theorem j_pass {N B : Nat} {A : AT} {O : OT} {M : KT} (hN : 1400 ≤ N) (hb : B + 20000 < 2 ^ 30) (hJ : JX B A O M) (p : Int32) : ∃ r O' M', mX2_pass N O p = some (r, O') ∧ mX3_pass N M p = some (r, M') ∧ J (B + 10000) O' M' :=
  j_change (f2 := fun O => mX2_passHours N O p) (f3 := fun M => mX3_passes N M p) hN hb hJ (fun O1 M1 h1 h2 => ic_pass hN hJ.1 hb h1 h2 p)
