/-! ===== what the queries answer depends on now alone ===== -/
def GA (A : AT) (O : OT) : Prop := O 0 = pcK A ∧ GL O
theorem KPa.ga {A : AT} {O O' : OT} (h : KPa O O') (g : GA A O) : GA A O' := ⟨by rw [h.1 0 (by decide) (by decide)]; exact g.1, h.2⟩
/-- a query that changes nothing -/
def DP (A : AT) (f : OT → Option Int32) : Prop := ∃ r, ∀ O, O 0 = pcK A → f O = some r
/-- a query that changes the trial or the line -/
def DE (A : AT) (f : OT → Option (Int32 × OT)) : Prop := ∃ r, ∀ O, GA A O → ∃ O', f O = some (r, O') ∧ KPa O O'
def DL (A : AT) (f : OT → Option (Int64 × OT)) : Prop := ∃ r, ∀ O, GA A O → ∃ O', f O = some (r, O') ∧ KPa O O'
theorem DP_of {A : AT} {f : OT → Option Int32} {g : Option Int32} (h : ∀ O, O 0 = pcK A → ∃ r, f O = some r ∧ g = some r) : DP A f := by
  obtain ⟨r0, -, h0⟩ := h (OJ A) (oset_eq _ _ _)
  refine ⟨r0, fun O ho => ?_⟩
  obtain ⟨r, e1, e2⟩ := h O ho
  rw [e1]
  exact e2.symm.trans h0
theorem d_campOf {N B : Nat} {A : AT} (h : St B A) (hb : B + 20000 < 2 ^ 30) (p w : Int32) : DP A (fun O => mX2_campOf N O p w) := DP_of (fun O ho => q_campOf (N := N) h hb ho (rm_0 K3i A) p w)
theorem d_pageOf {N B : Nat} {A : AT} (h : St B A) (hb : B + 20000 < 2 ^ 30) (p q w : Int32) : DP A (fun O => mX2_pageOf N O p q w) := DP_of (fun O ho => q_pageOf (N := N) h hb ho (rm_0 K3i A) p q w)
theorem d_reaches {N B : Nat} {A : AT} (h : St B A) (hb : B + 20000 < 2 ^ 30) (p q : Int32) : DP A (fun O => mX2_reaches N O p q) := DP_of (fun O ho => q_reaches (N := N) h hb ho (rm_0 K3i A) p q)
theorem d_matches {N B : Nat} {A : AT} (hN : 1400 ≤ N) (h : St B A) (hb : B + 20000 < 2 ^ 30) (p q : Int32) : DP A (fun O => mX2_matches N O p q) := DP_of (fun O ho => q_matches hN h hb ho (rm_0 K3i A) p q)
theorem d_matchesAgain {N B : Nat} {A : AT} (hN : 1400 ≤ N) (h : St B A) (hb : B + 20000 < 2 ^ 30) (p q : Int32) : DP A (fun O => mX2_matchesAgain N O p q) := DP_of (fun O ho => q_matchesAgain hN h hb ho (rm_0 K3i A) p q)
theorem d_captain {N B : Nat} {A : AT} (hN : 1400 ≤ N) (h : St B A) (hb : B + 20000 < 2 ^ 30) : DP A (fun O => mX2_captain N O) := DP_of (fun O ho => q_captain hN h hb ho (rm_0 K3i A))
theorem d_holders {N B : Nat} {A : AT} (hN : 1400 ≤ N) (h : St B A) (hb : B + 20000 < 2 ^ 30) (p q : Int32) : DP A (fun O => mX2_holders N O p q) := DP_of (fun O ho => q_holders hN h hb ho (rm_0 K3i A) p q)
theorem d_letters {N B : Nat} {A : AT} (hN : 1400 ≤ N) (h : St B A) (hb : B + 20000 < 2 ^ 30) (p : Int32) : DP A (fun O => mX2_letters N O p) := DP_of (fun O ho => q_letters hN h hb ho (rm_0 K3i A) p)
theorem d_ranked {N B : Nat} {A : AT} (hN : 1400 ≤ N) (h : St B A) (hb : B + 20000 < 2 ^ 30) (p : Int32) : DP A (fun O => mX2_ranked N O p) := DP_of (fun O ho => q_ranked hN h hb ho (rm_0 K3i A) p)
theorem d_isWell {N B : Nat} {A : AT} (hN : 1400 ≤ N) (h : St B A) (hb : B + 20000 < 2 ^ 30) : DP A (fun O => mX2_isWell N O) := DP_of (fun O ho => q_isWell (M := MJ A) hN h hb ho)
theorem d_share {N B : Nat} {A : AT} (hN : 1400 ≤ N) (h : St B A) (hb : B + 20000 < 2 ^ 30) : DP A (fun O => mX2_share N O) := by
  obtain ⟨r, e1, -⟩ := q_share hN hb (JX_J h)
  refine ⟨r, fun O ho => ?_⟩
  have h0 : OJ A 0 = O 0 := by rw [ho]; exact oset_eq _ _ _
  show mX2_share N O = some r
  unfold mX2_share at e1 ⊢
  rw [h0] at e1
  exact e1
theorem d_account {N B : Nat} {A : AT} (hN : 1400 ≤ N) (h : St B A) (hb : B + 20000 < 2 ^ 30) {p : Int32} (h11 : p ≠ 11) (h12 : p ≠ 12) : DP A (fun O => mX2_account N O p) := by
  obtain ⟨r, e1, -⟩ := q_account hN hb (JX_J h) p
  refine ⟨r, fun O ho => ?_⟩
  have h0 : OJ A 0 = O 0 := by rw [ho]; exact oset_eq _ _ _
  show mX2_account N O p = some r
  unfold mX2_account at e1 ⊢
  rw [h0, if_neg h11, if_neg h12] at e1
  rw [if_neg h11, if_neg h12]
  exact e1
theorem d_would {N B c : Nat} {A : AT} (hN : 1400 ≤ N) (h : St B A) (hb : B + 20000 < 2 ^ 30) (hc : c < 5) : DE A (fun O => mX2_would N O (nI c)) := by
  have hlt : Lt A := h.ltA (by omega)
  have hB := h.2.2.1
  have start : ∀ O, O 0 = pcK A → mX2_would N O (nI c) = if A 3 c = 0 then fX2_would_34 N O else if A 2 c = 1 then fX2_would_34 N O else inO (oset O 2 (O 0)) (fun O10 => bdE (mX0_askForVotes N (O10 2) (nI c)) (fun v11 K12 => inO (oset O10 2 K12) (fun O13 => some (v11, O13)))) := fun O ho => by
    unfold mX2_would
    rw [c2_noCamp_n hc, bdP_n, if_pos (show (0 : Int32) = 0 from rfl), ho, rdA_n hc (by decide), pcK_at (f := 3) (by decide), ite_z (hlt _ _), rdA_n hc (by decide), pcK_at (f := 2) (by decide), ite_o (hlt _ _)]
  by_cases a3 : A 3 c = 0
  · refine ⟨-4, fun O g => ⟨O, ?_, KPa.refl g.2⟩⟩
    show mX2_would N O (nI c) = some (-4, O)
    rw [start O g.1, if_pos a3]
    rfl
  by_cases a2 : A 2 c = 1
  · refine ⟨-4, fun O g => ⟨O, ?_, KPa.refl g.2⟩⟩
    show mX2_would N O (nI c) = some (-4, O)
    rw [start O g.1, if_neg a3, if_pos a2]
    rfl
  refine ⟨nI (ask A c).1, fun O g => ⟨oset (oset O 2 (O 0)) 2 (pcK (ask A c).2), ?_, fun k k2 k14 => by rw [oset_ne k2, oset_ne k2], ?_⟩⟩
  · show mX2_would N O (nI c) = _
    rw [start O g.1, if_neg a3, if_neg a2, inO_n, oset_eq, g.1, c0_ask (by omega) hc hlt (by have := hB.b0 c; omega) (by have := hB.b10 0; omega) h.l12, bdE_n, inO_n]
  · unfold GL
    rw [oset_ne (by decide), oset_ne (by decide)]
    exact g.2
theorem d_captainIn {N B : Nat} {A : AT} (hN : 1400 ≤ N) (h : St B A) (hb : B + 60000 < 2 ^ 30) : DE A (fun O => mX2_captainIn N O) := by
  refine ⟨waitR (waitN 60 0 A), fun O g => ?_⟩
  obtain ⟨K, k1⟩ := c2_waitL (N := N) (O := O) hN 60 N 0 B A (by omega) (by omega) h (by omega)
  refine ⟨oset O 2 K, ?_, fun k k2 k14 => oset_ne k2, ?_⟩
  · show mX2_captainIn N O = _
    unfold mX2_captainIn
    rw [inO_n, g.1]
    exact k1
  · unfold GL
    rw [oset_ne (by decide)]
    exact g.2
/-! lines -/
theorem e_describe {N B n0 c : Nat} {A : AT} {O : OT} {M : KT} (hb : B < 10 ^ 9) (h1 : St B A) (h2 : O 0 = pcK A) (h3 : M 0 = pcM A) (t2 : O 14 1 0 = nI n0) (t1 : n0 ≤ 150) (hc : c < 5) : LE2 O M (mX2_describe N O (nI c)) (mX3_describe N M (nI c)) := by
  have hB := h1.2.2.1
  unfold mX2_describe mX3_describe
  obtain ⟨K0, a1, a2⟩ := LL_0 (M := M) t2 (by omega)
  obtain ⟨d, K1, M1, b0, b1, b2, b3, b4⟩ := st_i (N := N) (v := c) a2 (by omega) (by decide)
  have f1 : LF M M1 := LF_0.trans b4
  have m1 : M1 0 = pcM A := by rw [f1.1 0 (by decide) (by decide), h3]
  have h33 := hB.b3 c
  rw [c2_noCamp_n hc, bdP_n, if_pos (show (0 : Int32) = 0 from rfl), r2_camp_n hc, bdP_n, if_neg (show ¬ (1 : Int32) = 0 by decide), a1, bdS_n, inO_n, oset_eq, b1, bdS_n, inO_n, oset_same, oset_ne (show (0 : Nat) ≠ 14 by decide), h2, rdA_n hc (by decide), pcK_at (f := 3) (by decide), ite_z (by omega), ptF_n, b2, bdE_n, xo_aw m1 hc h33, bdP_n, ite_b0]
  by_cases q : A 3 c = 1
  · rw [if_neg (by omega), if_pos q]
    exact LE2.of f1 (d_48 h1 hb h2 m1 hc b3 (by omega))
  · obtain ⟨K4, M4, e1, e2, e3, e4⟩ := st_c (N := N) (c := 122) b3 (by omega) (by decide) (by decide)
    rw [if_pos (by omega), if_neg q, oset_eq, show s_cC K1 122 = _ from e1, bdS_n, inO_n, oset_same, show mX3_signs N M1 122 = _ from e2, bdE_n]
    exact LE2.of (f1.trans e4) (d_48 h1 hb h2 (by rw [e4.1 0 (by decide) (by decide), m1]) hc e3 (by omega))
theorem e_show {B n0 c : Nat} {A : AT} {O : OT} {M : KT} (hb : B < 10 ^ 9) (h1 : St B A) (h2 : O 0 = pcK A) (h3 : M 0 = pcM A) (t2 : O 14 1 0 = nI n0) (t1 : n0 ≤ 150) (hc : c < 5) : LE2 O M (mX2_show 13 O (nI c)) (mX3_show 1400 M (nI c)) := by
  have hB := h1.2.2.1
  have h65 := (Inv_len h1.2.1 hc).1
  have h512 := hB.b5 c
  obtain ⟨K0, a1, a2⟩ := LL_0 (M := M) t2 (by omega)
  have m0 : fset M 8 2 0 0 = pcM A := by rw [fset_ne (by decide), h3]
  obtain ⟨n1, K1, M1, b0, b1, b2, b3, b4⟩ := sh_seg (q := A 6 c) h1 hb h2 hc h65 (A 6 c) 0 0 K0 (fset M 8 2 0) (by omega) (Or.inr (Nat.le_refl _)) m0 a2 (by omega)
  have m1 : M1 0 = pcM A := by rw [b4.1 0 (by decide) (by decide), m0]
  obtain ⟨K2, M2, c1, c2, c3, c4⟩ := st_cA (c := 124) b3 (by omega) (by decide) (by decide)
  have m2 : M2 0 = pcM A := by rw [c4.1 0 (by decide) (by decide), m1]

  have rest : ∃ n' K' M', n' ≤ 127 ∧ fX2_appendPages_8 13 13 (oset O 14 K2) (nI c) (nI (A 5 c)) (nI (c * 12 + A 6 c)) = some (0, oset O 14 K') ∧ (∀ N m, 100 ≤ m → fX3_show_43 N (fX3_show_16 N m) M2 (nI c) (nI (A 6 c)) = some (nI n', M')) ∧ LL n' K' M' ∧ LF M2 M' := by
    have stop : ∀ (N m : Nat) (M9 : KT), M9 0 = pcM A → fX3_show_16 N (m + 1) M9 (nI c) (nI (A 5 c + 1)) = some (M9 8 2, M9) := fun N m M9 m9 => by
      unfold fX3_show_16
      rw [xo_6 m9 hc, bdP_n, ite_lt (by omega) (by omega), if_pos (by omega)]
    by_cases q : A 6 c = A 5 c
    · refine ⟨n1 + 1, K2, M2, by omega, ?_, fun N m hm => ?_, c3, LF.rfl⟩
      · unfold fX2_appendPages_8
        rw [i12, nmul, nadd, ite_le (by omega) (by omega), if_pos (by omega)]
      · obtain ⟨z, rfl⟩ : ∃ z, m = z + 1 := ⟨m - 1, by omega⟩
        unfold fX3_show_43 fX3_show_83
        rw [xo_6 m2 hc, bdP_n, ite_eq (by omega) (by omega), if_pos q, q, show nI (A 5 c) + 1 = nI (A 5 c + 1) from nadd (A 5 c) 1, stop N z M2 m2, c3.2.1]
    · have hp12 : A 6 c < 12 := by omega
      have h8' := hB.b8 (c * 12 + A 6 c)
      obtain ⟨d, K3, K4, M3, M4, d0, e1, e2, e3, e4, e5, e6, e7⟩ := st_p h1 hb m2 hc hp12 c3 (by omega)
      have m3 : M3 0 = pcM A := by rw [e7.1 0 (by decide) (by decide), m2]
      have m4 : M4 0 = pcM A := by rw [e6.1 0 (by decide) (by decide), m2]
      obtain ⟨n5, K5, M5, g0, g1, g2, g3, g4⟩ := sh_seg (q := A 5 c) h1 hb h2 hc (Nat.le_refl _) (A 5 c - (A 6 c + 1)) (n1 + 1 + d) (A 6 c + 1) K4 M4 (by omega) (Or.inl (Nat.lt_succ_self _)) m4 e5 (by omega)
      have m5 : M5 0 = pcM A := by rw [g4.1 0 (by decide) (by decide), m4]
      refine ⟨n5, K5, M5, by omega, ?_, fun N m hm => ?_, g3, e6.trans g4⟩
      · unfold fX2_appendPages_8
        rw [i12, nmul, nadd, ite_le (by omega) (by omega), if_neg (by omega), oset_ne (show (0 : Nat) ≠ 14 by decide), h2, rdA_n (by omega) (by decide), pcK_at (f := 8) (by decide), show (97 : Int32) + nI (A 8 (c * 12 + A 6 c)) = nI (97 + A 8 (c * 12 + A 6 c)) from nadd 97 _, i2c_n _ (by omega), oset_eq, e1, bdS_n, inO_n, oset_same, oset_ne (show (0 : Nat) ≠ 14 by decide), h2, rdA_n (by omega) (by decide), pcK_at (f := 7) (by decide), oset_eq, e2, bdS_n, inO_n, oset_same, show nI (c * 12 + A 6 c) + 1 = nI (c * 12 + (A 6 c + 1)) from nadd (c * 12 + A 6 c) 1]
        exact g1 13 12 (by omega)
      · obtain ⟨z, rfl⟩ : ∃ z, m = (z + 2) + (A 5 c - (A 6 c + 1)) := ⟨m - 2 - (A 5 c - (A 6 c + 1)), by omega⟩
        unfold fX3_show_43 fX3_show_83
        rw [xo_6 m2 hc, bdP_n, ite_eq (by omega) (by omega), if_neg q, xo_pL m2 hc hp12, bdP_n, show (97 : Int32) + nI (A 8 (c * 12 + A 6 c)) = nI (97 + A 8 (c * 12 + A 6 c)) from nadd 97 _, i2c_n _ (by omega), e3 N, bdE_n, xo_pT m3 hc hp12, bdP_n, e4 N, bdE_n, show nI (A 6 c) + 1 = nI (A 6 c + 1) from nadd (A 6 c) 1, g2 N (z + 2)]
        unfold fX3_show_16
        unfold fX3_show_43 fX3_show_83
        rw [xo_6 m5 hc, bdP_n, ite_lt (by omega) (by omega), if_neg (by omega), xo_5 m5 hc, bdP_n, ite_eq (by omega) (by omega), if_neg (fun w => q w.symm), bdP_n, if_pos rfl, show nI (A 5 c) + 1 = nI (A 5 c + 1) from nadd (A 5 c) 1, stop N z M5 m5, g3.2.1]
  obtain ⟨n', K', M', r0, r1, r2, r3, r4⟩ := rest
  have fall : LF M M' := ((LF_0.trans b4).trans c4).trans r4
  have eC : mX2_show 13 O (nI c) = some (nI n', oset O 14 K') := by
    unfold mX2_show mX2_appendPages
    rw [c2_noCamp_n hc, bdP_n, if_pos (show (0 : Int32) = 0 from rfl), a1, bdS_n, inO_n, oset_ne (show (0 : Nat) ≠ 14 by decide), h2, rdA_n hc (by decide), pcK_at (by decide), show nI c * 12 + 0 = nI (c * 12 + 0) by rw [i12, nmul, show (0 : Int32) = nI 0 from rfl, nadd], b1 13 13 (by omega), bdO_n, oset_eq, show s_cC K1 124 = _ from c1, bdS_n, inO_n, oset_same, oset_ne (show (0 : Nat) ≠ 14 by decide), h2, rdA_n hc (by decide), rdA_n hc (by decide), pcK_at (by decide), pcK_at (by decide), i12, nmul, nadd, r1, bdO_n, oset_eq]
    unfold s_length
    rw [bdP_n, r3.1]
  have eM : ∀ N, 1400 ≤ N → mX3_show N M (nI c) = some (nI n', M') := by
    intro N hN
    obtain ⟨z, rfl⟩ : ∃ z, N = (z + 1) + A 6 c := ⟨N - 1 - A 6 c, by omega⟩
    unfold mX3_show
    rw [r2_camp_n hc, bdP_n, if_neg (show ¬ (1 : Int32) = 0 by decide), ptF_n, show fX3_show_16 (z + 1 + A 6 c) (z + 1 + A 6 c) (fset M 8 2 0) (nI c) 0 = _ from b2 _ (z + 1)]
    unfold fX3_show_16
    rw [xo_6 m1 hc, bdP_n, ite_lt (by omega) (by omega), if_neg (by omega), xo_5 m1 hc, bdP_n, if_pos rfl, show mX3_signs (z + 1 + A 6 c) M1 124 = _ from c2 _, bdE_n]
    exact r2 _ z (by omega)
  exact ⟨n', K', M', r0, eC, eM 1400 (Nat.le_refl _), r3, fall⟩
