/-! ===== the log's line ===== -/
theorem st_cA {n c : Nat} {K M : KT} (h : LL n K M) (hn : n < 127) (h1 : 32 ≤ c) (h2 : c ≤ 126) : ∃ K' M', s_cC K (nI c) = some K' ∧ (∀ N, mX3_signs N M (nI c) = some (0, M')) ∧ LL (n + 1) K' M' ∧ LF M M' :=
  ⟨_, _, c4_sign h.1 hn (by omega), fun _ => r4_signs h.2.1 (by omega) (by omega), LL_c h hn h1 h2, cM_LF h.2.1 (by omega)⟩
theorem st_iA {n v : Nat} {K M : KT} (h : LL n K M) (hv : v < 10 ^ 9) (hn : n + 9 ≤ 127) : ∃ d K' M', d ≤ 9 ∧ s_cI K (nI v) = some K' ∧ (∀ N, mX3_digitsOf N 12 M (nI v) = some (0, M')) ∧ LL (n + d) K' M' ∧ LF M M' := by
  obtain ⟨d9, hL⟩ := LL_i h hv hn
  obtain ⟨-, i2, -, -, i5⟩ := iM_all 12 n v M (by decide) (by omega) (by omega) h.2.1 (by omega)
  exact ⟨sb_dg v, _, _, d9, c4_num h.1 (by omega) (by omega), i5, hL, i2⟩
/-- a page put on a line: its letter, its term -/
theorem st_p {n c p B : Nat} {A : AT} {K M : KT} (hA : St B A) (hb : B < 10 ^ 9) (hm : M 0 = pcM A) (hc : c < 5) (hp : p < 12) (h : LL n K M) (hn : n + 10 ≤ 127) : ∃ d K1 K' M1 M', d ≤ 10 ∧ s_cC K (nI (97 + A 8 (c * 12 + p))) = some K1 ∧ s_cI K1 (nI (A 7 (c * 12 + p))) = some K' ∧ (∀ N, mX3_signs N M (nI (97 + A 8 (c * 12 + p))) = some (0, M1)) ∧ (∀ N, mX3_digitsOf N 12 M1 (nI (A 7 (c * 12 + p))) = some (0, M')) ∧ LL (n + d) K' M' ∧ LF M M' ∧ LF M M1 := by
  have h8 := hA.2.2.1.b8 (c * 12 + p)
  have h7 := hA.2.2.1.b7 (c * 12 + p)
  obtain ⟨K1, M1, a1, a2, a3, a4⟩ := st_cA (c := 97 + A 8 (c * 12 + p)) h (by omega) (by omega) (by omega)
  obtain ⟨d, K2, M2, b0, b1, b2, b3, b4⟩ := st_iA (v := A 7 (c * 12 + p)) a3 (by omega) (by omega)
  exact ⟨1 + d, K1, K2, M1, M2, by omega, a1, b1, a2, b2, by rw [← Nat.add_assoc]; exact b3, a4.trans b4, a4⟩
/-- the reference's line from page p on, without the bar, as far as page q; the class's likewise -/
theorem sh_seg {c B q : Nat} {A : AT} {O : OT} (hA : St B A) (hb : B < 10 ^ 9) (ho : O 0 = pcK A) (hc : c < 5) (hq : q ≤ A 5 c) : ∀ (k n p : Nat) (K M : KT), p + k = q → (A 6 c < p ∨ q ≤ A 6 c) → M 0 = pcM A → LL n K M → n + 10 * k ≤ 127 → ∃ n' K' M', n' ≤ n + 10 * k ∧ (∀ N m, k < m → fX2_appendPages_8 N m (oset O 14 K) (nI c) (nI q) (nI (c * 12 + p)) = some (0, oset O 14 K')) ∧ (∀ N m, fX3_show_16 N (m + k) M (nI c) (nI p) = fX3_show_16 N m M' (nI c) (nI q)) ∧ LL n' K' M' ∧ LF M M' := by
  intro k
  have h5 := hA.2.2.1.b5 c
  induction k with
  | zero =>
    intro n p K M hp hs hm h hn
    refine ⟨n, K, M, by omega, fun N m hm0 => ?_, fun N m => ?_, h, LF.rfl⟩
    · obtain ⟨z, rfl⟩ : ∃ z, m = z + 1 := ⟨m - 1, by omega⟩
      unfold fX2_appendPages_8
      rw [i12, nmul, nadd, ite_le (by omega) (by omega), if_pos (by omega)]
    · rw [show p = q by omega, Nat.add_zero]
  | succ k ih =>
    intro n p K M hp hs hm h hn
    obtain ⟨d, K1, K2, M1, M2, d0, e1, e2, e3, e4, e5, e6, e7⟩ := st_p hA hb hm hc (show p < 12 by omega) h (by omega)
    have m1 : M1 0 = pcM A := by rw [e7.1 0 (by decide) (by decide), hm]
    have m2 : M2 0 = pcM A := by rw [e6.1 0 (by decide) (by decide), hm]
    have h8 := hA.2.2.1.b8 (c * 12 + p)
    obtain ⟨n', K', M', i0, i1, i2, i3, i4⟩ := ih (n + d) (p + 1) K2 M2 (by omega) (by omega) m2 e5 (by omega)
    have hp12 : p < 12 := by omega
    refine ⟨n', K', M', by omega, fun N m hm0 => ?_, fun N m => ?_, i3, e6.trans i4⟩
    · obtain ⟨z, rfl⟩ : ∃ z, m = z + 1 := ⟨m - 1, by omega⟩
      unfold fX2_appendPages_8
      rw [i12, nmul, nadd, ite_le (by omega) (by omega), if_neg (by omega), oset_ne (show (0 : Nat) ≠ 14 by decide), ho, rdA_n (by omega) (by decide), pcK_at (f := 8) (by decide), show (97 : Int32) + nI (A 8 (c * 12 + p)) = nI (97 + A 8 (c * 12 + p)) from nadd 97 _, i2c_n _ (by omega), oset_eq, e1, bdS_n, inO_n, oset_same, oset_ne (show (0 : Nat) ≠ 14 by decide), ho, rdA_n (by omega) (by decide), pcK_at (f := 7) (by decide), oset_eq, e2, bdS_n, inO_n, oset_same, show nI (c * 12 + p) + 1 = nI (c * 12 + (p + 1)) from nadd (c * 12 + p) 1]
      exact i1 N z (by omega)
    · rw [show m + (k + 1) = (m + k) + 1 by omega]
      conv => lhs; unfold fX3_show_16
      unfold fX3_show_43 fX3_show_83
      rw [xo_6 hm hc, bdP_n, ite_lt (by omega) (by omega), if_neg (by omega), xo_5 hm hc, bdP_n, ite_eq (by omega) (by have := hA.2.2.1.b6 c; omega), if_neg (by omega), bdP_n, ite_eq (by omega) (by omega), if_neg (by omega), xo_pL hm hc hp12, bdP_n, show (97 : Int32) + nI (A 8 (c * 12 + p)) = nI (97 + A 8 (c * 12 + p)) from nadd 97 _, i2c_n _ (by omega), e3 N, bdE_n, xo_pT m1 hc hp12, bdP_n, e4 N, bdE_n, show nI p + 1 = nI (p + 1) from nadd p 1]
      exact i2 N m
theorem j_show {B : Nat} {A : AT} {O : OT} {M : KT} (hb : B < 10 ^ 9) (hJ : JX B A O M) (p : Int32) : ∃ r O' M', mX2_show 13 O p = some (r, O') ∧ (∀ N, 1400 ≤ N → mX3_show N M p = some (r, M')) ∧ J B O' M' := by
  have hJ0 := hJ.toJ
  have hh := hJ
  obtain ⟨h1, h2, h3, h4, h5, h6, ⟨n0, T0, t1, ⟨t2, t3⟩, t4⟩, h8⟩ := hh
  have hB := h1.2.2.1
  rcases ix2 p (n := 5) (by decide) with w | ⟨c, hc, rfl⟩
  · unfold mX2_show
    rw [c2_noCamp_y w, bdP_n, if_neg (show ¬ (1 : Int32) = 0 by decide)]
    refine ⟨_, _, M, rfl, fun N _ => ?_, hJ0⟩
    unfold mX3_show
    rw [r2_camp_y w, bdP_n, if_pos (show (0 : Int32) = 0 from rfl)]
  have h65 := (Inv_len h1.2.1 hc).1
  have h512 := hB.b5 c
  obtain ⟨K0, a1, a2⟩ := LL_0 (M := M) t2 (by omega)
  have m0 : fset M 8 2 0 0 = pcM A := by rw [fset_ne (by decide), h3]
  obtain ⟨n1, K1, M1, b0, b1, b2, b3, b4⟩ := sh_seg (q := A 6 c) h1 hb h2 hc h65 (A 6 c) 0 0 K0 (fset M 8 2 0) (by omega) (Or.inr (Nat.le_refl _)) m0 a2 (by omega)
  have m1 : M1 0 = pcM A := by rw [b4.1 0 (by decide) (by decide), m0]
  obtain ⟨K2, M2, c1, c2, c3, c4⟩ := st_cA (c := 124) b3 (by omega) (by decide) (by decide)
  have m2 : M2 0 = pcM A := by rw [c4.1 0 (by decide) (by decide), m1]

  have rest : ∃ n' K' M', n' ≤ 127 ∧ fX2_appendPages_8 13 13 (oset O 14 K2) (nI c) (nI (A 5 c)) (nI (c * 12 + A 6 c)) = some (0, oset O 14 K') ∧ (∀ N m, 100 ≤ m → fX3_show_43 N (fX3_show_16 N m) M2 (nI c) (nI (A 6 c)) = some (nI n', M')) ∧ LL n' K' M' ∧ LF M2 M' := by
    have stop : ∀ (N m : Nat) (M9 : KT), M9 0 = pcM A → fX3_show_16 N (m + 1) M9 (nI c) (nI (A 5 c + 1)) = some (M9 8 2, M9) := fun N m M9 m9 => by
      unfold fX3_show_16
      rw [xo_6 m9 hc, bdP_n, ite_lt (by omega) (by omega), if_pos (by omega)]
    by_cases q : A 6 c = A 5 c
    · refine ⟨n1 + 1, K2, M2, by omega, ?_, fun N m hm => ?_, c3, LF.rfl⟩
      · unfold fX2_appendPages_8
        rw [i12, nmul, nadd, ite_le (by omega) (by omega), if_pos (by omega)]
      · obtain ⟨z, rfl⟩ : ∃ z, m = z + 1 := ⟨m - 1, by omega⟩
        unfold fX3_show_43 fX3_show_83
        rw [xo_6 m2 hc, bdP_n, ite_eq (by omega) (by omega), if_pos q, q, show nI (A 5 c) + 1 = nI (A 5 c + 1) from nadd (A 5 c) 1, stop N z M2 m2, c3.2.1]
    · have hp12 : A 6 c < 12 := by omega
      have h8' := hB.b8 (c * 12 + A 6 c)
      obtain ⟨d, K3, K4, M3, M4, d0, e1, e2, e3, e4, e5, e6, e7⟩ := st_p h1 hb m2 hc hp12 c3 (by omega)
      have m3 : M3 0 = pcM A := by rw [e7.1 0 (by decide) (by decide), m2]
      have m4 : M4 0 = pcM A := by rw [e6.1 0 (by decide) (by decide), m2]
      obtain ⟨n5, K5, M5, g0, g1, g2, g3, g4⟩ := sh_seg (q := A 5 c) h1 hb h2 hc (Nat.le_refl _) (A 5 c - (A 6 c + 1)) (n1 + 1 + d) (A 6 c + 1) K4 M4 (by omega) (Or.inl (Nat.lt_succ_self _)) m4 e5 (by omega)
      have m5 : M5 0 = pcM A := by rw [g4.1 0 (by decide) (by decide), m4]
      refine ⟨n5, K5, M5, by omega, ?_, fun N m hm => ?_, g3, e6.trans g4⟩
      · unfold fX2_appendPages_8
        rw [i12, nmul, nadd, ite_le (by omega) (by omega), if_neg (by omega), oset_ne (show (0 : Nat) ≠ 14 by decide), h2, rdA_n (by omega) (by decide), pcK_at (f := 8) (by decide), show (97 : Int32) + nI (A 8 (c * 12 + A 6 c)) = nI (97 + A 8 (c * 12 + A 6 c)) from nadd 97 _, i2c_n _ (by omega), oset_eq, e1, bdS_n, inO_n, oset_same, oset_ne (show (0 : Nat) ≠ 14 by decide), h2, rdA_n (by omega) (by decide), pcK_at (f := 7) (by decide), oset_eq, e2, bdS_n, inO_n, oset_same, show nI (c * 12 + A 6 c) + 1 = nI (c * 12 + (A 6 c + 1)) from nadd (c * 12 + A 6 c) 1]
        exact g1 13 12 (by omega)
      · obtain ⟨z, rfl⟩ : ∃ z, m = (z + 2) + (A 5 c - (A 6 c + 1)) := ⟨m - 2 - (A 5 c - (A 6 c + 1)), by omega⟩
        unfold fX3_show_43 fX3_show_83
        rw [xo_6 m2 hc, bdP_n, ite_eq (by omega) (by omega), if_neg q, xo_pL m2 hc hp12, bdP_n, show (97 : Int32) + nI (A 8 (c * 12 + A 6 c)) = nI (97 + A 8 (c * 12 + A 6 c)) from nadd 97 _, i2c_n _ (by omega), e3 N, bdE_n, xo_pT m3 hc hp12, bdP_n, e4 N, bdE_n, show nI (A 6 c) + 1 = nI (A 6 c + 1) from nadd (A 6 c) 1, g2 N (z + 2)]
        unfold fX3_show_16
        unfold fX3_show_43 fX3_show_83
        rw [xo_6 m5 hc, bdP_n, ite_lt (by omega) (by omega), if_neg (by omega), xo_5 m5 hc, bdP_n, ite_eq (by omega) (by omega), if_neg (fun w => q w.symm), bdP_n, if_pos rfl, show nI (A 5 c) + 1 = nI (A 5 c + 1) from nadd (A 5 c) 1, stop N z M5 m5, g3.2.1]
  obtain ⟨n', K', M', r0, r1, r2, r3, r4⟩ := rest
  have fall : LF M M' := ((LF_0.trans b4).trans c4).trans r4
  have eC : mX2_show 13 O (nI c) = some (nI n', oset O 14 K') := by
    unfold mX2_show mX2_appendPages
    rw [c2_noCamp_n hc, bdP_n, if_pos (show (0 : Int32) = 0 from rfl), a1, bdS_n, inO_n, oset_ne (show (0 : Nat) ≠ 14 by decide), h2, rdA_n hc (by decide), pcK_at (by decide), show nI c * 12 + 0 = nI (c * 12 + 0) by rw [i12, nmul, show (0 : Int32) = nI 0 from rfl, nadd], b1 13 13 (by omega), bdO_n, oset_eq, show s_cC K1 124 = _ from c1, bdS_n, inO_n, oset_same, oset_ne (show (0 : Nat) ≠ 14 by decide), h2, rdA_n hc (by decide), rdA_n hc (by decide), pcK_at (by decide), pcK_at (by decide), i12, nmul, nadd, r1, bdO_n, oset_eq]
    unfold s_length
    rw [bdP_n, r3.1]
  have eM : ∀ N, 1400 ≤ N → mX3_show N M (nI c) = some (nI n', M') := by
    intro N hN
    obtain ⟨z, rfl⟩ : ∃ z, N = (z + 1) + A 6 c := ⟨N - 1 - A 6 c, by omega⟩
    unfold mX3_show
    rw [r2_camp_n hc, bdP_n, if_neg (show ¬ (1 : Int32) = 0 by decide), ptF_n, show fX3_show_16 (z + 1 + A 6 c) (z + 1 + A 6 c) (fset M 8 2 0) (nI c) 0 = _ from b2 _ (z + 1)]
    unfold fX3_show_16
    rw [xo_6 m1 hc, bdP_n, ite_lt (by omega) (by omega), if_neg (by omega), xo_5 m1 hc, bdP_n, if_pos rfl, show mX3_signs (z + 1 + A 6 c) M1 124 = _ from c2 _, bdE_n]
    exact r2 _ z (by omega)
  have hL : LE2 O M (some (nI n', oset O 14 K')) (some (nI n', M')) := ⟨n', K', M', r0, rfl, rfl, r3, fall⟩
  obtain ⟨r, O', M9, y1, y2, y3⟩ := j_line hJ hL
  cases y1
  cases y2
  exact ⟨_, _, _, eC, eM, y3⟩
