/-! ===== questions, class and reference side by side ===== -/
theorem off_pred {p : Int32} {n : Nat} (hn : n < 2 ^ 30) (h : p < 0 ∨ nI n ≤ p) : ¬ (0 ≤ p ∧ p ≤ nI n - 1) := by
  by_cases q : n = 0
  · subst q
    intro w
    exact absurd (Int32.le_trans w.1 w.2) (by decide +kernel)
  · obtain ⟨m, rfl⟩ : ∃ m, n = m + 1 := ⟨n - 1, by omega⟩
    have e : nI (m + 1) - 1 = nI m := nsub (b := 1) (by omega)
    rw [e]
    exact i32_off (by omega) h
theorem on_pred {j n : Nat} (hn : n < 2 ^ 30) (h : j < n) : 0 ≤ nI j ∧ nI j ≤ nI n - 1 := by
  have e : nI n - 1 = nI (n - 1) := nsub (b := 1) (by omega)
  rw [e]
  exact i32_on (by omega) (by omega)
theorem q_campOf {N B : Nat} {A : AT} {O : OT} {M : KT} (h : St B A) (hb : B + 20000 < 2 ^ 30) (ho : O 0 = pcK A) (hm : M 0 = pcM A) (p w : Int32) : ∃ r, mX2_campOf N O p w = some r ∧ mX3_campOf N M p w = some r := by
  obtain ⟨M0, rfl⟩ : ∃ M0, M = rm M0 A := ⟨M, (rm_self hm).symm⟩
  have hlt : Lt A := h.ltA (by omega)
  have hB := h.2.2.1
  unfold mX2_campOf mX3_campOf
  rcases ix2 p (n := 5) (by decide) with q | ⟨c, hc, rfl⟩
  · rw [c2_noCamp_y q, r2_camp_y q, bdP_n, bdP_n, if_neg (show ¬ (1 : Int32) = 0 by decide), if_pos rfl]
    exact ⟨_, rfl, rfl⟩
  rw [c2_noCamp_n hc, bdP_n, if_pos rfl, r2_camp_n hc, bdP_n, if_neg (show ¬ (1 : Int32) = 0 by decide), ho]
  by_cases w0 : w = 0
  · rw [if_pos w0, if_pos w0, rdA_n hc (by decide), pcK_at (by decide), show (0 : Int32) = nI 0 from rfl, x3_of0 hc, bdP_n]
    exact ⟨_, rfl, rfl⟩
  rw [if_neg w0, if_neg w0]
  by_cases w1 : w = 1
  · rw [if_pos w1, if_pos w1, rdA_n hc (by decide), pcK_v, show (1 : Int32) = nI 1 from rfl, x3_of1 hc, bdP_n, ite_z (hlt _ _)]
    unfold fX3_campOf_89 pcV
    by_cases v0 : A 1 c = 0
    · rw [if_pos v0, if_pos v0]; exact ⟨_, rfl, rfl⟩
    · rw [if_neg v0, if_neg v0, bdP_n, nsub (by omega)]; exact ⟨_, rfl, rfl⟩
  rw [if_neg w1, if_neg w1]
  by_cases w2 : w = 2
  · rw [if_pos w2, if_pos w2, rdA_n hc (by decide), pcK_at (by decide), show (2 : Int32) = nI 2 from rfl, x3_of2 hc, bdP_n]
    exact ⟨_, rfl, rfl⟩
  rw [if_neg w2, if_neg w2]
  by_cases w3 : w = 3
  · have h3 := hB.b3 c
    rw [if_pos w3, if_pos w3, rdA_n hc (by decide), pcK_at (by decide), r0_isAwake hc h3, bdP_n, ite_b0]
    by_cases a3 : A 3 c = 1
    · rw [if_pos a3, a3]; exact ⟨_, rfl, rfl⟩
    · rw [if_neg a3, show A 3 c = 0 by omega]; exact ⟨_, rfl, rfl⟩
  rw [if_neg w3, if_neg w3]
  by_cases w4 : w = 4
  · rw [if_pos w4, if_pos w4, rdA_n hc (by decide), pcK_at (by decide), show (6 : Int32) = nI 6 from rfl, x3_of6 hc, bdP_n]
    exact ⟨_, rfl, rfl⟩
  rw [if_neg w4, if_neg w4]
  by_cases w5 : w = 5
  · rw [if_pos w5, if_pos w5, rdA_n hc (by decide), pcK_at (by decide), show (5 : Int32) = nI 5 from rfl, x3_of5 hc, bdP_n]
    exact ⟨_, rfl, rfl⟩
  rw [if_neg w5, if_neg w5]
  by_cases w6 : w = 6
  · rw [if_pos w6, if_pos w6, rdA_n hc (by decide), pcK_at (by decide), show (4 : Int32) = nI 4 from rfl, x3_of4 hc, bdP_n]
    exact ⟨_, rfl, rfl⟩
  rw [if_neg w6, if_neg w6]
  by_cases w7 : w = 7
  · rw [if_pos w7, if_pos w7]
    exact ⟨_, rfl, rfl⟩
  rw [if_neg w7, if_neg w7]
  by_cases w8 : w = 8
  · rw [if_pos w8, if_pos w8, c0_lastTerm hlt hc (hB.b5 c), bdP_n, r0_lastTerm hlt hc (hB.b5 c), bdP_n]
    exact ⟨_, rfl, rfl⟩
  rw [if_neg w8, if_neg w8]
  exact ⟨_, rfl, rfl⟩
theorem c2_noPage_y {N B c : Nat} {A : AT} {O : OT} {p : Int32} (h : St B A) (hc : c < 5) (ho : O 0 = pcK A) (hp : p < 0 ∨ nI (A 5 c) ≤ p) : mX2_isNoPage N O (nI c) p = some 1 := by
  have hB := h.2.2.1
  unfold mX2_isNoPage fX2_isNoPage_24 fX2_isNoPage_29
  rw [c2_noCamp_n hc, bdP_n, if_pos rfl]
  by_cases q : p < 0
  · rw [if_pos q]; rfl
  · rw [if_neg q, ho, rdA_n hc (by decide), pcK_at (by decide), if_neg (Int32.not_lt.mpr (hp.resolve_left q))]; rfl
theorem c2_noPage_n {N B c j : Nat} {A : AT} {O : OT} (h : St B A) (hc : c < 5) (ho : O 0 = pcK A) (hj : j < A 5 c) : mX2_isNoPage N O (nI c) (nI j) = some 0 := by
  have h5 := h.2.2.1.b5 c
  unfold mX2_isNoPage fX2_isNoPage_29
  rw [c2_noCamp_n hc, bdP_n, if_pos rfl, if_neg (nI_pos (by omega)), ho, rdA_n hc (by decide), pcK_at (by decide), if_pos (nI_lt hj (by omega))]
  rfl
theorem c2_noPage_c {N : Nat} {O : OT} {p j : Int32} (hp : p < 0 ∨ nI 5 ≤ p) : mX2_isNoPage N O p j = some 1 := by
  unfold mX2_isNoPage fX2_isNoPage_24 fX2_isNoPage_29
  rw [c2_noCamp_y hp, bdP_n, if_neg (show ¬ (1 : Int32) = 0 by decide)]
  rfl
theorem q_pageOf {N B : Nat} {A : AT} {O : OT} {M : KT} (h : St B A) (hb : B + 20000 < 2 ^ 30) (ho : O 0 = pcK A) (hm : M 0 = pcM A) (p q w : Int32) : ∃ r, mX2_pageOf N O p q w = some r ∧ mX3_pageOf N M p q w = some r := by
  obtain ⟨M0, rfl⟩ : ∃ M0, M = rm M0 A := ⟨M, (rm_self hm).symm⟩
  have hlt : Lt A := h.ltA (by omega)
  have hB := h.2.2.1
  unfold mX2_pageOf mX3_pageOf
  rcases ix2 p (n := 5) (by decide) with z | ⟨c, hc, rfl⟩
  · rw [c2_noPage_c z, r2_camp_y z, bdP_n, bdP_n, if_neg (show ¬ (1 : Int32) = 0 by decide), if_pos rfl]
    exact ⟨_, rfl, rfl⟩
  have h5 := hB.b5 c
  rw [r2_camp_n hc, bdP_n, if_neg (show ¬ (1 : Int32) = 0 by decide), show (6 : Int32) = nI 6 from rfl, x3_of6 hc, bdP_n, r0_in, bdP_n, ite_b0]
  rcases ix2 q (n := A 5 c) (by omega) with z | ⟨j, hj, rfl⟩
  · rw [c2_noPage_y h hc ho z, bdP_n, if_neg (show ¬ (1 : Int32) = 0 by decide), if_neg (off_pred (by omega) z)]
    exact ⟨_, rfl, rfl⟩
  rw [c2_noPage_n h hc ho hj, bdP_n, if_pos rfl, if_pos (on_pred (by omega) hj), ho]
  rcases ix2 w (n := 2) (by decide) with z | ⟨v, hv, rfl⟩
  · have h01 : ¬ (0 ≤ w ∧ w ≤ nI 1) := i32_off (n := 1) (by decide) z
    have w0 : ¬ w = 0 := fun e => h01 (by rw [e]; decide)
    have w1 : ¬ w = 1 := fun e => h01 (by rw [e]; decide)
    rw [show mX3_in N w 0 1 = some 0 from r2_in_y (n := 1) (by decide) z, bdP_n, if_pos (show (0 : Int32) = 0 from rfl), if_neg w0, if_neg w1]
    exact ⟨_, rfl, rfl⟩
  · rw [show mX3_in N (nI v) 0 1 = some 1 from r2_in_n (n := 1) (by decide) (by omega), bdP_n, if_neg (show ¬ (1 : Int32) = 0 by decide), ite_z (by omega), ite_o (by omega)]
    by_cases v0 : v = 0
    · subst v0
      rw [if_pos rfl, i12, nmul, nadd, rdA_n (by omega) (by decide), pcK_at (by decide), x3_pageT hc (by omega), bdP_n]
      exact ⟨_, rfl, rfl⟩
    · obtain rfl : v = 1 := by omega
      rw [if_neg v0, if_pos rfl, i12, nmul, nadd, rdA_n (by omega) (by decide), pcK_at (by decide), x3_pageL hc (by omega), bdP_n]
      exact ⟨_, rfl, rfl⟩
theorem q_reaches {N B : Nat} {A : AT} {O : OT} {M : KT} (h : St B A) (hb : B + 20000 < 2 ^ 30) (ho : O 0 = pcK A) (hm : M 0 = pcM A) (p q : Int32) : ∃ r, mX2_reaches N O p q = some r ∧ mX3_reaches N M p q = some r := by
  obtain ⟨M0, rfl⟩ : ∃ M0, M = rm M0 A := ⟨M, (rm_self hm).symm⟩
  have hlt : Lt A := h.ltA (by omega)
  unfold mX2_reaches mX3_reaches
  rcases ix2 p (n := 5) (by decide) with z | ⟨a, ha, rfl⟩
  · rw [c2_noCamp_y z, r2_camp_y z, bdP_n, bdP_n, if_neg (show ¬ (1 : Int32) = 0 by decide), if_pos rfl]
    exact ⟨_, rfl, rfl⟩
  rw [c2_noCamp_n ha, bdP_n, if_pos rfl, r2_camp_n ha, bdP_n, if_neg (show ¬ (1 : Int32) = 0 by decide)]
  rcases ix2 q (n := 5) (by decide) with z | ⟨b, hb5, rfl⟩
  · rw [c2_noCamp_y z, r2_camp_y z, bdP_n, bdP_n, if_neg (show ¬ (1 : Int32) = 0 by decide), if_pos rfl]
    exact ⟨_, rfl, rfl⟩
  rw [c2_noCamp_n hb5, bdP_n, if_pos rfl, r2_camp_n hb5, bdP_n, if_neg (show ¬ (1 : Int32) = 0 by decide), ho, c0_isReached hlt ha hb5, bdP_n, r1_isReached ha hb5 h.2.2.1 h.2.2.2, bdP_n, ite_b0, ite_b0]
  by_cases hr : reach A a b
  · rw [if_pos hr, if_pos hr]; exact ⟨_, rfl, rfl⟩
  · rw [if_neg hr, if_neg hr]; exact ⟨_, rfl, rfl⟩
theorem q_matches {N B : Nat} {A : AT} {O : OT} {M : KT} (hN : 1400 ≤ N) (h : St B A) (hb : B + 20000 < 2 ^ 30) (ho : O 0 = pcK A) (hm : M 0 = pcM A) (p q : Int32) : ∃ r, mX2_matches N O p q = some r ∧ mX3_matches N M p q = some r := by
  obtain ⟨M0, rfl⟩ : ∃ M0, M = rm M0 A := ⟨M, (rm_self hm).symm⟩
  have hlt : Lt A := h.ltA (by omega)
  have hB := h.2.2.1
  unfold mX2_matches mX3_matches
  rcases ix2 p (n := 5) (by decide) with z | ⟨a, ha, rfl⟩
  · rw [c2_noCamp_y z, r2_camp_y z, bdP_n, bdP_n, if_neg (show ¬ (1 : Int32) = 0 by decide), if_pos rfl]
    exact ⟨_, rfl, rfl⟩
  rw [c2_noCamp_n ha, bdP_n, if_pos rfl, r2_camp_n ha, bdP_n, if_neg (show ¬ (1 : Int32) = 0 by decide)]
  rcases ix2 q (n := 5) (by decide) with z | ⟨b, hb5, rfl⟩
  · rw [c2_noCamp_y z, r2_camp_y z, bdP_n, bdP_n, if_neg (show ¬ (1 : Int32) = 0 by decide), if_pos rfl]
    exact ⟨_, rfl, rfl⟩
  rw [c2_noCamp_n hb5, bdP_n, if_pos rfl, r2_camp_n hb5, bdP_n, if_neg (show ¬ (1 : Int32) = 0 by decide), ho, c0_pagesAlike (by omega) hlt ha hb5 (hB.b5 a) (hB.b5 b), bdP_n, r0_alike (by omega) hlt ha hb5 (hB.b5 a) (hB.b5 b), bdP_n]
  exact ⟨_, rfl, rfl⟩
/-- halving finds the same number -/
theorem c0_halvesL {N a b : Nat} {A : AT} (hi : Inv A) (hlt : Lt A) (h5 : ∀ x, A 5 x ≤ 12) (ha : a < 5) (hb : b < 5) : ∀ (k n t lo up : Nat), k < n → t + k = 12 → lo ≤ alike A a b → alike A a b < up → up ≤ min (A 5 a) (A 5 b) + 1 → up - lo + t ≤ 13 → fX0_pagesAlikeByHalves_24 N (pcK A) n (nI a) (nI b) (nI lo) (nI up) (nI t) = some (nI (alike A a b)) := by
  intro k
  have h5a := h5 a
  have h5b := h5 b
  induction k with
  | zero =>
    intro n t lo up hn ht h1 h2 h3 h4
    obtain ⟨m, rfl⟩ : ∃ m, n = m + 1 := ⟨n - 1, by omega⟩
    unfold fX0_pagesAlikeByHalves_24 fX0_pagesAlikeByHalves_94
    rw [i12, ite_le (by omega) (by omega), if_pos (by omega), show lo = alike A a b by omega]
  | succ k ih =>
    intro n t lo up hn ht h1 h2 h3 h4
    obtain ⟨m, rfl⟩ : ∃ m, n = m + 1 := ⟨n - 1, by omega⟩
    unfold fX0_pagesAlikeByHalves_24 fX0_pagesAlikeByHalves_94 fX0_pagesAlikeByHalves_88
    rw [i12, ite_le (by omega) (by omega), if_neg (by omega), nsub (by omega), show (1 : Int32) = nI 1 from rfl, ite_le (by omega) (by omega)]
    by_cases q : up - lo ≤ 1
    · rw [if_pos q, show lo = alike A a b by omega]
    · have hm1 : lo < (lo + up) / 2 := by omega
      have hm2 : (lo + up) / 2 < up := by omega
      rw [if_neg q, nadd lo up, show (2 : Int32) = nI 2 from rfl, pk_div (by omega) (by decide) (by decide), nmul, nmul, nadd, nadd, nsub (by omega), nsub (by omega), rdA_n (by omega) (by decide), pcK_at (by decide), rdA_n (by omega) (by decide), pcK_at (by decide), ite_eq (hlt _ _) (hlt _ _), nadd t 1]
      have ht7 := Inv_terms hi (i := (lo + up) / 2 - 1) ha hb (by omega) (by omega)
      rw [show a * 12 + (lo + up) / 2 - 1 = a * 12 + ((lo + up) / 2 - 1) by omega, show b * 12 + (lo + up) / 2 - 1 = b * 12 + ((lo + up) / 2 - 1) by omega]
      by_cases w : A 7 (a * 12 + ((lo + up) / 2 - 1)) = A 7 (b * 12 + ((lo + up) / 2 - 1))
      · have := ht7.mp w
        rw [if_pos w]
        exact ih m (t + 1) ((lo + up) / 2) up (by omega) (by omega) (by omega) h2 h3 (by omega)
      · have : ¬ (lo + up) / 2 - 1 < alike A a b := fun z => w (ht7.mpr z)
        rw [if_neg w]
        exact ih m (t + 1) lo ((lo + up) / 2) (by omega) (by omega) h1 (by omega) (by omega) (by omega)
theorem c0_halves {N B a b : Nat} {A : AT} (hN : 100 ≤ N) (h : St B A) (hb2 : B + 20000 < 2 ^ 30) (ha : a < 5) (hb : b < 5) : mX0_pagesAlikeByHalves N (pcK A) (nI a) (nI b) = some (nI (alike A a b)) := by
  have hB := h.2.2.1
  obtain ⟨n1, n2, -, -⟩ := alike_spec (A := A) (a := a) (b := b) (hB.b5 a)
  have h5a := hB.b5 a
  have h5b := hB.b5 b
  unfold mX0_pagesAlikeByHalves
  rw [rdA_n ha (by decide), rdA_n hb (by decide), pcK_at (by decide), pcK_at (by decide), imin_n (by omega) (by omega), i1, nadd]
  exact c0_halvesL h.2.1 (h.ltA (by omega)) hB.b5 ha hb 12 N 0 0 (min (A 5 a) (A 5 b) + 1) (by omega) (by omega) (by omega) (by omega) (by omega) (by omega)
theorem q_matchesAgain {N B : Nat} {A : AT} {O : OT} {M : KT} (hN : 1400 ≤ N) (h : St B A) (hb : B + 20000 < 2 ^ 30) (ho : O 0 = pcK A) (hm : M 0 = pcM A) (p q : Int32) : ∃ r, mX2_matchesAgain N O p q = some r ∧ mX3_matchesAgain N M p q = some r := by
  obtain ⟨M0, rfl⟩ : ∃ M0, M = rm M0 A := ⟨M, (rm_self hm).symm⟩
  have hlt : Lt A := h.ltA (by omega)
  have hB := h.2.2.1
  unfold mX2_matchesAgain mX3_matchesAgain mX3_matches fX3_matches_23 fX3_matches_24
  rcases ix2 p (n := 5) (by decide) with z | ⟨a, ha, rfl⟩
  · rw [c2_noCamp_y z, r2_camp_y z, bdP_n, bdP_n, if_neg (show ¬ (1 : Int32) = 0 by decide), if_pos rfl]
    exact ⟨_, rfl, rfl⟩
  rw [c2_noCamp_n ha, bdP_n, if_pos rfl, r2_camp_n ha, bdP_n, if_neg (show ¬ (1 : Int32) = 0 by decide)]
  rcases ix2 q (n := 5) (by decide) with z | ⟨b, hb5, rfl⟩
  · rw [c2_noCamp_y z, r2_camp_y z, bdP_n, bdP_n, if_neg (show ¬ (1 : Int32) = 0 by decide), if_pos rfl]
    exact ⟨_, rfl, rfl⟩
  rw [c2_noCamp_n hb5, bdP_n, if_pos rfl, r2_camp_n hb5, bdP_n, if_neg (show ¬ (1 : Int32) = 0 by decide), ho, c0_halves (by omega) h hb ha hb5, bdP_n, r0_alike (by omega) hlt ha hb5 (hB.b5 a) (hB.b5 b), bdP_n]
  exact ⟨_, rfl, rfl⟩
/-! the captain with the greatest term -/
def bestN (A : AT) : Nat → Nat
  | 0 => 0
  | k + 1 => if A 2 k = 1 ∧ (bestN A k = 0 ∨ A 0 (bestN A k - 1) < A 0 k) then k + 1 else bestN A k
def bestT (A : AT) (k : Nat) : Int32 := if bestN A k = 0 then -1 else nI (A 0 (bestN A k - 1))
theorem bestN_le {A : AT} : ∀ k, bestN A k ≤ k := by
  intro k
  induction k with
  | zero => exact Nat.le_refl _
  | succ k ih =>
    unfold bestN
    by_cases q : A 2 k = 1 ∧ (bestN A k = 0 ∨ A 0 (bestN A k - 1) < A 0 k)
    · rw [if_pos q]; exact Nat.le_refl _
    · rw [if_neg q]; omega
theorem bestN_is {A : AT} : ∀ k, (bestN A k ≠ 0 → A 2 (bestN A k - 1) = 1) ∧ ∀ c, c < k → A 2 c = 1 → bestN A k ≠ 0 ∧ A 0 c ≤ A 0 (bestN A k - 1) := by
  intro k
  induction k with
  | zero => exact ⟨fun h => absurd rfl h, fun c hc => absurd hc (by omega)⟩
  | succ k ih =>
    unfold bestN
    by_cases q : A 2 k = 1 ∧ (bestN A k = 0 ∨ A 0 (bestN A k - 1) < A 0 k)
    · rw [if_pos q]
      refine ⟨fun _ => q.1, fun c hc h2 => ⟨by omega, ?_⟩⟩
      show A 0 c ≤ A 0 k
      by_cases w : c = k
      · rw [w]; exact Nat.le_refl _
      · obtain ⟨h3, h4⟩ := ih.2 c (by omega) h2
        rcases q.2 with q2 | q2
        · exact absurd q2 h3
        · omega
    · rw [if_neg q]
      refine ⟨ih.1, fun c hc h2 => ?_⟩
      by_cases w : c = k
      · subst w
        have : ¬ (bestN A c = 0 ∨ A 0 (bestN A c - 1) < A 0 c) := fun z => q ⟨h2, z⟩
        omega
      · exact ih.2 c (by omega) h2
theorem c0_greatL {N : Nat} {A : AT} (hlt : Lt A) : ∀ (k n i : Nat), k < n → i + k = 5 → fX0_greatestCaptain_7 N (pcK A) n (pcV (bestN A i)) (bestT A i) (nI i) = some (pcV (bestN A 5)) := by
  intro k
  induction k with
  | zero =>
    intro n i hn hi
    obtain ⟨m, rfl⟩ : ∃ m, n = m + 1 := ⟨n - 1, by omega⟩
    unfold fX0_greatestCaptain_7
    rw [show (5 : Int32) = nI 5 from rfl, ite_le (by omega) (by omega), if_pos (by omega), show i = 5 by omega]
  | succ k ih =>
    intro n i hn hi
    obtain ⟨m, rfl⟩ : ∃ m, n = m + 1 := ⟨n - 1, by omega⟩
    have e := ih m (i + 1) (by omega) (by omega)
    have hi5 : i < 5 := by omega
    have hbl := bestN_le (A := A) i
    unfold fX0_greatestCaptain_7 fX0_greatestCaptain_41
    rw [show (5 : Int32) = nI 5 from rfl, ite_le (by omega) (by omega), if_neg (by omega), rdA_n hi5 (by decide), pcK_at (by decide), ite_o (hlt _ _), rdA_n hi5 (by decide), pcK_at (by decide), show nI i + 1 = nI (i + 1) from nadd i 1]
    by_cases h2 : A 2 i = 1
    · rw [if_pos h2]
      have et : (if nI (A 0 i) ≤ bestT A i then fX0_greatestCaptain_7 N (pcK A) m (pcV (bestN A i)) (bestT A i) (nI (i + 1)) else rdA (pcK A 0) 5 (nI i) fun v8 => fX0_greatestCaptain_7 N (pcK A) m (nI i) v8 (nI (i + 1))) = fX0_greatestCaptain_7 N (pcK A) m (pcV (bestN A (i + 1))) (bestT A (i + 1)) (nI (i + 1)) := by
        unfold bestT
        by_cases h0 : bestN A i = 0
        · have e1 : bestN A (i + 1) = i + 1 := if_pos ⟨h2, Or.inl h0⟩
          rw [if_pos h0, if_neg (fun q => absurd (Int32.le_trans (nI_pos' (hlt 0 i)) q) (by decide)), rdA_n hi5 (by decide), pcK_at (by decide), e1, if_neg (by omega), ← pcV_s]
          rfl
        · rw [if_neg h0, ite_le (hlt _ _) (hlt _ _)]
          by_cases h3 : A 0 (bestN A i - 1) < A 0 i
          · have e1 : bestN A (i + 1) = i + 1 := if_pos ⟨h2, Or.inr h3⟩
            rw [if_neg (by omega), rdA_n hi5 (by decide), pcK_at (by decide), e1, if_neg (by omega), ← pcV_s]
            rfl
          · have e1 : bestN A (i + 1) = bestN A i := if_neg (by omega)
            rw [if_pos (by omega), e1, if_neg h0]
      rw [et]
      exact e
    · have e1 : bestN A (i + 1) = bestN A i := if_neg (fun q => h2 q.1)
      have e2 : bestT A (i + 1) = bestT A i := by unfold bestT; rw [e1]
      rw [if_neg h2]
      rw [e1, e2] at e
      exact e
theorem c0_great {N : Nat} {A : AT} (hN : 100 ≤ N) (hlt : Lt A) : mX0_greatestCaptain N (pcK A) = some (pcV (bestN A 5)) := by
  unfold mX0_greatestCaptain
  exact c0_greatL hlt 5 N 0 (by omega) (by omega)
theorem pcV_neg {v : Nat} (hv : v < 65536) : (pcV v < 0) = (v = 0) := by
  apply propext
  unfold pcV
  by_cases q : v = 0
  · rw [if_pos q]; exact ⟨fun _ => q, fun _ => by decide⟩
  · rw [if_neg q]; exact ⟨fun h => absurd h (nI_pos (by omega)), fun h => absurd h q⟩
theorem pcV_n {v : Nat} (h : v ≠ 0) : pcV v = nI (v - 1) := if_neg h
theorem r2_captL {N : Nat} {M0 : KT} {A : AT} (hlt : Lt A) : ∀ (k n i : Nat), k < n → i + k = 5 → fX3_captain_5 N (rm M0 A) n (pcV (bestN A i)) (nI i) = some (pcV (bestN A 5)) := by
  intro k
  induction k with
  | zero =>
    intro n i hn hi
    obtain ⟨m, rfl⟩ : ∃ m, n = m + 1 := ⟨n - 1, by omega⟩
    unfold fX3_captain_5
    rw [show (5 : Int32) = nI 5 from rfl, ite_le (by omega) (by omega), if_pos (by omega), show i = 5 by omega]
  | succ k ih =>
    intro n i hn hi
    obtain ⟨m, rfl⟩ : ∃ m, n = m + 1 := ⟨n - 1, by omega⟩
    have e := ih m (i + 1) (by omega) (by omega)
    have hi5 : i < 5 := by omega
    have hbl := bestN_le (A := A) i
    unfold fX3_captain_5 fX3_captain_39 fX3_captain_41
    rw [show (5 : Int32) = nI 5 from rfl, ite_le (by omega) (by omega), if_neg (by omega), show (2 : Int32) = nI 2 from rfl, x3_of2 hi5, bdP_n, ite_o (hlt _ _), show nI i + 1 = nI (i + 1) from nadd i 1]
    simp only [pcV_neg (v := bestN A i) (by omega)]
    by_cases h2 : A 2 i = 1
    · rw [if_pos h2]
      by_cases h0 : bestN A i = 0
      · have e1 : bestN A (i + 1) = i + 1 := if_pos ⟨h2, Or.inl h0⟩
        rw [if_pos h0]
        rw [e1, ← pcV_s] at e
        exact e
      · rw [if_neg h0, pcV_n h0, show (0 : Int32) = nI 0 from rfl, x3_of0 hi5, bdP_n, x3_of0 (by omega), bdP_n, ite_le (hlt _ _) (hlt _ _)]
        by_cases h3 : A 0 (bestN A i - 1) < A 0 i
        · have e1 : bestN A (i + 1) = i + 1 := if_pos ⟨h2, Or.inr h3⟩
          rw [if_neg (by omega)]
          rw [e1, ← pcV_s] at e
          exact e
        · have e1 : bestN A (i + 1) = bestN A i := if_neg (by omega)
          rw [if_pos (by omega)]
          rw [e1, pcV_n h0] at e
          exact e
    · have e1 : bestN A (i + 1) = bestN A i := if_neg (fun q => h2 q.1)
      rw [if_neg h2]
      rw [e1] at e
      exact e
theorem q_captain {N B : Nat} {A : AT} {O : OT} {M : KT} (hN : 1400 ≤ N) (h : St B A) (hb : B + 20000 < 2 ^ 30) (ho : O 0 = pcK A) (hm : M 0 = pcM A) : ∃ r, mX2_captain N O = some r ∧ mX3_captain N M = some r := by
  obtain ⟨M0, rfl⟩ : ∃ M0, M = rm M0 A := ⟨M, (rm_self hm).symm⟩
  have hlt : Lt A := h.ltA (by omega)
  refine ⟨pcV (bestN A 5), ?_, ?_⟩
  · unfold mX2_captain
    rw [ho, c0_great (by omega) hlt, bdP_n]
  · unfold mX3_captain
    exact r2_captL hlt 5 N 0 (by omega) (by omega)
/-! counts -/
def cntN (p : Nat → Bool) : Nat → Nat
  | 0 => 0
  | k + 1 => cntN p k + (if p k = true then 1 else 0)
theorem cntN_le {p : Nat → Bool} : ∀ k, cntN p k ≤ k := by
  intro k
  induction k with
  | zero => exact Nat.le_refl _
  | succ k ih =>
    show cntN p k + (if p k = true then 1 else 0) ≤ k + 1
    by_cases q : p k = true
    · rw [if_pos q]; omega
    · rw [if_neg q]; omega
def alkB (A : AT) (a n : Nat) (b : Nat) : Bool := decide (n ≤ alike A a b)
theorem c0_campsL {N a w : Nat} {A : AT} (hN : 100 ≤ N) (hlt : Lt A) (h5 : ∀ x, A 5 x ≤ 12) (ha : a < 5) (hw : w < 100) : ∀ (k n i : Nat), k < n → i + k = 5 → fX0_campsAlike_5 N (pcK A) n (nI a) (nI w) (nI (cntN (alkB A a w) i)) (nI i) = some (nI (cntN (alkB A a w) 5)) := by
  intro k
  induction k with
  | zero =>
    intro n i hn hi
    obtain ⟨m, rfl⟩ : ∃ m, n = m + 1 := ⟨n - 1, by omega⟩
    unfold fX0_campsAlike_5
    rw [show (5 : Int32) = nI 5 from rfl, ite_le (by omega) (by omega), if_pos (by omega), show i = 5 by omega]
  | succ k ih =>
    intro n i hn hi
    obtain ⟨m, rfl⟩ : ∃ m, n = m + 1 := ⟨n - 1, by omega⟩
    have e := ih m (i + 1) (by omega) (by omega)
    have hi5 : i < 5 := by omega
    have h5a := h5 a
    obtain ⟨n1, -, -, -⟩ := alike_spec (A := A) (a := a) (b := i) h5a
    have e1 : cntN (alkB A a w) (i + 1) = cntN (alkB A a w) i + (if alkB A a w i = true then 1 else 0) := rfl
    unfold fX0_campsAlike_5 fX0_campsAlike_25
    rw [show (5 : Int32) = nI 5 from rfl, ite_le (by omega) (by omega), if_neg (by omega), c0_pagesAlike hN hlt ha hi5 h5a (h5 i), bdP_n, ite_lt (by omega) (by omega), i1, nadd, nadd]
    by_cases q : alike A a i < w
    · rw [if_neg (show ¬ alkB A a w i = true by unfold alkB; rw [decide_eq_true_iff]; omega)] at e1
      rw [if_pos q]
      rw [e1] at e
      exact e
    · rw [if_pos (show alkB A a w i = true by unfold alkB; rw [decide_eq_true_iff]; omega)] at e1
      rw [if_neg q]
      rw [e1] at e
      exact e
theorem c0_camps {N a w : Nat} {A : AT} (hN : 100 ≤ N) (hlt : Lt A) (h5 : ∀ x, A 5 x ≤ 12) (ha : a < 5) (hw : w < 100) : mX0_campsAlike N (pcK A) (nI a) (nI w) = some (nI (cntN (alkB A a w) 5)) := by
  unfold mX0_campsAlike
  exact c0_campsL hN hlt h5 ha hw 5 N 0 (by omega) (by omega)
theorem r2_holdL {N a w : Nat} {M0 : KT} {A : AT} (hN : 100 ≤ N) (hlt : Lt A) (h5 : ∀ x, A 5 x ≤ 12) (ha : a < 5) (hw : w < 100) : ∀ (k n i : Nat), k < n → i + k = 5 → fX3_holders_31 N (rm M0 A) n (nI a) (nI w) (nI (cntN (alkB A a (w + 1)) i)) (nI i) = some (nI (cntN (alkB A a (w + 1)) 5)) := by
  intro k
  induction k with
  | zero =>
    intro n i hn hi
    obtain ⟨m, rfl⟩ : ∃ m, n = m + 1 := ⟨n - 1, by omega⟩
    unfold fX3_holders_31
    rw [show (5 : Int32) = nI 5 from rfl, ite_le (by omega) (by omega), if_pos (by omega), show i = 5 by omega]
  | succ k ih =>
    intro n i hn hi
    obtain ⟨m, rfl⟩ : ∃ m, n = m + 1 := ⟨n - 1, by omega⟩
    have e := ih m (i + 1) (by omega) (by omega)
    have hi5 : i < 5 := by omega
    have h5a := h5 a
    obtain ⟨n1, -, -, -⟩ := alike_spec (A := A) (a := a) (b := i) h5a
    have e1 : cntN (alkB A a (w + 1)) (i + 1) = cntN (alkB A a (w + 1)) i + (if alkB A a (w + 1) i = true then 1 else 0) := rfl
    unfold fX3_holders_31 fX3_holders_51
    rw [show (5 : Int32) = nI 5 from rfl, ite_le (by omega) (by omega), if_neg (by omega), r0_alike hN hlt ha hi5 h5a (h5 i), bdP_n, ite_le (by omega) (by omega), i1, nadd, nadd]
    by_cases q : alike A a i ≤ w
    · rw [if_neg (show ¬ alkB A a (w + 1) i = true by unfold alkB; rw [decide_eq_true_iff]; omega)] at e1
      rw [if_pos q]
      rw [e1] at e
      exact e
    · rw [if_pos (show alkB A a (w + 1) i = true by unfold alkB; rw [decide_eq_true_iff]; omega)] at e1
      rw [if_neg q]
      rw [e1] at e
      exact e
theorem q_holders {N B : Nat} {A : AT} {O : OT} {M : KT} (hN : 1400 ≤ N) (h : St B A) (hb : B + 20000 < 2 ^ 30) (ho : O 0 = pcK A) (hm : M 0 = pcM A) (p q : Int32) : ∃ r, mX2_holders N O p q = some r ∧ mX3_holders N M p q = some r := by
  obtain ⟨M0, rfl⟩ : ∃ M0, M = rm M0 A := ⟨M, (rm_self hm).symm⟩
  have hlt : Lt A := h.ltA (by omega)
  have hB := h.2.2.1
  unfold mX2_holders mX3_holders
  rcases ix2 p (n := 5) (by decide) with z | ⟨c, hc, rfl⟩
  · rw [c2_noPage_c z, r2_camp_y z, bdP_n, bdP_n, if_neg (show ¬ (1 : Int32) = 0 by decide), if_pos rfl]
    exact ⟨_, rfl, rfl⟩
  have h5 := hB.b5 c
  rw [r2_camp_n hc, bdP_n, if_neg (show ¬ (1 : Int32) = 0 by decide), show (6 : Int32) = nI 6 from rfl, x3_of6 hc, bdP_n, r0_in, bdP_n, ite_b0]
  rcases ix2 q (n := A 5 c) (by omega) with z | ⟨j, hj, rfl⟩
  · rw [c2_noPage_y h hc ho z, bdP_n, if_neg (show ¬ (1 : Int32) = 0 by decide), if_neg (off_pred (by omega) z)]
    exact ⟨_, rfl, rfl⟩
  rw [c2_noPage_n h hc ho hj, bdP_n, if_pos rfl, if_pos (on_pred (by omega) hj), ho, show nI j + 1 = nI (j + 1) from nadd j 1, c0_camps (by omega) hlt hB.b5 hc (by omega), bdP_n]
  exact ⟨_, rfl, r2_holdL (by omega) hlt hB.b5 hc (by omega) 5 N 0 (by omega) (by omega)⟩
/-! the letters on settled pages -/
def mostN (A : AT) : Nat → Nat
  | 0 => 0
  | k + 1 => if A 6 (mostN A k) < A 6 (k + 1) then k + 1 else mostN A k
theorem mostN_le {A : AT} : ∀ k, mostN A k ≤ k := by
  intro k
  induction k with
  | zero => exact Nat.le_refl _
  | succ k ih =>
    unfold mostN
    by_cases q : A 6 (mostN A k) < A 6 (k + 1)
    · rw [if_pos q]; exact Nat.le_refl _
    · rw [if_neg q]; omega
def letB (A : AT) (c x : Nat) (p : Nat) : Bool := decide (A 8 (c * 12 + p) = x)
theorem c0_lettL {N c x : Nat} {A : AT} (hlt : Lt A) (hc : c < 5) (h6 : A 6 c ≤ 12) (hx : x < 4) : ∀ (k n i : Nat), k < n → i + k = A 6 c → fX0_settledPagesWith_37 N (pcK A) n (nI x) (nI c) (nI (cntN (letB A c x) i)) (nI i) = some (nI (cntN (letB A c x) (A 6 c))) := by
  intro k
  induction k with
  | zero =>
    intro n i hn hi
    obtain ⟨m, rfl⟩ : ∃ m, n = m + 1 := ⟨n - 1, by omega⟩
    unfold fX0_settledPagesWith_37
    rw [rdA_n hc (by decide), pcK_at (by decide), ite_le (by omega) (by omega), if_pos (by omega), show i = A 6 c by omega]
  | succ k ih =>
    intro n i hn hi
    obtain ⟨m, rfl⟩ : ∃ m, n = m + 1 := ⟨n - 1, by omega⟩
    have e := ih m (i + 1) (by omega) (by omega)
    have e1 : cntN (letB A c x) (i + 1) = cntN (letB A c x) i + (if letB A c x i = true then 1 else 0) := rfl
    unfold fX0_settledPagesWith_37 fX0_settledPagesWith_67
    rw [rdA_n hc (by decide), pcK_at (by decide), ite_le (by omega) (by omega), if_neg (by omega), i12, nmul, nadd, rdA_n (by omega) (by decide), pcK_at (by decide), ite_eq (hlt _ _) (by omega), i1, nadd, nadd]
    by_cases q : A 8 (c * 12 + i) = x
    · rw [if_pos (show letB A c x i = true by unfold letB; rw [decide_eq_true_iff]; exact q)] at e1
      rw [if_pos q]
      rw [e1] at e
      exact e
    · rw [if_neg (show ¬ letB A c x i = true by unfold letB; rw [decide_eq_true_iff]; exact q)] at e1
      rw [if_neg q]
      rw [e1] at e
      exact e
theorem c0_mostL {N x : Nat} {A : AT} (hN : 100 ≤ N) (hlt : Lt A) (h6 : ∀ c, A 6 c ≤ 12) (hx : x < 4) : ∀ (k n i : Nat), k < n → i + k = 4 → fX0_settledPagesWith_4 N (pcK A) n (nI x) (nI (mostN A i)) (nI (i + 1)) = some (nI (cntN (letB A (mostN A 4) x) (A 6 (mostN A 4)))) := by
  intro k
  induction k with
  | zero =>
    intro n i hn hi
    obtain ⟨m, rfl⟩ : ∃ m, n = m + 1 := ⟨n - 1, by omega⟩
    have hm := mostN_le (A := A) 4
    unfold fX0_settledPagesWith_4 fX0_settledPagesWith_32
    rw [show (5 : Int32) = nI 5 from rfl, ite_le (by omega) (by omega), if_pos (by omega), show i = 4 by omega]
    exact c0_lettL hlt (by omega) (h6 _) hx (A 6 (mostN A 4)) N 0 (by have := h6 (mostN A 4); omega) (by omega)
  | succ k ih =>
    intro n i hn hi
    obtain ⟨m, rfl⟩ : ∃ m, n = m + 1 := ⟨n - 1, by omega⟩
    have hm := mostN_le (A := A) i
    have e := ih m (i + 1) (by omega) (by omega)
    have e1 : mostN A (i + 1) = if A 6 (mostN A i) < A 6 (i + 1) then i + 1 else mostN A i := rfl
    unfold fX0_settledPagesWith_4 fX0_settledPagesWith_26
    rw [show (5 : Int32) = nI 5 from rfl, ite_le (by omega) (by omega), if_neg (by omega), rdA_n (by omega) (by decide), pcK_at (by decide), rdA_n (by omega) (by decide), pcK_at (by decide), ite_le (hlt _ _) (hlt _ _), i1, nadd]
    by_cases q : A 6 (mostN A i) < A 6 (i + 1)
    · rw [if_pos q] at e1
      rw [if_neg (by omega)]
      rw [e1] at e
      exact e
    · rw [if_neg q] at e1
      rw [if_pos (by omega)]
      rw [e1] at e
      exact e
theorem r2_lettL {N c x : Nat} {M0 : KT} {A : AT} (hlt : Lt A) (hc : c < 5) (h6 : A 6 c ≤ 12) (hx : x < 4) : ∀ (k n i : Nat), k < n → i + k = A 6 c → fX3_letters_48 N (rm M0 A) n (nI x) (nI c) (nI (cntN (letB A c x) i)) (nI i) = some (nI (cntN (letB A c x) (A 6 c))) := by
  intro k
  induction k with
  | zero =>
    intro n i hn hi
    obtain ⟨m, rfl⟩ : ∃ m, n = m + 1 := ⟨n - 1, by omega⟩
    unfold fX3_letters_48
    rw [show (5 : Int32) = nI 5 from rfl, x3_of5 hc, bdP_n, ite_le (by omega) (by omega), if_pos (by omega), show i = A 6 c by omega]
  | succ k ih =>
    intro n i hn hi
    obtain ⟨m, rfl⟩ : ∃ m, n = m + 1 := ⟨n - 1, by omega⟩
    have e := ih m (i + 1) (by omega) (by omega)
    have e1 : cntN (letB A c x) (i + 1) = cntN (letB A c x) i + (if letB A c x i = true then 1 else 0) := rfl
    unfold fX3_letters_48 fX3_letters_74
    rw [show (5 : Int32) = nI 5 from rfl, x3_of5 hc, bdP_n, ite_le (by omega) (by omega), if_neg (by omega), show (1 : Int32) = nI 1 from rfl, x3_pageL hc (by omega), bdP_n, ite_eq (hlt _ _) (by omega), nadd, nadd]
    by_cases q : A 8 (c * 12 + i) = x
    · rw [if_pos (show letB A c x i = true by unfold letB; rw [decide_eq_true_iff]; exact q)] at e1
      rw [if_pos q]
      rw [e1] at e
      exact e
    · rw [if_neg (show ¬ letB A c x i = true by unfold letB; rw [decide_eq_true_iff]; exact q)] at e1
      rw [if_neg q]
      rw [e1] at e
      exact e
theorem r2_mostL {N x : Nat} {M0 : KT} {A : AT} (hN : 100 ≤ N) (hlt : Lt A) (h6 : ∀ c, A 6 c ≤ 12) (hx : x < 4) : ∀ (k n i : Nat), k < n → i + k = 4 → fX3_letters_15 N (rm M0 A) n (nI x) (nI (mostN A i)) (nI (i + 1)) = some (nI (cntN (letB A (mostN A 4) x) (A 6 (mostN A 4)))) := by
  intro k
  induction k with
  | zero =>
    intro n i hn hi
    obtain ⟨m, rfl⟩ : ∃ m, n = m + 1 := ⟨n - 1, by omega⟩
    have hm := mostN_le (A := A) 4
    unfold fX3_letters_15 fX3_letters_43
    rw [show (5 : Int32) = nI 5 from rfl, ite_le (by omega) (by omega), if_pos (by omega), show i = 4 by omega]
    exact r2_lettL hlt (by omega) (h6 _) hx (A 6 (mostN A 4)) N 0 (by have := h6 (mostN A 4); omega) (by omega)
  | succ k ih =>
    intro n i hn hi
    obtain ⟨m, rfl⟩ : ∃ m, n = m + 1 := ⟨n - 1, by omega⟩
    have hm := mostN_le (A := A) i
    have e := ih m (i + 1) (by omega) (by omega)
    have e1 : mostN A (i + 1) = if A 6 (mostN A i) < A 6 (i + 1) then i + 1 else mostN A i := rfl
    unfold fX3_letters_15 fX3_letters_37
    rw [show (5 : Int32) = nI 5 from rfl, ite_le (by omega) (by omega), if_neg (by omega), x3_of5 (by omega), bdP_n, x3_of5 (by omega), bdP_n, ite_le (hlt _ _) (hlt _ _), i1, nadd]
    by_cases q : A 6 (mostN A i) < A 6 (i + 1)
    · rw [if_pos q] at e1
      rw [if_neg (by omega)]
      rw [e1] at e
      exact e
    · rw [if_neg q] at e1
      rw [if_pos (by omega)]
      rw [e1] at e
      exact e
theorem q_letters {N B : Nat} {A : AT} {O : OT} {M : KT} (hN : 1400 ≤ N) (h : St B A) (hb : B + 20000 < 2 ^ 30) (ho : O 0 = pcK A) (hm : M 0 = pcM A) (p : Int32) : ∃ r, mX2_letters N O p = some r ∧ mX3_letters N M p = some r := by
  obtain ⟨M0, rfl⟩ : ∃ M0, M = rm M0 A := ⟨M, (rm_self hm).symm⟩
  have hlt : Lt A := h.ltA (by omega)
  have hB := h.2.2.1
  unfold mX2_letters mX3_letters
  rcases ix2 p (n := 4) (by decide) with z | ⟨x, hx, rfl⟩
  · rw [c2_noLetter_y z, show mX3_in N p 0 3 = some 0 from r2_in_y (n := 3) (by decide) z, bdP_n, bdP_n, if_neg (show ¬ (1 : Int32) = 0 by decide), if_pos rfl]
    exact ⟨_, rfl, rfl⟩
  have e2 : mX0_settledPagesWith N (pcK A) (nI x) = some (nI (cntN (letB A (mostN A 4) x) (A 6 (mostN A 4)))) := by
    unfold mX0_settledPagesWith
    exact c0_mostL (by omega) hlt hB.b6 hx 4 N 0 (by omega) (by omega)
  rw [c2_noLetter_n hx, bdP_n, if_pos rfl, show mX3_in N (nI x) 0 3 = some 1 from r2_in_n (n := 3) (by decide) (by omega), bdP_n, if_neg (show ¬ (1 : Int32) = 0 by decide), ho, e2, bdP_n]
  exact ⟨_, rfl, r2_mostL (by omega) hlt hB.b6 hx 4 N 0 (by omega) (by omega)⟩
