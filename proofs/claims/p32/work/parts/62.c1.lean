/-! ===== marches and hours, the class ===== -/
def l12 (A : AT) : Prop := ∀ x, x < 5 → A 5 x ≤ 12 ∧ A 1 x ≤ 5
theorem c0_copyL {N a b : Nat} (ha : a < 5) (hb : b < 5) (hab : a ≠ b) : ∀ (k n : Nat) (A : AT) (p : Nat), k < n → Lt A → A 5 a ≤ 12 → k = A 5 a - p → p ≤ 12 → fX0_visit_99 N n (pcK A) (nI a) (nI b) (nI p) = fX0_visit_164 N (pcK (copyL a b k A p)) (nI a) (nI b) := by
  intro k
  induction k with
  | zero =>
    intro n A p hn hlt h12 hk hp
    obtain ⟨m, rfl⟩ : ∃ m, n = m + 1 := ⟨n - 1, by omega⟩
    unfold fX0_visit_99 copyL
    rw [rdA_n ha (by decide), pcK_at (by decide), ite_le (by omega) (by omega), if_pos (by omega)]
  | succ k ih =>
    intro n A p hn hlt h12 hk hp
    obtain ⟨m, rfl⟩ : ∃ m, n = m + 1 := ⟨n - 1, by omega⟩
    unfold fX0_visit_99 copyL
    rw [rdA_n ha (by decide), pcK_at (by decide), ite_le (by omega) (by omega), if_neg (by omega), i12, i1, nmul, nmul, nadd, nadd, nadd, rdA_n (by omega) (by decide), pcK_at (by decide), wrA_n (by omega) (by decide), fset_pcK (by decide), rdA_n (by omega) (by decide), pcK_at (by decide), wrA_n (by omega) (by decide), fset_pcK (by decide), aset_f (show (8 : Nat) ≠ 7 by decide)]
    refine ih m _ (p + 1) (by omega) ((hlt.set (hlt _ _)).set (hlt _ _)) ?_ ?_ (by omega)
    · simp [aset]; exact h12
    · simp [aset]; omega
theorem c0_visit {N a b : Nat} {A : AT} (hN : 100 ≤ N) (ha : a < 5) (hb : b < 5) (hab : a ≠ b) (hlt : Lt A) (h12 : l12 A) (hbig : A 10 3 + 12 < 2 ^ 31) : mX0_visit N (pcK A) (nI a) (nI b) = some (0, pcK (visitS A a b)) := by
  have tail : ∀ B : AT, Lt B → B 5 a ≤ 12 → B 5 b ≤ 12 → fX0_visit_91 N (pcK B) (nI a) (nI b) = some (0, pcK (copyS B a b)) := by
    intro B hltB h1 h2
    unfold fX0_visit_91
    rw [rdA_n hb (by decide), pcK_at (by decide), c0_copyL ha hb hab (B 5 a - B 5 b) N B (B 5 b) (by omega) hltB h1 rfl h2]
    obtain ⟨c1, -, -⟩ := copyL_spec ha hb hab (B 5 a - B 5 b) B (B 5 b) (by omega)
    unfold fX0_visit_164 copyS
    rw [rdA_n hb (by decide), rdA_n ha (by decide), pcK_at (by decide), pcK_at (by decide), c1 5 b (by decide) (by decide), c1 5 a (by decide) (by decide), imax_n (by omega) (by omega), wrA_n hb (by decide), fset_pcK (by decide)]
  have mid : ∀ B : AT, Lt B → B 5 a ≤ 12 → B 5 b ≤ 12 → B 10 3 + 12 < 2 ^ 31 → fX0_visit_26 N (pcK B) (nI a) (nI b) = some (0, pcK (copyS (tearS (aset (aset B 2 b 0) 4 b 0) a b) a b)) := by
    intro B hltB h1 h2 h3
    have hltC : Lt (aset (aset B 2 b 0) 4 b 0) := (hltB.set (by decide)).set (by decide)
    have e5 : ∀ x, aset (aset B 2 b 0) 4 b 0 5 x = B 5 x := fun x => by simp [aset]
    have e10 : aset (aset B 2 b 0) 4 b 0 10 3 = B 10 3 := by simp [aset]
    unfold fX0_visit_26
    rw [i0, wrA_n hb (by decide), fset_pcK (by decide), wrA_n hb (by decide), fset_pcK (by decide)]
    generalize aset (aset B 2 b 0) 4 b 0 = C at hltC e5 e10 ⊢
    rw [c0_pagesAlike hN hltC ha hb (by rw [e5]; exact h1) (by rw [e5]; exact h2), bdP_n]
    obtain ⟨n1, n2, -, -⟩ := alike_spec (A := C) (a := a) (b := b) (by rw [e5]; exact h1)
    rw [e5] at n1 n2
    rw [rdA_n ha (by decide), rdA_n hb (by decide), pcK_at (by decide), pcK_at (by decide), e5, e5, ite_le (by omega) (by omega), ite_le (by omega) (by omega)]
    unfold tearS
    rw [e5, e5]
    by_cases q1 : B 5 a ≤ alike C a b
    · rw [if_pos q1, if_neg (by omega)]
      exact tail C hltC (by rw [e5]; exact h1) (by rw [e5]; exact h2)
    · rw [if_neg q1]
      by_cases q2 : B 5 b ≤ alike C a b
      · rw [if_pos q2, if_neg (by omega)]
        exact tail C hltC (by rw [e5]; exact h1) (by rw [e5]; exact h2)
      · rw [if_neg q2, if_pos ⟨by omega, by omega⟩, rdA_n hb (by decide), pcK_at (f := 5) (by decide), e5, pcK_at (f := 10) (by decide), ptF_n, nsub n2, nadd, fset_pcK (by decide), wrA_n hb (by decide), fset_pcK (by decide)]
        refine tail _ ((hltC.set (by rw [e10]; omega)).set (by omega)) ?_ ?_
        · rw [aset_i hab, aset_f (by decide), e5]; exact h1
        · rw [aset_eq]; omega
  unfold mX0_visit visitS visitT
  rw [rdA_n hb (by decide), rdA_n ha (by decide), pcK_at (by decide), pcK_at (by decide), ite_le (hlt _ _) (hlt _ _)]
  by_cases q : A 0 b < A 0 a
  · have e : askTake A a b = takeT A b (A 0 a) := if_pos q
    rw [if_neg (by omega), rdA_n ha (by decide), pcK_at (by decide), c0_takeTerm hb, bdE_n, e]
    exact mid _ (Lt_takeT hlt (hlt _ _)) (by simp [takeT, aset]; exact (h12 a ha).1) (by simp [takeT, aset]; exact (h12 b hb).1) (by simp [takeT, aset]; exact hbig)
  · have e : askTake A a b = A := if_neg q
    rw [if_pos (by omega), e]
    exact mid A hlt (h12 a ha).1 (h12 b hb).1 hbig
theorem c0_spreadL {N a : Nat} (ha : a < 5) : ∀ (k n : Nat) (A : AT), k ≤ 5 → k < n → Lt A → fX0_settle_42 N n (pcK A) (nI a) (nI (5 - k)) = some (0, pcK (spreadL a k A)) := by
  intro k
  induction k with
  | zero =>
    intro n A _ hn hlt
    obtain ⟨m, rfl⟩ : ∃ m, n = m + 1 := ⟨n - 1, by omega⟩
    unfold fX0_settle_42 spreadL
    rw [if_pos (by decide)]
  | succ k ih =>
    intro n A hk hn hlt
    obtain ⟨m, rfl⟩ : ∃ m, n = m + 1 := ⟨n - 1, by omega⟩
    have hb : 4 - k < 5 := by omega
    have hnx : nI (4 - k) + 1 = nI (5 - k) := by rw [i1, nadd, show 4 - k + 1 = 5 - k by omega]
    rw [show 5 - (k + 1) = 4 - k by omega]
    unfold fX0_settle_42 fX0_settle_77 spreadL
    generalize 4 - k = b at hb hnx ⊢
    rw [hnx, c0_isReached hlt ha hb, bdP_n, ite_b0, show (5 : Int32) = nI 5 from rfl, ite_le (by decide) (by omega), if_neg (by omega)]
    by_cases hr : reach A a b
    · rw [if_pos hr, if_pos hr, rdA_n hb (by decide), rdA_n ha (by decide), pcK_at (by decide), pcK_at (by decide), imax_n (hlt _ _) (hlt _ _), wrA_n hb (by decide), fset_pcK (by decide)]
      exact ih m _ (by omega) (by omega) (hlt.set (by have := hlt 6 b; have := hlt 6 a; omega))
    · rw [if_neg hr, if_neg hr]
      exact ih m A (by omega) (by omega) hlt
theorem c0_settle {N a : Nat} {A : AT} (hN : 100 ≤ N) (ha : a < 5) (hlt : Lt A) (h12 : A 5 a ≤ 12) : mX0_settle N (pcK A) (nI a) (nI (1 + reachN A a 5)) = some (0, pcK (settleC A a)) := by
  have hr : reachN A a 5 ≤ 5 := by
    have : ∀ k, reachN A a k ≤ k := by
      intro k
      induction k with
      | zero => exact Nat.le_refl _
      | succ k ih => unfold reachN; split <;> omega
    exact this 5
  have l1 : lastT A a < 2 ^ 31 := by
    unfold lastT
    split
    · decide
    · exact hlt _ _
  have sp : ∀ B : AT, Lt B → fX0_settle_40 N (pcK B) (nI a) = some (0, pcK (spreadL a 5 B)) := fun B hB => by
    unfold fX0_settle_40
    exact c0_spreadL ha 5 N B (by omega) (by omega) hB
  unfold mX0_settle settleC
  rw [i3, ite_lt (by omega) (by decide)]
  by_cases q1 : 1 + reachN A a 5 < 3
  · rw [if_pos q1, if_neg (fun q => by omega)]
    exact sp A hlt
  · rw [if_neg q1, c0_lastTerm hlt ha h12, bdP_n, rdA_n ha (by decide), pcK_at (by decide), ite_eq l1 (hlt _ _)]
    by_cases q2 : lastT A a = A 0 a
    · rw [if_pos q2, if_pos ⟨by omega, q2⟩, rdA_n ha (by decide), rdA_n ha (by decide), pcK_at (by decide), pcK_at (by decide), imax_n (hlt _ _) (hlt _ _), wrA_n ha (by decide), fset_pcK (by decide)]
      exact sp _ (hlt.set (by have := hlt 6 a; have := hlt 5 a; omega))
    · rw [if_neg q2, if_neg (fun q => q2 q.2)]
      exact sp A hlt
