/-! ===== the class's camps on the table ===== -/
theorem Lt_at {A : AT} (h : Lt A) (f i : Nat) : A f i < 2 ^ 31 := h f i
theorem gdT {β : Type} {k : Option β} {i : Decidable True} : @gd β True i k = k := if_pos True.intro
def AOk (A : AT) : Prop := (∀ f i, A f i < 2 ^ 31) ∧ (∀ c, c < 5 → A 5 c ≤ 12 ∧ A 6 c ≤ A 5 c ∧ A 1 c ≤ 5)
theorem c0_lastTerm {N : Nat} {A : AT} {c : Nat} (hlt : ∀ f i, A f i < 2 ^ 31) (hc : c < 5) (h12 : A 5 c ≤ 12) : mX0_lastTerm N (pcK A) (nI c) = some (nI (lastT A c)) := by
  unfold mX0_lastTerm fX0_lastTerm_31 lastT
  simp (disch := first | omega | apply hlt) only [rdA_n, wrA_n, ptF_n, bdP_n, bdE_n, pcK_at, pcK_v, fset_pcK, fset_pcV, nadd, nmul, nsub, i0, i1, i2, i3, i4, i5, i6, i7, i8, i9, i10, i11, i12, i31, ite_le, ite_lt, ite_eq, ite_v, ite_b, gdz, gdo, gd_b, or_true, true_or, gdT, imax_n, imin_n]
  by_cases h : A 5 c = 0
  · rw [if_pos h, if_pos h]
  · rw [if_neg h, if_neg h]
    try simp (disch := first | omega | apply hlt) only [rdA_n, wrA_n, ptF_n, bdP_n, bdE_n, pcK_at, pcK_v, fset_pcK, fset_pcV, nadd, nmul, nsub, i0, i1, i2, i3, i4, i5, i6, i7, i8, i9, i10, i11, i12, i31, ite_le, ite_lt, ite_eq, ite_v, ite_b, gdz, gdo, gd_b, or_true, true_or, gdT, imax_n, imin_n]
    rw [show c * 12 + A 5 c - 1 = c * 12 + (A 5 c - 1) by omega]
theorem c0_isReached {N : Nat} {A : AT} {a b : Nat} (hlt : ∀ f i, A f i < 2 ^ 31) (ha : a < 5) (hb : b < 5) : mX0_isReached N (pcK A) (nI a) (nI b) = some (nI (bN (reach A a b))) := by
  unfold mX0_isReached fX0_isReached_38 fX0_isReached_39
  simp (disch := first | omega | apply hlt) only [rdA_n, wrA_n, ptF_n, bdP_n, bdE_n, pcK_at, pcK_v, fset_pcK, fset_pcV, nadd, nmul, nsub, i0, i1, i2, i3, i4, i5, i6, i7, i8, i9, i10, i11, i12, i31, ite_le, ite_lt, ite_eq, ite_v, ite_b, gdz, gdo, gd_b, or_true, true_or, gdT, imax_n, imin_n]
  by_cases h1 : A 3 a = 1
  · rw [if_pos h1]
    by_cases h2 : A 3 b = 1
    · rw [if_pos h2]
      by_cases h3 : A 9 (a * 5 + b) = 1
      · rw [if_pos h3, bN_t ⟨h1, h2, h3⟩]
      · rw [if_neg h3, bN_f (fun q => h3 q.2.2)]
    · rw [if_neg h2, bN_f (fun q => h2 q.2.1)]
  · rw [if_neg h1, bN_f (fun q => h1 q.1)]
theorem c0_takeTerm {N : Nat} {A : AT} {c t : Nat} (hc : c < 5) : mX0_takeTerm N (pcK A) (nI c) (nI t) = some (0, pcK (takeT A c t)) := by
  unfold mX0_takeTerm takeT
  rw [wrA_n hc (by decide), fset_pcK (by decide), wrA_n hc (by decide), pcV_0, fset_pcV, wrA_n hc (by decide), show (0 : Int32) = nI 0 from rfl, fset_pcK (by decide)]
theorem c0_isAsFar {N : Nat} {A : AT} {a b : Nat} (hlt : ∀ f i, A f i < 2 ^ 31) (ha : a < 5) (hb : b < 5) (ha12 : A 5 a ≤ 12) (hb12 : A 5 b ≤ 12) : mX0_isAsFar N (pcK A) (nI a) (nI b) = some (nI (bN (far A a b))) := by
  have l1 : ∀ c, lastT A c < 2 ^ 31 := fun c => by
    unfold lastT
    by_cases h : A 5 c = 0
    · rw [if_pos h]; decide
    · rw [if_neg h]; exact hlt _ _
  unfold mX0_isAsFar fX0_isAsFar_40 fX0_isAsFar_44 fX0_isAsFar_45
  rw [c0_lastTerm hlt ha ha12, c0_lastTerm hlt hb hb12, bdP_n, bdP_n, ite_lt (l1 b) (l1 a), ite_eq (l1 a) (l1 b)]
  simp (disch := first | omega | apply hlt) only [rdA_n, wrA_n, ptF_n, bdP_n, bdE_n, pcK_at, pcK_v, fset_pcK, fset_pcV, nadd, nmul, nsub, i0, i1, i2, i3, i4, i5, i6, i7, i8, i9, i10, i11, i12, i31, ite_le, ite_lt, ite_eq, ite_v, ite_b, gdz, gdo, gd_b, or_true, true_or, gdT, imax_n, imin_n]
  by_cases h1 : lastT A b < lastT A a
  · rw [if_pos h1, bN_t (Or.inl h1)]
  · rw [if_neg h1]
    by_cases h2 : lastT A a = lastT A b
    · rw [if_pos h2]
      by_cases h3 : A 5 a < A 5 b
      · rw [if_pos h3, bN_f (fun q => by rcases q with q | q <;> omega)]
      · rw [if_neg h3, bN_t (Or.inr ⟨h2, by omega⟩)]
    · rw [if_neg h2, bN_f (fun q => by rcases q with q | q <;> omega)]
theorem c0_isWaiting {N : Nat} {A : AT} {c : Nat} (hlt : ∀ f i, A f i < 2 ^ 31) (hc : c < 5) : mX0_isWaiting N (pcK A) (nI c) = some (nI (bN (waits A c))) := by
  unfold mX0_isWaiting fX0_isWaiting_23 fX0_isWaiting_24
  simp (disch := first | omega | apply hlt) only [rdA_n, wrA_n, ptF_n, bdP_n, bdE_n, pcK_at, pcK_v, fset_pcK, fset_pcV, nadd, nmul, nsub, i0, i1, i2, i3, i4, i5, i6, i7, i8, i9, i10, i11, i12, i31, ite_le, ite_lt, ite_eq, ite_v, ite_b, gdz, gdo, gd_b, or_true, true_or, gdT, imax_n, imin_n]
  by_cases h1 : A 3 c = 1
  · rw [if_pos h1]
    by_cases h2 : A 2 c = 0
    · rw [if_pos h2, bN_t ⟨h1, h2⟩]
    · rw [if_neg h2, bN_f (fun q => h2 q.2)]
  · rw [if_neg h1, bN_f (fun q => h1 q.1)]
theorem c0_alikeL {N : Nat} {A : AT} {a b : Nat} (hlt : ∀ f i, A f i < 2 ^ 31) (ha : a < 5) (hb : b < 5) (ha12 : A 5 a ≤ 12) (hb12 : A 5 b ≤ 12) : ∀ (k n p : Nat), k < n → p ≤ min (A 5 a) (A 5 b) → min (A 5 a) (A 5 b) ≤ p + k → fX0_pagesAlike_34 N (pcK A) n (nI a) (nI b) (nI (min (A 5 a) (A 5 b))) (nI p) = some (nI (alikeL A a b k p)) := by
  intro k
  induction k with
  | zero =>
    intro n p hn hp hk
    obtain ⟨m, rfl⟩ : ∃ m, n = m + 1 := ⟨n - 1, by omega⟩
    unfold fX0_pagesAlike_34 alikeL
    rw [ite_le (by omega) (by omega), if_pos (by omega)]
    rw [show min (A 5 a) (A 5 b) = p by omega]
  | succ k ih =>
    intro n p hn hp hk
    obtain ⟨m, rfl⟩ : ∃ m, n = m + 1 := ⟨n - 1, by omega⟩
    unfold fX0_pagesAlike_34 fX0_pagesAlike_92 alikeL
    rw [ite_le (by omega) (by omega)]
    by_cases h1 : min (A 5 a) (A 5 b) ≤ p
    · rw [if_pos h1, if_neg (by omega), show min (A 5 a) (A 5 b) = p by omega]
    · rw [if_neg h1]
      simp (disch := first | omega | apply hlt) only [rdA_n, wrA_n, ptF_n, bdP_n, bdE_n, pcK_at, pcK_v, fset_pcK, fset_pcV, nadd, nmul, nsub, i0, i1, i2, i3, i4, i5, i6, i7, i8, i9, i10, i11, i12, i31, ite_le, ite_lt, ite_eq, ite_v, ite_b, gdz, gdo, gd_b, or_true, true_or, gdT, imax_n, imin_n]
      by_cases h2 : A 7 (a * 12 + p) = A 7 (b * 12 + p)
      · rw [if_pos h2]
        by_cases h3 : A 8 (a * 12 + p) = A 8 (b * 12 + p)
        · rw [if_pos h3, if_pos ⟨by omega, by omega, h2, h3⟩]
          exact ih m (p + 1) (by omega) (by omega) (by omega)
        · rw [if_neg h3, if_neg (fun q => h3 q.2.2.2)]
      · rw [if_neg h2, if_neg (fun q => h2 q.2.2.1)]
/-- more places to look at change nothing -/
theorem alikeL_stop {A : AT} {a b : Nat} : ∀ (k p : Nat), A 5 a ≤ p ∨ A 5 b ≤ p → alikeL A a b k p = p := by
  intro k p h
  cases k with
  | zero => rfl
  | succ k => unfold alikeL; rw [if_neg (by omega)]
theorem alikeL_more {A : AT} {a b : Nat} : ∀ (k j p : Nat), k ≤ j → min (A 5 a) (A 5 b) ≤ p + k → alikeL A a b j p = alikeL A a b k p := by
  intro k
  induction k with
  | zero =>
    intro j p _ h
    rw [alikeL_stop j p (by omega)]
    rfl
  | succ k ih =>
    intro j p hj h
    obtain ⟨i, rfl⟩ : ∃ i, j = i + 1 := ⟨j - 1, by omega⟩
    unfold alikeL
    by_cases q : p < A 5 a ∧ p < A 5 b ∧ likeP A a b p
    · rw [if_pos q, if_pos q]; exact ih i (p + 1) (by omega) (by omega)
    · rw [if_neg q, if_neg q]
theorem c0_pagesAlike {N : Nat} {A : AT} {a b : Nat} (hN : 100 ≤ N) (hlt : ∀ f i, A f i < 2 ^ 31) (ha : a < 5) (hb : b < 5) (ha12 : A 5 a ≤ 12) (hb12 : A 5 b ≤ 12) : mX0_pagesAlike N (pcK A) (nI a) (nI b) = some (nI (alike A a b)) := by
  have key := c0_alikeL (N := N) hlt ha hb ha12 hb12 12 N 0 (by omega) (by omega) (by omega)
  unfold mX0_pagesAlike fX0_pagesAlike_30
  simp (disch := first | omega | apply hlt) only [rdA_n, wrA_n, ptF_n, bdP_n, bdE_n, pcK_at, pcK_v, fset_pcK, fset_pcV, nadd, nmul, nsub, i0, i1, i2, i3, i4, i5, i6, i7, i8, i9, i10, i11, i12, i31, ite_le, ite_lt, ite_eq, ite_v, ite_b, gdz, gdo, gd_b, or_true, true_or, gdT, imax_n, imin_n]
  unfold alike
  by_cases h : A 5 b ≤ A 5 a
  · rw [if_pos h]
    rw [show min (A 5 a) (A 5 b) = A 5 b by omega] at key
    exact key
  · rw [if_neg h]
    rw [show min (A 5 a) (A 5 b) = A 5 a by omega] at key
    exact key
theorem c0_askL {N c : Nat} (hc : c < 5) : ∀ (k n : Nat) (A : AT) (v : Nat), k ≤ 5 → k < n → Lt A → (∀ x, x < 5 → A 5 x ≤ 12 ∧ A 1 x ≤ 5) → v + k ≤ 6 → fX0_askForVotes_38 N n (pcK A) (nI c) (nI v) (nI (5 - k)) = some (nI (askL c k A v).1, pcK (askL c k A v).2) := by
  intro k
  induction k with
  | zero =>
    intro n A v _ hn hlt h12 hv
    obtain ⟨m, rfl⟩ : ∃ m, n = m + 1 := ⟨n - 1, by omega⟩
    unfold fX0_askForVotes_38 fX0_askForVotes_152 fX0_askForVotes_174 askL askEnd
    simp (disch := first | omega | apply hlt) only [rdA_n, wrA_n, ptF_n, bdP_n, bdE_n, pcK_at, pcK_v, fset_pcK, fset_pcV, nadd, nmul, nsub, i0, i1, i2, i3, i4, i5, i6, i7, i8, i9, i10, i11, i12, i31, ite_le, ite_lt, ite_eq, ite_v, ite_b, gdz, gdo, gd_b, or_true, true_or, gdT, imax_n, imin_n]
    rw [if_pos (by decide)]
    by_cases h3 : v < 3
    · rw [if_pos h3, if_pos h3]
    · rw [if_neg h3, if_neg h3]
      rw [aset_f (show (10 : Nat) ≠ 2 by decide)]
  | succ k ih =>
    intro n A v hk hn hlt h12 hv
    obtain ⟨m, rfl⟩ : ∃ m, n = m + 1 := ⟨n - 1, by omega⟩
    have hb : 4 - k < 5 := by omega
    have hnx : nI (4 - k) + 1 = nI (5 - k) := by rw [i1, nadd, show 4 - k + 1 = 5 - k by omega]
    rw [show 5 - (k + 1) = 4 - k by omega]
    unfold fX0_askForVotes_38 fX0_askForVotes_146 askL
    generalize 4 - k = b at hb hnx ⊢
    rw [hnx, c0_isReached hlt hc hb, bdP_n, ite_b0]
    rw [show (5 : Int32) = nI 5 from rfl, ite_le (by decide) (by omega), if_neg (by omega)]
    by_cases hr : reach A c b
    · rw [if_pos hr, if_pos hr]
      rw [rdA_n hb (by decide), rdA_n hc (by decide), pcK_at (by decide), pcK_at (by decide), ite_le (hlt _ _) (hlt _ _)]
      by_cases hg : A 0 c < A 0 b
      · rw [if_neg (by omega), if_pos hg]
        unfold fX0_askForVotes_70
        rw [rdA_n hb (by decide), pcK_at (by decide), c0_takeTerm hc]
        rfl
      · rw [if_pos (by omega), if_neg hg]
        rw [rdA_n hb (by decide), rdA_n hc (by decide), pcK_at (by decide), pcK_at (by decide), ite_le (hlt _ _) (hlt _ _)]
        have hvote : ∀ B : AT, Lt B → (∀ x, x < 5 → B 5 x ≤ 12 ∧ B 1 x ≤ 5) → fX0_askForVotes_109 N (fX0_askForVotes_38 N m) (pcK B) (nI c) (nI v) (nI b) = some (nI (if B 1 b = 0 ∧ far B c b then askL c k (askVote B c b) (v + 1) else askL c k B v).1, pcK (if B 1 b = 0 ∧ far B c b then askL c k (askVote B c b) (v + 1) else askL c k B v).2) := by
          intro B hltB hB
          unfold fX0_askForVotes_109 fX0_askForVotes_146
          rw [hnx, rdA_n hb (by decide), pcK_v, ite_v (by have := (hB b hb).2; omega)]
          by_cases h1 : B 1 b = 0
          · rw [if_pos h1, c0_isAsFar hltB hc hb (hB c hc).1 (hB b hb).1, bdP_n, ite_b0]
            by_cases h2 : far B c b
            · rw [if_pos h2, if_pos ⟨h1, h2⟩, wrA_n hb (by decide), pcV_s, fset_pcV, wrA_n hb (by decide), show (0 : Int32) = nI 0 from rfl, fset_pcK (by decide), show nI v + 1 = nI (v + 1) from nadd v 1]
              rw [← pcV_s]
              exact ih m (askVote B c b) (v + 1) (by omega) (by omega) (Lt_askVote hltB hc) (fun x hx => by
                rw [askVote_f (f := 5) (by decide) (by decide)]
                refine ⟨(hB x hx).1, ?_⟩
                by_cases hxb : x = b
                · rw [hxb]; simp [askVote, aset]; omega
                · rw [askVote_x hxb]; exact (hB x hx).2) (by omega)
            · rw [if_neg h2, if_neg (fun q => h2 q.2)]
              exact ih m B v (by omega) (by omega) hltB hB (by omega)
          · rw [if_neg h1, if_neg (fun q => h1 q.1)]
            exact ih m B v (by omega) (by omega) hltB hB (by omega)
        by_cases ht : A 0 b < A 0 c
        · have e : askTake A c b = takeT A b (A 0 c) := if_pos ht
          rw [if_neg (by omega), rdA_n hc (by decide), pcK_at (by decide), c0_takeTerm hb, bdE_n, e]
          exact hvote _ (Lt_takeT hlt (hlt _ _)) (fun x hx => by
            refine ⟨by simp [takeT, aset]; exact (h12 x hx).1, ?_⟩
            by_cases hxb : x = b
            · rw [hxb]; simp [takeT, aset]
            · simp [takeT, aset, hxb]; exact (h12 x hx).2)
        · have e : askTake A c b = A := if_neg ht
          rw [if_pos (by omega), e]
          exact hvote A hlt h12
    · rw [if_neg hr, if_neg hr]
      exact ih m A v (by omega) (by omega) hlt h12 (by omega)
theorem c0_ask {N c : Nat} {A : AT} (hN : 100 ≤ N) (hc : c < 5) (hlt : Lt A) (h1 : A 0 c + 1 < 2 ^ 31) (h2 : A 10 0 + 1 < 2 ^ 31) (h12 : ∀ x, x < 5 → A 5 x ≤ 12 ∧ A 1 x ≤ 5) : mX0_askForVotes N (pcK A) (nI c) = some (nI (ask A c).1, pcK (ask A c).2) := by
  unfold mX0_askForVotes ask
  rw [ptF_n, pcK_at (by decide), show nI (A 10 0) + 1 = nI (A 10 0 + 1) from nadd _ 1, fset_pcK (by decide), rdA_n hc (by decide), pcK_at (by decide), aset_f (show (0 : Nat) ≠ 10 by decide), show nI (A 0 c) + 1 = nI (A 0 c + 1) from nadd _ 1, wrA_n hc (by decide), fset_pcK (by decide), wrA_n hc (by decide)]
  have e : fset (pcK (aset (aset A 10 0 (A 10 0 + 1)) 0 c (A 0 c + 1))) 1 c (nI c) = pcK (aset (aset (aset A 10 0 (A 10 0 + 1)) 0 c (A 0 c + 1)) 1 c (c + 1)) := by rw [pcV_s, fset_pcV]
  rw [e, wrA_n hc (by decide), show (0 : Int32) = nI 0 from rfl, fset_pcK (by decide)]
  exact c0_askL hc 5 N (askStart A c) 1 (by omega) (by omega) ((((hlt.set h2).set h1).set (by omega)).set (by decide)) (fun x hx => by
    refine ⟨by simp [askStart, aset]; exact (h12 x hx).1, ?_⟩
    by_cases hxc : x = c
    · rw [hxc]; simp [askStart, aset]; omega
    · simp [askStart, aset, hxc]; exact (h12 x hx).2) (by omega)
