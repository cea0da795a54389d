/-! ===== marches and hours, the class (2) ===== -/
theorem c0_goL {N a : Nat} (hN : 100 ≤ N) (ha : a < 5) : ∀ (k n B : Nat) (A : AT), k ≤ 5 → k < n → 12 ≤ B → B + 12 * k < 2 ^ 30 → BF B A → A 9 (a * 5 + a) = 0 → fX0_goRound_14 N n (pcK A) (nI a) (nI (1 + reachN A a (5 - k))) (nI (5 - k)) = some (0, pcK (if (goL a k A).1 = true then settleC (goL a k A).2 a else (goL a k A).2)) := by
  intro k
  induction k with
  | zero =>
    intro n B A _ hn hB hb h h9
    obtain ⟨m, rfl⟩ : ∃ m, n = m + 1 := ⟨n - 1, by omega⟩
    rw [Nat.sub_zero]
    unfold fX0_goRound_14 fX0_goRound_73 goL
    rw [if_pos (by decide), c0_settle hN ha (h.ltA hB (by omega)) (h.b5 a), bdE_n, if_pos rfl]
  | succ k ih =>
    intro n B A hk hn hB hb h h9
    obtain ⟨m, rfl⟩ : ∃ m, n = m + 1 := ⟨n - 1, by omega⟩
    have hlt : Lt A := h.ltA hB (by omega)
    have hb5 : 4 - k < 5 := by omega
    have e5 : 5 - k = 4 - k + 1 := by omega
    have hnx : nI (4 - k) + 1 = nI (5 - k) := by rw [i1, nadd, e5]
    rw [show 5 - (k + 1) = 4 - k by omega]
    unfold fX0_goRound_14 fX0_goRound_67 goL
    generalize 4 - k = b at hb5 e5 hnx ⊢
    have ec : reachN A a (5 - k) = reachN A a b + (if reach A a b then 1 else 0) := by rw [e5]; rfl
    rw [hnx, show (5 : Int32) = nI 5 from rfl, ite_le (by decide) (by omega), if_neg (by omega), c0_isReached hlt ha hb5, bdP_n, ite_b0]
    by_cases hr : reach A a b
    · rw [if_pos hr] at ec
      have hab : a ≠ b := fun q => by
        have h1 := hr.2.2
        rw [← q, h9] at h1
        cases h1
      rw [if_pos hr, if_pos hr, rdA_n hb5 (by decide), rdA_n ha (by decide), pcK_at (by decide), pcK_at (by decide), ite_le (hlt _ _) (hlt _ _)]
      by_cases hg : A 0 a < A 0 b
      · rw [if_neg (by omega), if_pos hg]
        unfold fX0_goRound_46
        rw [rdA_n hb5 (by decide), pcK_at (by decide), c0_takeTerm ha, bdE_n]
        rfl
      · rw [if_pos (by omega), if_neg hg, c0_visit hN ha hb5 hab hlt (fun x _ => ⟨h.b5 x, h.b1 x⟩) (by have := h.b10 3; omega), bdE_n]
        have hi := ih m (B + 12) (visitS A a b) (by omega) (by omega) (by omega) (by omega) (BF_visitS h) (by rw [visitS_n (Or.inr rfl)]; exact h9)
        rw [reachN_congr (A := A) (A' := visitS A a b) (fun x => visitS_n (Or.inl rfl)) (fun x => visitS_n (Or.inr rfl)), ec] at hi
        rw [i1, nadd, show 1 + reachN A a b + 1 = 1 + (reachN A a b + 1) by omega]
        exact hi
    · rw [if_neg hr] at ec
      rw [if_neg hr, if_neg hr]
      have hi := ih m B A (by omega) (by omega) hB (by omega) h h9
      rw [ec] at hi
      exact hi
theorem c0_goRound {N a B : Nat} {A : AT} (hN : 100 ≤ N) (ha : a < 5) (h : St B A) (hb : B + 100 < 2 ^ 30) : mX0_goRound N (pcK A) (nI a) = some (0, pcK (goC A a)) := by
  have h1 : BF (B + 1) (aset A 10 4 (A 10 4 + 1)) := (h.2.2.1.mono (Nat.le_succ B)).set (f := 10) (show A 10 4 + 1 ≤ B + 1 from Nat.succ_le_succ (h.2.2.1.b10 4))
  have h2 := h.1
  unfold mX0_goRound
  rw [ptF_n, pcK_at (by decide), i1, nadd, fset_pcK (by decide), goC_of]
  exact c0_goL hN ha 5 N (B + 1) _ (by omega) (by omega) (by omega) (by omega) h1 (by rw [aset_f (by decide)]; exact h.2.2.2.1 a ha)
theorem c0_duskL {N : Nat} (hN : 100 ≤ N) : ∀ (k n B : Nat) (A : AT), k ≤ 5 → k < n → St B A → B + 2 * k < 2 ^ 30 → fX0_letHourGoBy_71 N n (pcK A) (nI (5 - k)) = some (0, pcK (duskL k A)) := by
  intro k
  induction k with
  | zero =>
    intro n B A _ hn h hb
    obtain ⟨m, rfl⟩ : ∃ m, n = m + 1 := ⟨n - 1, by omega⟩
    unfold fX0_letHourGoBy_71 duskL
    rw [if_pos (by decide)]
  | succ k ih =>
    intro n B A hk hn h hb
    obtain ⟨m, rfl⟩ : ∃ m, n = m + 1 := ⟨n - 1, by omega⟩
    have hlt : Lt A := h.ltA (by omega)
    have hb5 : 4 - k < 5 := by omega
    have hnx : nI (4 - k) + 1 = nI (5 - k) := by rw [i1, nadd, show 4 - k + 1 = 5 - k by omega]
    rw [show 5 - (k + 1) = 4 - k by omega]
    unfold fX0_letHourGoBy_71 fX0_letHourGoBy_102 duskL
    generalize 4 - k = b at hb5 hnx ⊢
    rw [hnx, show (5 : Int32) = nI 5 from rfl, ite_le (by decide) (by omega), if_neg (by omega), c0_isWaiting hlt hb5, bdP_n, ite_b0]
    by_cases hw : waits A b
    · rw [if_pos hw, rdA_n hb5 (by decide), pcK_at (by decide), i3, nadd, ite_lt (hlt _ _) (by omega)]
      by_cases hs : A 4 b < 3 + b
      · rw [if_pos hs, if_neg (fun q => by have := q.2; omega)]
        exact ih m B A (by omega) (by omega) h (by omega)
      · rw [if_neg hs, if_pos ⟨hw, by omega⟩, c0_ask hN hb5 hlt (by have := h.2.2.1.b0 b; omega) (by have := h.2.2.1.b10 0; omega) h.l12, bdE_n]
        exact ih m (B + 2) _ (by omega) (by omega) (St_ask h hb5 hw.2 hw.1) (by omega)
    · rw [if_neg hw, if_neg (fun q => hw q.1)]
      exact ih m B A (by omega) (by omega) h (by omega)
theorem c0_silenceL {N : Nat} (hN : 100 ≤ N) : ∀ (k n B : Nat) (A : AT), k ≤ 5 → k < n → St B A → B + k + 10 < 2 ^ 30 → fX0_letHourGoBy_40 N n (pcK A) (nI (5 - k)) = some (0, pcK (duskL 5 (silenceL k A))) := by
  intro k
  induction k with
  | zero =>
    intro n B A _ hn h hb
    obtain ⟨m, rfl⟩ : ∃ m, n = m + 1 := ⟨n - 1, by omega⟩
    unfold fX0_letHourGoBy_40 fX0_letHourGoBy_69 silenceL
    rw [if_pos (by decide)]
    exact c0_duskL hN 5 N B A (by omega) (by omega) h (by omega)
  | succ k ih =>
    intro n B A hk hn h hb
    obtain ⟨m, rfl⟩ : ∃ m, n = m + 1 := ⟨n - 1, by omega⟩
    have hlt : Lt A := h.ltA (by omega)
    have hb5 : 4 - k < 5 := by omega
    have hnx : nI (4 - k) + 1 = nI (5 - k) := by rw [i1, nadd, show 4 - k + 1 = 5 - k by omega]
    rw [show 5 - (k + 1) = 4 - k by omega]
    unfold fX0_letHourGoBy_40 fX0_letHourGoBy_63 silenceL
    generalize 4 - k = b at hb5 hnx ⊢
    rw [hnx, show (5 : Int32) = nI 5 from rfl, ite_le (by decide) (by omega), if_neg (by omega), c0_isWaiting hlt hb5, bdP_n, ite_b0]
    by_cases hw : waits A b
    · rw [if_pos hw, if_pos hw, rdA_n hb5 (by decide), pcK_at (by decide), i1, nadd, wrA_n hb5 (by decide), fset_pcK (by decide)]
      exact ih m (B + 1) _ (by omega) (by omega) (St_set h (Or.inl rfl) (Nat.succ_le_succ (h.2.2.1.b4 _))) (by omega)
    · rw [if_neg hw, if_neg hw]
      exact ih m B A (by omega) (by omega) h (by omega)
theorem c0_marchL {N : Nat} (hN : 100 ≤ N) : ∀ (k n B : Nat) (A : AT), k ≤ 5 → k < n → St B A → B + 61 * k + 100 < 2 ^ 30 → fX0_letHourGoBy_12 N n (pcK A) (nI (5 - k)) = some (0, pcK (duskL 5 (silenceL 5 (marchL goC k A)))) := by
  intro k
  induction k with
  | zero =>
    intro n B A _ hn h hb
    obtain ⟨m, rfl⟩ : ∃ m, n = m + 1 := ⟨n - 1, by omega⟩
    unfold fX0_letHourGoBy_12 fX0_letHourGoBy_38 marchL
    rw [if_pos (by decide)]
    exact c0_silenceL hN 5 N B A (by omega) (by omega) h (by omega)
  | succ k ih =>
    intro n B A hk hn h hb
    obtain ⟨m, rfl⟩ : ∃ m, n = m + 1 := ⟨n - 1, by omega⟩
    have hlt : Lt A := h.ltA (by omega)
    have hb5 : 4 - k < 5 := by omega
    have hnx : nI (4 - k) + 1 = nI (5 - k) := by rw [i1, nadd, show 4 - k + 1 = 5 - k by omega]
    rw [show 5 - (k + 1) = 4 - k by omega]
    unfold fX0_letHourGoBy_12 fX0_letHourGoBy_32 marchL
    generalize 4 - k = b at hb5 hnx ⊢
    rw [hnx, show (5 : Int32) = nI 5 from rfl, ite_le (by decide) (by omega), if_neg (by omega), rdA_n hb5 (by decide), pcK_at (by decide), show (1 : Int32) = nI 1 from rfl, ite_eq (hlt _ _) (by decide)]
    by_cases hc : A 2 b = 1
    · rw [if_pos hc, if_pos ⟨Inv_awake h.2.1 hb5 hc, hc⟩, c0_goRound hN hb5 h (by omega), bdE_n]
      exact ih m (B + 61) _ (by omega) (by omega) (St_go h hb5 hc) (by omega)
    · rw [if_neg hc, if_neg (fun q => hc q.2)]
      exact ih m B A (by omega) (by omega) h (by omega)
theorem c0_hour {N B : Nat} {A : AT} (hN : 100 ≤ N) (h : St B A) (hb : B + 500 < 2 ^ 30) : mX0_letHourGoBy N (pcK A) = some (0, pcK (hourC A)) := by
  unfold mX0_letHourGoBy hourC hourB
  rw [ptF_n, pcK_at (by decide), i1, nadd, fset_pcK (by decide)]
  exact c0_marchL hN 5 N (B + 1) _ (by omega) (by omega) (St_set h (Or.inr rfl) (Nat.succ_le_succ (h.2.2.1.b10 5))) (by omega)
