/-! ===== marches and hours, the reference ===== -/
theorem r1_isReached {N B : Nat} {M : KT} {A : AT} {a b : Nat} (ha : a < 5) (hb : b < 5) (h : BF B A) (hr : Rd A) : mX3_isReached N (rm M A) (nI a) (nI b) = some (nI (bN (reach A a b))) := by
  obtain ⟨s2, s3⟩ := hr
  unfold mX3_isReached fX3_isReached_38 fX3_isReached_39
  by_cases hab : a = b
  · subst hab
    rw [if_pos rfl, bN_f (fun q => by have := q.2.2; rw [s2 a ha] at this; cases this)]
    exact gdz _
  · rw [if_neg (fun q => hab ((nI_eq (by omega) (by omega)).mp q)), r0_isAwake ha (h.b3 a), bdP_n, ite_b0]
    by_cases h1 : A 3 a = 1
    · rw [if_pos h1, r0_isAwake hb (h.b3 b), bdP_n, ite_b0]
      by_cases h2 : A 3 b = 1
      · rw [if_pos h2, r0_road ha hb, bdP_n, rdA_n (by omega) (by decide), rm_0]
        have e : pcM A (6 + 5 * min a b + max a b) = nI (1 - A 9 (a * 5 + b)) := by
          unfold pcM pmN
          rw [if_neg (by omega), if_pos (by omega), if_pos (by omega)]
          rcases Nat.lt_or_ge a b with q | q
          · rw [Nat.min_eq_left (by omega), Nat.max_eq_right (by omega), show 6 + 5 * a + b - 6 = a * 5 + b by omega]
          · rw [Nat.min_eq_right q, Nat.max_eq_left q, show 6 + 5 * b + a - 6 = b * 5 + a by omega, s3 a b ha hb]
        rw [e]
        have h4 := h.b9 (a * 5 + b)
        by_cases h3 : A 9 (a * 5 + b) = 1
        · rw [bN_t ⟨h1, h2, h3⟩, h3]; rfl
        · rw [bN_f (fun q => h3 q.2.2), show A 9 (a * 5 + b) = 0 by omega]; rfl
      · rw [if_neg h2, bN_f (fun q => h2 q.2.1)]; exact gdz _
    · rw [if_neg h1, bN_f (fun q => h1 q.1)]; exact gdz _
theorem copyL_5 {a b v : Nat} : ∀ (k : Nat) (A : AT) (p : Nat), copyL a b k (aset A 5 b v) p = aset (copyL a b k A p) 5 b v := by
  intro k
  induction k with
  | zero => intro A p; rfl
  | succ k ih =>
    intro A p
    unfold copyL
    rw [aset_f (f := 5) (g := 7) (by decide), aset_f (f := 5) (g := 8) (by decide), aset_comm A (f := 5) (g := 7) (Or.inl (by decide)), aset_comm _ (f := 5) (g := 8) (Or.inl (by decide)), ih]
theorem r0_copyL {N a b : Nat} {M : KT} (ha : a < 5) (hb : b < 5) (hab : a ≠ b) : ∀ (k n : Nat) (A : AT) (p : Nat), k < n → A 5 a ≤ 12 → k = A 5 a - p → p ≤ 12 → A 5 b = p → fX3_copies_64 N n (rm M A) (nI a) (nI b) (nI p) = some (0, rm M (aset (copyL a b k A p) 5 b (max p (A 5 a)))) := by
  intro k
  induction k with
  | zero =>
    intro n A p hn h12 hk hp h5
    obtain ⟨m, rfl⟩ : ∃ m, n = m + 1 := ⟨n - 1, by omega⟩
    unfold fX3_copies_64 copyL
    rw [i6, x3_of6 ha, bdP_n, ite_le (by omega) (by omega), if_pos (by omega), Nat.max_eq_left (by omega), aset_id h5]
  | succ k ih =>
    intro n A p hn h12 hk hp h5
    obtain ⟨m, rfl⟩ : ∃ m, n = m + 1 := ⟨n - 1, by omega⟩
    unfold fX3_copies_64 copyL
    rw [i6, x3_of6 ha, bdP_n, ite_le (by omega) (by omega), if_neg (by omega), i0, x3_pageT ha (by omega), bdP_n, i7, i2, nmul, nadd, x3_setsT hb (by omega), bdE_n, i1, x3_pageL ha (by omega), bdP_n, nadd, x3_setsL hb (by omega), bdE_n, nadd, x3_sets6 hb, bdE_n]
    have hi := ih m (aset (aset (aset A 7 (b * 12 + p) (A 7 (a * 12 + p))) 8 (b * 12 + p) (A 8 (a * 12 + p))) 5 b (p + 1)) (p + 1) (by omega) (by rw [aset_i hab, aset_f (by decide), aset_f (by decide)]; exact h12) (by rw [aset_i hab, aset_f (by decide), aset_f (by decide)]; omega) (by omega) (aset_eq _ _ _ _)
    rw [copyL_5, aset_same, aset_i hab, aset_f (f := 8) (g := 5) (by decide), aset_f (f := 7) (g := 5) (by decide), show max (p + 1) (A 5 a) = max p (A 5 a) by omega] at hi
    rw [aset_f (f := 7) (g := 8) (by decide)]
    exact hi
theorem r0_copies {N a b B : Nat} {M : KT} {A : AT} (hN : 100 ≤ N) (ha : a < 5) (hb : b < 5) (hab : a ≠ b) (h : BF B A) (hB : 12 ≤ B) (hb2 : B + 12 < 2 ^ 30) : mX3_copies N (rm M A) (nI a) (nI b) = some (0, rm M (copyS (tearS A a b) a b)) := by
  have hlt : Lt A := h.ltA hB (by omega)
  obtain ⟨n1, n2, -, -⟩ := alike_spec (A := A) (a := a) (b := b) (h.b5 a)
  have h5a := h.b5 a
  have h5b := h.b5 b
  have tail : ∀ C : AT, C 5 a ≤ 12 → C 5 b ≤ 12 → fX3_copies_55 N (rm M C) (nI a) (nI b) = some (0, rm M (copyS C a b)) := by
    intro C c1 c2
    unfold fX3_copies_55 copyS
    rw [i6, x3_of6 hb, bdP_n]
    exact r0_copyL ha hb hab _ N C (C 5 b) (by omega) c1 rfl c2 rfl
  unfold mX3_copies tearS
  rw [r0_alike hN hlt ha hb h5a h5b, bdP_n, i6, x3_of6 hb, bdP_n, ite_le (by omega) (by omega)]
  by_cases q1 : A 5 b ≤ alike A a b
  · rw [if_pos q1, if_neg (by omega)]
    exact tail A h5a h5b
  · rw [if_neg q1, x3_of6 ha, bdP_n, ite_le (by omega) (by omega)]
    by_cases q2 : A 5 a ≤ alike A a b
    · rw [if_pos q2, if_neg (by omega)]
      exact tail A h5a h5b
    · rw [if_neg q2, if_pos ⟨by omega, by omega⟩, i3, rd_cnt (by decide), bdP_n, nsub n2, nadd, wr_cnt (by decide), x3_sets6 hb, bdE_n]
      refine tail _ ?_ ?_
      · rw [aset_i hab, aset_f (by decide)]; exact h5a
      · rw [aset_eq]; omega
/-! the mask of the camps that were visited -/
def maskN (A : AT) (a : Nat) : Nat → Nat
  | 0 => 0
  | k + 1 => maskN A a k + (if reach A a k then 2 ^ k else 0)
theorem maskN_lt {A : AT} {a : Nat} : ∀ k, maskN A a k < 2 ^ k := by
  intro k
  induction k with
  | zero => exact Nat.one_pos
  | succ k ih =>
    unfold maskN
    have : 2 ^ (k + 1) = 2 ^ k + 2 ^ k := by rw [Nat.pow_succ]; omega
    by_cases q : reach A a k
    · rw [if_pos q]; omega
    · rw [if_neg q]; omega
theorem maskN_congr {A A' : AT} {a : Nat} (e3 : ∀ x, A' 3 x = A 3 x) (e9 : ∀ x, A' 9 x = A 9 x) : ∀ k, maskN A' a k = maskN A a k := by
  intro k
  induction k with
  | zero => rfl
  | succ k ih =>
    have er : reach A' a k = reach A a k := by
      show (A' 3 a = 1 ∧ A' 3 k = 1 ∧ A' 9 (a * 5 + k) = 1) = (A 3 a = 1 ∧ A 3 k = 1 ∧ A 9 (a * 5 + k) = 1)
      rw [e3, e3, e9]
    unfold maskN
    simp only [ih, er]
theorem bit_or : ∀ m, m < 16 → ∀ b, b < 5 → m < 2 ^ b → nI m ||| (1 <<< (nI b &&& 31)) = nI (m + 2 ^ b) := by decide +kernel
theorem bit_at : ∀ m, m < 32 → ∀ b, b < 5 → ((nI m >>> (nI b &&& 31)) &&& 1) = nI (m / 2 ^ b % 2) := by decide +kernel
theorem mask_at {A : AT} {a b : Nat} (hb : b < 5) : (((nI (maskN A a 5) >>> (nI b &&& 31)) &&& 1) = 1) = (reach A a b) := by
  rw [bit_at _ (maskN_lt 5) b hb]
  have e : maskN A a 5 / 2 ^ b % 2 = bN (reach A a b) := by
    unfold maskN maskN maskN maskN maskN maskN bN
    have hb' : b = 0 ∨ b = 1 ∨ b = 2 ∨ b = 3 ∨ b = 4 := by omega
    have h0 : (if reach A a 0 then 2 ^ 0 else 0) = (if reach A a 0 then 1 else 0) := by split <;> rfl
    have h1 : (if reach A a 1 then 2 ^ 1 else 0) = 2 * (if reach A a 1 then 1 else 0) := by split <;> rfl
    have h2 : (if reach A a 2 then 2 ^ 2 else 0) = 4 * (if reach A a 2 then 1 else 0) := by split <;> rfl
    have h3 : (if reach A a 3 then 2 ^ 3 else 0) = 8 * (if reach A a 3 then 1 else 0) := by split <;> rfl
    have h4 : (if reach A a 4 then 2 ^ 4 else 0) = 16 * (if reach A a 4 then 1 else 0) := by split <;> rfl
    have l0 : (if reach A a 0 then 1 else 0) ≤ 1 := by split <;> omega
    have l1 : (if reach A a 1 then 1 else 0) ≤ 1 := by split <;> omega
    have l2 : (if reach A a 2 then 1 else 0) ≤ 1 := by split <;> omega
    have l3 : (if reach A a 3 then 1 else 0) ≤ 1 := by split <;> omega
    have l4 : (if reach A a 4 then 1 else 0) ≤ 1 := by split <;> omega
    rw [h0, h1, h2, h3, h4]
    rcases hb' with rfl | rfl | rfl | rfl | rfl
    all_goals
      generalize (if reach A a 0 then 1 else 0) = r0 at l0 ⊢
      generalize (if reach A a 1 then 1 else 0) = r1 at l1 ⊢
      generalize (if reach A a 2 then 1 else 0) = r2 at l2 ⊢
      generalize (if reach A a 3 then 1 else 0) = r3 at l3 ⊢
      generalize (if reach A a 4 then 1 else 0) = r4 at l4 ⊢
      omega
  rw [e]
  by_cases q : reach A a b
  · rw [bN_t q]; exact propext ⟨fun _ => q, fun _ => rfl⟩
  · rw [bN_f q]; exact propext ⟨fun h => absurd h (by decide), fun h => absurd h q⟩
theorem ndec {n : Nat} (h : 1 ≤ n) : nI n + (-1) = nI (n - 1) := by
  obtain ⟨m, rfl⟩ : ∃ m, n = m + 1 := ⟨n - 1, by omega⟩
  exact pk_m1 m
theorem r0_haveL {N a n0 : Nat} {M : KT} {A : AT} {k137 : KT → Int32 → Int32 → Int32 → Option (Int32 × KT)} (hN : 100 ≤ N) (ha : a < 5) (hlt : Lt A) (h12 : ∀ x, A 5 x ≤ 12) (hn0 : n0 ≤ 12) : ∀ (k n : Nat), k ≤ 5 → k < n → fX3_goes_153 N k137 n (rm M A) (nI a) (nI (maskN A a 5)) (nI n0) (nI (1 + haveN A a n0 (5 - k))) (nI (5 - k)) = fX3_goes_189 N k137 (rm M A) (nI a) (nI (maskN A a 5)) (nI n0) (nI (1 + haveN A a n0 5)) := by
  intro k
  induction k with
  | zero =>
    intro n _ hn
    obtain ⟨m, rfl⟩ : ∃ m, n = m + 1 := ⟨n - 1, by omega⟩
    rw [Nat.sub_zero]
    unfold fX3_goes_153
    rw [if_pos (by decide)]
  | succ k ih =>
    intro n hk hn
    obtain ⟨m, rfl⟩ : ∃ m, n = m + 1 := ⟨n - 1, by omega⟩
    have hb5 : 4 - k < 5 := by omega
    have e5 : 5 - k = 4 - k + 1 := by omega
    have hnx : nI (4 - k) + 1 = nI (5 - k) := by rw [i1, nadd, e5]
    have hi := ih m (by omega) (by omega)
    rw [show 5 - (k + 1) = 4 - k by omega]
    unfold fX3_goes_153 fX3_goes_183
    have ec : haveN A a n0 (5 - k) = haveN A a n0 (4 - k) + (if reach A a (4 - k) ∧ n0 ≤ alike A a (4 - k) then 1 else 0) := by rw [e5]; rfl
    generalize 4 - k = b at hb5 e5 hnx ec ⊢
    obtain ⟨n1, -, -, -⟩ := alike_spec (A := A) (a := a) (b := b) (h12 a)
    have h5 := h12 a
    rw [hnx, show (5 : Int32) = nI 5 from rfl, ite_le (by decide) (by omega), if_neg (by omega)]
    simp only [mask_at hb5]
    by_cases hr : reach A a b
    · rw [if_pos hr, r0_alike hN hlt ha hb5 (h12 a) (h12 b), bdP_n, ite_lt (by omega) (by omega)]
      by_cases hg : alike A a b < n0
      · rw [if_neg (fun q => by have := q.2; omega)] at ec
        rw [if_pos hg]
        rw [ec] at hi
        exact hi
      · rw [if_pos ⟨hr, by omega⟩] at ec
        rw [if_neg hg, i1, nadd, show 1 + haveN A a n0 b + 1 = 1 + (haveN A a n0 b + 1) by omega]
        rw [ec] at hi
        exact hi
    · rw [if_neg (fun q => hr q.1)] at ec
      rw [if_neg hr]
      rw [ec] at hi
      exact hi
theorem r0_spreadL {N a : Nat} {M : KT} (ha : a < 5) : ∀ (k n : Nat) (A A0 : AT), k ≤ 5 → k < n → Lt A → (∀ x, A 3 x = A0 3 x) → (∀ x, A 9 x = A0 9 x) → fX3_goes_231 N n (rm M A) (nI a) (nI (maskN A0 a 5)) (nI (5 - k)) = some (nI (spreadL a k A 6 a), rm M (spreadL a k A)) := by
  intro k
  induction k with
  | zero =>
    intro n A A0 _ hn hlt e3 e9
    obtain ⟨m, rfl⟩ : ∃ m, n = m + 1 := ⟨n - 1, by omega⟩
    unfold fX3_goes_231 fX3_goes_272 spreadL
    rw [if_pos (by decide), i5, x3_of5 ha, bdP_n]
  | succ k ih =>
    intro n A A0 hk hn hlt e3 e9
    obtain ⟨m, rfl⟩ : ∃ m, n = m + 1 := ⟨n - 1, by omega⟩
    have hb5 : 4 - k < 5 := by omega
    have hnx : nI (4 - k) + 1 = nI (5 - k) := by rw [i1, nadd, show 4 - k + 1 = 5 - k by omega]
    rw [show 5 - (k + 1) = 4 - k by omega]
    unfold fX3_goes_231 fX3_goes_266 spreadL
    generalize 4 - k = b at hb5 hnx ⊢
    rw [hnx, show (5 : Int32) = nI 5 from rfl, ite_le (by decide) (by omega), if_neg (by omega)]
    simp only [mask_at hb5]
    have er : reach A0 a b = reach A a b := by unfold reach; rw [e3, e3, e9]
    by_cases hr : reach A a b
    · rw [if_pos hr, if_pos (er ▸ hr), x3_of5 hb5, x3_of5 ha, bdP_n, bdP_n, imax_n (hlt _ _) (hlt _ _), x3_sets5 hb5, bdE_n]
      exact ih m _ A0 (by omega) (by omega) (hlt.set (by have := hlt 6 b; have := hlt 6 a; omega)) (fun x => by rw [aset_f (by decide)]; exact e3 x) (fun x => by rw [aset_f (by decide)]; exact e9 x)
    · rw [if_neg hr, if_neg (er ▸ hr)]
      exact ih m A A0 (by omega) (by omega) hlt e3 e9
theorem r0_settleL {N a : Nat} {M : KT} (hN : 100 ≤ N) (ha : a < 5) : ∀ (k n : Nat) (A A0 : AT) (n0 : Nat), k < n → n0 ≤ k → n0 ≤ 12 → Lt A → (∀ x, A 5 x ≤ 12) → (∀ x, A 3 x = A0 3 x) → (∀ x, A 9 x = A0 9 x) → fX3_goes_137 N n (rm M A) (nI a) (nI (maskN A0 a 5)) (nI n0) = some (nI (spreadL a 5 (settleL a k A n0) 6 a), rm M (spreadL a 5 (settleL a k A n0))) := by
  intro k
  have done : ∀ (A A0 : AT), Lt A → (∀ x, A 3 x = A0 3 x) → (∀ x, A 9 x = A0 9 x) → fX3_goes_229 N (rm M A) (nI a) (nI (maskN A0 a 5)) = some (nI (spreadL a 5 A 6 a), rm M (spreadL a 5 A)) := by
    intro A A0 hlt e3 e9
    unfold fX3_goes_229
    exact r0_spreadL ha 5 N A A0 (by omega) (by omega) hlt e3 e9
  induction k with
  | zero =>
    intro n A A0 n0 hn h0 hn0 hlt h12 e3 e9
    obtain ⟨m, rfl⟩ : ∃ m, n = m + 1 := ⟨n - 1, by omega⟩
    unfold fX3_goes_137 settleL
    rw [i5, x3_of5 ha, bdP_n, ite_le (by omega) (hlt _ _), if_pos (by omega)]
    exact done A A0 hlt e3 e9
  | succ k ih =>
    intro n A A0 n0 hn h0 hn0 hlt h12 e3 e9
    obtain ⟨m, rfl⟩ : ∃ m, n = m + 1 := ⟨n - 1, by omega⟩
    unfold fX3_goes_137 settleL
    rw [i5, x3_of5 ha, bdP_n, ite_le (by omega) (hlt _ _)]
    by_cases hq : A 6 a < n0
    · rw [if_neg (by omega), if_pos hq]
      have hh := r0_haveL (M := M) (k137 := fX3_goes_137 N m) hN ha hlt h12 hn0 5 N (by omega) (by omega)
      have em : maskN A a 5 = maskN A0 a 5 := maskN_congr e3 e9 5
      rw [em] at hh
      refine Eq.trans hh ?_
      have hle : haveN A a n0 5 ≤ 5 := by
        have : ∀ k, haveN A a n0 k ≤ k := by
          intro k
          induction k with
          | zero => exact Nat.le_refl _
          | succ k ih => unfold haveN; split <;> omega
        exact this 5
      unfold fX3_goes_189 fX3_goes_223
      rw [ndec (by omega), i3, ite_lt (by omega) (by decide), i1, nsub (by omega), i0, i5]
      by_cases h3 : 1 + haveN A a n0 5 < 3
      · rw [if_pos h3, if_neg (fun q => by have := q.1; omega)]
        exact ih m A A0 (n0 - 1) (by omega) (by omega) (by omega) hlt h12 e3 e9
      · rw [if_neg h3, x3_pageT ha (by omega), bdP_n, x3_of0 ha, bdP_n, ite_eq (hlt _ _) (hlt _ _)]
        by_cases h4 : A 7 (a * 12 + (n0 - 1)) = A 0 a
        · rw [if_pos h4, if_pos ⟨by omega, h4⟩, x3_sets5 ha, bdE_n]
          exact ih m _ A0 (n0 - 1) (by omega) (by omega) (by omega) (hlt.set (by omega)) (fun x => by rw [aset_f (by decide)]; exact h12 x) (fun x => by rw [aset_f (by decide)]; exact e3 x) (fun x => by rw [aset_f (by decide)]; exact e9 x)
        · rw [if_neg h4, if_neg (fun q => h4 q.2)]
          exact ih m A A0 (n0 - 1) (by omega) (by omega) (by omega) hlt h12 e3 e9
    · rw [if_pos (by omega), if_neg hq]
      exact done A A0 hlt e3 e9
theorem r0_goL {N a : Nat} {M : KT} (hN : 100 ≤ N) (ha : a < 5) : ∀ (k n B : Nat) (A : AT), k ≤ 5 → k < n → 12 ≤ B → B + 12 * k < 2 ^ 30 → BF B A → Rd A → fX3_goes_14 N n (rm M A) (nI a) (nI (maskN A a (5 - k))) (nI (5 - k)) = some (nI ((if (goL a k A).1 = true then settleR (goL a k A).2 a else (goL a k A).2) 6 a), rm M (if (goL a k A).1 = true then settleR (goL a k A).2 a else (goL a k A).2)) := by
  intro k
  induction k with
  | zero =>
    intro n B A _ hn hB hb h h9
    obtain ⟨m, rfl⟩ : ∃ m, n = m + 1 := ⟨n - 1, by omega⟩
    rw [Nat.sub_zero]
    unfold fX3_goes_14 fX3_goes_129 goL settleR
    rw [if_pos (by decide), i6, x3_of6 ha, bdP_n, if_pos rfl]
    exact r0_settleL hN ha 12 N A A (A 5 a) (by omega) (h.b5 a) (h.b5 a) (h.ltA hB (by omega)) h.b5 (fun _ => rfl) (fun _ => rfl)
  | succ k ih =>
    intro n B A hk hn hB hb h h9
    obtain ⟨m, rfl⟩ : ∃ m, n = m + 1 := ⟨n - 1, by omega⟩
    have hlt : Lt A := h.ltA hB (by omega)
    have hb5 : 4 - k < 5 := by omega
    have e5 : 5 - k = 4 - k + 1 := by omega
    have hnx : nI (4 - k) + 1 = nI (5 - k) := by rw [i1, nadd, e5]
    rw [show 5 - (k + 1) = 4 - k by omega]
    unfold fX3_goes_14 fX3_goes_123 goL
    have ec : maskN A a (5 - k) = maskN A a (4 - k) + (if reach A a (4 - k) then 2 ^ (4 - k) else 0) := by rw [e5]; rfl
    have hm := maskN_lt (A := A) (a := a) (4 - k)
    have hm16 : maskN A a (4 - k) < 16 := Nat.lt_of_lt_of_le hm (show 2 ^ (4 - k) ≤ 2 ^ 4 from Nat.pow_le_pow_right (by decide) (by omega))
    generalize 4 - k = b at hb5 e5 hnx ec hm hm16 ⊢
    rw [hnx, show (5 : Int32) = nI 5 from rfl, ite_le (by decide) (by omega), if_neg (by omega), r1_isReached ha hb5 h h9, bdP_n, ite_b0]
    by_cases hr : reach A a b
    · rw [if_pos hr] at ec
      have hab : a ≠ b := fun q => by
        have h1 := hr.2.2
        rw [← q, h9.1 a ha] at h1
        cases h1
      have visit : ∀ C : AT, BF B C → (∀ x, C 3 x = A 3 x) → (∀ x, C 9 x = A 9 x) → aset (aset C 2 b 0) 4 b 0 = visitT A a b → fX3_goes_97 N (fX3_goes_14 N m) (rm M C) (nI a) (nI (maskN A a b)) (nI b) = some (nI ((if (goL a k (visitS A a b)).1 = true then settleR (goL a k (visitS A a b)).2 a else (goL a k (visitS A a b)).2) 6 a), rm M (if (goL a k (visitS A a b)).1 = true then settleR (goL a k (visitS A a b)).2 a else (goL a k (visitS A a b)).2)) := by
        intro C hC c3 c9 eC
        unfold fX3_goes_97 fX3_goes_123
        rw [bit_or _ hm16 b hb5 hm, i2, i0, x3_sets2 (v := 0) hb5, bdE_n, i4, x3_sets4 (v := 0) hb5, bdE_n, eC, r0_copies hN ha hb5 hab (BF_visitT h) hB (by omega), bdE_n, hnx]
        have hi := ih m (B + 12) (visitS A a b) (by omega) (by omega) (by omega) (by omega) (BF_visitS h) (Rd_congr (fun x => visitS_n (Or.inr rfl)) h9)
        rw [maskN_congr (A := A) (A' := visitS A a b) (fun x => visitS_n (Or.inl rfl)) (fun x => visitS_n (Or.inr rfl)), ec] at hi
        exact hi
      rw [if_pos hr, if_pos hr, show (0 : Int32) = nI 0 from rfl, x3_of0 hb5, bdP_n, x3_of0 ha, bdP_n, ite_le (hlt _ _) (hlt _ _)]
      by_cases hg : A 0 a < A 0 b
      · rw [if_neg (by omega), if_pos hg]
        unfold fX3_goes_46
        rw [show (0 : Int32) = nI 0 from rfl, x3_of0 hb5, bdP_n, r0_tells ha, bdE_n, i2, x3_sets2 (v := 0) ha, bdE_n, i5, x3_of5 ha, bdP_n]
        rfl
      · rw [if_pos (by omega), if_neg hg, bdP_n, bdP_n, ite_le (hlt _ _) (hlt _ _)]
        by_cases ht : A 0 b < A 0 a
        · have e : askTake A a b = takeT A b (A 0 a) := if_pos ht
          rw [if_neg (by omega), bdP_n, r0_tells hb5, bdE_n]
          refine visit _ ((h.set (f := 0) (show A 0 a ≤ B from h.b0 a)).set (f := 1) (Nat.zero_le _)) (fun x => by rw [aset_f (by decide), aset_f (by decide)]) (fun x => by rw [aset_f (by decide), aset_f (by decide)]) ?_
          unfold visitT
          rw [e]
          unfold takeT
          rw [aset_same]
        · have e : askTake A a b = A := if_neg ht
          rw [if_pos (by omega)]
          exact visit A h (fun _ => rfl) (fun _ => rfl) (by unfold visitT; rw [e])
    · rw [if_neg hr] at ec
      rw [if_neg hr, if_neg hr]
      have hi := ih m B A (by omega) (by omega) hB (by omega) h h9
      rw [ec] at hi
      exact hi
theorem r0_goes {N a B : Nat} {M : KT} {A : AT} (hN : 100 ≤ N) (ha : a < 5) (h : St B A) (hb : B + 100 < 2 ^ 30) : mX3_goes N (rm M A) (nI a) = some (nI (goR A a 6 a), rm M (goR A a)) := by
  have h1 : BF (B + 1) (aset A 10 4 (A 10 4 + 1)) := (h.2.2.1.mono (Nat.le_succ B)).set (f := 10) (show A 10 4 + 1 ≤ B + 1 from Nat.succ_le_succ (h.2.2.1.b10 4))
  have h2 := h.1
  unfold mX3_goes
  rw [i4, rd_cnt (by decide), i1, nadd, wr_cnt (by decide), goR_of]
  exact r0_goL hN ha 5 N (B + 1) _ (by omega) (by omega) (by omega) (by omega) h1 (Rd_congr (fun x => aset_f (by decide)) h.2.2.2)
theorem r0_asks {N c B : Nat} {M : KT} {A : AT} (hN : 100 ≤ N) (hc : c < 5) (h : St B A) (hb : B + 100 < 2 ^ 30) (h2 : A 2 c = 0) : mX3_asks N (rm M A) (nI c) = some (nI (ask A c).1, rm M (ask A c).2) := by
  have hbf := BF_askStart h.2.2.1 hc
  have h12 := h.1
  have e : aset (aset (aset (aset A 0 c (A 0 c + 1)) 1 c (c + 1)) 4 c 0) 10 0 (A 10 0 + 1) = askStart A c := by
    unfold askStart
    rw [aset_comm _ (f := 4) (g := 10) (Or.inl (by decide)), aset_comm _ (f := 1) (g := 10) (Or.inl (by decide)), aset_comm _ (f := 0) (g := 10) (Or.inl (by decide))]
  have s := h.sha
  have hs : ShA (askStart A c) := by
    obtain ⟨t1, t2, t3, t4, t5⟩ := s
    refine ⟨fun x hx => ?_, fun a ha => ?_, fun a b' ha hb' => ?_, fun j => ?_, fun j => ?_⟩
    · refine ⟨hbf.b5 x, ?_, hbf.b1 x, hbf.b2 x, hbf.b3 x⟩
      have := (t1 x hx).2.1
      simp [askStart, aset]; exact this
    · simp [askStart, aset]; exact t2 a ha
    · simp [askStart, aset]; exact t3 a b' ha hb'
    · simp [askStart, aset]; exact t4 j
    · simp [askStart, aset]; exact t5 j
  unfold mX3_asks ask
  rw [i0, x3_of0 hc, bdP_n, i1, nadd, x3_sets0 hc, bdE_n, nadd, x3_sets1 hc, bdE_n, i4, x3_sets4 (v := 0) hc, bdE_n, rd_cnt (by decide), aset_f (f := 4) (g := 10) (by decide), aset_f (f := 1) (g := 10) (by decide), aset_f (f := 0) (g := 10) (by decide), nadd, wr_cnt (by decide), e]
  exact r0_askL hc 5 N (askStart A c) 1 (by omega) (by omega) (hbf.lt (by omega) (by omega)) hs (by simp [askStart, aset]; exact h2) (by omega)
theorem r0_duskL {N : Nat} {M : KT} (hN : 100 ≤ N) : ∀ (k n B : Nat) (A : AT), k ≤ 5 → k < n → St B A → B + 2 * k + 200 < 2 ^ 30 → fX3_hour_83 N n (rm M A) (nI (5 - k)) = some (0, rm M (aset (duskL k A) 10 5 (duskL k A 10 5 + 1))) := by
  intro k
  induction k with
  | zero =>
    intro n B A _ hn h hb
    obtain ⟨m, rfl⟩ : ∃ m, n = m + 1 := ⟨n - 1, by omega⟩
    unfold fX3_hour_83 fX3_hour_129 duskL
    rw [if_pos (by decide), i5, rd_cnt (by decide), i1, nadd, wr_cnt (by decide)]
  | succ k ih =>
    intro n B A hk hn h hb
    obtain ⟨m, rfl⟩ : ∃ m, n = m + 1 := ⟨n - 1, by omega⟩
    have hlt : Lt A := h.ltA (by omega)
    have hb5 : 4 - k < 5 := by omega
    have hnx : nI (4 - k) + 1 = nI (5 - k) := by rw [i1, nadd, show 4 - k + 1 = 5 - k by omega]
    rw [show 5 - (k + 1) = 4 - k by omega]
    unfold fX3_hour_83 fX3_hour_123 duskL
    generalize 4 - k = b at hb5 hnx ⊢
    rw [hnx, show (5 : Int32) = nI 5 from rfl, ite_le (by decide) (by omega), if_neg (by omega), r0_isAwake hb5 (h.2.2.1.b3 b), bdP_n, ite_b0]
    by_cases h3 : A 3 b = 1
    · rw [if_pos h3, i2, x3_of2 hb5, bdP_n, i0, ite_eq (hlt _ _) (by decide)]
      by_cases h2 : A 2 b = 0
      · rw [if_pos h2, i4, x3_of4 hb5, bdP_n, i3, nadd, ite_lt (hlt _ _) (by omega)]
        by_cases hs : A 4 b < 3 + b
        · rw [if_pos hs, if_neg (fun q => by have := q.2; omega)]
          exact ih m B A (by omega) (by omega) h (by omega)
        · rw [if_neg hs, if_pos ⟨⟨h3, h2⟩, by omega⟩, r0_asks hN hb5 h (by omega) h2, bdE_n]
          exact ih m (B + 2) _ (by omega) (by omega) (St_ask h hb5 h2 h3) (by omega)
      · rw [if_neg h2, if_neg (fun q => h2 q.1.2)]
        exact ih m B A (by omega) (by omega) h (by omega)
    · rw [if_neg h3, if_neg (fun q => h3 q.1.1)]
      exact ih m B A (by omega) (by omega) h (by omega)
theorem r0_silenceL {N : Nat} {M : KT} (hN : 100 ≤ N) : ∀ (k n B : Nat) (A : AT), k ≤ 5 → k < n → St B A → B + k + 210 < 2 ^ 30 → fX3_hour_39 N n (rm M A) (nI (5 - k)) = some (0, rm M (aset (duskL 5 (silenceL k A)) 10 5 (duskL 5 (silenceL k A) 10 5 + 1))) := by
  intro k
  induction k with
  | zero =>
    intro n B A _ hn h hb
    obtain ⟨m, rfl⟩ : ∃ m, n = m + 1 := ⟨n - 1, by omega⟩
    unfold fX3_hour_39 fX3_hour_81 silenceL
    rw [if_pos (by decide)]
    exact r0_duskL hN 5 N B A (by omega) (by omega) h (by omega)
  | succ k ih =>
    intro n B A hk hn h hb
    obtain ⟨m, rfl⟩ : ∃ m, n = m + 1 := ⟨n - 1, by omega⟩
    have hlt : Lt A := h.ltA (by omega)
    have hb5 : 4 - k < 5 := by omega
    have hnx : nI (4 - k) + 1 = nI (5 - k) := by rw [i1, nadd, show 4 - k + 1 = 5 - k by omega]
    rw [show 5 - (k + 1) = 4 - k by omega]
    unfold fX3_hour_39 fX3_hour_75 silenceL
    generalize 4 - k = b at hb5 hnx ⊢
    rw [hnx, show (5 : Int32) = nI 5 from rfl, ite_le (by decide) (by omega), if_neg (by omega), r0_isAwake hb5 (h.2.2.1.b3 b), bdP_n, ite_b0]
    by_cases h3 : A 3 b = 1
    · rw [if_pos h3, i2, x3_of2 hb5, bdP_n, i0, ite_eq (hlt _ _) (by decide)]
      by_cases h2 : A 2 b = 0
      · rw [if_pos h2, if_pos ⟨h3, h2⟩, i4, x3_of4 hb5, bdP_n, i1, nadd, x3_sets4 hb5, bdE_n]
        exact ih m (B + 1) _ (by omega) (by omega) (St_set h (Or.inl rfl) (Nat.succ_le_succ (h.2.2.1.b4 _))) (by omega)
      · rw [if_neg h2, if_neg (fun q => h2 q.2)]
        exact ih m B A (by omega) (by omega) h (by omega)
    · rw [if_neg h3, if_neg (fun q => h3 q.1)]
      exact ih m B A (by omega) (by omega) h (by omega)
theorem r0_marchL {N : Nat} {M : KT} (hN : 100 ≤ N) : ∀ (k n B : Nat) (A : AT), k ≤ 5 → k < n → St B A → B + 61 * k + 300 < 2 ^ 30 → fX3_hour_2 N n (rm M A) (nI (5 - k)) = some (0, rm M (aset (duskL 5 (silenceL 5 (marchL goC k A))) 10 5 (duskL 5 (silenceL 5 (marchL goC k A)) 10 5 + 1))) := by
  intro k
  induction k with
  | zero =>
    intro n B A _ hn h hb
    obtain ⟨m, rfl⟩ : ∃ m, n = m + 1 := ⟨n - 1, by omega⟩
    unfold fX3_hour_2 fX3_hour_37 marchL
    rw [if_pos (by decide)]
    exact r0_silenceL hN 5 N B A (by omega) (by omega) h (by omega)
  | succ k ih =>
    intro n B A hk hn h hb
    obtain ⟨m, rfl⟩ : ∃ m, n = m + 1 := ⟨n - 1, by omega⟩
    have hlt : Lt A := h.ltA (by omega)
    have hb5 : 4 - k < 5 := by omega
    have hnx : nI (4 - k) + 1 = nI (5 - k) := by rw [i1, nadd, show 4 - k + 1 = 5 - k by omega]
    rw [show 5 - (k + 1) = 4 - k by omega]
    unfold fX3_hour_2 fX3_hour_31 marchL
    generalize 4 - k = b at hb5 hnx ⊢
    rw [hnx, show (5 : Int32) = nI 5 from rfl, ite_le (by decide) (by omega), if_neg (by omega), r0_isAwake hb5 (h.2.2.1.b3 b), bdP_n, ite_b0]
    by_cases h3 : A 3 b = 1
    · rw [if_pos h3, i2, x3_of2 hb5, bdP_n, show (1 : Int32) = nI 1 from rfl, ite_eq (hlt _ _) (by decide)]
      by_cases h2 : A 2 b = 1
      · rw [if_pos h2, if_pos ⟨h3, h2⟩, r0_goes hN hb5 h (by omega), bdE_n, ← (go_eq h.2.1 hb5 h2 (h.2.2.2.1 b hb5)).1]
        exact ih m (B + 61) _ (by omega) (by omega) (St_go h hb5 h2) (by omega)
      · rw [if_neg h2, if_neg (fun q => h2 q.2)]
        exact ih m B A (by omega) (by omega) h (by omega)
    · rw [if_neg h3, if_neg (fun q => h3 q.1)]
      exact ih m B A (by omega) (by omega) h (by omega)
theorem r0_hour {N B : Nat} {M : KT} {A : AT} (hN : 100 ≤ N) (h : St B A) (hb : B + 1000 < 2 ^ 30) : mX3_hour N (rm M A) = some (0, rm M (hourC A)) := by
  have e := r0_marchL (M := M) hN 5 N B A (by omega) (by omega) h (by omega)
  have e2 : hourC A = aset (duskL 5 (silenceL 5 (marchL goC 5 A))) 10 5 (duskL 5 (silenceL 5 (marchL goC 5 A)) 10 5 + 1) := by
    rw [(hour_eq h).1]
    unfold hourR
    rw [← (St_hourB h).2]
    rfl
  unfold mX3_hour
  rw [e2]
  exact e
