/-! ===== the reference on the table ===== -/
theorem aset_id {A : AT} {f i v : Nat} (h : A f i = v) : aset A f i v = A := by rw [← h]; exact aset_self A f i
theorem r0_in {N : Nat} {x a b : Int32} : mX3_in N x a b = some (nI (bN (a ≤ x ∧ x ≤ b))) := by
  unfold mX3_in fX3_in_14 fX3_in_15
  by_cases h1 : x < a
  · rw [if_pos h1, bN_f (fun q => Int32.not_le.mpr h1 q.1)]; exact gdz _
  · rw [if_neg h1]
    by_cases h2 : b < x
    · rw [if_pos h2, bN_f (fun q => Int32.not_le.mpr h2 q.2)]; exact gdz _
    · rw [if_neg h2, bN_t ⟨Int32.not_lt.mp h1, Int32.not_lt.mp h2⟩]; exact gdo _
theorem r0_isCamp {N : Nat} {x : Int32} : mX3_isCamp N x = some (nI (bN (0 ≤ x ∧ x ≤ 4))) := by
  unfold mX3_isCamp
  rw [r0_in, bdP_n]
  exact gd_b _
theorem r0_isAwake {N : Nat} {M : KT} {A : AT} {c : Nat} (hc : c < 5) (h3 : A 3 c ≤ 1) : mX3_isAwake N (rm M A) (nI c) = some (nI (bN (A 3 c = 1))) := by
  unfold mX3_isAwake fX3_isAwake_14
  rw [show (3 : Int32) = nI 3 from rfl, x3_of3 hc, bdP_n]
  by_cases h : A 3 c = 1
  · rw [h, bN_t rfl]; rfl
  · rw [show A 3 c = 0 by omega, bN_f (by decide)]; rfl
theorem r0_road {N : Nat} {a b : Nat} (ha : a < 5) (hb : b < 5) : mX3_road N (nI a) (nI b) = some (nI (6 + 5 * min a b + max a b)) := by
  unfold mX3_road
  rw [imin_n (by omega) (by omega), imax_n (by omega) (by omega), i6, i5, nmul, nadd, nadd]
def ShA (A : AT) : Prop := (∀ c, c < 5 → A 5 c ≤ 12 ∧ A 6 c ≤ A 5 c ∧ A 1 c ≤ 5 ∧ A 2 c ≤ 1 ∧ A 3 c ≤ 1) ∧ (∀ a, a < 5 → A 9 (a * 5 + a) = 0) ∧ (∀ a b, a < 5 → b < 5 → A 9 (a * 5 + b) = A 9 (b * 5 + a)) ∧ (∀ k, A 9 k ≤ 1) ∧ ∀ i, A 8 i ≤ 3
theorem r0_isReached {N : Nat} {M : KT} {A : AT} {a b : Nat} (ha : a < 5) (hb : b < 5) (hs : ShA A) : mX3_isReached N (rm M A) (nI a) (nI b) = some (nI (bN (reach A a b))) := by
  obtain ⟨s1, s2, s3, s4, -⟩ := hs
  unfold mX3_isReached fX3_isReached_38 fX3_isReached_39
  by_cases hab : a = b
  · subst hab
    rw [if_pos rfl, bN_f (fun q => by have := q.2.2; rw [s2 a ha] at this; cases this)]
    exact gdz _
  · rw [if_neg (fun q => hab ((nI_eq (by omega) (by omega)).mp q)), r0_isAwake ha (s1 a ha).2.2.2.2, bdP_n, ite_b0]
    by_cases h1 : A 3 a = 1
    · rw [if_pos h1, r0_isAwake hb (s1 b hb).2.2.2.2, bdP_n, ite_b0]
      by_cases h2 : A 3 b = 1
      · rw [if_pos h2, r0_road ha hb, bdP_n, rdA_n (by omega) (by decide), rm_0]
        have e : pcM A (6 + 5 * min a b + max a b) = nI (1 - A 9 (a * 5 + b)) := by
          unfold pcM pmN
          rw [if_neg (by omega), if_pos (by omega), if_pos (by omega)]
          rcases Nat.lt_or_ge a b with q | q
          · rw [Nat.min_eq_left (by omega), Nat.max_eq_right (by omega), show 6 + 5 * a + b - 6 = a * 5 + b by omega]
          · rw [Nat.min_eq_right q, Nat.max_eq_left q, show 6 + 5 * b + a - 6 = b * 5 + a by omega, s3 a b ha hb]
        rw [e]
        have h4 := s4 (a * 5 + b)
        by_cases h3 : A 9 (a * 5 + b) = 1
        · rw [bN_t ⟨h1, h2, h3⟩, h3]; rfl
        · rw [bN_f (fun q => h3 q.2.2), show A 9 (a * 5 + b) = 0 by omega]; rfl
      · rw [if_neg h2, bN_f (fun q => h2 q.2.1)]; exact gdz _
    · rw [if_neg h1, bN_f (fun q => h1 q.1)]; exact gdz _
theorem r0_lastTerm {N : Nat} {M : KT} {A : AT} {c : Nat} (hlt : Lt A) (hc : c < 5) (h12 : A 5 c ≤ 12) : mX3_lastTerm N (rm M A) (nI c) = some (nI (lastT A c)) := by
  unfold mX3_lastTerm fX3_lastTerm_29 lastT
  rw [show (6 : Int32) = nI 6 from rfl, x3_of6 hc, bdP_n, i0, ite_eq (by omega) (by decide), bdP_n]
  by_cases h : A 5 c = 0
  · rw [if_pos h, if_pos h]
  · rw [if_neg h, if_neg h, i1, nsub (by omega), x3_pageT hc (by omega), bdP_n]
theorem r0_isAsFar {N : Nat} {M : KT} {A : AT} {a b : Nat} (hlt : ∀ f i, A f i < 2 ^ 30) (ha : a < 5) (hb : b < 5) (ha12 : A 5 a ≤ 12) (hb12 : A 5 b ≤ 12) : mX3_isAsFar N (rm M A) (nI a) (nI b) = some (nI (bN (far A a b))) := by
  have hl2 : Lt A := fun f i => Nat.lt_trans (hlt f i) (by decide)
  have l1 : ∀ c, lastT A c < 2 ^ 30 := fun c => by
    unfold lastT
    by_cases h : A 5 c = 0
    · rw [if_pos h]; decide
    · rw [if_neg h]; exact hlt _ _
  have d := pk_sub_toInt (l1 a) (l1 b)
  unfold mX3_isAsFar fX3_isAsFar_37 fX3_isAsFar_41 fX3_isAsFar_42
  rw [r0_lastTerm hl2 ha ha12, r0_lastTerm hl2 hb hb12, bdP_n, bdP_n]
  by_cases h1 : lastT A b < lastT A a
  · rw [if_pos (show (0 : Int32) < _ by rw [Int32.lt_iff_toInt_lt, d, show (0 : Int32).toInt = 0 from rfl]; omega), bN_t (Or.inl h1)]
    exact gdo _
  · rw [if_neg (show ¬ (0 : Int32) < _ by rw [Int32.lt_iff_toInt_lt, d, show (0 : Int32).toInt = 0 from rfl]; omega)]
    by_cases h2 : lastT A a = lastT A b
    · rw [if_pos (show _ = (0 : Int32) by rw [h2]; exact Int32.sub_self _), show (6 : Int32) = nI 6 from rfl, x3_of6 ha, x3_of6 hb, bdP_n, bdP_n, ite_lt (by omega) (by omega)]
      by_cases h3 : A 5 a < A 5 b
      · rw [if_pos h3, bN_f (fun q => by rcases q with q | q <;> omega)]; exact gdz _
      · rw [if_neg h3, bN_t (Or.inr ⟨h2, by omega⟩)]; exact gdo _
    · rw [if_neg (show ¬ _ = (0 : Int32) from fun q => by rw [q, show (0 : Int32).toInt = 0 from rfl] at d; omega), bN_f (fun q => by rcases q with q | q <;> omega)]
      exact gdz _
theorem r0_isLike {N : Nat} {M : KT} {A : AT} {a b p : Nat} (hlt : Lt A) (ha : a < 5) (hb : b < 5) (hp : p < 12) : mX3_isLike N (rm M A) (nI a) (nI b) (nI p) = some (nI (bN (likeP A a b p))) := by
  unfold mX3_isLike fX3_isLike_38 fX3_isLike_39
  rw [i0, i1, x3_pageT ha hp, x3_pageT hb hp, x3_pageL ha hp, x3_pageL hb hp, bdP_n, bdP_n, bdP_n, bdP_n, ite_eq (hlt _ _) (hlt _ _), ite_eq (hlt _ _) (hlt _ _)]
  by_cases h1 : A 7 (a * 12 + p) = A 7 (b * 12 + p)
  · rw [if_pos h1]
    by_cases h2 : A 8 (a * 12 + p) = A 8 (b * 12 + p)
    · rw [if_pos h2, bN_t ⟨h1, h2⟩]; exact gdo _
    · rw [if_neg h2, bN_f (fun q => h2 q.2)]; exact gdz _
  · rw [if_neg h1, bN_f (fun q => h1 q.1)]; exact gdz _
theorem r0_alikeL {N : Nat} {M : KT} {A : AT} {a b : Nat} (hlt : Lt A) (ha : a < 5) (hb : b < 5) (ha12 : A 5 a ≤ 12) (hb12 : A 5 b ≤ 12) : ∀ (k n p : Nat), k < n → p ≤ 12 → 12 ≤ p + k → fX3_alike_2 N (rm M A) n (nI a) (nI b) (nI p) = some (nI (alikeL A a b k p)) := by
  intro k
  induction k with
  | zero =>
    intro n p hn hp hk
    obtain ⟨m, rfl⟩ : ∃ m, n = m + 1 := ⟨n - 1, by omega⟩
    unfold fX3_alike_2 fX3_alike_40 alikeL
    rw [show (6 : Int32) = nI 6 from rfl, x3_of6 ha, bdP_n, ite_le (by omega) (by omega), if_pos (by omega)]
  | succ k ih =>
    intro n p hn hp hk
    obtain ⟨m, rfl⟩ : ∃ m, n = m + 1 := ⟨n - 1, by omega⟩
    unfold fX3_alike_2 fX3_alike_40 alikeL
    rw [show (6 : Int32) = nI 6 from rfl, x3_of6 ha, bdP_n, ite_le (by omega) (by omega)]
    by_cases h1 : A 5 a ≤ p
    · rw [if_pos h1, if_neg (by omega)]
    · rw [if_neg h1, x3_of6 hb, bdP_n, ite_le (by omega) (by omega)]
      by_cases h2 : A 5 b ≤ p
      · rw [if_pos h2, if_neg (by omega)]
      · rw [if_neg h2, r0_isLike hlt ha hb (by omega), bdP_n, ite_b0]
        by_cases h3 : likeP A a b p
        · rw [if_pos h3, if_pos ⟨by omega, by omega, h3⟩, i1, nadd]
          exact ih m (p + 1) (by omega) (by omega) (by omega)
        · rw [if_neg h3, if_neg (fun q => h3 q.2.2)]
theorem r0_alike {N : Nat} {M : KT} {A : AT} {a b : Nat} (hN : 100 ≤ N) (hlt : Lt A) (ha : a < 5) (hb : b < 5) (ha12 : A 5 a ≤ 12) (hb12 : A 5 b ≤ 12) : mX3_alike N (rm M A) (nI a) (nI b) = some (nI (alike A a b)) := by
  unfold mX3_alike
  exact r0_alikeL hlt ha hb ha12 hb12 12 N 0 (by omega) (by omega) (by omega)
theorem r0_tells {N : Nat} {M : KT} {A : AT} {c t : Nat} (hc : c < 5) : mX3_tellsNoVote N (rm M A) (nI c) (nI t) = some (0, rm M (aset (aset A 0 c t) 1 c 0)) := by
  unfold mX3_tellsNoVote
  rw [i0, x3_sets0 hc, bdE_n, show (1 : Int32) = nI 1 from rfl, x3_sets1 (v := 0) hc, bdE_n]
theorem wr_cnt {β : Type} {M : KT} {A : AT} {i v : Nat} {k : KT → Option β} (hi : i < 6) : wrA (rm M A) 0 186 (nI i) (nI v) k = k (rm M (aset A 10 i v)) := by
  rw [wrA_n (by omega) (by decide), fset_rm M A _ _ _ (pm_u10 hi)]
theorem rd_cnt {β : Type} {M : KT} {A : AT} {i : Nat} {k : Int32 → Option β} (hi : i < 6) : rdA (rm M A 0) 186 (nI i) k = k (nI (A 10 i)) := by
  rw [rdA_n (by omega) (by decide), rm_0]
  unfold pcM pmN
  rw [if_pos hi]
theorem r0_askL {N c : Nat} {M : KT} (hc : c < 5) : ∀ (k n : Nat) (A : AT) (v : Nat), k ≤ 5 → k < n → (∀ f i, A f i < 2 ^ 30) → ShA A → A 2 c = 0 → v + k ≤ 6 → fX3_asks_44 N n (rm M A) (nI c) (nI v) (nI (5 - k)) = some (nI (askL c k A v).1, rm M (askL c k A v).2) := by
  intro k
  induction k with
  | zero =>
    intro n A v _ hn hlt hs h2 hv
    obtain ⟨m, rfl⟩ : ∃ m, n = m + 1 := ⟨n - 1, by omega⟩
    unfold fX3_asks_44 fX3_asks_168 fX3_asks_190 askL askEnd
    rw [show (5 : Int32) = nI 5 from rfl, ite_le (by decide) (by decide), if_pos (by decide), show (3 : Int32) = nI 3 from rfl, ite_lt (by omega) (by decide)]
    by_cases h3 : v < 3
    · rw [if_pos h3, if_pos h3]
    · rw [if_neg h3, if_neg h3, show (2 : Int32) = nI 2 from rfl, show (1 : Int32) = nI 1 from rfl, x3_sets2 hc, bdE_n, rd_cnt (by decide), nadd, wr_cnt (by decide), aset_f (show (10 : Nat) ≠ 2 by decide)]
  | succ k ih =>
    intro n A v hk hn hlt hs h2 hv
    obtain ⟨m, rfl⟩ : ∃ m, n = m + 1 := ⟨n - 1, by omega⟩
    have hl2 : Lt A := fun f i => Nat.lt_trans (hlt f i) (by decide)
    have hb : 4 - k < 5 := by omega
    have hnx : nI (4 - k) + 1 = nI (5 - k) := by rw [i1, nadd, show 4 - k + 1 = 5 - k by omega]
    rw [show 5 - (k + 1) = 4 - k by omega]
    unfold fX3_asks_44 fX3_asks_162 askL
    generalize 4 - k = b at hb hnx ⊢
    rw [hnx, r0_isReached hc hb hs, bdP_n, ite_b0]
    rw [show (5 : Int32) = nI 5 from rfl, ite_le (by decide) (by omega), if_neg (by omega)]
    by_cases hr : reach A c b
    · rw [if_pos hr, if_pos hr]
      rw [show (0 : Int32) = nI 0 from rfl, x3_of0 hb, x3_of0 hc, bdP_n, bdP_n, ite_le (hl2 _ _) (hl2 _ _)]
      by_cases hg : A 0 c < A 0 b
      · rw [if_neg (by omega), if_pos hg]
        unfold fX3_asks_76
        rw [show (0 : Int32) = nI 0 from rfl, x3_of0 hb, bdP_n, r0_tells hc, bdE_n]
        have e : aset (aset A 0 c (A 0 b)) 1 c 0 = takeT A c (A 0 b) := by
          unfold takeT
          exact (aset_id (by simp [aset, h2])).symm
        rw [e]
      · rw [if_pos (by omega), if_neg hg, bdP_n, bdP_n, ite_le (hl2 _ _) (hl2 _ _), bdP_n]
        have hvote : ∀ B : AT, (∀ f i, B f i < 2 ^ 30) → ShA B → (b ≠ c → B 2 c = 0) → (b = c → B = A) → fX3_asks_122 N (fX3_asks_44 N m) (rm M B) (nI c) (nI v) (nI b) = some (nI (if B 1 b = 0 ∧ far B c b then askL c k (askVote B c b) (v + 1) else askL c k B v).1, rm M (if B 1 b = 0 ∧ far B c b then askL c k (askVote B c b) (v + 1) else askL c k B v).2) := by
          intro B hltB hB hB2 hBA
          have hB2c : B 2 c = 0 := by
            by_cases q : b = c
            · rw [hBA q]; exact h2
            · exact hB2 q
          have s1 := hB.1
          unfold fX3_asks_122 fX3_asks_162
          have hl3 : Lt B := fun f i => Nat.lt_trans (hltB f i) (by decide)
          rw [hnx, show (1 : Int32) = nI 1 from rfl, x3_of1 hb, bdP_n]
          by_cases h1 : B 1 b = 0
          · rw [if_neg (show ¬ (0 : Int32) < nI (B 1 b) by rw [h1]; decide), r0_isAsFar hltB hc hb (s1 c hc).1 (s1 b hb).1, bdP_n, ite_b0]
            by_cases h2 : far B c b
            · rw [if_pos h2, if_pos ⟨h1, h2⟩, show (0 : Int32) = nI 0 from rfl, show (4 : Int32) = nI 4 from rfl, nadd, x3_sets1 hb, bdE_n, x3_sets4 hb, bdE_n, nadd]
              refine ih m (askVote B c b) (v + 1) (by omega) (by omega) ?_ ?_ ?_ (by omega)
              · intro f i
                unfold askVote aset
                split
                · decide
                · split
                  · omega
                  · exact hltB f i
              · obtain ⟨t1, t2, t3, t4, t5⟩ := hB
                refine ⟨fun x hx => ?_, fun a ha => ?_, fun a b' ha hb' => ?_, fun j => ?_, fun j => ?_⟩
                · rw [askVote_f (f := 5) (by decide) (by decide), askVote_f (f := 6) (by decide) (by decide), askVote_f (f := 2) (by decide) (by decide), askVote_f (f := 3) (by decide) (by decide)]
                  refine ⟨(t1 x hx).1, (t1 x hx).2.1, ?_, (t1 x hx).2.2.2⟩
                  by_cases hxb : x = b
                  · rw [hxb]; simp [askVote, aset]; omega
                  · rw [askVote_x hxb]; exact (t1 x hx).2.2.1
                · rw [askVote_f (f := 9) (by decide) (by decide)]; exact t2 a ha
                · rw [askVote_f (f := 9) (by decide) (by decide), askVote_f (f := 9) (by decide) (by decide)]; exact t3 a b' ha hb'
                · rw [askVote_f (f := 9) (by decide) (by decide)]; exact t4 j
                · rw [askVote_f (f := 8) (by decide) (by decide)]; exact t5 j
              · rw [askVote_f (f := 2) (by decide) (by decide)]; exact hB2c
            · rw [if_neg h2, if_neg (fun q => h2 q.2)]
              exact ih m B v (by omega) (by omega) hltB hB hB2c (by omega)
          · rw [if_pos (show (0 : Int32) < nI (B 1 b) from nI_lt (a := 0) (by omega) (hl3 _ _)), if_neg (fun q => h1 q.1)]
            exact ih m B v (by omega) (by omega) hltB hB hB2c (by omega)
        by_cases ht : A 0 b < A 0 c
        · have hbc : b ≠ c := fun q => by rw [q] at ht; omega
          have e : askTake A c b = takeT A b (A 0 c) := if_pos ht
          rw [if_neg (by omega), r0_tells hb, bdE_n, show (2 : Int32) = nI 2 from rfl, x3_sets2 (v := 0) hb, bdE_n, e]
          refine hvote _ ?_ ?_ (fun _ => by simp [aset, Ne.symm hbc]; exact h2) (fun q => absurd q hbc)
          · intro f i
            unfold aset
            split
            · decide
            · split
              · decide
              · split
                · exact hlt _ _
                · exact hlt f i
          · obtain ⟨t1, t2, t3, t4, t5⟩ := hs
            refine ⟨fun x hx => ?_, fun a ha => ?_, fun a b' ha hb' => ?_, fun j => ?_, fun j => ?_⟩
            · have := t1 x hx
              by_cases hxb : x = b
              · subst hxb; simp [aset]; omega
              · simp [aset, hxb]; omega
            · simp [aset]; exact t2 a ha
            · simp [aset]; exact t3 a b' ha hb'
            · simp [aset]; exact t4 j
            · simp [aset]; exact t5 j
        · have e : askTake A c b = A := if_neg ht
          rw [if_pos (by omega), e]
          exact hvote A hlt hs (fun _ => h2) (fun _ => rfl)
    · rw [if_neg hr, if_neg hr]
      exact ih m A v (by omega) (by omega) hlt hs h2 (by omega)
