def writeS (A : AT) (c x : Nat) : AT := aset (aset (aset (aset A 7 (c * 12 + A 5 c) (A 0 c)) 8 (c * 12 + A 5 c) x) 5 c (A 5 c + 1)) 10 2 (A 10 2 + 1)
theorem writeS_Inv {A : AT} (h : Inv A) {c x : Nat} (hc : c < 5) (hcap : A 2 c = 1) (hn : A 5 c < 12) : Inv (writeS A c x) := by
  obtain ⟨L, G, gl, h⟩ := h
  have h' := h
  obtain ⟨g1, g2, g3, g4, g5, g6, g7, g8, g9⟩ := h
  obtain ⟨c1, c2, c3, c4⟩ := g3 c hc hcap
  have ef : ∀ f y, f ≠ 7 → f ≠ 8 → f ≠ 5 → f ≠ 10 → writeS A c x f y = A f y := fun f y h7 h8 h5 h10 => by simp [writeS, aset, h7, h8, h5, h10]
  have e5 : writeS A c x 5 c = A 5 c + 1 := by simp [writeS, aset]
  have e5' : ∀ b, b ≠ c → writeS A c x 5 b = A 5 b := fun b hb => by simp [writeS, aset, hb]
  have ep : ∀ b i, i < 12 → ¬ (b = c ∧ i = A 5 c) → pg (writeS A c x) b i = pg A b i := fun b i hi hb => by
    have : b * 12 + i ≠ c * 12 + A 5 c := fun e => hb (by omega)
    unfold pg
    simp [writeS, aset, this]
  have epn : pg (writeS A c x) c (A 5 c) = (A 0 c, x) := by
    unfold pg
    simp [writeS, aset]
  have tne : ∀ T i, i < gl T → (if T = A 0 c ∧ i = A 5 c then (A 0 c, x) else G T i) = G T i := fun T i hi => by
    rw [if_neg]
    rintro ⟨rfl, rfl⟩
    omega
  have glle : ∀ T, gl T ≤ (if T = A 0 c then A 5 c + 1 else gl T) := fun T => by
    by_cases e : T = A 0 c
    · rw [if_pos e, e, c3]; omega
    · rw [if_neg e]; exact Nat.le_refl _
  refine ⟨L, fun T i => if T = A 0 c ∧ i = A 5 c then (A 0 c, x) else G T i, fun T => if T = A 0 c then A 5 c + 1 else gl T, ?_, ?_, ?_, ?_, ?_, ?_, g7, ?_, ?_⟩ <;> try dsimp only
  · intro b hb i hi
    by_cases hbi : b = c ∧ i = A 5 c
    · obtain ⟨rfl, rfl⟩ := hbi
      have e7 : writeS A b x 7 (b * 12 + A 5 b) = A 0 b := congrArg Prod.fst epn
      rw [e7, ef 0 _ (by decide) (by decide) (by decide) (by decide), if_pos rfl]
      refine ⟨Nat.le_refl _, by omega, fun j hj => ?_⟩
      rcases Nat.lt_or_ge j (A 5 b) with q | q
      · rw [ep b j (by omega) (fun z => by omega)]
        show _ = if A 0 b = A 0 b ∧ j = A 5 b then _ else _
        rw [if_neg (fun z => by omega)]
        exact c4 j q
      · have : j = A 5 b := by omega
        subst this
        rw [epn]
        show _ = if A 0 b = A 0 b ∧ A 5 b = A 5 b then _ else _
        rw [if_pos ⟨rfl, rfl⟩]
    · have hi2 : i < A 5 b := by
        by_cases hbc : b = c
        · subst hbc; rw [e5] at hi; omega
        · rw [e5' b hbc] at hi; exact hi
      have := (g9 b hb).2
      have e7 : writeS A c x 7 (b * 12 + i) = A 7 (b * 12 + i) := congrArg Prod.fst (ep b i (by omega) hbi)
      rw [e7, ef 0 _ (by decide) (by decide) (by decide) (by decide)]
      obtain ⟨w1, w2, w3⟩ := g1 b hb i hi2
      refine ⟨w1, Nat.lt_of_lt_of_le w2 (glle _), fun j hj => ?_⟩
      rw [ep b j (by omega) (fun z => by obtain ⟨rfl, rfl⟩ := z; omega), w3 j hj]
      exact (tne _ j (by omega)).symm
  · intro T i hi
    by_cases hTi : T = A 0 c ∧ i = A 5 c
    · obtain ⟨rfl, rfl⟩ := hTi
      rw [if_pos ⟨rfl, rfl⟩]
      show A 0 c ≤ A 0 c ∧ _
      refine ⟨Nat.le_refl _, ?_, fun j hj => rfl⟩
      show A 5 c < if A 0 c = A 0 c then A 5 c + 1 else gl (A 0 c)
      rw [if_pos rfl]; omega
    · have hi2 : i < gl T := by
        by_cases hT : T = A 0 c
        · rw [if_pos hT] at hi
          rw [hT, c3]
          have : i ≠ A 5 c := fun e => hTi ⟨hT, e⟩
          omega
        · rw [if_neg hT] at hi; exact hi
      rw [if_neg hTi]
      obtain ⟨w1, w2, w3⟩ := g2 T i hi2
      refine ⟨w1, Nat.lt_of_lt_of_le w2 (glle _), fun j hj => ?_⟩
      show (if T = A 0 c ∧ j = A 5 c then _ else G T j) = _
      rw [tne T j (by omega), w3 j hj]
      exact (tne _ j (by omega)).symm
  · intro b hb q
    rw [ef 2 _ (by decide) (by decide) (by decide) (by decide)] at q
    obtain ⟨w1, w2, w3, w4⟩ := g3 b hb q
    rw [ef 3 _ (by decide) (by decide) (by decide) (by decide), ef 0 _ (by decide) (by decide) (by decide) (by decide)]
    by_cases hbc : b = c
    · subst hbc
      rw [if_pos rfl, e5]
      refine ⟨w1, w2, rfl, fun i hi => ?_⟩
      rcases Nat.lt_or_ge i (A 5 b) with z | z
      · rw [ep b i (by omega) (fun y => by omega), if_neg (fun y => by omega)]
        exact w4 i z
      · have : i = A 5 b := by omega
        subst this
        rw [epn, if_pos ⟨rfl, rfl⟩]
    · have hne : A 0 b ≠ A 0 c := fun e => by rw [e] at w2; omega
      rw [if_neg hne, e5' b hbc]
      have := (g9 b hb).2
      refine ⟨w1, w2, w3, fun i hi => ?_⟩
      rw [ep b i (by omega) (fun z => hbc z.1), if_neg (fun z => hne z.1)]
      exact w4 i hi
  · intro T k q
    obtain ⟨w1, w2, w3⟩ := g4 T k q
    exact ⟨w1, by rw [ef 0 _ (by decide) (by decide) (by decide) (by decide)]; exact w2, maj_mono (fun b _ z => by rw [ef 0 _ (by decide) (by decide) (by decide) (by decide), ef 1 _ (by decide) (by decide) (by decide) (by decide)]; exact z) w3⟩
  · intro T q
    have : T ≠ A 0 c := fun e => by rw [e] at q; omega
    rw [if_neg this]
    exact g5 T q
  · intro b hb q
    rw [ef 6 _ (by decide) (by decide) (by decide) (by decide)] at q ⊢
    obtain ⟨w1, w2⟩ := g6 b hb q
    have hb9 := g9 b hb
    have own : ∀ i, i < A 6 b → pg (writeS A c x) b i = pg A b i := fun i hi => ep b i (by omega) (fun z => by obtain ⟨rfl, rfl⟩ := z; omega)
    refine ⟨maj_mono (fun y hy z => ?_) w1, fun T hT hL => ?_⟩
    · have hy9 := g9 y hy
      refine ⟨?_, fun i hi => ?_⟩
      · by_cases hyc : y = c
        · subst hyc; rw [e5]; omega
        · rw [e5' y hyc]; exact z.1
      · rw [ep y i (by omega) (fun u => by obtain ⟨rfl, rfl⟩ := u; omega), own i hi]
        exact z.2 i hi
    · rw [pgT (own (A 6 b - 1) (by omega))] at hT
      obtain ⟨z1, z2⟩ := w2 T hT hL
      refine ⟨Nat.le_trans z1 (glle T), fun i hi => ?_⟩
      rw [own i hi]
      show (if T = A 0 c ∧ i = A 5 c then _ else G T i) = _
      rw [tne T i (by omega)]
      exact z2 i hi
  · intro b k hb q
    rw [ef 1 _ (by decide) (by decide) (by decide) (by decide)] at q
    obtain ⟨w1, w2⟩ := g8 b k hb q
    exact ⟨w1, by rw [ef 0 _ (by decide) (by decide) (by decide) (by decide), ef 0 _ (by decide) (by decide) (by decide) (by decide)]; exact w2⟩
  · intro b hb
    rw [ef 6 _ (by decide) (by decide) (by decide) (by decide)]
    have := g9 b hb
    by_cases hbc : b = c
    · subst hbc; rw [e5]; omega
    · rw [e5' b hbc]; exact this
def sleepS (A : AT) (c v : Nat) : AT := aset (aset (aset A 3 c v) 2 c 0) 4 c 0
theorem sleepS_Inv {A : AT} (h : Inv A) {c v : Nat} (hc : c < 5) : Inv (sleepS A c v) := by
  obtain ⟨L, G, gl, h⟩ := h
  obtain ⟨g1, g2, g3, g4, g5, g6, g7, g8, g9⟩ := h
  have ef : ∀ f y, f ≠ 2 → f ≠ 3 → f ≠ 4 → sleepS A c v f y = A f y := fun f y h2 h3 h4 => by simp [sleepS, aset, h2, h3, h4]
  have e2 : sleepS A c v 2 c = 0 := by simp [sleepS, aset]
  have ex : ∀ f b, b ≠ c → sleepS A c v f b = A f b := fun f b hb => by simp [sleepS, aset, hb]
  have ep : ∀ b i, pg (sleepS A c v) b i = pg A b i := fun b i => by unfold pg; rw [ef 7 _ (by decide) (by decide) (by decide), ef 8 _ (by decide) (by decide) (by decide)]
  have e0 : ∀ y, sleepS A c v 0 y = A 0 y := fun y => ef 0 y (by decide) (by decide) (by decide)
  have e1 : ∀ y, sleepS A c v 1 y = A 1 y := fun y => ef 1 y (by decide) (by decide) (by decide)
  have e5 : ∀ y, sleepS A c v 5 y = A 5 y := fun y => ef 5 y (by decide) (by decide) (by decide)
  have e6 : ∀ y, sleepS A c v 6 y = A 6 y := fun y => ef 6 y (by decide) (by decide) (by decide)
  have e7 : ∀ y, sleepS A c v 7 y = A 7 y := fun y => ef 7 y (by decide) (by decide) (by decide)
  refine ⟨L, G, gl, ?_, g2, ?_, ?_, g5, ?_, g7, ?_, ?_⟩
  · intro b hb i hi
    rw [e5] at hi
    rw [e7, e0]
    obtain ⟨w1, w2, w3⟩ := g1 b hb i hi
    exact ⟨w1, w2, fun j hj => by rw [ep]; exact w3 j hj⟩
  · intro b hb q
    by_cases hbc : b = c
    · rw [hbc, e2] at q; cases q
    · rw [ex 2 b hbc] at q
      rw [ex 3 b hbc, e0, e5]
      obtain ⟨w1, w2, w3, w4⟩ := g3 b hb q
      exact ⟨w1, w2, w3, fun i hi => by rw [ep]; exact w4 i hi⟩
  · intro T k q
    obtain ⟨w1, w2, w3⟩ := g4 T k q
    exact ⟨w1, by rw [e0]; exact w2, maj_mono (fun b _ z => by rw [e0, e1]; exact z) w3⟩
  · intro b hb q
    rw [e6] at q ⊢
    obtain ⟨w1, w2⟩ := g6 b hb q
    refine ⟨maj_mono (fun y _ z => ?_) w1, fun T hT hL => ?_⟩
    · rw [e5]
      exact ⟨z.1, fun i hi => by rw [ep, ep]; exact z.2 i hi⟩
    · rw [e7] at hT
      obtain ⟨z1, z2⟩ := w2 T hT hL
      exact ⟨z1, fun i hi => by rw [ep]; exact z2 i hi⟩
  · intro b k hb q
    rw [e1] at q
    obtain ⟨w1, w2⟩ := g8 b k hb q
    exact ⟨w1, by rw [e0, e0]; exact w2⟩
  · intro b hb
    rw [e5, e6]
    exact g9 b hb
theorem Inv_congr {A A' : AT} (hs : samR A A') (h : Inv A) : Inv A' := by
  obtain ⟨L, G, gl, h⟩ := h
  exact ⟨L, G, gl, RI_congr hs h⟩
/-- of two camps, the fewer settled pages are the first of the other one's -/
theorem Inv_settled {A : AT} (h : Inv A) {a b : Nat} (ha : a < 5) (hb : b < 5) : min (A 6 a) (A 6 b) ≤ alike A a b := by
  obtain ⟨L, G, gl, h⟩ := h
  have h9a := h.2.2.2.2.2.2.2.2 a ha
  have h9b := h.2.2.2.2.2.2.2.2 b hb
  refine alike_prefix h9a.2 (by omega) (by omega) (fun i hi => ?_)
  have sa : 0 < A 6 a := by omega
  have sb : 0 < A 6 b := by omega
  obtain ⟨-, a2⟩ := h.2.2.2.2.2.1 a ha sa
  obtain ⟨-, b2⟩ := h.2.2.2.2.2.1 b hb sb
  have pa := (RI_pos h ha (i := A 6 a - 1) (by omega)).1
  have pb := (RI_pos h hb (i := A 6 b - 1) (by omega)).1
  rcases Nat.le_total (A 7 (a * 12 + (A 6 a - 1))) (A 7 (b * 12 + (A 6 b - 1))) with q | q
  · rw [← (a2 _ q pb).2 i (by omega)]
    exact ((h.1 b hb (A 6 b - 1) (by omega)).2.2 i (by omega)).symm
  · rw [← (b2 _ q pa).2 i (by omega)]
    exact (h.1 a ha (A 6 a - 1) (by omega)).2.2 i (by omega)
/-- all settled pages are had by most -/
theorem Inv_most {A : AT} (h : Inv A) {c : Nat} (hc : c < 5) : maj (fun b => A 6 c ≤ alike A c b) := by
  obtain ⟨L, G, gl, h⟩ := h
  have h9 := h.2.2.2.2.2.2.2.2 c hc
  rcases Nat.eq_zero_or_pos (A 6 c) with z | z
  · exact ⟨0, 1, 2, by decide, by decide, by decide, by omega, by omega, by omega⟩
  · refine maj_mono (fun b hb q => ?_) (h.2.2.2.2.2.1 c hc z).1
    exact alike_prefix h9.2 h9.1 q.1 (fun i hi => (q.2 i hi).symm)
/-- each term has at most one captain -/
theorem Inv_one {A : AT} (h : Inv A) {a b : Nat} (ha : a < 5) (hb : b < 5) (ca : A 2 a = 1) (cb : A 2 b = 1) (e : A 0 a = A 0 b) : a = b := by
  obtain ⟨L, G, gl, h⟩ := h
  have h1 := (h.2.2.1 a ha ca).2.1
  have h2 := (h.2.2.1 b hb cb).2.1
  rw [e] at h1
  omega
theorem Inv_awake {A : AT} (h : Inv A) {a : Nat} (ha : a < 5) (ca : A 2 a = 1) : A 3 a = 1 := by
  obtain ⟨L, G, gl, h⟩ := h
  exact (h.2.2.1 a ha ca).1
/-- by the terms alone -/
theorem Inv_terms {A : AT} (h : Inv A) {a b i : Nat} (ha : a < 5) (hb : b < 5) (hia : i < A 5 a) (hib : i < A 5 b) : (A 7 (a * 12 + i) = A 7 (b * 12 + i)) ↔ i < alike A a b := by
  obtain ⟨L, G, gl, h⟩ := h
  have h9 := h.2.2.2.2.2.2.2.2 a ha
  constructor
  · intro e
    exact alike_prefix (n := i + 1) h9.2 hia hib (fun j hj => RI_match h ha hb hia hib e j (by omega))
  · intro q
    exact congrArg Prod.fst ((alike_spec h9.2).2.2.1 i q)
theorem Inv_len {A : AT} (h : Inv A) {c : Nat} (hc : c < 5) : A 6 c ≤ A 5 c ∧ A 5 c ≤ 12 := by
  obtain ⟨L, G, gl, h⟩ := h
  exact h.2.2.2.2.2.2.2.2 c hc
/-- the last term of a log: the greatest, and no more than the camp's -/
theorem Inv_last {A : AT} (h : Inv A) {c : Nat} (hc : c < 5) : lastT A c ≤ A 0 c := by
  obtain ⟨L, G, gl, h⟩ := h
  unfold lastT
  by_cases q : A 5 c = 0
  · rw [if_pos q]; exact Nat.zero_le _
  · rw [if_neg q]; exact (h.1 c hc (A 5 c - 1) (by omega)).1
theorem Inv_0 {A : AT} (h : ∀ f i, f ≠ 3 → f ≠ 9 → A f i = 0) : Inv A := by
  refine ⟨fun _ => 0, fun _ _ => (0, 0), fun _ => 0, ?_, ?_, ?_, ?_, ?_, ?_, rfl, ?_, ?_⟩
  · intro c _ i hi; rw [h 5 c (by decide) (by decide)] at hi; omega
  · intro T i hi; exact absurd hi (Nat.not_lt_zero i)
  · intro c _ q; rw [h 2 c (by decide) (by decide)] at q; cases q
  · intro T k q; cases q
  · intro T _; rfl
  · intro c _ q; rw [h 6 c (by decide) (by decide)] at q; omega
  · intro b k _ q; rw [h 1 b (by decide) (by decide)] at q; cases q
  · intro c _; rw [h 5 c (by decide) (by decide), h 6 c (by decide) (by decide)]; omega
