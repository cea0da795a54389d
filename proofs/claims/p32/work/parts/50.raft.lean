/-! ===== what most have stays: the invariant of the camps' logs ===== -/
/-- three of the five -/
def maj (p : Nat → Prop) : Prop := ∃ a b c, a < b ∧ b < c ∧ c < 5 ∧ p a ∧ p b ∧ p c
theorem maj_meet {p q : Nat → Prop} (h1 : maj p) (h2 : maj q) : ∃ b, b < 5 ∧ p b ∧ q b := by
  obtain ⟨x, y, z, g1, g2, g3, qx, qy, qz⟩ := h2
  obtain ⟨a, b, c, f1, f2, f3, pa, pb, pc⟩ := h1
  have key : a = x ∨ a = y ∨ a = z ∨ b = x ∨ b = y ∨ b = z ∨ c = x ∨ c = y ∨ c = z := by omega
  rcases key with e | e | e | e | e | e | e | e | e
  · exact ⟨a, by omega, pa, e ▸ qx⟩
  · exact ⟨a, by omega, pa, e ▸ qy⟩
  · exact ⟨a, by omega, pa, e ▸ qz⟩
  · exact ⟨b, by omega, pb, e ▸ qx⟩
  · exact ⟨b, by omega, pb, e ▸ qy⟩
  · exact ⟨b, by omega, pb, e ▸ qz⟩
  · exact ⟨c, by omega, pc, e ▸ qx⟩
  · exact ⟨c, by omega, pc, e ▸ qy⟩
  · exact ⟨c, by omega, pc, e ▸ qz⟩
theorem maj_mono {p q : Nat → Prop} (h : ∀ b, b < 5 → p b → q b) (h1 : maj p) : maj q := by
  obtain ⟨a, b, c, h1, h2, h3, pa, pb, pc⟩ := h1
  exact ⟨a, b, c, h1, h2, h3, h a (by omega) pa, h b (by omega) pb, h c (by omega) pc⟩
/-- a page of a camp: its term and its letter -/
def pg (A : AT) (c i : Nat) : Nat × Nat := (A 7 (c * 12 + i), A 8 (c * 12 + i))
/-- the invariant: L T is the captain of the term T plus 1, or 0; G T its log, gl T how many pages -/
def RI (A : AT) (L : Nat → Nat) (G : Nat → Nat → Nat × Nat) (gl : Nat → Nat) : Prop :=
  (∀ c, c < 5 → ∀ i, i < A 5 c → A 7 (c * 12 + i) ≤ A 0 c ∧ i < gl (A 7 (c * 12 + i)) ∧ ∀ j, j ≤ i → pg A c j = G (A 7 (c * 12 + i)) j) ∧
  (∀ T i, i < gl T → (G T i).1 ≤ T ∧ i < gl (G T i).1 ∧ ∀ j, j ≤ i → G T j = G (G T i).1 j) ∧
  (∀ c, c < 5 → A 2 c = 1 → A 3 c = 1 ∧ L (A 0 c) = c + 1 ∧ gl (A 0 c) = A 5 c ∧ ∀ i, i < A 5 c → pg A c i = G (A 0 c) i) ∧
  (∀ T k, L T = k + 1 → k < 5 ∧ T ≤ A 0 k ∧ maj (fun b => T < A 0 b ∨ (A 0 b = T ∧ A 1 b = k + 1))) ∧
  (∀ T, L T = 0 → gl T = 0) ∧
  (∀ c, c < 5 → 0 < A 6 c → maj (fun b => A 6 c ≤ A 5 b ∧ ∀ i, i < A 6 c → pg A b i = pg A c i) ∧ ∀ T, A 7 (c * 12 + (A 6 c - 1)) ≤ T → L T ≠ 0 → A 6 c ≤ gl T ∧ ∀ i, i < A 6 c → G T i = pg A c i) ∧
  L 0 = 0 ∧
  (∀ b k, b < 5 → A 1 b = k + 1 → k < 5 ∧ A 0 b ≤ A 0 k) ∧
  (∀ c, c < 5 → A 6 c ≤ A 5 c ∧ A 5 c ≤ 12)
def Inv (A : AT) : Prop := ∃ L G gl, RI A L G gl
/-- what the invariant speaks of -/
def samR (A A' : AT) : Prop := (∀ c, c < 5 → A' 0 c = A 0 c ∧ A' 1 c = A 1 c ∧ A' 2 c = A 2 c ∧ A' 3 c = A 3 c ∧ A' 5 c = A 5 c ∧ A' 6 c = A 6 c) ∧ ∀ i, i < 60 → A' 7 i = A 7 i ∧ A' 8 i = A 8 i
theorem RI_congr {A A' : AT} {L : Nat → Nat} {G : Nat → Nat → Nat × Nat} {gl : Nat → Nat} (hs : samR A A') (h : RI A L G gl) : RI A' L G gl := by
  obtain ⟨h1, h2, h3, h4, h5, h6, h7, h8, h9⟩ := h
  obtain ⟨s1, s2⟩ := hs
  have hp : ∀ c i, c < 5 → i < 12 → pg A' c i = pg A c i := fun c i hc hi => by
    unfold pg
    rw [(s2 (c * 12 + i) (by omega)).1, (s2 (c * 12 + i) (by omega)).2]
  have hT : ∀ c i, c < 5 → i < 12 → A' 7 (c * 12 + i) = A 7 (c * 12 + i) := fun c i hc hi => (s2 (c * 12 + i) (by omega)).1
  have e0 : ∀ c, c < 5 → A' 0 c = A 0 c := fun c hc => (s1 c hc).1
  have e1 : ∀ c, c < 5 → A' 1 c = A 1 c := fun c hc => (s1 c hc).2.1
  have e2 : ∀ c, c < 5 → A' 2 c = A 2 c := fun c hc => (s1 c hc).2.2.1
  have e3 : ∀ c, c < 5 → A' 3 c = A 3 c := fun c hc => (s1 c hc).2.2.2.1
  have e5 : ∀ c, c < 5 → A' 5 c = A 5 c := fun c hc => (s1 c hc).2.2.2.2.1
  have e6 : ∀ c, c < 5 → A' 6 c = A 6 c := fun c hc => (s1 c hc).2.2.2.2.2
  refine ⟨?_, h2, ?_, ?_, h5, ?_, h7, ?_, ?_⟩
  · intro c hc i hi
    rw [e5 c hc] at hi
    have hb := (h9 c hc).2
    rw [hT c i hc (by omega), e0 c hc]
    obtain ⟨a1, a2, a3⟩ := h1 c hc i hi
    exact ⟨a1, a2, fun j hj => by rw [hp c j hc (by omega)]; exact a3 j hj⟩
  · intro c hc h
    rw [e2 c hc] at h
    obtain ⟨a1, a2, a3, a4⟩ := h3 c hc h
    have hb := (h9 c hc).2
    rw [e3 c hc, e0 c hc, e5 c hc]
    exact ⟨a1, a2, a3, fun i hi => by rw [hp c i hc (by omega)]; exact a4 i hi⟩
  · intro T k h
    obtain ⟨a1, a2, a3⟩ := h4 T k h
    exact ⟨a1, by rw [e0 k a1]; exact a2, maj_mono (fun b hb h => by rw [e0 b hb, e1 b hb]; exact h) a3⟩
  · intro c hc h
    rw [e6 c hc] at h ⊢
    obtain ⟨a1, a2⟩ := h6 c hc h
    have hb := h9 c hc
    refine ⟨maj_mono (fun b hb2 h => ?_) a1, ?_⟩
    · rw [e5 b hb2]
      exact ⟨h.1, fun i hi => by rw [hp b i hb2 (by omega), hp c i hc (by omega)]; exact h.2 i hi⟩
    · intro T hT2 hL
      rw [hT c _ hc (by omega)] at hT2
      obtain ⟨b1, b2⟩ := a2 T hT2 hL
      exact ⟨b1, fun i hi => by rw [hp c i hc (by omega)]; exact b2 i hi⟩
  · intro b k hb h
    rw [e1 b hb] at h
    obtain ⟨a1, a2⟩ := h8 b k hb h
    exact ⟨a1, by rw [e0 b hb, e0 k a1]; exact a2⟩
  · intro c hc
    rw [e5 c hc, e6 c hc]
    exact h9 c hc
/-- the terms of a log grow -/
theorem RI_gmono {A : AT} {L : Nat → Nat} {G : Nat → Nat → Nat × Nat} {gl : Nat → Nat} (h : RI A L G gl) {T i j : Nat} (hij : i ≤ j) (hj : j < gl T) : (G T i).1 ≤ (G T j).1 := by
  obtain ⟨-, h2, -⟩ := h
  obtain ⟨a1, a2, a3⟩ := h2 T j hj
  rw [a3 i hij]
  exact (h2 (G T j).1 i (by omega)).1
theorem RI_mono {A : AT} {L : Nat → Nat} {G : Nat → Nat → Nat × Nat} {gl : Nat → Nat} (h : RI A L G gl) {c i j : Nat} (hc : c < 5) (hij : i ≤ j) (hj : j < A 5 c) : A 7 (c * 12 + i) ≤ A 7 (c * 12 + j) := by
  obtain ⟨a1, a2, a3⟩ := h.1 c hc j hj
  have e1 : A 7 (c * 12 + i) = (G (A 7 (c * 12 + j)) i).1 := congrArg Prod.fst (a3 i hij)
  have e2 : A 7 (c * 12 + j) = (G (A 7 (c * 12 + j)) j).1 := congrArg Prod.fst (a3 j (Nat.le_refl _))
  rw [e1]
  exact Nat.le_trans (RI_gmono h hij a2) (Nat.le_of_eq e2.symm)
theorem RI_pos {A : AT} {L : Nat → Nat} {G : Nat → Nat → Nat × Nat} {gl : Nat → Nat} (h : RI A L G gl) {c i : Nat} (hc : c < 5) (hi : i < A 5 c) : L (A 7 (c * 12 + i)) ≠ 0 ∧ 1 ≤ A 7 (c * 12 + i) := by
  obtain ⟨h1, h2, h3, h4, h5, h6, h7, h8, h9⟩ := h
  have hL : L (A 7 (c * 12 + i)) ≠ 0 := fun e => by
    have := h5 _ e
    have := (h1 c hc i hi).2.1
    omega
  refine ⟨hL, ?_⟩
  rcases Nat.eq_zero_or_pos (A 7 (c * 12 + i)) with e | e
  · rw [e] at hL; exact absurd h7 hL
  · exact e
/-- pages of one term at one place have all pages up to them alike -/
theorem RI_match {A : AT} {L : Nat → Nat} {G : Nat → Nat → Nat × Nat} {gl : Nat → Nat} (h : RI A L G gl) {a b i : Nat} (ha : a < 5) (hb : b < 5) (hia : i < A 5 a) (hib : i < A 5 b) (e : A 7 (a * 12 + i) = A 7 (b * 12 + i)) : ∀ j, j ≤ i → pg A a j = pg A b j := by
  intro j hj
  rw [(h.1 a ha i hia).2.2 j hj, (h.1 b hb i hib).2.2 j hj, e]
/-- a camp takes a greater term -/
theorem RI_raise {A A' : AT} {L : Nat → Nat} {G : Nat → Nat → Nat × Nat} {gl : Nat → Nat} (h : RI A L G gl) {c : Nat} (hc : c < 5) (e0 : A 0 c < A' 0 c) (e1 : A' 1 c = 0 ∨ A' 1 c = c + 1) (e2 : A' 2 c = 0) (eo : ∀ b, b ≠ c → A' 0 b = A 0 b ∧ A' 1 b = A 1 b ∧ A' 2 b = A 2 b) (e3 : ∀ b, A' 3 b = A 3 b) (e5 : ∀ b, A' 5 b = A 5 b) (e6 : ∀ b, A' 6 b = A 6 b) (e7 : ∀ b, A' 7 b = A 7 b) (e8 : ∀ b, A' 8 b = A 8 b) : RI A' L G gl := by
  obtain ⟨h1, h2, h3, h4, h5, h6, h7, h8, h9⟩ := h
  have ege : ∀ b, A 0 b ≤ A' 0 b := fun b => by
    by_cases hb : b = c
    · subst hb; omega
    · rw [(eo b hb).1]; exact Nat.le_refl _
  have ep : ∀ b i, pg A' b i = pg A b i := fun b i => by unfold pg; rw [e7, e8]
  refine ⟨?_, h2, ?_, ?_, h5, ?_, h7, ?_, ?_⟩
  · intro b hb i hi
    rw [e5] at hi
    rw [e7]
    obtain ⟨a1, a2, a3⟩ := h1 b hb i hi
    exact ⟨Nat.le_trans a1 (ege b), a2, fun j hj => by rw [ep]; exact a3 j hj⟩
  · intro b hb h
    by_cases hbc : b = c
    · subst hbc; omega
    · rw [(eo b hbc).2.2] at h
      rw [e3, (eo b hbc).1, e5]
      obtain ⟨a1, a2, a3, a4⟩ := h3 b hb h
      exact ⟨a1, a2, a3, fun i hi => by rw [ep]; exact a4 i hi⟩
  · intro T k h
    obtain ⟨a1, a2, a3⟩ := h4 T k h
    refine ⟨a1, Nat.le_trans a2 (ege k), maj_mono (fun b hb h => ?_) a3⟩
    by_cases hbc : b = c
    · subst hbc
      left
      rcases h with h | h <;> omega
    · rw [(eo b hbc).1, (eo b hbc).2.1]; exact h
  · intro b hb h
    rw [e6] at h ⊢
    obtain ⟨a1, a2⟩ := h6 b hb h
    refine ⟨maj_mono (fun x hx h => ?_) a1, ?_⟩
    · rw [e5]
      exact ⟨h.1, fun i hi => by rw [ep, ep]; exact h.2 i hi⟩
    · intro T hT hL
      rw [e7] at hT
      obtain ⟨b1, b2⟩ := a2 T hT hL
      exact ⟨b1, fun i hi => by rw [ep]; exact b2 i hi⟩
  · intro b k hb h
    by_cases hbc : b = c
    · subst hbc
      rcases e1 with e1 | e1
      · omega
      · have : k = b := by omega
        subst this
        exact ⟨hc, Nat.le_refl _⟩
    · rw [(eo b hbc).2.1] at h
      obtain ⟨a1, a2⟩ := h8 b k hb h
      exact ⟨a1, by rw [(eo b hbc).1]; exact Nat.le_trans a2 (ege k)⟩
  · intro b hb
    rw [e5, e6]
    exact h9 b hb
theorem takeT_RI {A : AT} {L : Nat → Nat} {G : Nat → Nat → Nat × Nat} {gl : Nat → Nat} (h : RI A L G gl) {c t : Nat} (hc : c < 5) (ht : A 0 c < t) : RI (takeT A c t) L G gl := by
  have ef : ∀ f b, 3 ≤ f → takeT A c t f b = A f b := fun f b hf => by
    simp [takeT, aset, show f ≠ 0 by omega, show f ≠ 1 by omega, show f ≠ 2 by omega]
  exact RI_raise h hc (by simpa [takeT, aset] using ht) (Or.inl (by simp [takeT, aset])) (by simp [takeT, aset]) (fun b hb => by simp [takeT, aset, hb]) (fun b => ef _ _ (by decide)) (fun b => ef _ _ (by decide)) (fun b => ef _ _ (by decide)) (fun b => ef _ _ (by decide)) (fun b => ef _ _ (by decide))
theorem askStart_RI {A : AT} {L : Nat → Nat} {G : Nat → Nat → Nat × Nat} {gl : Nat → Nat} (h : RI A L G gl) {c : Nat} (hc : c < 5) (h2 : A 2 c = 0) : RI (askStart A c) L G gl := by
  have ef : ∀ f b, f = 2 ∨ f = 3 ∨ f = 5 ∨ f = 6 ∨ f = 7 ∨ f = 8 → askStart A c f b = A f b := fun f b hf => by
    simp [askStart, aset, show f ≠ 0 by omega, show f ≠ 1 by omega, show f ≠ 4 by omega, show f ≠ 10 by omega]
  exact RI_raise h hc (by simp [askStart, aset]) (Or.inr (by simp [askStart, aset])) (by rw [ef 2 _ (by decide)]; exact h2) (fun b hb => by simp [askStart, aset, hb]) (fun b => ef _ _ (by decide)) (fun b => ef _ _ (by decide)) (fun b => ef _ _ (by decide)) (fun b => ef _ _ (by decide)) (fun b => ef _ _ (by decide))
theorem askTake_RI {A : AT} {L : Nat → Nat} {G : Nat → Nat → Nat × Nat} {gl : Nat → Nat} (h : RI A L G gl) {c b : Nat} (hb : b < 5) : RI (askTake A c b) L G gl := by
  unfold askTake
  by_cases h1 : A 0 b < A 0 c
  · rw [if_pos h1]; exact takeT_RI h hb h1
  · rw [if_neg h1]; exact h
theorem askVote_RI {A : AT} {L : Nat → Nat} {G : Nat → Nat → Nat × Nat} {gl : Nat → Nat} (h : RI A L G gl) {c b : Nat} (hc : c < 5) (hb : b < 5) (hv : A 1 b = 0) (ht : A 0 b ≤ A 0 c) : RI (askVote A c b) L G gl := by
  obtain ⟨h1, h2, h3, h4, h5, h6, h7, h8, h9⟩ := h
  have ef : ∀ f x, f ≠ 1 → f ≠ 4 → askVote A c b f x = A f x := fun f x h1 h4 => by simp [askVote, aset, h1, h4]
  have e1 : askVote A c b 1 b = c + 1 := by simp [askVote, aset]
  have e1' : ∀ x, x ≠ b → askVote A c b 1 x = A 1 x := fun x hx => by simp [askVote, aset, hx]
  have ep : ∀ x i, pg (askVote A c b) x i = pg A x i := fun x i => by unfold pg; rw [ef 7 _ (by decide) (by decide), ef 8 _ (by decide) (by decide)]
  refine ⟨?_, h2, ?_, ?_, h5, ?_, h7, ?_, ?_⟩
  · intro x hx i hi
    rw [ef 5 _ (by decide) (by decide)] at hi
    rw [ef 7 _ (by decide) (by decide), ef 0 _ (by decide) (by decide)]
    obtain ⟨a1, a2, a3⟩ := h1 x hx i hi
    exact ⟨a1, a2, fun j hj => by rw [ep]; exact a3 j hj⟩
  · intro x hx h
    rw [ef 2 _ (by decide) (by decide)] at h
    rw [ef 3 _ (by decide) (by decide), ef 0 _ (by decide) (by decide), ef 5 _ (by decide) (by decide)]
    obtain ⟨a1, a2, a3, a4⟩ := h3 x hx h
    exact ⟨a1, a2, a3, fun i hi => by rw [ep]; exact a4 i hi⟩
  · intro T k h
    obtain ⟨a1, a2, a3⟩ := h4 T k h
    refine ⟨a1, by rw [ef 0 _ (by decide) (by decide)]; exact a2, maj_mono (fun x hx h => ?_) a3⟩
    rw [ef 0 _ (by decide) (by decide)]
    by_cases hxb : x = b
    · subst hxb
      left
      rcases h with h | h <;> omega
    · rw [e1' x hxb]; exact h
  · intro x hx h
    rw [ef 6 _ (by decide) (by decide)] at h ⊢
    obtain ⟨a1, a2⟩ := h6 x hx h
    refine ⟨maj_mono (fun y hy h => ?_) a1, ?_⟩
    · rw [ef 5 _ (by decide) (by decide)]
      exact ⟨h.1, fun i hi => by rw [ep, ep]; exact h.2 i hi⟩
    · intro T hT hL
      rw [ef 7 _ (by decide) (by decide)] at hT
      obtain ⟨b1, b2⟩ := a2 T hT hL
      exact ⟨b1, fun i hi => by rw [ep]; exact b2 i hi⟩
  · intro x k hx h
    by_cases hxb : x = b
    · subst hxb
      rw [e1] at h
      have : k = c := by omega
      subst this
      exact ⟨hc, by rw [ef 0 _ (by decide) (by decide), ef 0 _ (by decide) (by decide)]; exact ht⟩
    · rw [e1' x hxb] at h
      obtain ⟨a1, a2⟩ := h8 x k hx h
      exact ⟨a1, by rw [ef 0 _ (by decide) (by decide), ef 0 _ (by decide) (by decide)]; exact a2⟩
  · intro x hx
    rw [ef 5 _ (by decide) (by decide), ef 6 _ (by decide) (by decide)]
    exact h9 x hx
theorem maj_of_list {p : Nat → Prop} {vs : List Nat} (hn : vs.Nodup) (h : ∀ x ∈ vs, x < 5 ∧ p x) (h3 : 3 ≤ vs.length) : maj p := by
  match vs, hn, h, h3 with
  | x :: y :: z :: r, hn, h, _ =>
    have hx := h x (by simp)
    have hy := h y (by simp)
    have hz := h z (by simp)
    simp only [List.nodup_cons, List.mem_cons, not_or] at hn
    obtain ⟨⟨xy, xz, -⟩, ⟨yz, -⟩, -⟩ := hn
    rcases Nat.lt_or_gt_of_ne xy with a | a <;> rcases Nat.lt_or_gt_of_ne xz with b | b <;> rcases Nat.lt_or_gt_of_ne yz with c | c
    · exact ⟨x, y, z, a, c, hz.1, hx.2, hy.2, hz.2⟩
    · exact ⟨x, z, y, b, c, hy.1, hx.2, hz.2, hy.2⟩
    · exact absurd b (by omega)
    · exact ⟨z, x, y, b, a, hy.1, hz.2, hx.2, hy.2⟩
    · exact ⟨y, x, z, a, b, hz.1, hy.2, hx.2, hz.2⟩
    · exact absurd b (by omega)
    · exact ⟨y, z, x, c, b, hx.1, hy.2, hz.2, hx.2⟩
    · exact ⟨z, y, x, c, a, hx.1, hz.2, hy.2, hx.2⟩
/-- who is voted for by most has all settled pages -/
theorem RI_complete {A : AT} {L : Nat → Nat} {G : Nat → Nat → Nat × Nat} {gl : Nat → Nat} (h : RI A L G gl) {c b : Nat} (hc : c < 5) (hb : b < 5) (hs : 0 < A 6 b) (hm : maj (fun x => far A c x)) : A 6 b ≤ A 5 c ∧ ∀ i, i < A 6 b → pg A c i = pg A b i := by
  have h' := h
  obtain ⟨h1, h2, h3, h4, h5, h6, h7, h8, h9⟩ := h
  obtain ⟨a1, a2⟩ := h6 b hb hs
  obtain ⟨v, hv, ⟨g1, g2⟩, f⟩ := maj_meet a1 hm
  have hb9 := h9 b hb
  have hvn : 0 < A 5 v := by omega
  have tv : A 7 (b * 12 + (A 6 b - 1)) = A 7 (v * 12 + (A 6 b - 1)) := (congrArg Prod.fst (g2 (A 6 b - 1) (by omega))).symm
  have tv2 : A 7 (v * 12 + (A 6 b - 1)) ≤ A 7 (v * 12 + (A 5 v - 1)) := RI_mono h' hv (by omega) (by omega)
  have lv : lastT A v = A 7 (v * 12 + (A 5 v - 1)) := if_neg (by omega)
  have pv := (RI_pos h' hv (i := A 5 v - 1) (by omega)).2
  have hcn : 0 < A 5 c := by
    rcases Nat.eq_zero_or_pos (A 5 c) with e | e
    · have lc : lastT A c = 0 := if_pos e
      rcases f with f | f <;> omega
    · exact e
  have lc : lastT A c = A 7 (c * 12 + (A 5 c - 1)) := if_neg (by omega)
  obtain ⟨c1, c2, c3⟩ := h1 c hc (A 5 c - 1) (by omega)
  have hLc := (RI_pos h' hc (i := A 5 c - 1) (by omega)).1
  obtain ⟨b1, b2⟩ := a2 (A 7 (c * 12 + (A 5 c - 1))) (by rcases f with f | f <;> omega) hLc
  have hle : A 6 b ≤ A 5 c := by
    rcases f with f | f
    · rcases Nat.lt_or_ge (A 5 c) (A 6 b) with q | q
      · have e1 : A 7 (c * 12 + (A 5 c - 1)) = A 7 (b * 12 + (A 5 c - 1)) := by
          have e2 := congrArg Prod.fst (c3 (A 5 c - 1) (Nat.le_refl _))
          have e3 := congrArg Prod.fst (b2 (A 5 c - 1) (by omega))
          exact e2.trans e3
        have e4 : A 7 (b * 12 + (A 5 c - 1)) ≤ A 7 (b * 12 + (A 6 b - 1)) := RI_mono h' hb (by omega) (by omega)
        omega
      · exact q
    · omega
  refine ⟨hle, fun i hi => ?_⟩
  rw [c3 i (by omega), b2 i hi]
/-- a camp becomes the captain of its term -/
theorem elect_RI {A A' : AT} {L : Nat → Nat} {G : Nat → Nat → Nat × Nat} {gl : Nat → Nat} (h : RI A L G gl) {c : Nat} (hc : c < 5) (hpos : 0 < A 0 c) (haw : A 3 c = 1) (hL : L (A 0 c) ≠ c + 1) (hm : maj (fun x => A 0 x = A 0 c ∧ A 1 x = c + 1 ∧ far A c x))
    (e2 : A' 2 c = 1) (eo : ∀ b, b ≠ c → A' 2 b = A 2 b) (e0 : ∀ b, A' 0 b = A 0 b) (e1 : ∀ b, A' 1 b = A 1 b) (e3 : ∀ b, A' 3 b = A 3 b) (e5 : ∀ b, A' 5 b = A 5 b) (e6 : ∀ b, A' 6 b = A 6 b) (e7 : ∀ b, A' 7 b = A 7 b) (e8 : ∀ b, A' 8 b = A 8 b) :
    RI A' (fun T => if T = A 0 c then c + 1 else L T) (fun T => if T = A 0 c then pg A c else G T) (fun T => if T = A 0 c then A 5 c else gl T) := by
  have h' := h
  obtain ⟨h1, h2, h3, h4, h5, h6, h7, h8, h9⟩ := h
  have ep : ∀ b i, pg A' b i = pg A b i := fun b i => by unfold pg; rw [e7, e8]
  have hL0 : L (A 0 c) = 0 := by
    rcases Nat.eq_zero_or_pos (L (A 0 c)) with q | q
    · exact q
    · obtain ⟨k, hk⟩ : ∃ k, L (A 0 c) = k + 1 := ⟨L (A 0 c) - 1, by omega⟩
      obtain ⟨x, hx, p1, p2⟩ := maj_meet (h4 _ k hk).2.2 hm
      exact absurd (by rcases p1 with p1 | p1 <;> omega) hL
  have hg0 : gl (A 0 c) = 0 := h5 _ hL0
  have tne : ∀ b i, b < 5 → i < A 5 b → A 7 (b * 12 + i) ≠ A 0 c := fun b i hb hi e => by
    have := (h1 b hb i hi).2.1
    rw [e] at this
    omega
  refine ⟨?_, ?_, ?_, ?_, ?_, ?_, ?_, ?_, ?_⟩ <;> try dsimp only
  · intro b hb i hi
    rw [e5] at hi
    rw [e7, e0]
    obtain ⟨a1, a2, a3⟩ := h1 b hb i hi
    rw [if_neg (tne b i hb hi)]
    refine ⟨a1, a2, fun j hj => ?_⟩
    rw [ep, a3 j hj, if_neg (tne b i hb hi)]
  · intro T i hi
    by_cases hT : T = A 0 c
    · rw [if_pos hT] at hi
      rw [if_pos hT]
      obtain ⟨a1, a2, a3⟩ := h1 c hc i hi
      have hne := tne c i hc hi
      show A 7 (c * 12 + i) ≤ T ∧ _
      refine ⟨by omega, ?_, ?_⟩
      · show i < if A 7 (c * 12 + i) = A 0 c then A 5 c else gl (A 7 (c * 12 + i))
        rw [if_neg hne]; exact a2
      · intro j hj
        show pg A c j = (if A 7 (c * 12 + i) = A 0 c then pg A c else G (A 7 (c * 12 + i))) j
        rw [if_neg hne]; exact a3 j hj
    · rw [if_neg hT] at hi
      rw [if_neg hT]
      obtain ⟨a1, a2, a3⟩ := h2 T i hi
      have hne : (G T i).1 ≠ A 0 c := fun e => by rw [e] at a2; omega
      rw [if_neg hne, if_neg hne]
      exact ⟨a1, a2, a3⟩
  · intro b hb h
    by_cases hbc : b = c
    · subst hbc
      rw [e3, e0, if_pos rfl, if_pos rfl, e5]
      exact ⟨haw, rfl, rfl, fun i _ => by rw [ep, if_pos rfl]⟩
    · rw [eo b hbc] at h
      obtain ⟨a1, a2, a3, a4⟩ := h3 b hb h
      have hne : A 0 b ≠ A 0 c := fun e => by rw [e] at a2; omega
      rw [e3, e0, if_neg hne, if_neg hne, e5]
      exact ⟨a1, a2, a3, fun i hi => by rw [ep, if_neg hne]; exact a4 i hi⟩
  · intro T k h
    by_cases hT : T = A 0 c
    · rw [if_pos hT] at h
      have hk : k = c := by omega
      subst hk
      refine ⟨hc, by rw [e0]; omega, maj_mono (fun b hb h => ?_) hm⟩
      right
      rw [e0, e1, hT]
      exact ⟨h.1, h.2.1⟩
    · rw [if_neg hT] at h
      obtain ⟨a1, a2, a3⟩ := h4 T k h
      exact ⟨a1, by rw [e0]; exact a2, maj_mono (fun b hb h => by rw [e0, e1]; exact h) a3⟩
  · intro T h
    by_cases hT : T = A 0 c
    · rw [if_pos hT] at h; omega
    · rw [if_neg hT] at h
      rw [if_neg hT]; exact h5 T h
  · intro b hb h
    rw [e6] at h ⊢
    obtain ⟨a1, a2⟩ := h6 b hb h
    refine ⟨maj_mono (fun x hx h => ?_) a1, ?_⟩
    · rw [e5]
      exact ⟨h.1, fun i hi => by rw [ep, ep]; exact h.2 i hi⟩
    · intro T hT hLT
      rw [e7] at hT
      by_cases hTc : T = A 0 c
      · rw [if_pos hTc]
        obtain ⟨b1, b2⟩ := RI_complete h' hc hb h (maj_mono (fun x _ q => q.2.2) hm)
        exact ⟨b1, fun i hi => by rw [ep, if_pos hTc]; exact b2 i hi⟩
      · rw [if_neg hTc] at hLT
        rw [if_neg hTc]
        obtain ⟨b1, b2⟩ := a2 T hT hLT
        exact ⟨b1, fun i hi => by rw [ep, if_neg hTc]; exact b2 i hi⟩
  · rw [if_neg (by omega)]; exact h7
  · intro b k hb h
    rw [e1] at h
    obtain ⟨a1, a2⟩ := h8 b k hb h
    exact ⟨a1, by rw [e0, e0]; exact a2⟩
  · intro b hb
    rw [e5, e6]
    exact h9 b hb
