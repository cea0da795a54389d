theorem pgT {A B : AT} {c d i j : Nat} (h : pg A c i = pg B d j) : A 7 (c * 12 + i) = B 7 (d * 12 + j) := congrArg Prod.fst h
/-- a captain's visit keeps the invariant -/
theorem visitS_RI {A : AT} {L : Nat → Nat} {G : Nat → Nat → Nat × Nat} {gl : Nat → Nat} (h : RI A L G gl) {a b : Nat} (ha : a < 5) (hb : b < 5) (hab : a ≠ b) (hcap : A 2 a = 1) (ht : A 0 b ≤ A 0 a) : RI (visitS A a b) L G gl := by
  have h1 : RI (askTake A a b) L G gl := askTake_RI h hb
  obtain ⟨s1, s2, s3, s4, s5, s6, s7⟩ := visitS_spec ha hb hab (h.2.2.2.2.2.2.2.2 a ha).2 (h.2.2.2.2.2.2.2.2 b hb).2
  have tb : askTake A a b 0 b = A 0 a := by
    unfold askTake
    by_cases q : A 0 b < A 0 a
    · rw [if_pos q]; simp [takeT, aset]
    · rw [if_neg q]; omega
  obtain ⟨g1, g2, g3, g4, g5, g6, g7, g8, g9⟩ := h
  obtain ⟨k1, k2, k3, k4, k5, k6, k7, k8, k9⟩ := h1
  obtain ⟨ca1, ca2, ca3, ca4⟩ := g3 a ha hcap
  have V0 : ∀ x, x < 5 → visitS A a b 0 x = askTake A a b 0 x := fun x _ => by
    by_cases hx : x = b
    · rw [hx]; exact s2 0 (Or.inl rfl)
    · rw [s1 0 x (by decide) (by decide) (by decide) (fun q => hx q.1), askTake_x hx]
  have V1 : ∀ x, x < 5 → visitS A a b 1 x = askTake A a b 1 x := fun x _ => by
    by_cases hx : x = b
    · rw [hx]; exact s2 1 (Or.inr rfl)
    · rw [s1 1 x (by decide) (by decide) (by decide) (fun q => hx q.1), askTake_x hx]
  have V3 : ∀ x, visitS A a b 3 x = A 3 x := fun x => s1 3 x (by decide) (by decide) (by decide) (by omega)
  have V6 : ∀ x, visitS A a b 6 x = A 6 x := fun x => s1 6 x (by decide) (by decide) (by decide) (by omega)
  have V5 : ∀ x, x ≠ b → visitS A a b 5 x = A 5 x := fun x hx => s1 5 x (by decide) (by decide) (by decide) (fun q => hx q.1)
  have V5b : visitS A a b 5 b ≤ 12 := by
    rcases s7 with q | q
    · have := (g9 a ha).2; omega
    · have := (g9 b hb).2; omega
  have T0 : ∀ x, A 0 x ≤ askTake A a b 0 x := fun x => by
    by_cases hx : x = b
    · rw [hx, tb]; exact ht
    · rw [askTake_x hx]; exact Nat.le_refl _
  -- the settled pages of any camp that b had, b has still
  have keep : ∀ c, c < 5 → 0 < A 6 c → (A 6 c ≤ A 5 b ∧ ∀ i, i < A 6 c → pg A b i = pg A c i) → A 6 c ≤ visitS A a b 5 b ∧ ∀ i, i < A 6 c → pg (visitS A a b) b i = pg A c i := by
    intro c hc hs ⟨q1, q2⟩
    rcases s7 with q | ⟨q, q'⟩
    · have t1 : A 7 (c * 12 + (A 6 c - 1)) = A 7 (b * 12 + (A 6 c - 1)) := (pgT (q2 (A 6 c - 1) (by omega))).symm
      have t2 := (g1 b hb (A 6 c - 1) (by omega)).1
      obtain ⟨w1, w2⟩ := (g6 c hc hs).2 (A 0 a) (by omega) (by omega)
      refine ⟨by omega, fun i hi => ?_⟩
      rw [s5 i (by omega), ca4 i (by omega), w2 i hi]
    · refine ⟨by omega, fun i hi => ?_⟩
      have := (g9 b hb).2
      rw [q' i (by omega), q2 i hi]
  refine ⟨?_, g2, ?_, ?_, g5, ?_, g7, ?_, ?_⟩
  · intro c hc i hi
    by_cases hcb : c = b
    · subst hcb
      have hlog : (i < A 5 a ∧ visitS A a c 5 c = A 5 a) ∨ (visitS A a c 5 c = A 5 c ∧ ∀ j, j < 12 → pg (visitS A a c) c j = pg A c j) := by
        rcases s7 with q | q
        · left; omega
        · right; exact q
      rcases hlog with ⟨hi2, -⟩ | ⟨q, q'⟩
      · have e7 : visitS A a c 7 (c * 12 + i) = A 7 (a * 12 + i) := pgT (s5 i hi2)
        rw [e7, V0 c hc, tb]
        obtain ⟨w1, w2, w3⟩ := g1 a ha i hi2
        exact ⟨w1, w2, fun j hj => by rw [s5 j (by omega)]; exact w3 j hj⟩
      · have hi2 : i < A 5 c := by omega
        have := (g9 c hc).2
        have e7 : visitS A a c 7 (c * 12 + i) = A 7 (c * 12 + i) := pgT (q' i (by omega))
        rw [e7, V0 c hc]
        obtain ⟨w1, w2, w3⟩ := g1 c hc i hi2
        exact ⟨Nat.le_trans w1 (T0 c), w2, fun j hj => by rw [q' j (by omega)]; exact w3 j hj⟩
    · rw [V5 c hcb] at hi
      have := (g9 c hc).2
      have e7 : visitS A a b 7 (c * 12 + i) = A 7 (c * 12 + i) := pgT (s4 c i (by omega) hcb)
      rw [e7, V0 c hc]
      obtain ⟨w1, w2, w3⟩ := g1 c hc i hi
      exact ⟨Nat.le_trans w1 (T0 c), w2, fun j hj => by rw [s4 c j (by omega) hcb]; exact w3 j hj⟩
  · intro c hc hcc
    by_cases hcb : c = b
    · rw [hcb, s3] at hcc; cases hcc
    · rw [s1 2 c (by decide) (by decide) (by decide) (fun q => hcb q.1)] at hcc
      obtain ⟨w1, w2, w3, w4⟩ := g3 c hc hcc
      have := (g9 c hc).2
      rw [V3, V0 c hc, askTake_x hcb, V5 c hcb]
      exact ⟨w1, w2, w3, fun i hi => by rw [s4 c i (by omega) hcb]; exact w4 i hi⟩
  · intro T k hT
    obtain ⟨w1, w2, w3⟩ := k4 T k hT
    exact ⟨w1, by rw [V0 k w1]; exact w2, maj_mono (fun x hx q => by rw [V0 x hx, V1 x hx]; exact q) w3⟩
  · intro c hc hs
    rw [V6] at hs ⊢
    obtain ⟨w1, w2⟩ := g6 c hc hs
    have h9c := g9 c hc
    have own : ∀ i, i < A 6 c → pg (visitS A a b) c i = pg A c i := fun i hi => by
      by_cases hcb : c = b
      · subst hcb
        exact (keep c hc hs ⟨h9c.1, fun _ _ => rfl⟩).2 i hi
      · exact s4 c i (by omega) hcb
    refine ⟨maj_mono (fun x hx q => ?_) w1, fun T hT hL => ?_⟩
    · by_cases hxb : x = b
      · subst hxb
        obtain ⟨z1, z2⟩ := keep c hc hs q
        exact ⟨z1, fun i hi => by rw [z2 i hi, own i hi]⟩
      · rw [V5 x hxb]
        refine ⟨q.1, fun i hi => ?_⟩
        have := (g9 x hx).2
        rw [s4 x i (by omega) hxb, own i hi]
        exact q.2 i hi
    · rw [pgT (own (A 6 c - 1) (by omega))] at hT
      obtain ⟨z1, z2⟩ := w2 T hT hL
      exact ⟨z1, fun i hi => by rw [own i hi]; exact z2 i hi⟩
  · intro x k hx q
    rw [V1 x hx] at q
    obtain ⟨w1, w2⟩ := k8 x k hx q
    exact ⟨w1, by rw [V0 x hx, V0 k w1]; exact w2⟩
  · intro c hc
    rw [V6]
    by_cases hcb : c = b
    · subst hcb
      refine ⟨?_, V5b⟩
      rcases Nat.eq_zero_or_pos (A 6 c) with z | z
      · omega
      · exact (keep c hc z ⟨(g9 c hc).1, fun _ _ => rfl⟩).1
    · rw [V5 c hcb]; exact g9 c hc
/-- behind a march that met no greater term: who was reached has the captain's log at least -/
def visited (B : AT) (a : Nat) (x : Nat) : Prop := B 0 x = B 0 a ∧ B 5 a ≤ B 5 x ∧ ∀ i, i < B 5 a → pg B x i = pg B a i
theorem goL_RI {L : Nat → Nat} {G : Nat → Nat → Nat × Nat} {gl : Nat → Nat} {a : Nat} (ha : a < 5) : ∀ (k : Nat), k ≤ 5 → ∀ (A : AT), RI A L G gl → A 2 a = 1 → A 9 (a * 5 + a) = 0 → (∀ x, x < 5 - k → reach A a x → visited A a x) →
    RI (goL a k A).2 L G gl ∧ (∀ x, (goL a k A).2 3 x = A 3 x) ∧ (∀ x, (goL a k A).2 9 x = A 9 x) ∧ ((goL a k A).1 = true → (goL a k A).2 2 a = 1 ∧ ∀ x, x < 5 → reach (goL a k A).2 a x → visited (goL a k A).2 a x) := by
  intro k
  induction k with
  | zero =>
    intro _ A h h2 h9 hv
    exact ⟨h, fun _ => rfl, fun _ => rfl, fun _ => ⟨h2, hv⟩⟩
  | succ k ih =>
    intro hk A h h2 h9 hv
    unfold goL
    by_cases hr : reach A a (4 - k)
    · rw [if_pos hr]
      have hb : 4 - k < 5 := by omega
      by_cases hg : A 0 a < A 0 (4 - k)
      · rw [if_pos hg]
        refine ⟨takeT_RI h ha hg, fun x => ?_, fun x => ?_, fun q => by cases q⟩
        · simp [takeT, aset]
        · simp [takeT, aset]
      · rw [if_neg hg]
        have hab : a ≠ 4 - k := fun e => by
          have := hr.2.2
          rw [← e, h9] at this
          cases this
        have r := visitS_RI h ha hb hab h2 (by omega)
        obtain ⟨s1, s2, s3, s4, s5, s6, s7⟩ := visitS_spec ha hb hab (h.2.2.2.2.2.2.2.2 a ha).2 (h.2.2.2.2.2.2.2.2 (4 - k) hb).2
        have V3 : ∀ x, visitS A a (4 - k) 3 x = A 3 x := fun x => s1 3 x (by decide) (by decide) (by decide) (by omega)
        have V9 : ∀ x, visitS A a (4 - k) 9 x = A 9 x := fun x => s1 9 x (by decide) (by decide) (by decide) (by omega)
        have Va : ∀ f, f ≠ 7 → f ≠ 8 → f ≠ 10 → visitS A a (4 - k) f a = A f a := fun f q1 q2 q3 => s1 f a q1 q2 q3 (fun q => hab q.1)
        have h12 := (h.2.2.2.2.2.2.2.2 a ha).2
        obtain ⟨i1, i2, i3, i4⟩ := ih (by omega) (visitS A a (4 - k)) r (by rw [Va 2 (by decide) (by decide) (by decide)]; exact h2) (by rw [V9]; exact h9) (fun x hx q => by
          have q' : reach A a x := by
            unfold reach at q ⊢
            rw [V3, V3, V9] at q
            exact q
          unfold visited
          rw [Va 0 (by decide) (by decide) (by decide), Va 5 (by decide) (by decide) (by decide)]
          by_cases hxb : x = 4 - k
          · subst hxb
            refine ⟨?_, s6, fun i hi => ?_⟩
            · rw [s2 0 (Or.inl rfl)]
              unfold askTake
              by_cases z : A 0 (4 - k) < A 0 a
              · rw [if_pos z]; simp [takeT, aset]
              · rw [if_neg z]; omega
            · rw [s5 i hi, s4 a i (by omega) hab]
          · obtain ⟨w1, w2, w3⟩ := hv x (by omega) q'
            rw [s1 0 x (by decide) (by decide) (by decide) (fun z => hxb z.1), s1 5 x (by decide) (by decide) (by decide) (fun z => hxb z.1)]
            exact ⟨w1, w2, fun i hi => by rw [s4 x i (by omega) hxb, s4 a i (by omega) hab]; exact w3 i hi⟩)
        exact ⟨i1, fun x => by rw [i2, V3], fun x => by rw [i3, V9], i4⟩
    · rw [if_neg hr]
      exact ih (by omega) A h h2 h9 (fun x hx q => by
        rcases Nat.lt_or_ge x (5 - (k + 1)) with z | z
        · exact hv x z q
        · have : x = 4 - k := by omega
          rw [this] at q
          exact absurd q hr)
/-- more settled pages of one camp -/
theorem set6_RI {A : AT} {L : Nat → Nat} {G : Nat → Nat → Nat × Nat} {gl : Nat → Nat} (h : RI A L G gl) {b s : Nat} (hb : b < 5) (hs : s ≤ A 5 b) (hm : 0 < s → maj (fun x => s ≤ A 5 x ∧ ∀ i, i < s → pg A x i = pg A b i) ∧ ∀ T, A 7 (b * 12 + (s - 1)) ≤ T → L T ≠ 0 → s ≤ gl T ∧ ∀ i, i < s → G T i = pg A b i) : RI (aset A 6 b s) L G gl := by
  obtain ⟨g1, g2, g3, g4, g5, g6, g7, g8, g9⟩ := h
  have ef : ∀ f x, f ≠ 6 → aset A 6 b s f x = A f x := fun f x hf => aset_f hf
  have ep : ∀ c i, pg (aset A 6 b s) c i = pg A c i := fun c i => by unfold pg; rw [ef 7 _ (by decide), ef 8 _ (by decide)]
  refine ⟨?_, g2, ?_, ?_, g5, ?_, g7, ?_, ?_⟩
  · intro c hc i hi
    rw [ef 5 _ (by decide)] at hi
    rw [ef 7 _ (by decide), ef 0 _ (by decide)]
    obtain ⟨w1, w2, w3⟩ := g1 c hc i hi
    exact ⟨w1, w2, fun j hj => by rw [ep]; exact w3 j hj⟩
  · intro c hc q
    rw [ef 2 _ (by decide)] at q
    rw [ef 3 _ (by decide), ef 0 _ (by decide), ef 5 _ (by decide)]
    obtain ⟨w1, w2, w3, w4⟩ := g3 c hc q
    exact ⟨w1, w2, w3, fun i hi => by rw [ep]; exact w4 i hi⟩
  · intro T k q
    obtain ⟨w1, w2, w3⟩ := g4 T k q
    exact ⟨w1, by rw [ef 0 _ (by decide)]; exact w2, maj_mono (fun x _ z => by rw [ef 0 _ (by decide), ef 1 _ (by decide)]; exact z) w3⟩
  · intro c hc q
    by_cases hcb : c = b
    · subst hcb
      rw [aset_eq] at q ⊢
      obtain ⟨w1, w2⟩ := hm q
      refine ⟨maj_mono (fun x _ z => ?_) w1, fun T hT hL => ?_⟩
      · rw [ef 5 _ (by decide)]
        exact ⟨z.1, fun i hi => by rw [ep, ep]; exact z.2 i hi⟩
      · rw [ef 7 _ (by decide)] at hT
        obtain ⟨z1, z2⟩ := w2 T hT hL
        exact ⟨z1, fun i hi => by rw [ep]; exact z2 i hi⟩
    · rw [aset_i hcb] at q ⊢
      obtain ⟨w1, w2⟩ := g6 c hc q
      refine ⟨maj_mono (fun x _ z => ?_) w1, fun T hT hL => ?_⟩
      · rw [ef 5 _ (by decide)]
        exact ⟨z.1, fun i hi => by rw [ep, ep]; exact z.2 i hi⟩
      · rw [ef 7 _ (by decide)] at hT
        obtain ⟨z1, z2⟩ := w2 T hT hL
        exact ⟨z1, fun i hi => by rw [ep]; exact z2 i hi⟩
  · intro x k hx q
    rw [ef 1 _ (by decide)] at q
    obtain ⟨w1, w2⟩ := g8 x k hx q
    exact ⟨w1, by rw [ef 0 _ (by decide), ef 0 _ (by decide)]; exact w2⟩
  · intro c hc
    rw [ef 5 _ (by decide)]
    by_cases hcb : c = b
    · subst hcb
      rw [aset_eq]
      exact ⟨hs, (g9 c hc).2⟩
    · rw [aset_i hcb]; exact g9 c hc
theorem reachN_congr {A A' : AT} {a : Nat} (e3 : ∀ x, A' 3 x = A 3 x) (e9 : ∀ x, A' 9 x = A 9 x) : ∀ k, reachN A' a k = reachN A a k := by
  intro k
  induction k with
  | zero => rfl
  | succ k ih =>
    unfold reachN
    unfold reach
    rw [e3, e3, e9, ih]
/-- three with the captain itself: most -/
theorem reachN_maj {A : AT} {a : Nat} {p : Nat → Prop} (ha : a < 5) (h9 : A 9 (a * 5 + a) = 0) (hp : p a) (h : ∀ x, x < 5 → reach A a x → p x) (h3 : 3 ≤ 1 + reachN A a 5) : maj p := by
  have na : ¬ reach A a a := fun q => by have := q.2.2; rw [h9] at this; cases this
  have key : ∀ k, k ≤ 5 → ∃ vs : List Nat, vs.Nodup ∧ vs.length = reachN A a k ∧ ∀ x ∈ vs, x < k ∧ reach A a x := by
    intro k
    induction k with
    | zero => intro _; exact ⟨[], by simp, rfl, fun x hx => by cases hx⟩
    | succ k ih =>
      intro hk
      obtain ⟨vs, v1, v2, v3⟩ := ih (by omega)
      unfold reachN
      by_cases hr : reach A a k
      · rw [if_pos hr]
        refine ⟨k :: vs, List.nodup_cons.mpr ⟨fun q => by have := (v3 k q).1; omega, v1⟩, by simp [v2], fun x hx => ?_⟩
        rcases List.mem_cons.mp hx with q | q
        · rw [q]; exact ⟨by omega, hr⟩
        · exact ⟨by have := (v3 x q).1; omega, (v3 x q).2⟩
      · rw [if_neg hr]
        exact ⟨vs, v1, by simp [v2], fun x hx => ⟨by have := (v3 x hx).1; omega, (v3 x hx).2⟩⟩
  obtain ⟨vs, v1, v2, v3⟩ := key 5 (Nat.le_refl _)
  refine maj_of_list (vs := a :: vs) (List.nodup_cons.mpr ⟨fun q => na (v3 a q).2, v1⟩) (fun x hx => ?_) (by simp [v2]; omega)
  rcases List.mem_cons.mp hx with q | q
  · rw [q]; exact ⟨ha, hp⟩
  · exact ⟨(v3 x q).1, h x (v3 x q).1 (v3 x q).2⟩
theorem spreadL_RI {L : Nat → Nat} {G : Nat → Nat → Nat × Nat} {gl : Nat → Nat} {a : Nat} (ha : a < 5) : ∀ (k : Nat), k ≤ 5 → ∀ (A : AT), RI A L G gl → (∀ x, x < 5 → reach A a x → visited A a x) → RI (spreadL a k A) L G gl := by
  intro k
  induction k with
  | zero => intro _ A h _; exact h
  | succ k ih =>
    intro hk A h hv
    unfold spreadL
    by_cases hr : reach A a (4 - k)
    · rw [if_pos hr]
      have hb : 4 - k < 5 := by omega
      obtain ⟨w1, w2, w3⟩ := hv _ hb hr
      refine ih (by omega) _ ?_ (fun x hx q => ?_)
      · have h9a := h.2.2.2.2.2.2.2.2 a ha
        have h9b := h.2.2.2.2.2.2.2.2 _ hb
        refine set6_RI h hb (by omega) (fun hs => ?_)
        rcases Nat.lt_or_ge (A 6 (4 - k)) (A 6 a) with z | z
        · rw [Nat.max_eq_right (by omega)] at hs ⊢
          obtain ⟨y1, y2⟩ := h.2.2.2.2.2.1 a ha hs
          refine ⟨maj_mono (fun x _ q => ⟨q.1, fun i hi => by rw [w3 i (by omega)]; exact q.2 i hi⟩) y1, fun T hT hL => ?_⟩
          rw [pgT (w3 (A 6 a - 1) (by omega))] at hT
          obtain ⟨u1, u2⟩ := y2 T hT hL
          exact ⟨u1, fun i hi => by rw [w3 i (by omega)]; exact u2 i hi⟩
        · rw [Nat.max_eq_left z] at hs ⊢
          exact h.2.2.2.2.2.1 _ hb hs
      · have q' : reach A a x := by
          unfold reach at q ⊢
          rw [aset_f (by decide), aset_f (by decide), aset_f (by decide)] at q
          exact q
        obtain ⟨y1, y2, y3⟩ := hv x hx q'
        unfold visited
        unfold pg
        rw [aset_f (by decide), aset_f (by decide), aset_f (by decide), aset_f (by decide)]
        refine ⟨y1, y2, fun i hi => ?_⟩
        rw [aset_f (by decide), aset_f (by decide), aset_f (by decide), aset_f (by decide)]
        exact y3 i hi
    · rw [if_neg hr]
      exact ih (by omega) A h hv
/-- the captain's own pages become settled -/
theorem settle_own {A : AT} {L : Nat → Nat} {G : Nat → Nat → Nat × Nat} {gl : Nat → Nat} (h : RI A L G gl) {a : Nat} (ha : a < 5) (hcap : A 2 a = 1) (h9 : A 9 (a * 5 + a) = 0) (hv : ∀ x, x < 5 → reach A a x → visited A a x) (h3 : 3 ≤ 1 + reachN A a 5) (hl : lastT A a = A 0 a) : RI (aset A 6 a (A 5 a)) L G gl := by
  obtain ⟨c1, c2, c3, c4⟩ := h.2.2.1 a ha hcap
  have hm : maj (fun x => visited A a x) := reachN_maj ha h9 ⟨rfl, Nat.le_refl _, fun _ _ => rfl⟩ hv h3
  refine set6_RI h ha (Nat.le_refl _) (fun hs => ⟨maj_mono (fun x _ q => ⟨q.2.1, q.2.2⟩) hm, fun T hT hL => ?_⟩)
  have hl2 : A 7 (a * 12 + (A 5 a - 1)) = A 0 a := by
    rw [← hl]; unfold lastT; rw [if_neg (by omega)]
  rw [hl2] at hT
  have hTe : T = A 0 a := by
    obtain ⟨k, hk⟩ : ∃ k, L T = k + 1 := ⟨L T - 1, by omega⟩
    obtain ⟨x, hx, p1, p2⟩ := maj_meet (h.2.2.2.1 T k hk).2.2 hm
    have := p2.1
    rcases p1 with p1 | p1 <;> omega
  rw [hTe, c3]
  exact ⟨Nat.le_refl _, fun i hi => (c4 i hi).symm⟩
theorem haveN_eq {A : AT} {a n : Nat} (h12 : A 5 a ≤ 12) (hn : n ≤ A 5 a) (hv : ∀ x, x < 5 → reach A a x → visited A a x) : ∀ k, k ≤ 5 → haveN A a n k = reachN A a k := by
  intro k
  induction k with
  | zero => intro _; rfl
  | succ k ih =>
    intro hk
    unfold haveN reachN
    rw [ih (by omega)]
    by_cases hr : reach A a k
    · obtain ⟨w1, w2, w3⟩ := hv k (by omega) hr
      have : n ≤ alike A a k := alike_prefix h12 hn (by omega) (fun i hi => (w3 i (by omega)).symm)
      rw [if_pos ⟨hr, this⟩, if_pos hr]
    · rw [if_neg (fun q => hr q.1), if_neg hr]
theorem settleL_no {A : AT} {a : Nat} : ∀ (k n : Nat), (∀ m, m ≤ n → A 6 a < m → ¬ (3 ≤ 1 + haveN A a m 5 ∧ A 7 (a * 12 + (m - 1)) = A 0 a)) → settleL a k A n = A := by
  intro k
  induction k with
  | zero => intro n _; rfl
  | succ k ih =>
    intro n h
    unfold settleL
    by_cases q : A 6 a < n
    · rw [if_pos q, if_neg (h n (Nat.le_refl _) q)]
      exact ih (n - 1) (fun m hm hlt => h m (by omega) hlt)
    · rw [if_neg q]
/-- both ways of settling do the same -/
theorem settle_eq {A : AT} {L : Nat → Nat} {G : Nat → Nat → Nat × Nat} {gl : Nat → Nat} (h : RI A L G gl) {a : Nat} (ha : a < 5) (hcap : A 2 a = 1) (h9 : A 9 (a * 5 + a) = 0) (hv : ∀ x, x < 5 → reach A a x → visited A a x) : settleC A a = settleR A a ∧ RI (settleC A a) L G gl := by
  obtain ⟨c1, c2, c3, c4⟩ := h.2.2.1 a ha hcap
  have hA9 := h.2.2.2.2.2.2.2.2 a ha
  have hpos : 0 < A 0 a := by
    rcases Nat.eq_zero_or_pos (A 0 a) with e | e
    · rw [e, h.2.2.2.2.2.2.1] at c2; cases c2
    · exact e
  have hmain : settleL a 12 A (A 5 a) = (if 3 ≤ 1 + reachN A a 5 ∧ lastT A a = A 0 a then aset A 6 a (max (A 6 a) (A 5 a)) else A) := by
    by_cases hc : 3 ≤ 1 + reachN A a 5 ∧ lastT A a = A 0 a
    · rw [if_pos hc, Nat.max_eq_right hA9.1]
      have hn0 : A 5 a ≠ 0 := fun e => by
        have := hc.2
        unfold lastT at this
        rw [if_pos e] at this
        omega
      have hl2 : A 7 (a * 12 + (A 5 a - 1)) = A 0 a := by
        rw [← hc.2]; unfold lastT; rw [if_neg hn0]
      rcases Nat.lt_or_ge (A 6 a) (A 5 a) with q | q
      · unfold settleL
        rw [if_pos q, if_pos ⟨by rw [haveN_eq hA9.2 (Nat.le_refl _) hv 5 (Nat.le_refl _)]; exact hc.1, hl2⟩]
        exact settleL_no _ _ (fun m hm hlt => by rw [aset_eq] at hlt; omega)
      · have e : A 6 a = A 5 a := by omega
        rw [show aset A 6 a (A 5 a) = A by rw [← e]; exact aset_self A 6 a]
        exact settleL_no _ _ (fun m hm hlt => by omega)
    · rw [if_neg hc]
      refine settleL_no _ _ (fun m hm hlt q => hc ⟨?_, ?_⟩)
      · rw [haveN_eq hA9.2 hm hv 5 (Nat.le_refl _)] at q
        exact q.1
      · have m1 := RI_mono h ha (i := m - 1) (j := A 5 a - 1) (by omega) (by omega)
        have m2 := (h.1 a ha (A 5 a - 1) (by omega)).1
        unfold lastT
        rw [if_neg (by omega)]
        omega
  refine ⟨by unfold settleC settleR; rw [hmain], ?_⟩
  unfold settleC
  by_cases hc : 3 ≤ 1 + reachN A a 5 ∧ lastT A a = A 0 a
  · rw [if_pos hc, Nat.max_eq_right hA9.1]
    refine spreadL_RI ha 5 (Nat.le_refl _) _ (settle_own h ha hcap h9 hv hc.1 hc.2) (fun x hx q => ?_)
    have q' : reach A a x := by
      unfold reach at q ⊢
      rw [aset_f (by decide), aset_f (by decide), aset_f (by decide)] at q
      exact q
    obtain ⟨y1, y2, y3⟩ := hv x hx q'
    unfold visited
    unfold pg
    rw [aset_f (by decide), aset_f (by decide), aset_f (by decide), aset_f (by decide)]
    refine ⟨y1, y2, fun i hi => ?_⟩
    rw [aset_f (by decide), aset_f (by decide), aset_f (by decide), aset_f (by decide)]
    exact y3 i hi
  · rw [if_neg hc]
    exact spreadL_RI ha 5 (Nat.le_refl _) _ h hv
/-- a march: both ways do the same, and the invariant stays -/
theorem go_eq {A : AT} (h : Inv A) {a : Nat} (ha : a < 5) (hcap : A 2 a = 1) (h9 : A 9 (a * 5 + a) = 0) : goC A a = goR A a ∧ Inv (goC A a) := by
  obtain ⟨L, G, gl, h⟩ := h
  have h' : RI (aset A 10 4 (A 10 4 + 1)) L G gl := RI_congr ⟨fun c _ => by simp [aset], fun i _ => by simp [aset]⟩ h
  obtain ⟨g1, g2, g3, g4⟩ := goL_RI ha 5 (Nat.le_refl _) _ h' (by simp [aset, hcap]) (by simp [aset, h9]) (fun x hx => by omega)
  unfold goC goR
  generalize goL a 5 (aset A 10 4 (A 10 4 + 1)) = r at g1 g2 g3 g4
  obtain ⟨f, B⟩ := r
  cases f with
  | false => exact ⟨rfl, L, G, gl, g1⟩
  | true =>
    obtain ⟨k1, k2⟩ := g4 rfl
    have e9 : B 9 (a * 5 + a) = 0 := by
      have := g3 (a * 5 + a)
      rw [aset_f (by decide)] at this
      exact this.trans h9
    obtain ⟨s1, s2⟩ := settle_eq g1 ha k1 e9 k2
    exact ⟨s1, L, G, gl, s2⟩
