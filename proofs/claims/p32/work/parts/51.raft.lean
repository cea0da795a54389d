theorem lastT_congr {A A' : AT} {x : Nat} (e5 : ∀ b, A' 5 b = A 5 b) (e7 : ∀ b, A' 7 b = A 7 b) : lastT A' x = lastT A x := by
  unfold lastT
  rw [e5, e7]
theorem far_congr {A A' : AT} {a b : Nat} (e5 : ∀ b, A' 5 b = A 5 b) (e7 : ∀ b, A' 7 b = A 7 b) (h : far A a b) : far A' a b := by
  unfold far at h ⊢
  rw [lastT_congr e5 e7, lastT_congr e5 e7, e5, e5]
  exact h
theorem askTake_f {A : AT} {c b f x : Nat} (hf : 3 ≤ f) : askTake A c b f x = A f x := by
  unfold askTake
  by_cases h : A 0 b < A 0 c
  · rw [if_pos h]; simp [takeT, aset, show f ≠ 0 by omega, show f ≠ 1 by omega, show f ≠ 2 by omega]
  · rw [if_neg h]
theorem askTake_x {A : AT} {c b f x : Nat} (hx : x ≠ b) : askTake A c b f x = A f x := by
  unfold askTake
  by_cases h : A 0 b < A 0 c
  · rw [if_pos h]; simp [takeT, aset, hx]
  · rw [if_neg h]
theorem askVote_f {A : AT} {c b f x : Nat} (h1 : f ≠ 1) (h4 : f ≠ 4) : askVote A c b f x = A f x := by simp [askVote, aset, h1, h4]
theorem askVote_x {A : AT} {c b f x : Nat} (hx : x ≠ b) : askVote A c b f x = A f x := by simp [askVote, aset, hx]
theorem askL_Inv {L : Nat → Nat} {G : Nat → Nat → Nat × Nat} {gl : Nat → Nat} {c : Nat} (hc : c < 5) : ∀ (k : Nat), k ≤ 5 → ∀ (A : AT) (v : Nat) (vs : List Nat), RI A L G gl → A 1 c = c + 1 → A 2 c = 0 → A 3 c = 1 → 0 < A 0 c → L (A 0 c) ≠ c + 1 → vs.Nodup → vs.length = v → (∀ x ∈ vs, x < 5 ∧ A 0 x = A 0 c ∧ A 1 x = c + 1 ∧ far A c x) → Inv (askL c k A v).2 := by
  intro k
  induction k with
  | zero =>
    intro _ A v vs h h1 h2 h3 hp hL hn hlen hv
    unfold askL askEnd
    by_cases h3v : v < 3
    · rw [if_pos h3v]; exact ⟨L, G, gl, h⟩
    · rw [if_neg h3v]
      refine ⟨_, _, _, elect_RI h hc hp h3 hL (maj_of_list hn (fun x hx => ⟨(hv x hx).1, (hv x hx).2⟩) (by omega)) ?_ ?_ ?_ ?_ ?_ ?_ ?_ ?_ ?_⟩
      · simp [aset]
      · intro b hb; simp [aset, hb]
      all_goals intro b; simp [aset]
  | succ k ih =>
    intro hk A v vs h h1 h2 h3 hp hL hn hlen hv
    unfold askL
    have hb : 4 - k < 5 := by omega
    generalize 4 - k = b at hb ⊢
    by_cases hr : reach A c b
    · rw [if_pos hr]
      by_cases hg : A 0 c < A 0 b
      · rw [if_pos hg]
        exact ⟨L, G, gl, takeT_RI h hc hg⟩
      · rw [if_neg hg]
        have r1 : RI (askTake A c b) L G gl := askTake_RI h hb
        have tk : askTake A c b 0 c = A 0 c ∧ askTake A c b 1 c = c + 1 ∧ askTake A c b 2 c = 0 ∧ askTake A c b 3 c = 1 := by
          by_cases hbc : c = b
          · subst hbc
            have e : askTake A c c = A := if_neg (by omega)
            rw [e]; exact ⟨rfl, h1, h2, h3⟩
          · rw [askTake_x hbc, askTake_x hbc, askTake_x hbc, askTake_x hbc]; exact ⟨rfl, h1, h2, h3⟩
        have t0b : askTake A c b 0 b = A 0 c := by
          unfold askTake
          by_cases q : A 0 b < A 0 c
          · rw [if_pos q]; simp [takeT, aset]
          · rw [if_neg q]; omega
        have tv : ∀ x ∈ vs, x < 5 ∧ askTake A c b 0 x = askTake A c b 0 c ∧ askTake A c b 1 x = c + 1 ∧ far (askTake A c b) c x := by
          intro x hx
          obtain ⟨p1, p2, p3, p4⟩ := hv x hx
          refine ⟨p1, ?_, ?_, far_congr (fun _ => askTake_f (by decide)) (fun _ => askTake_f (by decide)) p4⟩
          · rw [tk.1]
            by_cases hxb : x = b
            · rw [hxb]; exact t0b
            · rw [askTake_x hxb]; exact p2
          · by_cases hxb : x = b
            · subst hxb
              have e : askTake A c x = A := if_neg (by omega)
              rw [e]; exact p3
            · rw [askTake_x hxb]; exact p3
        by_cases hvote : askTake A c b 1 b = 0 ∧ far (askTake A c b) c b
        · rw [if_pos hvote]
          have hbc : b ≠ c := fun e => by
            have q := hvote.1
            have q2 := congrArg (askTake A c b 1) e
            omega
          refine ih (by omega) _ _ (b :: vs) (askVote_RI r1 hc hb hvote.1 (by rw [t0b, tk.1]; exact Nat.le_refl _)) ?_ ?_ ?_ ?_ ?_ ?_ ?_ ?_
          · rw [askVote_x (Ne.symm hbc)]; exact tk.2.1
          · rw [askVote_x (Ne.symm hbc)]; exact tk.2.2.1
          · rw [askVote_x (Ne.symm hbc)]; exact tk.2.2.2
          · rw [askVote_x (Ne.symm hbc), tk.1]; exact hp
          · rw [askVote_x (Ne.symm hbc), tk.1]; exact hL
          · refine List.nodup_cons.mpr ⟨fun q => ?_, hn⟩
            have := (tv b q).2.2.1
            omega
          · simp [hlen]
          · intro x hx
            have fc : ∀ y, far (askTake A c b) c y → far (askVote (askTake A c b) c b) c y := fun y => far_congr (fun _ => askVote_f (by decide) (by decide)) (fun _ => askVote_f (by decide) (by decide))
            rw [askVote_f (f := 0) (by decide) (by decide), askVote_f (f := 0) (by decide) (by decide)]
            by_cases hxb : x = b
            · subst hxb
              exact ⟨hb, by rw [t0b, tk.1], by simp [askVote, aset], fc _ hvote.2⟩
            · have hx2 : x ∈ vs := by
                rcases List.mem_cons.mp hx with q | q
                · exact absurd q hxb
                · exact q
              obtain ⟨p1, p2, p3, p4⟩ := tv x hx2
              exact ⟨p1, p2, by rw [askVote_x hxb]; exact p3, fc _ p4⟩
        · rw [if_neg hvote]
          exact ih (by omega) _ _ vs r1 tk.2.1 tk.2.2.1 tk.2.2.2 (by rw [tk.1]; exact hp) (by rw [tk.1]; exact hL) hn hlen tv
    · rw [if_neg hr]
      exact ih (by omega) _ _ vs h h1 h2 h3 hp hL hn hlen hv
theorem ask_Inv {A : AT} (h : Inv A) {c : Nat} (hc : c < 5) (h2 : A 2 c = 0) (h3 : A 3 c = 1) : Inv (ask A c).2 := by
  obtain ⟨L, G, gl, h⟩ := h
  have e0 : askStart A c 0 c = A 0 c + 1 := by simp [askStart, aset]
  have e1 : askStart A c 1 c = c + 1 := by simp [askStart, aset]
  have e2 : askStart A c 2 c = 0 := by simp [askStart, aset, h2]
  have e3 : askStart A c 3 c = 1 := by simp [askStart, aset, h3]
  refine askL_Inv hc 5 (Nat.le_refl _) _ 1 [c] (askStart_RI h hc h2) e1 e2 e3 (by omega) ?_ (by simp) rfl ?_
  · intro e
    have := (h.2.2.2.1 _ c e).2.1
    omega
  · intro x hx
    have : x = c := by simpa using hx
    subst this
    exact ⟨hc, rfl, e1, Or.inr ⟨rfl, Nat.le_refl _⟩⟩
theorem alikeL_spec {A : AT} {a b : Nat} : ∀ (k p : Nat), p ≤ A 5 a → p ≤ A 5 b → A 5 a ≤ p + k → p ≤ alikeL A a b k p ∧ alikeL A a b k p ≤ A 5 a ∧ alikeL A a b k p ≤ A 5 b ∧ (∀ i, p ≤ i → i < alikeL A a b k p → likeP A a b i) ∧ (alikeL A a b k p < A 5 a → alikeL A a b k p < A 5 b → ¬ likeP A a b (alikeL A a b k p)) := by
  intro k
  induction k with
  | zero =>
    intro p ha hb hk
    unfold alikeL
    exact ⟨Nat.le_refl _, ha, hb, fun i h1 h2 => by omega, fun h1 => by omega⟩
  | succ k ih =>
    intro p ha hb hk
    unfold alikeL
    by_cases h : p < A 5 a ∧ p < A 5 b ∧ likeP A a b p
    · rw [if_pos h]
      obtain ⟨h1, h2, h3, h4, h5⟩ := ih (p + 1) (by omega) (by omega) (by omega)
      refine ⟨by omega, h2, h3, fun i hi hlt => ?_, h5⟩
      rcases Nat.lt_or_ge p i with q | q
      · exact h4 i q hlt
      · have : i = p := by omega
        rw [this]; exact h.2.2
    · rw [if_neg h]
      exact ⟨Nat.le_refl _, ha, hb, fun i h1 h2 => by omega, fun h1 h2 h3 => h ⟨h1, h2, h3⟩⟩
theorem alike_spec {A : AT} {a b : Nat} (h12 : A 5 a ≤ 12) : alike A a b ≤ A 5 a ∧ alike A a b ≤ A 5 b ∧ (∀ i, i < alike A a b → pg A a i = pg A b i) ∧ (alike A a b < A 5 a → alike A a b < A 5 b → pg A a (alike A a b) ≠ pg A b (alike A a b)) := by
  obtain ⟨-, h2, h3, h4, h5⟩ := alikeL_spec (A := A) (a := a) (b := b) 12 0 (Nat.zero_le _) (Nat.zero_le _) (by omega)
  refine ⟨h2, h3, fun i hi => ?_, fun h1 h2 e => ?_⟩
  · obtain ⟨g1, g2⟩ := h4 i (Nat.zero_le _) hi
    exact Prod.ext g1 g2
  · exact h5 h1 h2 ⟨congrArg Prod.fst e, congrArg Prod.snd e⟩
theorem alike_prefix {A : AT} {a b n : Nat} (h12 : A 5 a ≤ 12) (hna : n ≤ A 5 a) (hnb : n ≤ A 5 b) (h : ∀ i, i < n → pg A a i = pg A b i) : n ≤ alike A a b := by
  obtain ⟨h1, h2, h3, h4⟩ := alike_spec (A := A) (a := a) (b := b) h12
  rcases Nat.lt_or_ge (alike A a b) n with q | q
  · exact absurd (h _ q) (h4 (by omega) (by omega))
  · exact q
theorem alikeL_congr {A A' : AT} {a b : Nat} (e5 : ∀ x, A' 5 x = A 5 x) (e7 : ∀ x, A' 7 x = A 7 x) (e8 : ∀ x, A' 8 x = A 8 x) : ∀ (k p : Nat), alikeL A' a b k p = alikeL A a b k p := by
  intro k
  induction k with
  | zero => intro p; rfl
  | succ k ih =>
    intro p
    unfold alikeL
    unfold likeP
    rw [e5, e5, e7, e7, e8, e8, ih]
theorem alike_congr {A A' : AT} {a b : Nat} (e5 : ∀ x, A' 5 x = A 5 x) (e7 : ∀ x, A' 7 x = A 7 x) (e8 : ∀ x, A' 8 x = A 8 x) : alike A' a b = alike A a b := alikeL_congr e5 e7 e8 12 0
theorem copyL_spec {a b : Nat} (ha : a < 5) (hb : b < 5) (hab : a ≠ b) : ∀ (k : Nat) (A : AT) (p : Nat), p + k ≤ 12 → (∀ f x, f ≠ 7 → f ≠ 8 → copyL a b k A p f x = A f x) ∧ (∀ c i, i < 12 → c ≠ b → pg (copyL a b k A p) c i = pg A c i) ∧ (∀ i, i < 12 → pg (copyL a b k A p) b i = if p ≤ i ∧ i < p + k then pg A a i else pg A b i) := by
  intro k
  induction k with
  | zero =>
    intro A p hp
    exact ⟨fun _ _ _ _ => rfl, fun _ _ _ _ => rfl, fun i hi => by rw [if_neg (by omega)]; rfl⟩
  | succ k ih =>
    intro A p hp
    unfold copyL
    obtain ⟨h1, h2, h3⟩ := ih (aset (aset A 7 (b * 12 + p) (A 7 (a * 12 + p))) 8 (b * 12 + p) (A 8 (a * 12 + p))) (p + 1) (by omega)
    have eo : ∀ c i, i < 12 → ¬ (c = b ∧ i = p) → c * 12 + i ≠ b * 12 + p := fun c i hi h e => h (by omega)
    have ep : ∀ c i, i < 12 → ¬ (c = b ∧ i = p) → pg (aset (aset A 7 (b * 12 + p) (A 7 (a * 12 + p))) 8 (b * 12 + p) (A 8 (a * 12 + p))) c i = pg A c i := fun c i hi h => by
      unfold pg
      simp [aset, eo c i hi h]
    have ep2 : pg (aset (aset A 7 (b * 12 + p) (A 7 (a * 12 + p))) 8 (b * 12 + p) (A 8 (a * 12 + p))) b p = pg A a p := by
      unfold pg
      simp [aset]
    refine ⟨fun f x h7 h8 => by rw [h1 f x h7 h8]; simp [aset, h7, h8], fun c i hi hcb => by rw [h2 c i hi hcb, ep c i hi (fun q => hcb q.1)], fun i hi => ?_⟩
    rw [h3 i hi]
    by_cases q : i = p
    · subst q
      rw [if_neg (by omega), if_pos (by omega), ep2]
    · by_cases q2 : p ≤ i ∧ i < p + (k + 1)
      · rw [if_pos (by omega), if_pos q2, ep a i hi (fun z => hab z.1)]
      · rw [if_neg (by omega), if_neg q2, ep b i hi (fun z => q z.2)]
theorem visitT_f {A : AT} {a b f x : Nat} (h0 : f ≠ 0) (h1 : f ≠ 1) (h2 : f ≠ 2) (h4 : f ≠ 4) : visitT A a b f x = A f x := by
  have : visitT A a b f x = askTake A a b f x := by simp [visitT, aset, h2, h4]
  rw [this]
  unfold askTake
  by_cases h : A 0 b < A 0 a
  · rw [if_pos h]; simp [takeT, aset, h0, h1, h2]
  · rw [if_neg h]
theorem visitT_x {A : AT} {a b f x : Nat} (hx : x ≠ b) : visitT A a b f x = A f x := by
  have : visitT A a b f x = askTake A a b f x := by simp [visitT, aset, hx]
  rw [this, askTake_x hx]
/-- what a visit leaves -/
theorem visitS_spec {A : AT} {a b : Nat} (ha : a < 5) (hb : b < 5) (hab : a ≠ b) (h12a : A 5 a ≤ 12) (h12b : A 5 b ≤ 12) :
    (∀ f x, f ≠ 7 → f ≠ 8 → f ≠ 10 → ¬ (x = b ∧ (f = 0 ∨ f = 1 ∨ f = 2 ∨ f = 4 ∨ f = 5)) → visitS A a b f x = A f x) ∧
    (∀ f, f = 0 ∨ f = 1 → visitS A a b f b = askTake A a b f b) ∧ visitS A a b 2 b = 0 ∧
    (∀ c i, i < 12 → c ≠ b → pg (visitS A a b) c i = pg A c i) ∧
    (∀ i, i < A 5 a → pg (visitS A a b) b i = pg A a i) ∧ A 5 a ≤ visitS A a b 5 b ∧
    (visitS A a b 5 b = A 5 a ∨ (visitS A a b 5 b = A 5 b ∧ ∀ i, i < 12 → pg (visitS A a b) b i = pg A b i)) := by
  have tf : ∀ f x, f ≠ 0 → f ≠ 1 → f ≠ 2 → f ≠ 4 → visitT A a b f x = A f x := fun f x h0 h1 h2 h4 => visitT_f h0 h1 h2 h4
  have t5 : ∀ x, visitT A a b 5 x = A 5 x := fun x => tf 5 x (by decide) (by decide) (by decide) (by decide)
  have tp : ∀ c i, pg (visitT A a b) c i = pg A c i := fun c i => by unfold pg; rw [tf 7 _ (by decide) (by decide) (by decide) (by decide), tf 8 _ (by decide) (by decide) (by decide) (by decide)]
  have eal : alike (visitT A a b) a b = alike A a b := alike_congr t5 (fun x => tf 7 x (by decide) (by decide) (by decide) (by decide)) (fun x => tf 8 x (by decide) (by decide) (by decide) (by decide))
  obtain ⟨n1, n2, n3, n4⟩ := alike_spec (A := A) (a := a) (b := b) h12a
  -- the tearing
  have hB : ∃ p0, p0 ≤ 12 ∧ tearS (visitT A a b) a b 5 b = p0 ∧ (∀ i, i < p0 → i < A 5 a → pg A b i = pg A a i) ∧ (p0 ≤ A 5 a ∨ p0 = A 5 b) ∧ (∀ f x, f ≠ 10 → ¬ (f = 5 ∧ x = b) → tearS (visitT A a b) a b f x = visitT A a b f x) := by
    unfold tearS
    rw [eal, t5, t5]
    by_cases h : alike A a b < A 5 a ∧ alike A a b < A 5 b
    · rw [if_pos h]
      refine ⟨alike A a b, by omega, by simp [aset], fun i h1 _ => (n3 i h1).symm, Or.inl n1, fun f x h1 h2 => ?_⟩
      rw [show aset (aset (visitT A a b) 10 3 (visitT A a b 10 3 + (A 5 b - alike A a b))) 5 b (alike A a b) f x = aset (visitT A a b) 10 3 (visitT A a b 10 3 + (A 5 b - alike A a b)) f x from if_neg h2, aset_f h1]
    · rw [if_neg h]
      refine ⟨A 5 b, h12b, t5 b, fun i h1 h2 => (n3 i (by omega)).symm, Or.inr rfl, fun f x _ _ => rfl⟩
  obtain ⟨p0, hp12, hp0, hpl, hpc, hBf⟩ := hB
  unfold visitS
  generalize tearS (visitT A a b) a b = B at hp0 hBf ⊢
  have B5 : ∀ x, x ≠ b → B 5 x = A 5 x := fun x hx => by rw [hBf 5 x (by decide) (fun q => hx q.2)]; exact t5 x
  have Bp : ∀ c i, pg B c i = pg A c i := fun c i => by
    rw [← tp c i]
    unfold pg
    rw [hBf 7 _ (by decide) (by omega), hBf 8 _ (by decide) (by omega)]
  unfold copyS
  rw [hp0, B5 a hab]
  obtain ⟨c1, c2, c3⟩ := copyL_spec ha hb hab (A 5 a - p0) B p0 (by omega)
  generalize copyL a b (A 5 a - p0) B p0 = C at c1 c2 c3 ⊢
  have Cp : ∀ c i, pg (aset C 5 b (max p0 (A 5 a))) c i = pg C c i := fun c i => by unfold pg; rw [aset_f (by decide), aset_f (by decide)]
  refine ⟨?_, ?_, ?_, ?_, ?_, ?_, ?_⟩
  · intro f x h7 h8 h10 hx
    rw [show aset C 5 b (max p0 (A 5 a)) f x = C f x from if_neg (by omega), c1 f x h7 h8, hBf f x h10 (by omega)]
    by_cases hxb : x = b
    · exact tf f x (by omega) (by omega) (by omega) (by omega)
    · exact visitT_x hxb
  · intro f hf
    rw [aset_f (by omega), c1 f b (by omega) (by omega), hBf f b (by omega) (by omega)]
    rcases hf with rfl | rfl <;> simp [visitT, aset]
  · rw [aset_f (by decide), c1 2 b (by decide) (by decide), hBf 2 b (by decide) (by omega)]
    simp [visitT, aset]
  · intro c i hi hcb
    rw [Cp, c2 c i hi hcb, Bp]
  · intro i hi
    rw [Cp, c3 i (by omega)]
    by_cases q : p0 ≤ i ∧ i < p0 + (A 5 a - p0)
    · rw [if_pos q, Bp]
    · rw [if_neg q, Bp]
      exact hpl i (by omega) hi
  · rw [aset_eq]; omega
  · rw [aset_eq]
    rcases Nat.lt_or_ge (A 5 a) p0 with q | q
    · right
      have : p0 = A 5 b := by omega
      refine ⟨by omega, fun i hi => ?_⟩
      rw [Cp, c3 i hi, if_neg (by omega), Bp]
    · left; omega
