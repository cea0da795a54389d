/-! ===== what a table keeps: bounds, roads, the hours counter ===== -/
def bF (B f : Nat) : Nat := if f = 1 then 5 else if f = 2 then 1 else if f = 3 then 1 else if f = 5 then 12 else if f = 6 then 12 else if f = 8 then 3 else if f = 9 then 1 else B
def BF (B : Nat) (A : AT) : Prop := ∀ f i, A f i ≤ bF B f
theorem bF_mono {B C f : Nat} (h : B ≤ C) : bF B f ≤ bF C f := by
  unfold bF
  by_cases h1 : f = 1
  · rw [if_pos h1, if_pos h1]; exact Nat.le_refl _
  by_cases h2 : f = 2
  · rw [if_neg h1, if_neg h1, if_pos h2, if_pos h2]; exact Nat.le_refl _
  by_cases h3 : f = 3
  · rw [if_neg h1, if_neg h1, if_neg h2, if_neg h2, if_pos h3, if_pos h3]; exact Nat.le_refl _
  by_cases h5 : f = 5
  · rw [if_neg h1, if_neg h1, if_neg h2, if_neg h2, if_neg h3, if_neg h3, if_pos h5, if_pos h5]; exact Nat.le_refl _
  by_cases h6 : f = 6
  · rw [if_neg h1, if_neg h1, if_neg h2, if_neg h2, if_neg h3, if_neg h3, if_neg h5, if_neg h5, if_pos h6, if_pos h6]; exact Nat.le_refl _
  by_cases h8 : f = 8
  · rw [if_neg h1, if_neg h1, if_neg h2, if_neg h2, if_neg h3, if_neg h3, if_neg h5, if_neg h5, if_neg h6, if_neg h6, if_pos h8, if_pos h8]; exact Nat.le_refl _
  by_cases h9 : f = 9
  · rw [if_neg h1, if_neg h1, if_neg h2, if_neg h2, if_neg h3, if_neg h3, if_neg h5, if_neg h5, if_neg h6, if_neg h6, if_neg h8, if_neg h8, if_pos h9, if_pos h9]; exact Nat.le_refl _
  rw [if_neg h1, if_neg h1, if_neg h2, if_neg h2, if_neg h3, if_neg h3, if_neg h5, if_neg h5, if_neg h6, if_neg h6, if_neg h8, if_neg h8, if_neg h9, if_neg h9]; exact h
theorem bF_le {B f : Nat} (h : 12 ≤ B) : bF B f ≤ B := by
  unfold bF
  by_cases h1 : f = 1
  · rw [if_pos h1]; omega
  by_cases h2 : f = 2
  · rw [if_neg h1, if_pos h2]; omega
  by_cases h3 : f = 3
  · rw [if_neg h1, if_neg h2, if_pos h3]; omega
  by_cases h5 : f = 5
  · rw [if_neg h1, if_neg h2, if_neg h3, if_pos h5]; omega
  by_cases h6 : f = 6
  · rw [if_neg h1, if_neg h2, if_neg h3, if_neg h5, if_pos h6]; omega
  by_cases h8 : f = 8
  · rw [if_neg h1, if_neg h2, if_neg h3, if_neg h5, if_neg h6, if_pos h8]; omega
  by_cases h9 : f = 9
  · rw [if_neg h1, if_neg h2, if_neg h3, if_neg h5, if_neg h6, if_neg h8, if_pos h9]; omega
  rw [if_neg h1, if_neg h2, if_neg h3, if_neg h5, if_neg h6, if_neg h8, if_neg h9]; exact Nat.le_refl _
theorem BF.mono {B C : Nat} {A : AT} (h : BF B A) (hC : B ≤ C) : BF C A := fun f i => Nat.le_trans (h f i) (bF_mono hC)
theorem BF.set {B : Nat} {A : AT} (h : BF B A) {f i v : Nat} (hv : v ≤ bF B f) : BF B (aset A f i v) := by
  intro g j
  unfold aset
  by_cases q : g = f ∧ j = i
  · rw [if_pos q, q.1]; exact hv
  · rw [if_neg q]; exact h g j
theorem BF.ge {B : Nat} {A : AT} (h : BF B A) (hB : 12 ≤ B) (f i : Nat) : A f i ≤ B := Nat.le_trans (h f i) (bF_le hB)
theorem BF.lt {B : Nat} {A : AT} (h : BF B A) (hB : 12 ≤ B) (hb : B < 2 ^ 30) : ∀ f i, A f i < 2 ^ 30 := fun f i => Nat.lt_of_le_of_lt (h.ge hB f i) hb
theorem BF.ltA {B : Nat} {A : AT} (h : BF B A) (hB : 12 ≤ B) (hb : B < 2 ^ 30) : Lt A := fun f i => Nat.lt_trans (h.lt hB hb f i) (by decide)
theorem BF.b0 {B : Nat} {A : AT} (h : BF B A) (i : Nat) : A 0 i ≤ B := h 0 i
theorem BF.b1 {B : Nat} {A : AT} (h : BF B A) (i : Nat) : A 1 i ≤ 5 := h 1 i
theorem BF.b2 {B : Nat} {A : AT} (h : BF B A) (i : Nat) : A 2 i ≤ 1 := h 2 i
theorem BF.b3 {B : Nat} {A : AT} (h : BF B A) (i : Nat) : A 3 i ≤ 1 := h 3 i
theorem BF.b4 {B : Nat} {A : AT} (h : BF B A) (i : Nat) : A 4 i ≤ B := h 4 i
theorem BF.b5 {B : Nat} {A : AT} (h : BF B A) (i : Nat) : A 5 i ≤ 12 := h 5 i
theorem BF.b6 {B : Nat} {A : AT} (h : BF B A) (i : Nat) : A 6 i ≤ 12 := h 6 i
theorem BF.b7 {B : Nat} {A : AT} (h : BF B A) (i : Nat) : A 7 i ≤ B := h 7 i
theorem BF.b8 {B : Nat} {A : AT} (h : BF B A) (i : Nat) : A 8 i ≤ 3 := h 8 i
theorem BF.b9 {B : Nat} {A : AT} (h : BF B A) (i : Nat) : A 9 i ≤ 1 := h 9 i
theorem BF.b10 {B : Nat} {A : AT} (h : BF B A) (i : Nat) : A 10 i ≤ B := h 10 i
theorem BF_takeT {B c t : Nat} {A : AT} (h : BF B A) (ht : t ≤ B) : BF B (takeT A c t) := ((h.set (f := 0) (show t ≤ bF B 0 from ht)).set (f := 1) (Nat.zero_le _)).set (f := 2) (Nat.zero_le _)
theorem BF_askTake {B b c : Nat} {A : AT} (h : BF B A) : BF B (askTake A c b) := by
  unfold askTake
  by_cases q : A 0 b < A 0 c
  · rw [if_pos q]; exact BF_takeT h (h.b0 c)
  · rw [if_neg q]; exact h
theorem BF_askVote {B b c : Nat} {A : AT} (h : BF B A) (hc : c < 5) : BF B (askVote A c b) := (h.set (f := 1) (show c + 1 ≤ 5 from hc)).set (f := 4) (Nat.zero_le _)
theorem BF_askL {B c : Nat} (hc : c < 5) : ∀ (k : Nat) (A : AT) (v : Nat), BF B A → BF (B + 1) (askL c k A v).2 := by
  intro k
  induction k with
  | zero =>
    intro A v h
    unfold askL askEnd
    by_cases q : v < 3
    · rw [if_pos q]; exact h.mono (by omega)
    · rw [if_neg q]
      exact ((h.mono (Nat.le_succ B)).set (f := 2) (show 1 ≤ 1 from Nat.le_refl 1)).set (f := 10) (show A 10 1 + 1 ≤ B + 1 from Nat.succ_le_succ (h.b10 1))
  | succ k ih =>
    intro A v h
    unfold askL
    by_cases q1 : reach A c (4 - k)
    · rw [if_pos q1]
      by_cases q2 : A 0 c < A 0 (4 - k)
      · rw [if_pos q2]; exact (BF_takeT h (h.b0 _)).mono (by omega)
      · rw [if_neg q2]
        by_cases q3 : (askTake A c (4 - k)) 1 (4 - k) = 0 ∧ far (askTake A c (4 - k)) c (4 - k)
        · rw [if_pos q3]; exact ih _ _ (BF_askVote (BF_askTake h) hc)
        · rw [if_neg q3]; exact ih _ _ (BF_askTake h)
    · rw [if_neg q1]; exact ih _ _ h
theorem BF_askStart {B c : Nat} {A : AT} (h : BF B A) (hc : c < 5) : BF (B + 1) (askStart A c) :=
  ((((h.mono (Nat.le_succ B)).set (f := 10) (show A 10 0 + 1 ≤ B + 1 from Nat.succ_le_succ (h.b10 0))).set (f := 0) (show A 0 c + 1 ≤ B + 1 from Nat.succ_le_succ (h.b0 c))).set (f := 1) (show c + 1 ≤ 5 from hc)).set (f := 4) (Nat.zero_le _)
theorem BF_ask {B c : Nat} {A : AT} (h : BF B A) (hc : c < 5) : BF (B + 2) (ask A c).2 := BF_askL hc 5 _ _ (BF_askStart h hc)
theorem BF_copyL {B a b : Nat} : ∀ (k : Nat) (A : AT) (p : Nat), BF B A → BF B (copyL a b k A p) := by
  intro k
  induction k with
  | zero => intro A p h; exact h
  | succ k ih =>
    intro A p h
    unfold copyL
    exact ih _ _ ((h.set (f := 7) (show A 7 (a * 12 + p) ≤ B from h.b7 _)).set (f := 8) (show A 8 (a * 12 + p) ≤ 3 from h.b8 _))
theorem BF_copyS {B a b : Nat} {A : AT} (h : BF B A) : BF B (copyS A a b) := (BF_copyL _ _ _ h).set (f := 5) (show max (A 5 b) (A 5 a) ≤ 12 by have := h.b5 a; have := h.b5 b; omega)
theorem BF_tearS {B a b : Nat} {A : AT} (h : BF B A) : BF (B + 12) (tearS A a b) := by
  unfold tearS
  by_cases q : alike A a b < A 5 a ∧ alike A a b < A 5 b
  · rw [if_pos q]
    have h5 := h.b5 b
    exact ((h.mono (Nat.le_add_right B 12)).set (f := 10) (show A 10 3 + (A 5 b - alike A a b) ≤ B + 12 by have := h.b10 3; omega)).set (f := 5) (show alike A a b ≤ 12 by omega)
  · rw [if_neg q]; exact h.mono (by omega)
theorem BF_visitT {B a b : Nat} {A : AT} (h : BF B A) : BF B (visitT A a b) := ((BF_askTake h).set (f := 2) (Nat.zero_le _)).set (f := 4) (Nat.zero_le _)
theorem BF_visitS {B a b : Nat} {A : AT} (h : BF B A) : BF (B + 12) (visitS A a b) := BF_copyS (BF_tearS (BF_visitT h))
theorem BF_goL {a : Nat} : ∀ (k B : Nat) (A : AT), BF B A → BF (B + 12 * k) (goL a k A).2 := by
  intro k
  induction k with
  | zero => intro B A h; exact h
  | succ k ih =>
    intro B A h
    unfold goL
    by_cases q1 : reach A a (4 - k)
    · rw [if_pos q1]
      by_cases q2 : A 0 a < A 0 (4 - k)
      · rw [if_pos q2]; exact (BF_takeT h (h.b0 _)).mono (by omega)
      · rw [if_neg q2]; exact (ih (B + 12) _ (BF_visitS h)).mono (by omega)
    · rw [if_neg q1]; exact (ih B _ h).mono (by omega)
theorem BF_spreadL {B a : Nat} : ∀ (k : Nat) (A : AT), BF B A → BF B (spreadL a k A) := by
  intro k
  induction k with
  | zero => intro A h; exact h
  | succ k ih =>
    intro A h
    unfold spreadL
    refine ih _ ?_
    by_cases q : reach A a (4 - k)
    · rw [if_pos q]; exact h.set (f := 6) (show max (A 6 (4 - k)) (A 6 a) ≤ 12 by have := h.b6 a; have := h.b6 (4 - k); omega)
    · rw [if_neg q]; exact h
theorem BF_settleC {B a : Nat} {A : AT} (h : BF B A) : BF B (settleC A a) := by
  unfold settleC
  refine BF_spreadL 5 _ ?_
  by_cases q : 3 ≤ 1 + reachN A a 5 ∧ lastT A a = A 0 a
  · rw [if_pos q]; exact h.set (f := 6) (show max (A 6 a) (A 5 a) ≤ 12 by have := h.b6 a; have := h.b5 a; omega)
  · rw [if_neg q]; exact h
theorem goC_of {A : AT} {a : Nat} : goC A a = if (goL a 5 (aset A 10 4 (A 10 4 + 1))).1 = true then settleC (goL a 5 (aset A 10 4 (A 10 4 + 1))).2 a else (goL a 5 (aset A 10 4 (A 10 4 + 1))).2 := by
  unfold goC
  generalize goL a 5 (aset A 10 4 (A 10 4 + 1)) = p
  obtain ⟨b, C⟩ := p
  cases b
  · rfl
  · rfl
theorem goR_of {A : AT} {a : Nat} : goR A a = if (goL a 5 (aset A 10 4 (A 10 4 + 1))).1 = true then settleR (goL a 5 (aset A 10 4 (A 10 4 + 1))).2 a else (goL a 5 (aset A 10 4 (A 10 4 + 1))).2 := by
  unfold goR
  generalize goL a 5 (aset A 10 4 (A 10 4 + 1)) = p
  obtain ⟨b, C⟩ := p
  cases b
  · rfl
  · rfl
theorem BF_goC {B a : Nat} {A : AT} (h : BF B A) : BF (B + 61) (goC A a) := by
  have h1 : BF (B + 1) (aset A 10 4 (A 10 4 + 1)) := (h.mono (Nat.le_succ B)).set (f := 10) (show A 10 4 + 1 ≤ B + 1 from Nat.succ_le_succ (h.b10 4))
  have h2 : BF (B + 61) (goL a 5 (aset A 10 4 (A 10 4 + 1))).2 := (BF_goL 5 (B + 1) _ h1).mono (by omega)
  rw [goC_of]
  by_cases q : (goL a 5 (aset A 10 4 (A 10 4 + 1))).1 = true
  · rw [if_pos q]; exact BF_settleC h2
  · rw [if_neg q]; exact h2
/-! roads and sleep stay -/
theorem takeT_n {A : AT} {c t f x : Nat} (hf : f = 3 ∨ f = 9) : takeT A c t f x = A f x := by
  rcases hf with rfl | rfl <;> simp [takeT, aset]
theorem askL_n {c : Nat} {f x : Nat} (hf : f = 3 ∨ f = 9) : ∀ (k : Nat) (A : AT) (v : Nat), (askL c k A v).2 f x = A f x := by
  intro k
  induction k with
  | zero =>
    intro A v
    unfold askL askEnd
    by_cases q : v < 3
    · rw [if_pos q]
    · rw [if_neg q]; rcases hf with rfl | rfl <;> simp [aset]
  | succ k ih =>
    intro A v
    unfold askL
    by_cases q1 : reach A c (4 - k)
    · rw [if_pos q1]
      by_cases q2 : A 0 c < A 0 (4 - k)
      · rw [if_pos q2]; exact takeT_n hf
      · rw [if_neg q2]
        by_cases q3 : (askTake A c (4 - k)) 1 (4 - k) = 0 ∧ far (askTake A c (4 - k)) c (4 - k)
        · rw [if_pos q3, ih, askVote_f (by omega) (by omega), askTake_f (by omega)]
        · rw [if_neg q3, ih, askTake_f (by omega)]
    · rw [if_neg q1]; exact ih _ _
theorem ask_n {A : AT} {c f x : Nat} (hf : f = 3 ∨ f = 9) : (ask A c).2 f x = A f x := by
  unfold ask
  rw [askL_n hf]
  rcases hf with rfl | rfl <;> simp [askStart, aset]
theorem copyL_n {a b f x : Nat} (hf : f = 3 ∨ f = 9) : ∀ (k : Nat) (A : AT) (p : Nat), copyL a b k A p f x = A f x := by
  intro k
  induction k with
  | zero => intro A p; rfl
  | succ k ih =>
    intro A p
    unfold copyL
    rw [ih, aset_f (by omega), aset_f (by omega)]
theorem visitS_n {A : AT} {a b f x : Nat} (hf : f = 3 ∨ f = 9) : visitS A a b f x = A f x := by
  unfold visitS copyS
  rw [aset_f (by omega), copyL_n hf]
  have e : tearS (visitT A a b) a b f x = visitT A a b f x := by
    unfold tearS
    by_cases q : alike (visitT A a b) a b < visitT A a b 5 a ∧ alike (visitT A a b) a b < visitT A a b 5 b
    · rw [if_pos q, aset_f (by omega), aset_f (by omega)]
    · rw [if_neg q]
  rw [e, visitT_f (by omega) (by omega) (by omega) (by omega)]
theorem goL_n {a f x : Nat} (hf : f = 3 ∨ f = 9) : ∀ (k : Nat) (A : AT), (goL a k A).2 f x = A f x := by
  intro k
  induction k with
  | zero => intro A; rfl
  | succ k ih =>
    intro A
    unfold goL
    by_cases q1 : reach A a (4 - k)
    · rw [if_pos q1]
      by_cases q2 : A 0 a < A 0 (4 - k)
      · rw [if_pos q2]; exact takeT_n hf
      · rw [if_neg q2, ih, visitS_n hf]
    · rw [if_neg q1]; exact ih _
theorem spreadL_n {a f x : Nat} (hf : f ≠ 6) : ∀ (k : Nat) (A : AT), spreadL a k A f x = A f x := by
  intro k
  induction k with
  | zero => intro A; rfl
  | succ k ih =>
    intro A
    unfold spreadL
    rw [ih]
    by_cases q : reach A a (4 - k)
    · rw [if_pos q, aset_f hf]
    · rw [if_neg q]
theorem goC_n {A : AT} {a f x : Nat} (hf : f = 3 ∨ f = 9) : goC A a f x = A f x := by
  have e : (goL a 5 (aset A 10 4 (A 10 4 + 1))).2 f x = A f x := by rw [goL_n hf, aset_f (by omega)]
  rw [goC_of]
  by_cases q : (goL a 5 (aset A 10 4 (A 10 4 + 1))).1 = true
  · rw [if_pos q]
    unfold settleC
    rw [spreadL_n (by omega)]
    by_cases q2 : 3 ≤ 1 + reachN (goL a 5 (aset A 10 4 (A 10 4 + 1))).2 a 5 ∧ lastT (goL a 5 (aset A 10 4 (A 10 4 + 1))).2 a = (goL a 5 (aset A 10 4 (A 10 4 + 1))).2 0 a
    · rw [if_pos q2, aset_f (by omega), e]
    · rw [if_neg q2, e]
  · rw [if_neg q, e]
/-! what holds of every table that comes up -/
def Rd (A : AT) : Prop := (∀ a, a < 5 → A 9 (a * 5 + a) = 0) ∧ ∀ a b, a < 5 → b < 5 → A 9 (a * 5 + b) = A 9 (b * 5 + a)
def St (B : Nat) (A : AT) : Prop := 12 ≤ B ∧ Inv A ∧ BF B A ∧ Rd A
theorem Rd_congr {A A' : AT} (e : ∀ x, A' 9 x = A 9 x) (h : Rd A) : Rd A' := ⟨fun a ha => by rw [e]; exact h.1 a ha, fun a b ha hb => by rw [e, e]; exact h.2 a b ha hb⟩
theorem St.mono {B C : Nat} {A : AT} (h : St B A) (hC : B ≤ C) : St C A := ⟨Nat.le_trans h.1 hC, h.2.1, h.2.2.1.mono hC, h.2.2.2⟩
theorem St.sha {B : Nat} {A : AT} (h : St B A) : ShA A := ⟨fun c hc => ⟨h.2.2.1.b5 c, (Inv_len h.2.1 hc).1, h.2.2.1.b1 c, h.2.2.1.b2 c, h.2.2.1.b3 c⟩, h.2.2.2.1, h.2.2.2.2, h.2.2.1.b9, h.2.2.1.b8⟩
theorem St.l12 {B : Nat} {A : AT} (h : St B A) : ∀ x, x < 5 → A 5 x ≤ 12 ∧ A 1 x ≤ 5 := fun x _ => ⟨h.2.2.1.b5 x, h.2.2.1.b1 x⟩
theorem St.lt {B : Nat} {A : AT} (h : St B A) (hb : B < 2 ^ 30) : ∀ f i, A f i < 2 ^ 30 := h.2.2.1.lt h.1 hb
theorem St.ltA {B : Nat} {A : AT} (h : St B A) (hb : B < 2 ^ 30) : Lt A := h.2.2.1.ltA h.1 hb
theorem St_ask {B c : Nat} {A : AT} (h : St B A) (hc : c < 5) (h2 : A 2 c = 0) (h3 : A 3 c = 1) : St (B + 2) (ask A c).2 := ⟨by have := h.1; omega, ask_Inv h.2.1 hc h2 h3, BF_ask h.2.2.1 hc, Rd_congr (fun x => ask_n (Or.inr rfl)) h.2.2.2⟩
theorem St_go {B a : Nat} {A : AT} (h : St B A) (ha : a < 5) (h2 : A 2 a = 1) : St (B + 61) (goC A a) := ⟨by have := h.1; omega, (go_eq h.2.1 ha h2 (h.2.2.2.1 a ha)).2, BF_goC h.2.2.1, Rd_congr (fun x => goC_n (Or.inr rfl)) h.2.2.2⟩
theorem St_set {B f i v : Nat} {A : AT} (h : St B A) (hf : f = 4 ∨ f = 10) (hv : v ≤ B + 1) : St (B + 1) (aset A f i v) :=
  ⟨by have := h.1; omega, Inv_congr ⟨fun c _ => ⟨aset_f (by omega), aset_f (by omega), aset_f (by omega), aset_f (by omega), aset_f (by omega), aset_f (by omega)⟩, fun j _ => ⟨aset_f (by omega), aset_f (by omega)⟩⟩ h.2.1, (h.2.2.1.mono (Nat.le_succ B)).set (by rcases hf with rfl | rfl <;> exact hv), Rd_congr (fun x => aset_f (by omega)) h.2.2.2⟩
theorem St_marchL : ∀ (k : Nat), k ≤ 5 → ∀ (B : Nat) (A : AT), St B A → St (B + 61 * k) (marchL goC k A) ∧ marchL goC k A = marchL goR k A := by
  intro k
  induction k with
  | zero => intro _ B A h; exact ⟨h, rfl⟩
  | succ k ih =>
    intro hk B A h
    unfold marchL
    by_cases q : A 3 (4 - k) = 1 ∧ A 2 (4 - k) = 1
    · rw [if_pos q, if_pos q, ← (go_eq h.2.1 (show 4 - k < 5 by omega) q.2 (h.2.2.2.1 _ (by omega))).1]
      obtain ⟨h1, h2⟩ := ih (by omega) (B + 61) _ (St_go h (show 4 - k < 5 by omega) q.2)
      exact ⟨h1.mono (by omega), h2⟩
    · rw [if_neg q, if_neg q]
      obtain ⟨h1, h2⟩ := ih (by omega) B _ h
      exact ⟨h1.mono (by omega), h2⟩
theorem St_silenceL : ∀ (k B : Nat) (A : AT), St B A → St (B + k) (silenceL k A) := by
  intro k
  induction k with
  | zero => intro B A h; exact h
  | succ k ih =>
    intro B A h
    unfold silenceL
    by_cases q : waits A (4 - k)
    · rw [if_pos q]
      exact (ih (B + 1) _ (St_set h (Or.inl rfl) (Nat.succ_le_succ (h.2.2.1.b4 _)))).mono (by omega)
    · rw [if_neg q]; exact (ih B _ h).mono (by omega)
theorem St_duskL : ∀ (k : Nat), k ≤ 5 → ∀ (B : Nat) (A : AT), St B A → St (B + 2 * k) (duskL k A) := by
  intro k
  induction k with
  | zero => intro _ B A h; exact h
  | succ k ih =>
    intro hk B A h
    unfold duskL
    by_cases q : waits A (4 - k) ∧ 3 + (4 - k) ≤ A 4 (4 - k)
    · rw [if_pos q]
      exact (ih (by omega) (B + 2) _ (St_ask h (by omega) q.1.2 q.1.1)).mono (by omega)
    · rw [if_neg q]; exact (ih (by omega) B _ h).mono (by omega)
theorem St_hourB {B : Nat} {A : AT} (h : St B A) : St (B + 320) (hourB goC A) ∧ hourB goC A = hourB goR A := by
  obtain ⟨h1, h2⟩ := St_marchL 5 (by omega) B A h
  unfold hourB
  rw [← h2]
  exact ⟨(St_duskL 5 (by omega) _ _ (St_silenceL 5 _ _ h1)).mono (by omega), rfl⟩
/-! the counter of hours may be counted before or after -/
theorem h5_f {A : AT} {v f i : Nat} (h : f ≠ 10) : aset A 10 5 v f i = A f i := aset_f h
theorem h5_i {A : AT} {v i : Nat} (h : i ≠ 5) : aset A 10 5 v 10 i = A 10 i := aset_i h
theorem h5_wf {A : AT} {v f i w : Nat} (h : f ≠ 10) : aset (aset A 10 5 v) f i w = aset (aset A f i w) 10 5 v := aset_comm A (Or.inl h)
theorem h5_wi {A : AT} {v i w : Nat} (h : i ≠ 5) : aset (aset A 10 5 v) 10 i w = aset (aset A 10 i w) 10 5 v := aset_comm A (Or.inr h)
theorem h5_reach {A : AT} {v a b : Nat} : reach (aset A 10 5 v) a b = reach A a b := by
  show (aset A 10 5 v 3 a = 1 ∧ aset A 10 5 v 3 b = 1 ∧ aset A 10 5 v 9 (a * 5 + b) = 1) = (A 3 a = 1 ∧ A 3 b = 1 ∧ A 9 (a * 5 + b) = 1)
  rw [h5_f (by decide), h5_f (by decide), h5_f (by decide)]
theorem h5_waits {A : AT} {v c : Nat} : waits (aset A 10 5 v) c = waits A c := by
  show (aset A 10 5 v 3 c = 1 ∧ aset A 10 5 v 2 c = 0) = (A 3 c = 1 ∧ A 2 c = 0)
  rw [h5_f (by decide), h5_f (by decide)]
theorem h5_takeT {A : AT} {v c t : Nat} : takeT (aset A 10 5 v) c t = aset (takeT A c t) 10 5 v := by
  unfold takeT
  simp (disch := decide) only [h5_wf]
theorem h5_askTake {A : AT} {v c b : Nat} : askTake (aset A 10 5 v) c b = aset (askTake A c b) 10 5 v := by
  unfold askTake
  simp (disch := decide) only [h5_f, h5_takeT]
  by_cases q : A 0 b < A 0 c
  · rw [if_pos q, if_pos q]
  · rw [if_neg q, if_neg q]
theorem h5_lastT {A : AT} {v c : Nat} : lastT (aset A 10 5 v) c = lastT A c := by
  unfold lastT
  simp (disch := decide) only [h5_f]
theorem h5_far {A : AT} {v a b : Nat} : far (aset A 10 5 v) a b = far A a b := by
  show (lastT (aset A 10 5 v) b < lastT (aset A 10 5 v) a ∨ (lastT (aset A 10 5 v) a = lastT (aset A 10 5 v) b ∧ aset A 10 5 v 5 b ≤ aset A 10 5 v 5 a)) = (lastT A b < lastT A a ∨ (lastT A a = lastT A b ∧ A 5 b ≤ A 5 a))
  rw [h5_lastT, h5_lastT, h5_f (by decide), h5_f (by decide)]
theorem h5_alike {A : AT} {v a b : Nat} : alike (aset A 10 5 v) a b = alike A a b := alike_congr (fun _ => h5_f (by decide)) (fun _ => h5_f (by decide)) (fun _ => h5_f (by decide))
theorem h5_askVote {A : AT} {v c b : Nat} : askVote (aset A 10 5 v) c b = aset (askVote A c b) 10 5 v := by
  unfold askVote
  simp (disch := decide) only [h5_wf]
theorem h5_askL {c w : Nat} : ∀ (k : Nat) (A : AT) (v : Nat), askL c k (aset A 10 5 w) v = ((askL c k A v).1, aset (askL c k A v).2 10 5 w) := by
  intro k
  induction k with
  | zero =>
    intro A v
    unfold askL askEnd
    by_cases q : v < 3
    · rw [if_pos q, if_pos q]
    · rw [if_neg q, if_neg q]
      simp (disch := decide) only [h5_wf, h5_wi, h5_i]
  | succ k ih =>
    intro A v
    unfold askL
    simp (disch := decide) only [h5_askTake, h5_takeT, h5_askVote, h5_f, h5_lastT, h5_reach, h5_far, ih]
    by_cases q1 : reach A c (4 - k)
    · simp only [if_pos q1]
      by_cases q2 : A 0 c < A 0 (4 - k)
      · simp only [if_pos q2]
      · simp only [if_neg q2]
        by_cases q3 : (askTake A c (4 - k)) 1 (4 - k) = 0 ∧ far (askTake A c (4 - k)) c (4 - k)
        · simp only [if_pos q3]
        · simp only [if_neg q3]
    · simp only [if_neg q1]
theorem h5_ask {A : AT} {c w : Nat} : ask (aset A 10 5 w) c = ((ask A c).1, aset (ask A c).2 10 5 w) := by
  unfold ask
  have e : askStart (aset A 10 5 w) c = aset (askStart A c) 10 5 w := by
    unfold askStart
    simp (disch := decide) only [h5_wf, h5_wi, h5_i, h5_f]
  rw [e, h5_askL]
theorem h5_copyL {a b w : Nat} : ∀ (k : Nat) (A : AT) (p : Nat), copyL a b k (aset A 10 5 w) p = aset (copyL a b k A p) 10 5 w := by
  intro k
  induction k with
  | zero => intro A p; rfl
  | succ k ih =>
    intro A p
    unfold copyL
    simp (disch := decide) only [h5_wf, h5_f, ih]
theorem h5_copyS {A : AT} {a b w : Nat} : copyS (aset A 10 5 w) a b = aset (copyS A a b) 10 5 w := by
  unfold copyS
  simp (disch := decide) only [h5_wf, h5_f, h5_copyL]
theorem h5_tearS {A : AT} {a b w : Nat} : tearS (aset A 10 5 w) a b = aset (tearS A a b) 10 5 w := by
  unfold tearS
  simp (disch := decide) only [h5_alike, h5_f, h5_i, h5_wi, h5_wf]
  by_cases q : alike A a b < A 5 a ∧ alike A a b < A 5 b
  · simp only [if_pos q]
  · simp only [if_neg q]
theorem h5_visitS {A : AT} {a b w : Nat} : visitS (aset A 10 5 w) a b = aset (visitS A a b) 10 5 w := by
  unfold visitS visitT
  simp (disch := decide) only [h5_askTake, h5_wf, h5_tearS, h5_copyS]
theorem h5_goL {a w : Nat} : ∀ (k : Nat) (A : AT), goL a k (aset A 10 5 w) = ((goL a k A).1, aset (goL a k A).2 10 5 w) := by
  intro k
  induction k with
  | zero => intro A; rfl
  | succ k ih =>
    intro A
    unfold goL
    simp (disch := decide) only [h5_takeT, h5_visitS, h5_f, h5_reach, ih]
    by_cases q1 : reach A a (4 - k)
    · simp only [if_pos q1]
      by_cases q2 : A 0 a < A 0 (4 - k)
      · simp only [if_pos q2]
      · simp only [if_neg q2]
    · simp only [if_neg q1]
theorem h5_spreadL {a w : Nat} : ∀ (k : Nat) (A : AT), spreadL a k (aset A 10 5 w) = aset (spreadL a k A) 10 5 w := by
  intro k
  induction k with
  | zero => intro A; rfl
  | succ k ih =>
    intro A
    unfold spreadL
    simp (disch := decide) only [h5_f, h5_wf, h5_reach]
    by_cases q1 : reach A a (4 - k)
    · simp only [if_pos q1, ih]
    · simp only [if_neg q1, ih]
theorem h5_settleC {A : AT} {a w : Nat} : settleC (aset A 10 5 w) a = aset (settleC A a) 10 5 w := by
  unfold settleC
  rw [reachN_congr (A := A) (A' := aset A 10 5 w) (fun _ => h5_f (by decide)) (fun _ => h5_f (by decide))]
  simp (disch := decide) only [h5_lastT, h5_f, h5_wf]
  by_cases q : 3 ≤ 1 + reachN A a 5 ∧ lastT A a = A 0 a
  · simp only [if_pos q, h5_spreadL]
  · simp only [if_neg q, h5_spreadL]
theorem h5_goC {A : AT} {a w : Nat} : goC (aset A 10 5 w) a = aset (goC A a) 10 5 w := by
  rw [goC_of, goC_of]
  simp (disch := decide) only [h5_i, h5_wi, h5_goL, h5_settleC]
  by_cases q : (goL a 5 (aset A 10 4 (A 10 4 + 1))).1 = true
  · simp only [if_pos q]
  · simp only [if_neg q]
theorem h5_marchL {w : Nat} : ∀ (k : Nat) (A : AT), marchL goC k (aset A 10 5 w) = aset (marchL goC k A) 10 5 w := by
  intro k
  induction k with
  | zero => intro A; rfl
  | succ k ih =>
    intro A
    unfold marchL
    simp (disch := decide) only [h5_f, h5_goC]
    by_cases q : A 3 (4 - k) = 1 ∧ A 2 (4 - k) = 1
    · simp only [if_pos q, ih]
    · simp only [if_neg q, ih]
theorem h5_silenceL {w : Nat} : ∀ (k : Nat) (A : AT), silenceL k (aset A 10 5 w) = aset (silenceL k A) 10 5 w := by
  intro k
  induction k with
  | zero => intro A; rfl
  | succ k ih =>
    intro A
    unfold silenceL
    simp (disch := decide) only [h5_f, h5_wf, h5_waits]
    by_cases q : waits A (4 - k)
    · simp only [if_pos q, ih]
    · simp only [if_neg q, ih]
theorem h5_duskL {w : Nat} : ∀ (k : Nat) (A : AT), duskL k (aset A 10 5 w) = aset (duskL k A) 10 5 w := by
  intro k
  induction k with
  | zero => intro A; rfl
  | succ k ih =>
    intro A
    unfold duskL
    simp (disch := decide) only [h5_f, h5_ask, h5_waits]
    by_cases q : waits A (4 - k) ∧ 3 + (4 - k) ≤ A 4 (4 - k)
    · simp only [if_pos q, ih]
    · simp only [if_neg q, ih]
theorem h5_hourB {A : AT} {w : Nat} : hourB goC (aset A 10 5 w) = aset (hourB goC A) 10 5 w := by
  unfold hourB
  rw [h5_marchL, h5_silenceL, h5_duskL]
theorem h5_own {A : AT} : hourB goC A 10 5 = A 10 5 := by
  have h := h5_hourB (A := A) (w := A 10 5)
  rw [aset_self] at h
  rw [h]
  exact aset_eq _ _ _ _
theorem hour_eq {B : Nat} {A : AT} (h : St B A) : hourC A = hourR A ∧ St (B + 321) (hourC A) := by
  obtain ⟨h1, h2⟩ := St_hourB h
  unfold hourC hourR
  rw [h5_hourB, ← h2, h5_own]
  exact ⟨rfl, St_set h1 (Or.inr rfl) (by have := h.2.2.1.b10 5; omega)⟩
