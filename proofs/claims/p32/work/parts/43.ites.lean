/-! ===== conditions over small numbers ===== -/
theorem ite_le {α : Type} {a b : Nat} {x y : α} (ha : a < 2 ^ 31) (hb : b < 2 ^ 31) : (if nI a ≤ nI b then x else y) = (if a ≤ b then x else y) := by
  by_cases h : a ≤ b
  · rw [if_pos h, if_pos (nI_le h hb)]
  · rw [if_neg h, if_neg (nI_ge (by omega) ha)]
theorem ite_lt {α : Type} {a b : Nat} {x y : α} (ha : a < 2 ^ 31) (hb : b < 2 ^ 31) : (if nI a < nI b then x else y) = (if a < b then x else y) := by
  by_cases h : a < b
  · rw [if_pos h, if_pos (nI_lt h hb)]
  · rw [if_neg h, if_neg (nI_nlt (by omega) ha)]
theorem ite_eq {α : Type} {a b : Nat} {x y : α} (ha : a < 2 ^ 31) (hb : b < 2 ^ 31) : (if nI a = nI b then x else y) = (if a = b then x else y) := by
  by_cases h : a = b
  · rw [if_pos h, if_pos (by rw [h])]
  · rw [if_neg h, if_neg (fun q => h ((nI_eq ha hb).mp q))]
theorem ite_v {α : Type} {v : Nat} {x y : α} (h : v < 65536) : (if pcV v = -4 then x else y) = (if v = 0 then x else y) := by
  by_cases h0 : v = 0
  · rw [if_pos h0, if_pos (by rw [h0]; rfl)]
  · rw [if_neg h0, if_neg (fun q => h0 ((pcV_eq h).mp q))]
def bN (p : Prop) [Decidable p] : Nat := if p then 1 else 0
theorem ite_b {α : Type} {p : Prop} [Decidable p] {x y : α} : (if nI (bN p) = nI 0 then x else y) = (if p then y else x) := by
  by_cases h : p
  · rw [if_pos h, if_neg]
    unfold bN
    rw [if_pos h]
    decide
  · rw [if_neg h, if_pos]
    unfold bN
    rw [if_neg h]
theorem gd_b {p : Prop} [Decidable p] (k : Option Int32) : gd (nI (bN p) = nI 0 ∨ nI (bN p) = nI 1) k = k := by
  refine gd_n ?_
  unfold bN
  by_cases h : p
  · rw [if_pos h]; exact Or.inr rfl
  · rw [if_neg h]; exact Or.inl rfl
theorem imax_n {a b : Nat} (ha : a < 2 ^ 31) (hb : b < 2 ^ 31) : (if nI a < nI b then nI b else nI a) = nI (max a b) := by
  rw [ite_lt ha hb]
  by_cases h : a < b
  · rw [if_pos h, Nat.max_eq_right (by omega)]
  · rw [if_neg h, Nat.max_eq_left (by omega)]
theorem imin_n {a b : Nat} (ha : a < 2 ^ 31) (hb : b < 2 ^ 31) : (if nI b < nI a then nI b else nI a) = nI (min a b) := by
  rw [ite_lt hb ha]
  by_cases h : b < a
  · rw [if_pos h, Nat.min_eq_right (by omega)]
  · rw [if_neg h, Nat.min_eq_left (by omega)]
theorem bN_t {p : Prop} [Decidable p] (h : p) : bN p = 1 := if_pos h
theorem bN_f {p : Prop} [Decidable p] (h : ¬ p) : bN p = 0 := if_neg h
theorem ite_b0 {α : Type} {p : Prop} [Decidable p] {x y : α} : (if nI (bN p) = 0 then x else y) = (if p then y else x) := ite_b
def Lt (A : AT) : Prop := ∀ f i, A f i < 2 ^ 31
theorem Lt.set {A : AT} (h : Lt A) {f i v : Nat} (hv : v < 2 ^ 31) : Lt (aset A f i v) := by
  intro g j
  unfold aset
  split
  · exact hv
  · exact h g j
theorem Lt_takeT {A : AT} (h : Lt A) {c t : Nat} (ht : t < 2 ^ 31) : Lt (takeT A c t) := ((h.set ht).set (by decide)).set (by decide)
theorem Lt_askTake {A : AT} (h : Lt A) {c b : Nat} : Lt (askTake A c b) := by
  unfold askTake
  by_cases q : A 0 b < A 0 c
  · rw [if_pos q]; exact Lt_takeT h (h _ _)
  · rw [if_neg q]; exact h
theorem Lt_askVote {A : AT} (h : Lt A) {c b : Nat} (hc : c < 5) : Lt (askVote A c b) := (h.set (by omega)).set (by decide)
