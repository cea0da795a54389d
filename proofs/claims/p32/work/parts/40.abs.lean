/-! ===== the table of numbers that both sides are pictures of ===== -/
abbrev AT : Type := Nat → Nat → Nat
def aset (A : AT) (f i v : Nat) : AT := fun g j => if g = f ∧ j = i then v else A g j
theorem aset_eq (A : AT) (f i v : Nat) : aset A f i v f i = v := if_pos ⟨rfl, rfl⟩
theorem aset_f {A : AT} {f i v g j : Nat} (h : g ≠ f) : aset A f i v g j = A g j := if_neg fun q => h q.1
theorem aset_i {A : AT} {f i v g j : Nat} (h : j ≠ i) : aset A f i v g j = A g j := if_neg fun q => h q.2
theorem aset_same (A : AT) (f i v w : Nat) : aset (aset A f i v) f i w = aset A f i w := by
  funext g j
  by_cases h : g = f ∧ j = i
  · simp [aset, h]
  · simp [aset, h]
theorem aset_self (A : AT) (f i : Nat) : aset A f i (A f i) = A := by
  funext g j
  by_cases h : g = f ∧ j = i
  · obtain ⟨rfl, rfl⟩ := h
    exact aset_eq _ _ _ _
  · exact if_neg h
theorem aset_comm (A : AT) {f i v g j w : Nat} (h : g ≠ f ∨ j ≠ i) : aset (aset A f i v) g j w = aset (aset A g j w) f i v := by
  funext x y
  by_cases h1 : x = g ∧ y = j
  · obtain ⟨rfl, rfl⟩ := h1
    rw [aset_eq]
    have h2 : ¬ (x = f ∧ y = i) := by omega
    rw [show aset (aset A x y w) f i v x y = aset A x y w x y from if_neg h2, aset_eq]
  · rw [show aset (aset A f i v) g j w x y = aset A f i v x y from if_neg h1]
    by_cases h2 : x = f ∧ y = i
    · obtain ⟨rfl, rfl⟩ := h2
      rw [aset_eq, aset_eq]
    · rw [show aset A f i v x y = A x y from if_neg h2, show aset (aset A g j w) f i v x y = aset A g j w x y from if_neg h2, show aset A g j w x y = A x y from if_neg h1]
def Bnd (B : Nat) (A : AT) : Prop := ∀ f i, A f i ≤ B
theorem Bnd.set {B : Nat} {A : AT} (h : Bnd B A) {f i v : Nat} (hv : v ≤ B) : Bnd B (aset A f i v) := by
  intro g j
  unfold aset
  split
  · exact hv
  · exact h g j
theorem Bnd.mono {B C : Nat} {A : AT} (h : Bnd B A) (hC : B ≤ C) : Bnd C A := fun f i => Nat.le_trans (h f i) hC
theorem Bnd.lt {B : Nat} {A : AT} (h : Bnd B A) (hB : B < 1073741824) (f i : Nat) : A f i < 2 ^ 31 := by have := h f i; omega
theorem i0 : (0 : Int32) = nI 0 := rfl
theorem i1 : (1 : Int32) = nI 1 := rfl
theorem i2 : (2 : Int32) = nI 2 := rfl
theorem i3 : (3 : Int32) = nI 3 := rfl
theorem i4 : (4 : Int32) = nI 4 := rfl
theorem i5 : (5 : Int32) = nI 5 := rfl
theorem i6 : (6 : Int32) = nI 6 := rfl
theorem i7 : (7 : Int32) = nI 7 := rfl
theorem i8 : (8 : Int32) = nI 8 := rfl
theorem i9 : (9 : Int32) = nI 9 := rfl
theorem i10 : (10 : Int32) = nI 10 := rfl
theorem i11 : (11 : Int32) = nI 11 := rfl
theorem i12 : (12 : Int32) = nI 12 := rfl
theorem i31 : (31 : Int32) = nI 31 := rfl
theorem rdA_n {β : Type} {f : Nat → Int32} {n i : Nat} {k : Int32 → Option β} (h : i < n) (hn : n < 65536) : rdA f n (nI i) k = k (f i) := by
  unfold rdA
  have h1 : (nI i).toNatClampNeg = i := nI_clamp (by omega)
  rw [if_neg, h1]
  rw [h1]
  intro h2
  rcases h2 with h2 | h2
  · exact nI_pos (by omega) h2
  · omega
theorem wrA_n {β : Type} {K : KT} {f n i : Nat} {v : Int32} {k : KT → Option β} (h : i < n) (hn : n < 65536) : wrA K f n (nI i) v k = k (fset K f i v) := by
  unfold wrA
  have h1 : (nI i).toNatClampNeg = i := nI_clamp (by omega)
  rw [if_neg, h1]
  rw [h1]
  intro h2
  rcases h2 with h2 | h2
  · exact nI_pos (by omega) h2
  · omega
theorem ptF_n {β : Type} {K : KT} {f i : Nat} {v : Int32} {k : KT → Option β} : ptF K f i v k = k (fset K f i v) := rfl
theorem bdP_n {β : Type} {r : Int32} {k : Int32 → Option β} : bdP (some r) k = k r := rfl
theorem bdE_n {β : Type} {r : Int32} {K : KT} {k : Int32 → KT → Option β} : bdE (some (r, K)) k = k r K := rfl
theorem gd_n {β : Type} {c : Prop} [Decidable c] {k : Option β} (h : c) : gd c k = k := if_pos h
theorem gdz (k : Option Int32) : gd (nI 0 = nI 0 ∨ nI 0 = nI 1) k = k := gd_n (Or.inl rfl)
theorem gdo (k : Option Int32) : gd (nI 1 = nI 0 ∨ nI 1 = nI 1) k = k := gd_n (Or.inr rfl)
theorem nle {a b : Nat} (ha : a < 2 ^ 31) (hb : b < 2 ^ 31) : (nI a ≤ nI b) = (a ≤ b) := propext (nI_leI ha hb)
theorem nlt {a b : Nat} (ha : a < 2 ^ 31) (hb : b < 2 ^ 31) : (nI a < nI b) = (a < b) := propext (nI_ltI ha hb)
theorem neq {a b : Nat} (ha : a < 2 ^ 31) (hb : b < 2 ^ 31) : (nI a = nI b) = (a = b) := propext (nI_eq ha hb)
theorem nadd (a b : Nat) : nI a + nI b = nI (a + b) := nI_add a b
theorem nmul (a b : Nat) : nI a * nI b = nI (a * b) := pk_mul a b
theorem nsub {a b : Nat} (h : b ≤ a) : nI a - nI b = nI (a - b) := pk_sub h
/-- the class's picture of the table: a vote is -4 or the camp -/
def pcV (v : Nat) : Int32 := if v = 0 then -4 else nI (v - 1)
def pcK (A : AT) : KT := fun f i => if f = 1 then pcV (A 1 i) else nI (A f i)
theorem pcK_at {A : AT} {f i : Nat} (h : f ≠ 1) : pcK A f i = nI (A f i) := if_neg h
theorem pcK_v (A : AT) (i : Nat) : pcK A 1 i = pcV (A 1 i) := if_pos rfl
theorem fset_at (K : KT) (f i : Nat) (v : Int32) (g j : Nat) : fset K f i v g j = if g = f ∧ j = i then v else K g j := by
  by_cases h : g = f
  · subst h
    rw [fset_eq]
    unfold upd
    by_cases h2 : j = i
    · rw [if_pos h2, if_pos ⟨rfl, h2⟩]
    · rw [if_neg h2, if_neg (fun q => h2 q.2)]
  · rw [fset_ne h, if_neg (fun q => h q.1)]
theorem fset_pcK {A : AT} {f i v : Nat} (h : f ≠ 1) : fset (pcK A) f i (nI v) = pcK (aset A f i v) := by
  funext g j
  rw [fset_at]
  by_cases h2 : g = f ∧ j = i
  · obtain ⟨rfl, rfl⟩ := h2
    rw [if_pos ⟨rfl, rfl⟩, pcK_at h, aset_eq]
  · rw [if_neg h2]
    unfold pcK
    rw [show aset A f i v g j = A g j from if_neg h2]
    by_cases h3 : g = 1
    · subst h3
      rw [if_pos rfl, if_pos rfl, aset_f (Ne.symm h)]
    · rw [if_neg h3, if_neg h3]
theorem fset_pcV {A : AT} {i v : Nat} : fset (pcK A) 1 i (pcV v) = pcK (aset A 1 i v) := by
  funext g j
  rw [fset_at]
  by_cases h2 : g = 1 ∧ j = i
  · obtain ⟨rfl, rfl⟩ := h2
    rw [if_pos ⟨rfl, rfl⟩, pcK_v, aset_eq]
  · rw [if_neg h2]
    unfold pcK
    by_cases h3 : g = 1
    · subst h3
      rw [if_pos rfl, if_pos rfl, aset_i (fun q => h2 ⟨rfl, q⟩)]
    · rw [if_neg h3, if_neg h3, aset_f h3]
theorem pcV_0 : (-4 : Int32) = pcV 0 := rfl
theorem pcV_s (c : Nat) : nI c = pcV (c + 1) := by unfold pcV; rw [if_neg (by omega)]; rfl
theorem pcV_eq {v : Nat} (h : v < 65536) : (pcV v = -4) = (v = 0) := by
  apply propext
  unfold pcV
  by_cases h0 : v = 0
  · rw [if_pos h0]; exact ⟨fun _ => h0, fun _ => rfl⟩
  · rw [if_neg h0]
    refine ⟨fun q => ?_, fun q => absurd q h0⟩
    have h2 := nI_toInt (n := v - 1) (by omega)
    rw [q] at h2
    have h3 : (-4 : Int32).toInt = -4 := by decide
    omega
/-- one camp's part of the reference's row -/
def pmW (A : AT) (c w : Nat) : Nat := if w = 0 then A 0 c else if w = 1 then A 1 c else if w = 2 then A 2 c else if w = 3 then 1 - A 3 c else if w = 4 then A 4 c else if w = 5 then A 6 c else if w = 6 then A 5 c else if w % 2 = 1 then A 7 (c * 12 + (w - 7) / 2) else A 8 (c * 12 + (w - 7) / 2)
/-- the reference's row -/
def pmN (A : AT) (x : Nat) : Nat := if x < 6 then A 10 x else if x < 31 then (if (x - 6) / 5 < (x - 6) % 5 then 1 - A 9 (x - 6) else 0) else pmW A ((x - 31) / 31) ((x - 31) % 31)
def pcM (A : AT) : Nat → Int32 := fun x => nI (pmN A x)
def rm (M : KT) (A : AT) : KT := rset M 0 (pcM A)
theorem rm_0 (M : KT) (A : AT) : rm M A 0 = pcM A := rfl
theorem rset_eq (K : KT) (f : Nat) (g : Nat → Int32) : rset K f g f = g := by
  unfold rset
  rw [show Nat.beq f f = true from Nat.beq_refl f]
  rfl
theorem rset_ne {K : KT} {f j : Nat} {g : Nat → Int32} (h : j ≠ f) : rset K f g j = K j := by
  unfold rset
  cases hb : Nat.beq j f with
  | true => exact absurd (Nat.eq_of_beq_eq_true hb) h
  | false => rfl
theorem rm_j {M : KT} {A : AT} {j : Nat} (h : j ≠ 0) : rm M A j = M j := rset_ne h
theorem pm_camp (A : AT) (c : Nat) {w : Nat} (hw : w < 31) : pmN A (31 + 31 * c + w) = pmW A c w := by
  unfold pmN
  rw [if_neg (by omega), if_neg (by omega), show (31 + 31 * c + w - 31) / 31 = c by omega, show (31 + 31 * c + w - 31) % 31 = w by omega]
theorem pm_ext {A A' : AT} {x0 v : Nat} (h0 : pmN A' x0 = v) (hc : ∀ i, i < 6 → i ≠ x0 → A' 10 i = A 10 i) (hr : ∀ k, k < 25 → k + 6 ≠ x0 → k / 5 < k % 5 → A' 9 k = A 9 k) (hw : ∀ c w, w < 31 → 31 + 31 * c + w ≠ x0 → pmW A' c w = pmW A c w) : upd (pcM A) x0 (nI v) = pcM A' := by
  funext x
  unfold upd pcM
  by_cases h : x = x0
  · rw [if_pos h, h, h0]
  · rw [if_neg h]
    congr 1
    by_cases h1 : x < 6
    · unfold pmN
      rw [if_pos h1, if_pos h1, hc x h1 h]
    by_cases h2 : x < 31
    · unfold pmN
      rw [if_neg h1, if_neg h1, if_pos h2, if_pos h2]
      by_cases h3 : (x - 6) / 5 < (x - 6) % 5
      · rw [if_pos h3, if_pos h3, hr (x - 6) (by omega) (by omega) h3]
      · rw [if_neg h3, if_neg h3]
    · have e : x = 31 + 31 * ((x - 31) / 31) + (x - 31) % 31 := by omega
      rw [e, pm_camp _ _ (by omega), pm_camp _ _ (by omega)]
      exact (hw _ _ (by omega) (by omega)).symm
theorem fset_rm (M : KT) (A A' : AT) (x : Nat) (v : Int32) (h : upd (pcM A) x v = pcM A') : fset (rm M A) 0 x v = rm M A' := by
  funext g
  by_cases hg : g = 0
  · subst hg
    rw [fset_eq, rm_0, h, rm_0]
  · rw [fset_ne hg, rm_j hg, rm_j hg]
