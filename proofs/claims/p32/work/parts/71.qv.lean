/-! ===== would be, orders, soundness ===== -/
theorem j_would {N B : Nat} {A : AT} {O : OT} {M : KT} (hN : 1400 ≤ N) (hb : B + 20000 < 2 ^ 30) (hJ : JX B A O M) (p : Int32) : ∃ r O' M', mX2_would N O p = some (r, O') ∧ mX3_would N M p = some (r, M') ∧ J (B + 10000) O' M' := by
  have hJ0 : J (B + 10000) O M := J_mono hJ.toJ (by omega)
  obtain ⟨h1, h2, h3, h4, h5, h6, h7, h8⟩ := hJ
  have hlt : Lt A := h1.ltA (by omega)
  have hB := h1.2.2.1
  unfold mX2_would fX2_would_34 mX3_would fX3_would_27
  rcases ix2 p (n := 5) (by decide) with q | ⟨c, hc, rfl⟩
  · rw [c2_noCamp_y q, r2_camp_y q, bdP_n, bdP_n, if_neg (show ¬ (1 : Int32) = 0 by decide), if_pos rfl]
    exact ⟨_, _, _, rfl, rfl, hJ0⟩
  have eM : rm M A = M := rm_self h3
  have e3 := r0_isAwake (N := N) (M := M) hc (hB.b3 c)
  have e2 := x3_of2 (N := N) (M := M) (A := A) hc
  rw [eM] at e3 e2
  rw [c2_noCamp_n hc, bdP_n, if_pos rfl, r2_camp_n hc, bdP_n, if_neg (show ¬ (1 : Int32) = 0 by decide), h2, rdA_n hc (by decide), pcK_at (f := 3) (by decide), ite_z (hlt _ _), e3, bdP_n, ite_b0]
  by_cases a3 : A 3 c = 1
  · rw [if_neg (by omega), if_pos a3, rdA_n hc (by decide), pcK_at (f := 2) (by decide), ite_o (hlt _ _), show (2 : Int32) = nI 2 from rfl, e2, bdP_n, ite_o (hlt _ _)]
    by_cases a2 : A 2 c = 1
    · rw [if_pos a2, if_pos a2]
      exact ⟨_, _, _, rfl, rfl, hJ0⟩
    · have a20 : A 2 c = 0 := by have := hB.b2 c; omega
      obtain ⟨M1, m1, m2, m3⟩ := r0_remembers (N := N) (K := M) hN
      obtain ⟨M2, rfl⟩ : ∃ M2, M1 = rm M2 A := ⟨M1, (rm_self (by rw [m2 0 (by decide), h3])).symm⟩
      obtain ⟨M3, g1, g2, g3⟩ := r0_forgets (N := N) (K := rm M2 (ask A c).2) hN
      have gj : ∀ j, j ≠ 0 → j ≠ 2 → M3 j = M j := fun j j0 j2 => by
        have := m2 j j2
        rw [rm_j j0] at this
        rw [g2 j j0, rm_j j0, this]
      rw [if_neg a2, if_neg a2, inO_n, oset_eq, c0_ask (by omega) hc hlt (by have := hB.b0 c; omega) (by have := hB.b10 0; omega) h1.l12, bdE_n, inO_n, m1, bdE_n, r0_asks (by omega) hc h1 (by omega) a20, bdE_n, g1, bdE_n]
      refine ⟨_, _, _, rfl, rfl, A, h1.mono (by omega), ?_, ?_, ?_, ?_, ?_, ?_, ?_⟩
      · rw [oset_ne (by decide), oset_ne (by decide), h2]
      · intro x hx
        have := m3 x hx
        rw [rm_j (show (2 : Nat) ≠ 0 by decide), h3] at this
        rw [g3 x hx, rm_j (by decide), this]
      · exact JQ_congr h4 (by omega) (fun k k1 k2 => by rw [oset_ne (by omega), oset_ne (by omega)]) (fun i _ => by rw [oset_ne (by decide), oset_ne (by decide)]) (fun x _ => by rw [gj 3 (by decide) (by decide)]) (gj 4 (by decide) (by decide)) (fun i _ => by rw [gj 8 (by decide) (by decide)])
      · exact JF_congr h5 (fun i _ _ => by rw [oset_ne (by decide), oset_ne (by decide)]) (fun i _ _ => by rw [gj 8 (by decide) (by decide)])
      · exact JT_congr h6 (by rw [oset_ne (by decide), oset_ne (by decide)]) (gj 6 (by decide) (by decide)) (by rw [gj 8 (by decide) (by decide)])
      · exact JL_congr h7 (by rw [oset_ne (by decide), oset_ne (by decide)]) (gj 5 (by decide) (by decide)) (by rw [gj 8 (by decide) (by decide)])
      · rw [oset_ne (by decide), oset_ne (by decide)]; exact h8
  · rw [if_pos (by have := hB.b3 c; omega), if_neg a3]
    exact ⟨_, _, _, rfl, rfl, hJ0⟩
/-- a captain whose term no camp that is awake exceeds -/
def upB (A : AT) (b : Nat) (c : Nat) : Bool := decide (A 3 c = 1 ∧ A 0 b < A 0 c)
abbrev forem (A : AT) : Prop := bestN A 5 ≠ 0 ∧ cntN (upB A (bestN A 5 - 1)) 5 = 0
theorem cnt0 {p : Nat → Bool} : ∀ k, cntN p k = 0 ↔ ∀ c, c < k → ¬ p c = true := by
  intro k
  induction k with
  | zero => exact ⟨fun _ c hc => absurd hc (by omega), fun _ => rfl⟩
  | succ k ih =>
    have e1 : cntN p (k + 1) = cntN p k + (if p k = true then 1 else 0) := rfl
    rw [e1]
    constructor
    · intro h c hc
      by_cases q : p k = true
      · rw [if_pos q] at h; omega
      · by_cases w : c = k
        · rw [w]; exact q
        · exact ih.mp (by omega) c (by omega)
    · intro h
      rw [if_neg (h k (by omega)), ih.mpr (fun c hc => h c (by omega))]
theorem cntE {p : Nat → Bool} : ∀ k, cntN p k ≠ 0 → ∃ c, c < k ∧ p c = true := by
  intro k
  induction k with
  | zero => intro h; exact absurd rfl h
  | succ k ih =>
    intro h
    have e1 : cntN p (k + 1) = cntN p k + (if p k = true then 1 else 0) := rfl
    by_cases q : p k = true
    · exact ⟨k, by omega, q⟩
    · rw [e1, if_neg q] at h
      obtain ⟨c, c1, c2⟩ := ih (by omega)
      exact ⟨c, by omega, c2⟩
theorem upB_t {A : AT} {b c : Nat} : upB A b c = true ↔ (A 3 c = 1 ∧ A 0 b < A 0 c) := by
  unfold upB
  rw [decide_eq_true_iff]
theorem c0_foremL {N b : Nat} {A : AT} (hlt : Lt A) (hb : b < 5) : ∀ (k n i : Nat), k < n → i + k = 5 → (∀ c, c < i → A 3 c = 1 → A 0 c ≤ A 0 b) → fX0_hasForemostCaptain_15 N (pcK A) n (nI b) (nI i) = some (nI (bN (cntN (upB A b) 5 = 0))) := by
  intro k
  induction k with
  | zero =>
    intro n i hn hi h
    obtain ⟨m, rfl⟩ : ∃ m, n = m + 1 := ⟨n - 1, by omega⟩
    unfold fX0_hasForemostCaptain_15
    rw [show (5 : Int32) = nI 5 from rfl, ite_le (by omega) (by omega), if_pos (by omega), bN_t ((cnt0 5).mpr (fun c hc q => by
      have q2 := upB_t.mp q
      have := h c (by omega) q2.1
      omega))]
    rfl
  | succ k ih =>
    intro n i hn hi h
    obtain ⟨m, rfl⟩ : ∃ m, n = m + 1 := ⟨n - 1, by omega⟩
    have hi5 : i < 5 := by omega
    unfold fX0_hasForemostCaptain_15 fX0_hasForemostCaptain_47
    rw [show (5 : Int32) = nI 5 from rfl, ite_le (by omega) (by omega), if_neg (by omega), rdA_n hi5 (by decide), pcK_at (by decide), ite_o (hlt _ _), rdA_n hi5 (by decide), rdA_n hb (by decide), pcK_at (f := 0) (by decide), pcK_at (f := 0) (by decide), ite_le (hlt _ _) (hlt _ _), show nI i + 1 = nI (i + 1) from nadd i 1]
    by_cases h3 : A 3 i = 1
    · rw [if_pos h3]
      by_cases h0 : A 0 i ≤ A 0 b
      · rw [if_pos h0]
        exact ih m (i + 1) (by omega) (by omega) (fun c hc c3 => by
          by_cases q : c = i
          · rw [q]; exact h0
          · exact h c (by omega) c3)
      · rw [if_neg h0, bN_f (fun z => (cnt0 5).mp z i hi5 (upB_t.mpr ⟨h3, by omega⟩))]
        rfl
    · rw [if_neg h3]
      exact ih m (i + 1) (by omega) (by omega) (fun c hc c3 => by
        by_cases q : c = i
        · rw [q] at c3; exact absurd c3 h3
        · exact h c (by omega) c3)
theorem c0_forem {N : Nat} {A : AT} (hN : 100 ≤ N) (hlt : Lt A) : mX0_hasForemostCaptain N (pcK A) = some (nI (bN (forem A))) := by
  have hl := bestN_le (A := A) 5
  unfold mX0_hasForemostCaptain
  rw [c0_great hN hlt, bdP_n, ite_v (by omega)]
  by_cases q : bestN A 5 = 0
  · rw [if_pos q, bN_f (fun w => w.1 q)]
    rfl
  · rw [if_neg q, pcV_n q, show fX0_hasForemostCaptain_15 N (pcK A) N (nI (bestN A 5 - 1)) 0 = _ from c0_foremL hlt (by omega) 5 N 0 (by omega) (by omega) (fun c hc => absurd hc (by omega))]
    by_cases w : cntN (upB A (bestN A 5 - 1)) 5 = 0
    · rw [bN_t w, bN_t ⟨q, w⟩]
    · rw [bN_f w, bN_f (fun z => w z.2)]
def topN (A : AT) : Nat → Nat
  | 0 => 0
  | k + 1 => if A 3 k = 1 then max (topN A k) (A 0 k) else topN A k
theorem topN_ge {A : AT} : ∀ k c, c < k → A 3 c = 1 → A 0 c ≤ topN A k := by
  intro k
  induction k with
  | zero => intro c hc; exact absurd hc (by omega)
  | succ k ih =>
    intro c hc h3
    unfold topN
    by_cases q : c = k
    · rw [q] at h3 ⊢
      rw [if_pos h3]
      omega
    · have := ih c (by omega) h3
      by_cases w : A 3 k = 1
      · rw [if_pos w]; omega
      · rw [if_neg w]; exact this
theorem topN_le {A : AT} {b : Nat} : ∀ k, (∀ c, c < k → A 3 c = 1 → A 0 c ≤ b) → topN A k ≤ b := by
  intro k
  induction k with
  | zero => intro _; exact Nat.zero_le _
  | succ k ih =>
    intro h
    have h1 := ih (fun c hc => h c (by omega))
    unfold topN
    by_cases w : A 3 k = 1
    · have := h k (by omega) w
      rw [if_pos w]; omega
    · rw [if_neg w]; exact h1
def hasB (A : AT) (t : Nat) (c : Nat) : Bool := decide (A 2 c = 1 ∧ A 0 c = t)
theorem hasB_t {A : AT} {t c : Nat} : hasB A t c = true ↔ (A 2 c = 1 ∧ A 0 c = t) := by
  unfold hasB
  rw [decide_eq_true_iff]
theorem r2_hasL {N t : Nat} {M0 : KT} {A : AT} (hlt : Lt A) (ht : t < 2 ^ 31) : ∀ (k n i : Nat), k < n → i + k = 5 → (∀ c, c < i → ¬ (A 2 c = 1 ∧ A 0 c = t)) → fX3_hasCaptain_36 N (rm M0 A) n (nI t) (nI i) = some (nI (bN (cntN (hasB A t) 5 ≠ 0))) := by
  intro k
  induction k with
  | zero =>
    intro n i hn hi h
    obtain ⟨m, rfl⟩ : ∃ m, n = m + 1 := ⟨n - 1, by omega⟩
    unfold fX3_hasCaptain_36
    rw [show (5 : Int32) = nI 5 from rfl, ite_le (by omega) (by omega), if_pos (by omega), bN_f (fun q => q ((cnt0 5).mpr (fun c hc w => h c (by omega) (hasB_t.mp w))))]
    rfl
  | succ k ih =>
    intro n i hn hi h
    obtain ⟨m, rfl⟩ : ∃ m, n = m + 1 := ⟨n - 1, by omega⟩
    have hi5 : i < 5 := by omega
    unfold fX3_hasCaptain_36 fX3_hasCaptain_63
    rw [show (5 : Int32) = nI 5 from rfl, ite_le (by omega) (by omega), if_neg (by omega), show (2 : Int32) = nI 2 from rfl, x3_of2 hi5, bdP_n, ite_o (hlt _ _), show (0 : Int32) = nI 0 from rfl, x3_of0 hi5, bdP_n, ite_eq (hlt _ _) ht, show nI i + 1 = nI (i + 1) from nadd i 1]
    by_cases h2 : A 2 i = 1
    · rw [if_pos h2]
      by_cases h0 : A 0 i = t
      · rw [if_pos h0, bN_t (show cntN (hasB A t) 5 ≠ 0 from fun q => (cnt0 5).mp q i hi5 (hasB_t.mpr ⟨h2, h0⟩))]
        rfl
      · rw [if_neg h0]
        exact ih m (i + 1) (by omega) (by omega) (fun c hc c3 => by
          by_cases q : c = i
          · rw [q] at c3; exact h0 c3.2
          · exact h c (by omega) c3)
    · rw [if_neg h2]
      exact ih m (i + 1) (by omega) (by omega) (fun c hc c3 => by
        by_cases q : c = i
        · rw [q] at c3; exact h2 c3.1
        · exact h c (by omega) c3)
theorem r2_topL {N : Nat} {M0 : KT} {A : AT} (hlt : Lt A) (h3 : ∀ c, A 3 c ≤ 1) : ∀ (k n i : Nat), k < n → i + k = 5 → fX3_hasCaptain_4 N (rm M0 A) n (nI (topN A i)) (nI i) = fX3_hasCaptain_34 N (rm M0 A) (nI (topN A 5)) := by
  intro k
  induction k with
  | zero =>
    intro n i hn hi
    obtain ⟨m, rfl⟩ : ∃ m, n = m + 1 := ⟨n - 1, by omega⟩
    unfold fX3_hasCaptain_4
    rw [show (5 : Int32) = nI 5 from rfl, ite_le (by omega) (by omega), if_pos (by omega), show i = 5 by omega]
  | succ k ih =>
    intro n i hn hi
    obtain ⟨m, rfl⟩ : ∃ m, n = m + 1 := ⟨n - 1, by omega⟩
    have hi5 : i < 5 := by omega
    have e := ih m (i + 1) (by omega) (by omega)
    have e1 : topN A (i + 1) = if A 3 i = 1 then max (topN A i) (A 0 i) else topN A i := rfl
    have ht : topN A i < 2 ^ 31 := Nat.lt_of_le_of_lt (topN_le (b := 2 ^ 31 - 1) i (fun c _ _ => by have := hlt 0 c; omega)) (by decide)
    unfold fX3_hasCaptain_4 fX3_hasCaptain_28
    rw [show (5 : Int32) = nI 5 from rfl, ite_le (by omega) (by omega), if_neg (by omega), r0_isAwake hi5 (h3 i), bdP_n, ite_b0, show (0 : Int32) = nI 0 from rfl, x3_of0 hi5, bdP_n, imax_n ht (hlt _ _), show nI i + 1 = nI (i + 1) from nadd i 1]
    by_cases q : A 3 i = 1
    · rw [if_pos q] at e1
      rw [if_pos q]
      rw [e1] at e
      exact e
    · rw [if_neg q] at e1
      rw [if_neg q]
      rw [e1] at e
      exact e
theorem r2_has {N B : Nat} {M0 : KT} {A : AT} (hN : 100 ≤ N) (h : St B A) (hb : B + 20000 < 2 ^ 30) : mX3_hasCaptain N (rm M0 A) = some (nI (bN (forem A))) := by
  have hlt : Lt A := h.ltA (by omega)
  have hB := h.2.2.1
  have ht : topN A 5 < 2 ^ 31 := Nat.lt_of_le_of_lt (topN_le (b := 2 ^ 31 - 1) 5 (fun c _ _ => by have := hlt 0 c; omega)) (by decide)
  have e : cntN (hasB A (topN A 5)) 5 ≠ 0 ↔ forem A := by
    obtain ⟨b1, b2⟩ := bestN_is (A := A) 5
    have hl := bestN_le (A := A) 5
    constructor
    · intro w
      obtain ⟨c, c1, cc⟩ := cntE 5 w
      obtain ⟨c2, c3⟩ := hasB_t.mp cc
      obtain ⟨d1, d2⟩ := b2 c c1 c2
      refine ⟨d1, (cnt0 5).mpr (fun x hx q => ?_)⟩
      have q2 := upB_t.mp q
      have := topN_ge 5 x hx q2.1
      omega
    · rintro ⟨d1, d2⟩ q
      refine (cnt0 5).mp q (bestN A 5 - 1) (by omega) (hasB_t.mpr ⟨b1 d1, ?_⟩)
      have u1 : topN A 5 ≤ A 0 (bestN A 5 - 1) := topN_le 5 (fun c hc c3 => by
        have := (cnt0 5).mp d2 c hc
        rw [upB_t] at this
        omega)
      have u2 := topN_ge 5 (bestN A 5 - 1) (by omega) (Inv_awake h.2.1 (by omega) (b1 d1))
      omega
  unfold mX3_hasCaptain
  rw [show fX3_hasCaptain_4 N (rm M0 A) N 0 0 = _ from r2_topL hlt hB.b3 5 N 0 (by omega) (by omega)]
  unfold fX3_hasCaptain_34
  rw [show fX3_hasCaptain_36 N (rm M0 A) N (nI (topN A 5)) 0 = _ from r2_hasL hlt ht 5 N 0 (by omega) (by omega) (fun c hc => absurd hc (by omega))]
  by_cases q : forem A
  · rw [bN_t q, bN_t (e.mpr q)]
  · rw [bN_f q, bN_f (fun w => q (e.mp w))]
/-- the first hour from i on, of k more, at which there is such a captain -/
def waitN : Nat → Nat → AT → Option Nat
  | 0, i, A => if forem A then some i else none
  | k + 1, i, A => if forem A then some i else waitN k (i + 1) (hourC A)
def waitR (o : Option Nat) : Int32 := match o with
  | none => -4
  | some n => nI n
theorem c2_waitL {N : Nat} {O : OT} (hN : 1400 ≤ N) : ∀ (k n i B : Nat) (A : AT), k < n → i + k = 60 → St B A → B + 321 * k + 30000 < 2 ^ 30 → ∃ K, fX2_captainIn_13 N n (oset O 2 (pcK A)) (nI i) = some (waitR (waitN k i A), oset O 2 K) := by
  intro k
  induction k with
  | zero =>
    intro n i B A hn hi h hb
    obtain ⟨m, rfl⟩ : ∃ m, n = m + 1 := ⟨n - 1, by omega⟩
    have hlt : Lt A := h.ltA (by omega)
    unfold fX2_captainIn_13 fX2_captainIn_44 fX2_captainIn_61 waitN
    rw [show (60 : Int32) = nI 60 from rfl, ite_le (by omega) (by omega), if_pos (by omega), oset_eq, c0_forem (by omega) hlt, bdP_n, ite_b0]
    by_cases q : forem A
    · rw [if_pos q, if_pos q]
      exact ⟨_, by rw [show i = 60 by omega]; rfl⟩
    · rw [if_neg q, if_neg q]
      exact ⟨_, rfl⟩
  | succ k ih =>
    intro n i B A hn hi h hb
    obtain ⟨m, rfl⟩ : ∃ m, n = m + 1 := ⟨n - 1, by omega⟩
    have hlt : Lt A := h.ltA (by omega)
    unfold fX2_captainIn_13 waitN
    rw [show (60 : Int32) = nI 60 from rfl, ite_le (by omega) (by omega), if_neg (by omega), oset_eq, c0_forem (by omega) hlt, bdP_n, ite_b0]
    by_cases q : forem A
    · rw [if_pos q, if_pos q]
      exact ⟨_, rfl⟩
    · rw [if_neg q, if_neg q, c0_hour (by omega) h (by omega), bdE_n, inO_n, oset_same, i1, nadd]
      exact ih m (i + 1) (B + 321) _ (by omega) (by omega) (hour_eq h).2 (by omega)
theorem r2_waitL {N : Nat} {M0 : KT} (hN : 1400 ≤ N) : ∀ (k n i B : Nat) (A : AT), k + 1 < n → i + k = 60 → St B A → B + 321 * k + 30000 < 2 ^ 30 → ∃ M', fX3_captainIn_6 N n (rm M0 A) (nI i) = some (waitR (waitN k i A), M') ∧ (∀ j, j ≠ 0 → M' j = M0 j) ∧ ∀ x, x < 186 → M' 0 x = M0 2 x := by
  intro k
  have fin : ∀ (A : AT) (i : Nat), i ≤ 61 → ∃ M', fX3_captainIn_29 N (rm M0 A) (nI i) = some (if i ≤ 60 then nI i else -4, M') ∧ (∀ j, j ≠ 0 → M' j = M0 j) ∧ ∀ x, x < 186 → M' 0 x = M0 2 x := by
    intro A i hi
    obtain ⟨M3, g1, g2, g3⟩ := r0_forgets (N := N) (K := rm M0 A) hN
    unfold fX3_captainIn_29 fX3_captainIn_45
    rw [g1, bdE_n, show (60 : Int32) = nI 60 from rfl, ite_le (by omega) (by omega)]
    refine ⟨M3, ?_, fun j hj => by rw [g2 j hj, rm_j hj], fun x hx => by rw [g3 x hx, rm_j (by decide)]⟩
    by_cases q : i ≤ 60
    · rw [if_pos q, if_pos q]
    · rw [if_neg q, if_neg q]
  induction k with
  | zero =>
    intro n i B A hn hi h hb
    obtain ⟨m, rfl⟩ : ∃ m, n = m + 1 := ⟨n - 1, by omega⟩
    unfold fX3_captainIn_6 waitN
    rw [r2_has (by omega) h (by omega), bdP_n, ite_b0]
    by_cases q : forem A
    · rw [if_pos q, if_pos q]
      obtain ⟨M', e1, e2⟩ := fin A i (by omega)
      rw [if_pos (by omega)] at e1
      exact ⟨M', e1, e2⟩
    · obtain ⟨p, rfl⟩ : ∃ p, m = p + 1 := ⟨m - 1, by omega⟩
      rw [if_neg q, if_neg q, show (61 : Int32) = nI 61 from rfl, ite_le (by omega) (by omega), if_neg (by omega), r0_hour (by omega) h (by omega), bdE_n, i1, nadd]
      unfold fX3_captainIn_6
      rw [r2_has (by omega) (hour_eq h).2 (by omega), bdP_n, ite_b0]
      obtain ⟨M', e1, e2⟩ := fin (hourC A) (i + 1) (by omega)
      rw [if_neg (by omega)] at e1
      by_cases q2 : forem (hourC A)
      · rw [if_pos q2]; exact ⟨M', e1, e2⟩
      · rw [if_neg q2, show (61 : Int32) = nI 61 from rfl, ite_le (by omega) (by omega), if_pos (by omega)]
        exact ⟨M', e1, e2⟩
  | succ k ih =>
    intro n i B A hn hi h hb
    obtain ⟨m, rfl⟩ : ∃ m, n = m + 1 := ⟨n - 1, by omega⟩
    unfold fX3_captainIn_6 waitN
    rw [r2_has (by omega) h (by omega), bdP_n, ite_b0]
    by_cases q : forem A
    · rw [if_pos q, if_pos q]
      obtain ⟨M', e1, e2⟩ := fin A i (by omega)
      rw [if_pos (by omega)] at e1
      exact ⟨M', e1, e2⟩
    · rw [if_neg q, if_neg q, show (61 : Int32) = nI 61 from rfl, ite_le (by omega) (by omega), if_neg (by omega), r0_hour (by omega) h (by omega), bdE_n, i1, nadd]
      exact ih m (i + 1) (B + 321) _ (by omega) (by omega) (hour_eq h).2 (by omega)
theorem j_captainIn {N B : Nat} {A : AT} {O : OT} {M : KT} (hN : 1400 ≤ N) (hb : B + 60000 < 2 ^ 30) (hJ : JX B A O M) : ∃ r O' M', mX2_captainIn N O = some (r, O') ∧ mX3_captainIn N M = some (r, M') ∧ J (B + 10000) O' M' := by
  obtain ⟨h1, h2, h3, h4, h5, h6, h7, h8⟩ := hJ
  obtain ⟨K, k1⟩ := c2_waitL (N := N) (O := O) hN 60 N 0 B A (by omega) (by omega) h1 (by omega)
  obtain ⟨M1, m1, m2, m3⟩ := r0_remembers (N := N) (K := M) hN
  obtain ⟨M2, rfl⟩ : ∃ M2, M1 = rm M2 A := ⟨M1, (rm_self (by rw [m2 0 (by decide), h3])).symm⟩
  obtain ⟨M3, g1, g2, g3⟩ := r2_waitL (N := N) (M0 := M2) hN 60 N 0 B A (by omega) (by omega) h1 (by omega)
  have gj : ∀ j, j ≠ 0 → j ≠ 2 → M3 j = M j := fun j j0 j2 => by
    have := m2 j j2
    rw [rm_j j0] at this
    rw [g2 j j0, this]
  unfold mX2_captainIn mX3_captainIn
  rw [inO_n, h2, m1, bdE_n]
  refine ⟨_, _, _, k1, g1, A, h1.mono (by omega), ?_, ?_, ?_, ?_, ?_, ?_, ?_⟩
  · rw [oset_ne (by decide), h2]
  · intro x hx
    have := m3 x hx
    rw [rm_j (show (2 : Nat) ≠ 0 by decide), h3] at this
    rw [g3 x hx, this]
  · exact JQ_congr h4 (by omega) (fun k k1 k2 => oset_ne (by omega)) (fun i _ => by rw [oset_ne (by decide)]) (fun x _ => by rw [gj 3 (by decide) (by decide)]) (gj 4 (by decide) (by decide)) (fun i _ => by rw [gj 8 (by decide) (by decide)])
  · exact JF_congr h5 (fun i _ _ => by rw [oset_ne (by decide)]) (fun i _ _ => by rw [gj 8 (by decide) (by decide)])
  · exact JT_congr h6 (oset_ne (by decide)) (gj 6 (by decide) (by decide)) (by rw [gj 8 (by decide) (by decide)])
  · exact JL_congr h7 (oset_ne (by decide)) (gj 5 (by decide) (by decide)) (by rw [gj 8 (by decide) (by decide)])
  · rw [oset_ne (by decide)]; exact h8
/-! the order of the logs -/
abbrev ahead (A : AT) (a b : Nat) : Prop := lastT A b < lastT A a ∨ (lastT A a = lastT A b ∧ (A 5 b < A 5 a ∨ (A 5 a = A 5 b ∧ (A 6 b < A 6 a ∨ (A 6 a = A 6 b ∧ a < b)))))
theorem lastT_lt {A : AT} {c : Nat} (hlt : ∀ f i, A f i < 2 ^ 30) : lastT A c < 2 ^ 30 := by
  unfold lastT
  by_cases q : A 5 c = 0
  · rw [if_pos q]; decide
  · rw [if_neg q]; exact hlt _ _
theorem c0_isAhead {N a b : Nat} {A : AT} (hlt : ∀ f i, A f i < 2 ^ 30) (h5 : ∀ x, A 5 x ≤ 12) (ha : a < 5) (hb : b < 5) : mX0_isAhead N (pcK A) (nI a) (nI b) = some (nI (bN (ahead A a b))) := by
  have hl2 : Lt A := fun f i => Nat.lt_trans (hlt f i) (by decide)
  unfold mX0_isAhead fX0_isAhead_54 fX0_isAhead_65
  rw [c0_isAsFar hl2 ha hb (h5 a) (h5 b), bdP_n, c0_isAsFar hl2 hb ha (h5 b) (h5 a), bdP_n, rdA_n ha (by decide), rdA_n hb (by decide), pcK_at (by decide), pcK_at (by decide), ite_eq (hl2 _ _) (hl2 _ _), ite_le (by omega) (by omega), rdA_n ha (by decide), rdA_n hb (by decide), pcK_at (by decide), pcK_at (by decide), ite_le (hl2 _ _) (hl2 _ _), ite_eq (by unfold bN; split <;> decide) (by unfold bN; split <;> decide), show gd (nI (bN (far A a b)) = 0 ∨ nI (bN (far A a b)) = 1) (some (nI (bN (far A a b)))) = some (nI (bN (far A a b))) from gd_b _]
  have z0 : ∀ p : Prop, p → gd ((0 : Int32) = 0 ∨ (0 : Int32) = 1) (some (0 : Int32)) = some (0 : Int32) := fun _ _ => gdz _
  have z1 : gd ((1 : Int32) = 0 ∨ (1 : Int32) = 1) (some (1 : Int32)) = some (1 : Int32) := gdo _
  rw [z0 True trivial, z1]
  by_cases f1 : far A a b
  · by_cases f2 : far A b a
    · have e1 : lastT A a = lastT A b ∧ A 5 a = A 5 b := by
        rcases f1 with f1 | f1 <;> rcases f2 with f2 | f2 <;> omega
      rw [bN_t f1, bN_t f2, if_pos rfl]
      by_cases q1 : A 6 a = A 6 b
      · rw [if_pos q1]
        by_cases q2 : b ≤ a
        · rw [if_pos q2, bN_f (by omega)]; rfl
        · rw [if_neg q2, bN_t (by omega)]; rfl
      · rw [if_neg q1]
        by_cases q2 : A 6 a ≤ A 6 b
        · rw [if_pos q2, bN_f (by omega)]; rfl
        · rw [if_neg q2, bN_t (by omega)]; rfl
    · rw [bN_t f1, bN_f f2, if_neg (by decide), bN_t (p := ahead A a b)]
      have : ¬ (lastT A a < lastT A b ∨ (lastT A b = lastT A a ∧ A 5 a ≤ A 5 b)) := f2
      rcases f1 with f1 | f1
      · exact Or.inl f1
      · omega
  · have g1 : ¬ (lastT A b < lastT A a ∨ (lastT A a = lastT A b ∧ A 5 b ≤ A 5 a)) := f1
    by_cases f2 : far A b a
    · rw [bN_f f1, bN_t f2, if_neg (by decide), bN_f (p := ahead A a b)]
      omega
    · have g2 : ¬ (lastT A a < lastT A b ∨ (lastT A b = lastT A a ∧ A 5 a ≤ A 5 b)) := f2
      omega
theorem r2_isAhead {N a b : Nat} {M0 : KT} {A : AT} (hlt : ∀ f i, A f i < 2 ^ 30) (h5 : ∀ x, A 5 x ≤ 12) (ha : a < 5) (hb : b < 5) : mX3_isAhead N (rm M0 A) (nI a) (nI b) = some (nI (bN (ahead A a b))) := by
  have hl2 : Lt A := fun f i => Nat.lt_trans (hlt f i) (by decide)
  have la := lastT_lt (c := a) hlt
  have lb := lastT_lt (c := b) hlt
  have z0 : gd ((0 : Int32) = 0 ∨ (0 : Int32) = 1) (some (0 : Int32)) = some (0 : Int32) := gdz _
  have z1 : gd ((1 : Int32) = 0 ∨ (1 : Int32) = 1) (some (1 : Int32)) = some (1 : Int32) := gdo _
  have ez : ∀ x y : Nat, x < 2 ^ 30 → y < 2 ^ 30 → (nI x - nI y = 0) = (x = y) := fun x y hx hy => by
    apply propext
    have e := pk_sub_toInt hx hy
    constructor
    · intro w
      rw [w] at e
      have : (0 : Int32).toInt = 0 := by decide
      omega
    · intro w
      rw [w]
      have e2 : nI y - nI y = nI (y - y) := nsub (Nat.le_refl y)
      rw [e2, Nat.sub_self]
      rfl
  have ep : ∀ x y : Nat, x < 2 ^ 30 → y < 2 ^ 30 → (0 < nI x - nI y) = (y < x) := fun x y hx hy => by
    apply propext
    have e := pk_sub_toInt hx hy
    rw [Int32.lt_iff_toInt_lt, e, show (0 : Int32).toInt = 0 by decide]
    omega
  have last : ∀ x y : Nat, x < 2 ^ 30 → y < 2 ^ 30 → fX3_isAhead_50 N (rm M0 A) (nI a) (nI b) (nI x - nI y) = some (nI (bN (y < x ∨ (x = y ∧ a < b)))) := by
    intro x y hx hy
    unfold fX3_isAhead_50 fX3_isAhead_63 fX3_isAhead_67 fX3_isAhead_68
    rw [z0, z1, ite_le (by omega) (by omega)]
    simp only [ez x y hx hy, ep x y hx hy]
    by_cases q1 : y < x
    · rw [if_pos q1, bN_t (Or.inl q1)]; rfl
    · rw [if_neg q1]
      by_cases q2 : x = y
      · rw [if_pos q2]
        by_cases q3 : b ≤ a
        · rw [if_pos q3, bN_f (by omega)]; rfl
        · rw [if_neg q3, bN_t (by omega)]; rfl
      · rw [if_neg q2, bN_f (by omega)]; rfl
  have h5a := h5 a
  have h5b := h5 b
  unfold mX3_isAhead
  rw [r0_lastTerm hl2 ha h5a, bdP_n, r0_lastTerm hl2 hb h5b, bdP_n]
  simp only [ez _ _ la lb]
  by_cases q0 : lastT A a = lastT A b
  · rw [if_pos q0, show (6 : Int32) = nI 6 from rfl, x3_of6 ha, bdP_n, x3_of6 hb, bdP_n]
    unfold fX3_isAhead_32
    simp only [ez (A 5 a) (A 5 b) (hlt _ _) (hlt _ _)]
    by_cases q5 : A 5 a = A 5 b
    · rw [if_pos q5, show (5 : Int32) = nI 5 from rfl, x3_of5 ha, bdP_n, x3_of5 hb, bdP_n, last _ _ (hlt _ _) (hlt _ _)]
      by_cases w : ahead A a b
      · rw [bN_t w, bN_t (by have : lastT A b < lastT A a ∨ (lastT A a = lastT A b ∧ (A 5 b < A 5 a ∨ (A 5 a = A 5 b ∧ (A 6 b < A 6 a ∨ (A 6 a = A 6 b ∧ a < b))))) := w; omega)]
      · rw [bN_f w, bN_f (by have : ¬ (lastT A b < lastT A a ∨ (lastT A a = lastT A b ∧ (A 5 b < A 5 a ∨ (A 5 a = A 5 b ∧ (A 6 b < A 6 a ∨ (A 6 a = A 6 b ∧ a < b)))))) := w; omega)]
    · rw [if_neg q5, last _ _ (hlt _ _) (hlt _ _)]
      by_cases w : ahead A a b
      · rw [bN_t w, bN_t (by have : lastT A b < lastT A a ∨ (lastT A a = lastT A b ∧ (A 5 b < A 5 a ∨ (A 5 a = A 5 b ∧ (A 6 b < A 6 a ∨ (A 6 a = A 6 b ∧ a < b))))) := w; omega)]
      · rw [bN_f w, bN_f (by have : ¬ (lastT A b < lastT A a ∨ (lastT A a = lastT A b ∧ (A 5 b < A 5 a ∨ (A 5 a = A 5 b ∧ (A 6 b < A 6 a ∨ (A 6 a = A 6 b ∧ a < b)))))) := w; omega)]
  · rw [if_neg q0]
    unfold fX3_isAhead_32
    simp only [ez _ _ la lb]
    rw [if_neg q0, last _ _ la lb]
    by_cases w : ahead A a b
    · rw [bN_t w, bN_t (by have : lastT A b < lastT A a ∨ (lastT A a = lastT A b ∧ (A 5 b < A 5 a ∨ (A 5 a = A 5 b ∧ (A 6 b < A 6 a ∨ (A 6 a = A 6 b ∧ a < b))))) := w; omega)]
    · rw [bN_f w, bN_f (by have : ¬ (lastT A b < lastT A a ∨ (lastT A a = lastT A b ∧ (A 5 b < A 5 a ∨ (A 5 a = A 5 b ∧ (A 6 b < A 6 a ∨ (A 6 a = A 6 b ∧ a < b)))))) := w; omega)]
def ahB (A : AT) (c : Nat) (b : Nat) : Bool := decide (ahead A b c)
theorem c0_aheadL {N c : Nat} {A : AT} (hlt : ∀ f i, A f i < 2 ^ 30) (h5 : ∀ x, A 5 x ≤ 12) (hc : c < 5) : ∀ (k n i : Nat), k < n → i + k = 5 → fX0_campsAheadOf_4 N (pcK A) n (nI c) (nI (cntN (ahB A c) i)) (nI i) = some (nI (cntN (ahB A c) 5)) := by
  intro k
  induction k with
  | zero =>
    intro n i hn hi
    obtain ⟨m, rfl⟩ : ∃ m, n = m + 1 := ⟨n - 1, by omega⟩
    unfold fX0_campsAheadOf_4
    rw [show (5 : Int32) = nI 5 from rfl, ite_le (by omega) (by omega), if_pos (by omega), show i = 5 by omega]
  | succ k ih =>
    intro n i hn hi
    obtain ⟨m, rfl⟩ : ∃ m, n = m + 1 := ⟨n - 1, by omega⟩
    have e := ih m (i + 1) (by omega) (by omega)
    have hi5 : i < 5 := by omega
    have e1 : cntN (ahB A c) (i + 1) = cntN (ahB A c) i + (if ahB A c i = true then 1 else 0) := rfl
    unfold fX0_campsAheadOf_4 fX0_campsAheadOf_21
    rw [show (5 : Int32) = nI 5 from rfl, ite_le (by omega) (by omega), if_neg (by omega), c0_isAhead hlt h5 hi5 hc, bdP_n, ite_b0, i1, nadd, nadd]
    by_cases q : ahead A i c
    · rw [if_pos (show ahB A c i = true by unfold ahB; rw [decide_eq_true_iff]; exact q)] at e1
      rw [if_pos q]
      rw [e1] at e
      exact e
    · rw [if_neg (show ¬ ahB A c i = true by unfold ahB; rw [decide_eq_true_iff]; exact q)] at e1
      rw [if_neg q]
      rw [e1] at e
      exact e
theorem r2_aheadL {N c p : Nat} {M0 : KT} {A : AT} {w : Int32} {k2 : Int32 → Int32 → Option Int32} (hlt : ∀ f i, A f i < 2 ^ 30) (h5 : ∀ x, A 5 x ≤ 12) (hc : c < 5) : ∀ (k n i : Nat), k < n → i + k = 5 → fX3_ranked_12 N (rm M0 A) k2 n w (nI c) (nI (cntN (ahB A c) i)) (nI i) = fX3_ranked_43 N (rm M0 A) k2 w (nI c) (nI (cntN (ahB A c) 5)) := by
  intro k
  induction k with
  | zero =>
    intro n i hn hi
    obtain ⟨m, rfl⟩ : ∃ m, n = m + 1 := ⟨n - 1, by omega⟩
    unfold fX3_ranked_12
    rw [show (5 : Int32) = nI 5 from rfl, ite_le (by omega) (by omega), if_pos (by omega), show i = 5 by omega]
  | succ k ih =>
    intro n i hn hi
    obtain ⟨m, rfl⟩ : ∃ m, n = m + 1 := ⟨n - 1, by omega⟩
    have e := ih m (i + 1) (by omega) (by omega)
    have hi5 : i < 5 := by omega
    have e1 : cntN (ahB A c) (i + 1) = cntN (ahB A c) i + (if ahB A c i = true then 1 else 0) := rfl
    unfold fX3_ranked_12 fX3_ranked_37
    rw [show (5 : Int32) = nI 5 from rfl, ite_le (by omega) (by omega), if_neg (by omega), ite_eq (by omega) (by omega), r2_isAhead hlt h5 hi5 hc, bdP_n, ite_b0, i1, nadd, nadd]
    by_cases q : ahead A i c
    · rw [if_pos (show ahB A c i = true by unfold ahB; rw [decide_eq_true_iff]; exact q)] at e1
      have hic : i ≠ c := fun z => by
        rw [z] at q
        have : lastT A c < lastT A c ∨ (lastT A c = lastT A c ∧ (A 5 c < A 5 c ∨ (A 5 c = A 5 c ∧ (A 6 c < A 6 c ∨ (A 6 c = A 6 c ∧ c < c))))) := q
        omega
      rw [if_neg hic, if_pos q]
      rw [e1] at e
      exact e
    · rw [if_neg (show ¬ ahB A c i = true by unfold ahB; rw [decide_eq_true_iff]; exact q)] at e1
      rw [e1] at e
      by_cases z : i = c
      · rw [if_pos z]; exact e
      · rw [if_neg z, if_neg q]; exact e
theorem q_rankL {N : Nat} {M0 : KT} {A : AT} {O : OT} {w : Int32} (hN : 1400 ≤ N) (hlt : ∀ f i, A f i < 2 ^ 30) (h5 : ∀ x, A 5 x ≤ 12) (ho : O 0 = pcK A) : ∀ (k n i : Nat), k < n → i + k = 5 → ∃ r, fX2_ranked_2 N O n w (nI i) = some r ∧ fX3_ranked_2 N (rm M0 A) n w (nI i) = some r := by
  intro k
  induction k with
  | zero =>
    intro n i hn hi
    obtain ⟨m, rfl⟩ : ∃ m, n = m + 1 := ⟨n - 1, by omega⟩
    unfold fX2_ranked_2 fX3_ranked_2
    rw [show (5 : Int32) = nI 5 from rfl, ite_le (by omega) (by omega), if_pos (by omega), ite_le (by omega) (by omega), if_pos (by omega)]
    exact ⟨_, rfl, rfl⟩
  | succ k ih =>
    intro n i hn hi
    obtain ⟨m, rfl⟩ : ∃ m, n = m + 1 := ⟨n - 1, by omega⟩
    have hi5 : i < 5 := by omega
    obtain ⟨r, r1, r2⟩ := ih m (i + 1) (by omega) (by omega)
    have e1 : mX0_campsAheadOf N (pcK A) (nI i) = some (nI (cntN (ahB A i) 5)) := by
      unfold mX0_campsAheadOf
      exact c0_aheadL hlt h5 hi5 5 N 0 (by omega) (by omega)
    have e2 : fX3_ranked_12 N (rm M0 A) (fX3_ranked_2 N (rm M0 A) m) N w (nI i) 0 0 = fX3_ranked_43 N (rm M0 A) (fX3_ranked_2 N (rm M0 A) m) w (nI i) (nI (cntN (ahB A i) 5)) := r2_aheadL (p := 0) hlt h5 hi5 5 N 0 (by omega) (by omega)
    unfold fX2_ranked_2 fX3_ranked_2
    rw [show (5 : Int32) = nI 5 from rfl, ite_le (by omega) (by omega), if_neg (by omega), ite_le (by omega) (by omega), if_neg (by omega), ho, e1, bdP_n, e2, show nI i + 1 = nI (i + 1) from nadd i 1]
    unfold fX3_ranked_43
    by_cases q : nI (cntN (ahB A i) 5) = w
    · rw [if_pos q, if_pos q]
      exact ⟨_, rfl, rfl⟩
    · rw [if_neg q, if_neg q, show nI i + 1 = nI (i + 1) from nadd i 1]
      exact ⟨r, r1, r2⟩
theorem q_ranked {N B : Nat} {A : AT} {O : OT} {M : KT} (hN : 1400 ≤ N) (h : St B A) (hb : B + 20000 < 2 ^ 30) (ho : O 0 = pcK A) (hm : M 0 = pcM A) (p : Int32) : ∃ r, mX2_ranked N O p = some r ∧ mX3_ranked N M p = some r := by
  obtain ⟨M0, rfl⟩ : ∃ M0, M = rm M0 A := ⟨M, (rm_self hm).symm⟩
  unfold mX2_ranked mX3_ranked
  exact q_rankL hN (h.lt (by omega)) h.2.2.1.b5 ho 5 N 0 (by omega) (by omega)
/-! all is well -/
theorem cnt_maj {p : Nat → Bool} (h : maj (fun b => p b = true)) : 3 ≤ cntN p 5 := by
  obtain ⟨a, b, c, h1, h2, h3, h4, h5, h6⟩ := h
  have e : cntN p 5 = ((((0 + (if p 0 = true then 1 else 0)) + (if p 1 = true then 1 else 0)) + (if p 2 = true then 1 else 0)) + (if p 3 = true then 1 else 0)) + (if p 4 = true then 1 else 0) := rfl
  have l : ∀ j, p j = true → (if p j = true then 1 else 0) = 1 := fun j q => if_pos q
  have z : ∀ j, 0 ≤ (if p j = true then 1 else 0) := fun j => Nat.zero_le _
  have la := l a h4
  have lb := l b h5
  have lc := l c h6
  rw [e]
  generalize e0 : (if p 0 = true then 1 else 0) = x0
  generalize e1 : (if p 1 = true then 1 else 0) = x1
  generalize e2 : (if p 2 = true then 1 else 0) = x2
  generalize e3 : (if p 3 = true then 1 else 0) = x3
  generalize e4 : (if p 4 = true then 1 else 0) = x4
  have ca : a = 0 ∨ a = 1 ∨ a = 2 := by omega
  have cb : b = 1 ∨ b = 2 ∨ b = 3 := by omega
  have cc : c = 2 ∨ c = 3 ∨ c = 4 := by omega
  rcases ca with rfl | rfl | rfl <;> rcases cb with rfl | rfl | rfl <;> rcases cc with rfl | rfl | rfl <;> omega
theorem c0_wellTogether {N B a b : Nat} {A : AT} (hN : 100 ≤ N) (h : St B A) (hb2 : B + 20000 < 2 ^ 30) (ha : a < 5) (hb : b < 5) (hab : a ≠ b) : mX0_areWellTogether N (pcK A) (nI a) (nI b) = some 1 := by
  have hlt : Lt A := h.ltA (by omega)
  have hB := h.2.2.1
  have hs := Inv_settled h.2.1 ha hb
  obtain ⟨n1, n2, -, -⟩ := alike_spec (A := A) (a := a) (b := b) (hB.b5 a)
  have h5a := hB.b5 a
  have h6a := hB.b6 a
  have h6b := hB.b6 b
  have y1 : fX0_areWellTogether_71 N (pcK A) = some 1 := by
    unfold fX0_areWellTogether_71 fX0_areWellTogether_76
    exact gdo _
  unfold mX0_areWellTogether
  rw [c0_pagesAlike hN hlt ha hb (hB.b5 a) (hB.b5 b), bdP_n, rdA_n ha (by decide), rdA_n hb (by decide), pcK_at (by decide), pcK_at (by decide), imin_n (by omega) (by omega), ite_lt (by omega) (by omega), if_neg (by omega), c0_halves hN h hb2 ha hb, bdP_n, if_pos rfl, rdA_n ha (by decide), pcK_at (by decide), ite_z (hlt _ _), y1]
  by_cases c1 : A 2 a = 0
  · rw [if_pos c1]
  · rw [if_neg c1, rdA_n hb (by decide), pcK_at (by decide), ite_z (hlt _ _)]
    by_cases c2 : A 2 b = 0
    · rw [if_pos c2]
    · rw [if_neg c2, rdA_n ha (by decide), rdA_n hb (by decide), pcK_at (by decide), pcK_at (by decide), ite_eq (hlt _ _) (hlt _ _), if_neg (fun q => hab (Inv_one h.2.1 ha hb (by have := hB.b2 a; omega) (by have := hB.b2 b; omega) q))]
theorem c0_wellIn {N B a : Nat} {A : AT} {k2 : Int32 → Option Int32} (hN : 100 ≤ N) (h : St B A) (hb2 : B + 20000 < 2 ^ 30) (ha : a < 5) : ∀ (k n i : Nat), k < n → i + k = a → fX0_isAllWell_26 N (pcK A) k2 n (nI a) (nI i) = k2 (nI (a + 1)) := by
  intro k
  induction k with
  | zero =>
    intro n i hn hi
    obtain ⟨m, rfl⟩ : ∃ m, n = m + 1 := ⟨n - 1, by omega⟩
    unfold fX0_isAllWell_26 fX0_isAllWell_48
    rw [ite_le (by omega) (by omega), if_pos (by omega), i1, nadd]
  | succ k ih =>
    intro n i hn hi
    obtain ⟨m, rfl⟩ : ∃ m, n = m + 1 := ⟨n - 1, by omega⟩
    unfold fX0_isAllWell_26
    rw [ite_le (by omega) (by omega), if_neg (by omega), c0_wellTogether hN h hb2 ha (by omega) (by omega), bdP_n, if_neg (show ¬ (1 : Int32) = 0 by decide), i1, nadd]
    exact ih m (i + 1) (by omega) (by omega)
theorem c0_wellL {N B : Nat} {A : AT} (hN : 100 ≤ N) (h : St B A) (hb2 : B + 20000 < 2 ^ 30) : ∀ (k n i : Nat), k < n → i + k = 5 → fX0_isAllWell_2 N (pcK A) n (nI i) = some 1 := by
  have hlt : Lt A := h.ltA (by omega)
  have hB := h.2.2.1
  intro k
  induction k with
  | zero =>
    intro n i hn hi
    obtain ⟨m, rfl⟩ : ∃ m, n = m + 1 := ⟨n - 1, by omega⟩
    unfold fX0_isAllWell_2
    rw [show (5 : Int32) = nI 5 from rfl, ite_le (by omega) (by omega), if_pos (by omega)]
  | succ k ih =>
    intro n i hn hi
    obtain ⟨m, rfl⟩ : ∃ m, n = m + 1 := ⟨n - 1, by omega⟩
    have hi5 : i < 5 := by omega
    have h6 := hB.b6 i
    have hm : 3 ≤ cntN (alkB A i (A 6 i)) 5 := by
      refine cnt_maj (maj_mono (fun b _ q => ?_) (Inv_most h.2.1 hi5))
      unfold alkB
      rw [decide_eq_true_iff]
      exact q
    have hl := cntN_le (p := alkB A i (A 6 i)) 5
    unfold fX0_isAllWell_2
    rw [show (5 : Int32) = nI 5 from rfl, ite_le (by omega) (by omega), if_neg (by omega), rdA_n hi5 (by decide), pcK_at (by decide), c0_camps hN hlt hB.b5 hi5 (by omega), bdP_n, i3, ite_le (by omega) (by omega), if_pos hm, show fX0_isAllWell_26 N (pcK A) (fX0_isAllWell_2 N (pcK A) m) N (nI i) 0 = _ from c0_wellIn hN h hb2 hi5 i N 0 (by omega) (by omega)]
    exact ih m (i + 1) (by omega) (by omega)
theorem q_isWell {N B : Nat} {A : AT} {O : OT} {M : KT} (hN : 1400 ≤ N) (h : St B A) (hb : B + 20000 < 2 ^ 30) (ho : O 0 = pcK A) : ∃ r, mX2_isWell N O = some r ∧ mX3_isWell N M = some r := by
  have e : mX0_isAllWell N (pcK A) = some 1 := by
    unfold mX0_isAllWell
    exact c0_wellL (by omega) h hb 5 N 0 (by omega) (by omega)
  unfold mX2_isWell mX3_isWell fX2_isWell_15
  rw [ho, e, bdP_n, if_neg (show ¬ (1 : Int32) = 0 by decide)]
  exact ⟨_, rfl, rfl⟩
theorem q_refusal {N : Nat} {O : OT} {M : KT} (h : JF O M) (p : Int32) : ∃ r, mX2_refusal N O p = some r ∧ mX3_refusal N M p = some r := by
  unfold mX2_refusal mX3_refusal fX3_refusal_49
  rcases ix2 p (n := 3) (by decide) with z | ⟨v, hv, rfl⟩
  · have h02 : ¬ (0 ≤ p ∧ p ≤ nI 2) := i32_off (n := 2) (by decide) z
    rw [show mX3_in N p 0 2 = some 0 from r2_in_y (n := 2) (by decide) z, bdP_n, if_pos (show (0 : Int32) = 0 from rfl), if_neg (show ¬ p = 0 from fun e => h02 (by rw [e]; decide)), if_neg (show ¬ p = 1 from fun e => h02 (by rw [e]; decide)), if_neg (show ¬ p = 2 from fun e => h02 (by rw [e]; decide))]
    exact ⟨_, rfl, rfl⟩
  · rw [show mX3_in N (nI v) 0 2 = some 1 from r2_in_n (n := 2) (by decide) (by omega), bdP_n, if_neg (show ¬ (1 : Int32) = 0 by decide), ite_z (by omega), ite_o (by omega), ite_z (by omega), ite_o (by omega), show (2 : Int32) = nI 2 from rfl, ite_eq (by omega) (by decide)]
    rcases h with ⟨h0, h4, h5, h6⟩ | ⟨h0, h4, h5, h6⟩
    · rw [if_pos h0, h4, h5, h6]
      refine ⟨-4, ?_, rfl⟩
      by_cases v0 : v = 0
      · rw [if_pos v0]
      · rw [if_neg v0]
        by_cases v1 : v = 1
        · rw [if_pos v1]
        · rw [if_neg v1, if_pos (by omega)]
    · rw [if_neg h0, h4, h5, h6]
      by_cases v0 : v = 0
      · rw [if_pos v0, if_pos v0]; exact ⟨_, rfl, rfl⟩
      · rw [if_neg v0, if_neg v0]
        by_cases v1 : v = 1
        · rw [if_pos v1, if_pos v1]; exact ⟨_, rfl, rfl⟩
        · rw [if_neg v1, if_neg v1, if_pos (by omega)]; exact ⟨_, rfl, rfl⟩
