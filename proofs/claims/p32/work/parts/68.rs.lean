/-! ===== roads, sleep, hours that are passed ===== -/
def sumN (g : Nat → Nat) : Nat → Nat
  | 0 => 0
  | k + 1 => sumN g k + g k
def maxN (g : Nat → Nat) : Nat → Nat
  | 0 => 0
  | k + 1 => max (maxN g k) (g k)
theorem sumN_mono {g : Nat → Nat} : ∀ {j i : Nat}, i ≤ j → sumN g i ≤ sumN g j := by
  intro j
  induction j with
  | zero => intro i h; rw [show i = 0 by omega]; exact Nat.le_refl _
  | succ j ih =>
    intro i h
    by_cases q : i = j + 1
    · rw [q]; exact Nat.le_refl _
    · have h2 := ih (i := i) (by omega)
      unfold sumN
      cases i with
      | zero => exact Nat.zero_le _
      | succ i =>
        have h3 : sumN g (i + 1) = sumN g i + g i := rfl
        rw [h3] at h2
        show sumN g i + g i ≤ sumN g j + g j
        omega
theorem sumN_le {g : Nat → Nat} {b : Nat} (h : ∀ i, g i ≤ b) : ∀ k, sumN g k ≤ b * k := by
  intro k
  induction k with
  | zero => exact Nat.le_refl _
  | succ k ih =>
    have h2 := h k
    show sumN g k + g k ≤ b * (k + 1)
    rw [Nat.mul_succ]
    omega
theorem maxN_le {g : Nat → Nat} {b : Nat} (h : ∀ i, g i ≤ b) : ∀ k, maxN g k ≤ b := by
  intro k
  induction k with
  | zero => exact Nat.zero_le _
  | succ k ih =>
    have h2 := h k
    show max (maxN g k) (g k) ≤ b
    omega
theorem c2_sumL {N n0 : Nat} {a : Nat → Int32} {g : Nat → Nat} (hn0 : n0 < 65536) (ha : ∀ i, i < n0 → a i = nI (g i)) : ∀ (k n i : Nat), k < n → i + k = n0 → fX2_sumOf_10 N n0 a n (nI (sumN g i)) (nI n0) (nI i) = some (nI (sumN g n0)) := by
  intro k
  induction k with
  | zero =>
    intro n i hn hi
    obtain ⟨m, rfl⟩ : ∃ m, n = m + 1 := ⟨n - 1, by omega⟩
    unfold fX2_sumOf_10
    rw [ite_le (by omega) (by omega), if_pos (by omega), show i = n0 by omega]
  | succ k ih =>
    intro n i hn hi
    obtain ⟨m, rfl⟩ : ∃ m, n = m + 1 := ⟨n - 1, by omega⟩
    unfold fX2_sumOf_10
    rw [ite_le (by omega) (by omega), if_neg (by omega), rdA_n (by omega) hn0, ha i (by omega), nadd, i1, nadd]
    exact ih m (i + 1) (by omega) (by omega)
theorem c2_sumOf {N n0 : Nat} {a : Nat → Int32} {g : Nat → Nat} (hN : n0 < N) (hn0 : n0 < 65536) (ha : ∀ i, i < n0 → a i = nI (g i)) : mX2_sumOf N n0 a = some (nI (sumN g n0)) := by
  unfold mX2_sumOf
  exact c2_sumL hn0 ha n0 N 0 hN (by omega)
theorem c2_maxL {N n0 : Nat} {a : Nat → Int32} {g : Nat → Nat} (hn0 : n0 < 65536) (hg : ∀ i, g i < 2 ^ 30) (ha : ∀ i, i < n0 → a i = nI (g i)) : ∀ (k n i : Nat), k < n → i + k = n0 → fX2_greatestOf_10 N n0 a n (nI (maxN g i)) (nI n0) (nI i) = some (nI (maxN g n0)) := by
  intro k
  induction k with
  | zero =>
    intro n i hn hi
    obtain ⟨m, rfl⟩ : ∃ m, n = m + 1 := ⟨n - 1, by omega⟩
    unfold fX2_greatestOf_10
    rw [ite_le (by omega) (by omega), if_pos (by omega), show i = n0 by omega]
  | succ k ih =>
    intro n i hn hi
    obtain ⟨m, rfl⟩ : ∃ m, n = m + 1 := ⟨n - 1, by omega⟩
    have hm : maxN g i ≤ 2 ^ 30 := maxN_le (fun j => Nat.le_of_lt (hg j)) i
    have hgi := hg i
    unfold fX2_greatestOf_10
    rw [ite_le (by omega) (by omega), if_neg (by omega), rdA_n (by omega) hn0, ha i (by omega), imax_n (by omega) (by omega), i1, nadd]
    exact ih m (i + 1) (by omega) (by omega)
theorem c2_greatestOf {N n0 : Nat} {a : Nat → Int32} {g : Nat → Nat} (hN : n0 < N) (hn0 : n0 < 65536) (hg : ∀ i, g i < 2 ^ 30) (ha : ∀ i, i < n0 → a i = nI (g i)) : mX2_greatestOf N n0 a = some (nI (maxN g n0)) := by
  unfold mX2_greatestOf
  exact c2_maxL hn0 hg ha n0 N 0 hN (by omega)
theorem c0_openRoads {N : Nat} {A : AT} (hN : 100 ≤ N) (h9 : ∀ k, A 9 k ≤ 1) : mX0_openRoads N (pcK A) = some (nI (sumN (A 9) 25 / 2)) := by
  have hs := sumN_le h9 25
  unfold mX0_openRoads
  rw [c2_sumOf (g := A 9) (by omega) (by decide) (fun i _ => pcK_at (by decide)), bdP_n, i2, pk_div (by omega) (by decide) (by decide)]
def cl (A : AT) (k : Nat) : Nat := if k / 5 < k % 5 then 1 - A 9 k else 0
theorem open_eq {A : AT} (h9 : ∀ k, A 9 k ≤ 1) (hr : Rd A) : 10 - sumN (cl A) 25 = sumN (A 9) 25 / 2 ∧ sumN (cl A) 25 ≤ 10 := by
  have d0 : A 9 0 = 0 := hr.1 0 (by decide)
  have d1 : A 9 6 = 0 := hr.1 1 (by decide)
  have d2 : A 9 12 = 0 := hr.1 2 (by decide)
  have d3 : A 9 18 = 0 := hr.1 3 (by decide)
  have d4 : A 9 24 = 0 := hr.1 4 (by decide)
  have s01 : A 9 1 = A 9 5 := hr.2 0 1 (by decide) (by decide)
  have s02 : A 9 2 = A 9 10 := hr.2 0 2 (by decide) (by decide)
  have s03 : A 9 3 = A 9 15 := hr.2 0 3 (by decide) (by decide)
  have s04 : A 9 4 = A 9 20 := hr.2 0 4 (by decide) (by decide)
  have s12 : A 9 7 = A 9 11 := hr.2 1 2 (by decide) (by decide)
  have s13 : A 9 8 = A 9 16 := hr.2 1 3 (by decide) (by decide)
  have s14 : A 9 9 = A 9 21 := hr.2 1 4 (by decide) (by decide)
  have s23 : A 9 13 = A 9 17 := hr.2 2 3 (by decide) (by decide)
  have s24 : A 9 14 = A 9 22 := hr.2 2 4 (by decide) (by decide)
  have s34 : A 9 19 = A 9 23 := hr.2 3 4 (by decide) (by decide)
  have b01 := h9 1
  have b02 := h9 2
  have b03 := h9 3
  have b04 := h9 4
  have b12 := h9 7
  have b13 := h9 8
  have b14 := h9 9
  have b23 := h9 13
  have b24 := h9 14
  have b34 := h9 19
  have e1 : sumN (cl A) 25 = (((((((((((((((((((((((((0 + 0) + (1 - A 9 1)) + (1 - A 9 2)) + (1 - A 9 3)) + (1 - A 9 4)) + 0) + 0) + (1 - A 9 7)) + (1 - A 9 8)) + (1 - A 9 9)) + 0) + 0) + 0) + (1 - A 9 13)) + (1 - A 9 14)) + 0) + 0) + 0) + 0) + (1 - A 9 19)) + 0) + 0) + 0) + 0) + 0) := rfl
  have e2 : sumN (A 9) 25 = (((((((((((((((((((((((((0 + A 9 0) + A 9 1) + A 9 2) + A 9 3) + A 9 4) + A 9 5) + A 9 6) + A 9 7) + A 9 8) + A 9 9) + A 9 10) + A 9 11) + A 9 12) + A 9 13) + A 9 14) + A 9 15) + A 9 16) + A 9 17) + A 9 18) + A 9 19) + A 9 20) + A 9 21) + A 9 22) + A 9 23) + A 9 24) := rfl
  rw [e1, e2]
  clear e1 e2
  omega
theorem r2_openL {N : Nat} {M0 : KT} {A : AT} (h10 : sumN (cl A) 25 ≤ 10) : ∀ (k n i : Nat), k < n → i + k = 25 → fX3_openRoads_5 N (rm M0 A) n (nI (10 - sumN (cl A) i)) (nI i) = some (nI (10 - sumN (cl A) 25)) := by
  intro k
  induction k with
  | zero =>
    intro n i hn hi
    obtain ⟨m, rfl⟩ : ∃ m, n = m + 1 := ⟨n - 1, by omega⟩
    unfold fX3_openRoads_5
    rw [show (25 : Int32) = nI 25 from rfl, ite_le (by omega) (by omega), if_pos (by omega), show i = 25 by omega]
  | succ k ih =>
    intro n i hn hi
    obtain ⟨m, rfl⟩ : ∃ m, n = m + 1 := ⟨n - 1, by omega⟩
    have e : pcM A (6 + i) = nI (cl A i) := by
      unfold pcM pmN cl
      rw [if_neg (by omega), if_pos (by omega), show 6 + i - 6 = i by omega]
    have h1 : sumN (cl A) (i + 1) ≤ sumN (cl A) 25 := sumN_mono (by omega)
    have h2 : sumN (cl A) (i + 1) = sumN (cl A) i + cl A i := rfl
    unfold fX3_openRoads_5
    rw [show (25 : Int32) = nI 25 from rfl, ite_le (by omega) (by omega), if_neg (by omega), i6, nadd, rdA_n (by omega) (by decide), rm_0, e, nsub (by omega), i1, nadd, show 10 - sumN (cl A) i - cl A i = 10 - sumN (cl A) (i + 1) by omega]
    exact ih m (i + 1) (by omega) (by omega)
theorem r2_openRoads {N : Nat} {M0 : KT} {A : AT} (hN : 100 ≤ N) (h9 : ∀ k, A 9 k ≤ 1) (hr : Rd A) : mX3_openRoads N (rm M0 A) = some (nI (sumN (A 9) 25 / 2)) := by
  obtain ⟨e1, e2⟩ := open_eq h9 hr
  unfold mX3_openRoads
  rw [← e1]
  exact r2_openL e2 25 N 0 (by omega) (by omega)
def roadS (A : AT) (a b v : Nat) : AT := aset (aset A 9 (a * 5 + b) v) 9 (b * 5 + a) v
theorem oset_same {O : OT} {j : Nat} {a b : KT} : oset (oset O j a) j b = oset O j b := by
  funext i
  by_cases q : i = j
  · rw [q, oset_eq, oset_eq]
  · rw [oset_ne q, oset_ne q, oset_ne q]
theorem oset_self {O : OT} {j : Nat} {a : KT} (h : O j = a) : oset O j a = O := by
  funext i
  by_cases q : i = j
  · rw [q, oset_eq, h]
  · rw [oset_ne q]
theorem rd_road {A : AT} {a b : Nat} (ha : a < 5) (hb : b < 5) (hab : a ≠ b) (hr : Rd A) : pcM A (6 + 5 * min a b + max a b) = nI (1 - A 9 (a * 5 + b)) := by
  unfold pcM pmN
  rw [if_neg (by omega), if_pos (by omega), if_pos (by omega)]
  rcases Nat.lt_or_ge a b with q | q
  · rw [Nat.min_eq_left (by omega), Nat.max_eq_right (by omega), show 6 + 5 * a + b - 6 = a * 5 + b by omega]
  · rw [Nat.min_eq_right q, Nat.max_eq_left q, show 6 + 5 * b + a - 6 = b * 5 + a by omega, hr.2 a b ha hb]
theorem wr_road {β : Type} {M0 : KT} {A : AT} {a b v : Nat} {k : KT → Option β} (ha : a < 5) (hb : b < 5) (hab : a ≠ b) : wrA (rm M0 A) 0 186 (nI (6 + 5 * min a b + max a b)) (nI (1 - v)) k = k (rm M0 (roadS A a b v)) := by
  rw [wrA_n (by omega) (by decide)]
  unfold roadS
  rcases Nat.lt_or_ge a b with q | q
  · rw [Nat.min_eq_left (by omega), Nat.max_eq_right (by omega), fset_rm M0 A _ _ _ (pm_u9 q hb)]
  · rw [Nat.min_eq_right q, Nat.max_eq_left q, fset_rm M0 A _ _ _ (pm_u9 (a := b) (b := a) (by omega) ha), aset_comm A (f := 9) (g := 9) (i := b * 5 + a) (j := a * 5 + b) (Or.inr (by omega))]
theorem St_road {B a b v : Nat} {A : AT} (h : St B A) (ha : a < 5) (hb : b < 5) (hab : a ≠ b) (hv : v < 2) : St B (roadS A a b v) := by
  have e : ∀ f x, f ≠ 9 → roadS A a b v f x = A f x := fun f x hf => by
    unfold roadS
    rw [aset_f hf, aset_f hf]
  have e9 : ∀ x y, x < 5 → y < 5 → roadS A a b v 9 (x * 5 + y) = if (x = a ∧ y = b) ∨ (x = b ∧ y = a) then v else A 9 (x * 5 + y) := fun x y hx hy => by
    unfold roadS
    by_cases q1 : x = b ∧ y = a
    · rw [if_pos (Or.inr q1), q1.1, q1.2, aset_eq]
    · rw [aset_i (by omega)]
      by_cases q2 : x = a ∧ y = b
      · rw [if_pos (Or.inl q2), q2.1, q2.2, aset_eq]
      · rw [aset_i (by omega), if_neg (by omega)]
  refine ⟨h.1, Inv_congr ⟨fun c _ => ⟨e _ _ (by decide), e _ _ (by decide), e _ _ (by decide), e _ _ (by decide), e _ _ (by decide), e _ _ (by decide)⟩, fun j _ => ⟨e _ _ (by decide), e _ _ (by decide)⟩⟩ h.2.1, ?_, ?_, ?_⟩
  · exact (h.2.2.1.set (f := 9) (show v ≤ 1 by omega)).set (f := 9) (show v ≤ 1 by omega)
  · intro x hx
    rw [e9 x x hx hx, if_neg (by omega)]
    exact h.2.2.2.1 x hx
  · intro x y hx hy
    rw [e9 x y hx hy, e9 y x hy hx]
    by_cases q : (x = a ∧ y = b) ∨ (x = b ∧ y = a)
    · rw [if_pos q, if_pos (by omega)]
    · rw [if_neg q, if_neg (by omega)]
      exact h.2.2.2.2 x y hx hy
theorem ic_road {N B : Nat} {A : AT} {O : OT} {M : KT} (hN : 1400 ≤ N) (h : St B A) (hb : B + 20000 < 2 ^ 30) (ho : O 0 = pcK A) (hm : M 0 = pcM A) (p q s : Int32) : IC B A O M (mX2_turnRoad N O p q s) (mX3_opens N M p q s) := by
  obtain ⟨M0, rfl⟩ : ∃ M0, M = rm M0 A := ⟨M, (rm_self hm).symm⟩
  have hlt : Lt A := h.ltA (by omega)
  have hB := h.2.2.1
  unfold mX2_turnRoad mX3_opens
  rcases ix2 p (n := 5) (by decide) with w | ⟨a, ha, rfl⟩
  · rw [c2_noCamp_y w, r2_camp_y w, bdP_n, bdP_n, if_neg (show ¬ (1 : Int32) = 0 by decide), if_pos rfl]
    exact IC_fail ho hm (Or.inl rfl)
  rw [c2_noCamp_n ha, bdP_n, if_pos rfl, r2_camp_n ha, bdP_n, if_neg (show ¬ (1 : Int32) = 0 by decide)]
  rcases ix2 q (n := 5) (by decide) with w | ⟨b, hb5, rfl⟩
  · rw [c2_noCamp_y w, r2_camp_y w, bdP_n, bdP_n, if_neg (show ¬ (1 : Int32) = 0 by decide), if_pos rfl]
    exact IC_fail ho hm (Or.inl rfl)
  rw [c2_noCamp_n hb5, bdP_n, if_pos rfl, r2_camp_n hb5, bdP_n, if_neg (show ¬ (1 : Int32) = 0 by decide)]
  rcases ix2 s (n := 2) (by decide) with w | ⟨v, hv, rfl⟩
  · rw [c2_noSwitch_y w, show mX3_in N s 0 1 = some 0 from r2_in_y (n := 1) (by decide) w, bdP_n, bdP_n, if_neg (show ¬ (1 : Int32) = 0 by decide), if_pos rfl]
    exact IC_fail ho hm (Or.inr rfl)
  rw [c2_noSwitch_n hv, bdP_n, if_pos rfl, show mX3_in N (nI v) 0 1 = some 1 from r2_in_n (n := 1) (by decide) (by omega), bdP_n, if_neg (show ¬ (1 : Int32) = 0 by decide), ite_eq (by omega) (by omega), ite_eq (by omega) (by omega)]
  by_cases hab : a = b
  · rw [if_pos hab, if_pos hab]
    obtain ⟨O', o0, o1, o2⟩ := c2_refuse (N := N) (O := O) (w := 4) (d := nI a)
    obtain ⟨M', m0, m1, m2⟩ := r2_refuse (N := N) (M := rm M0 A) (w := 4) (d := nI a)
    rw [o0, m0, bdO_n, bdE_n]
    exact IC_refuse ho hm (by decide) o1 o2 m1 m2
  · rw [if_neg hab, if_neg hab, r0_road ha hb5, bdP_n, rdA_n (by omega) (by decide), rm_0, rd_road ha hb5 hab h.2.2.2, ho, i5, nmul, nadd, rdA_n (by omega) (by decide), pcK_at (f := 9) (by decide), ite_eq (hlt _ _) (by omega), show (1 : Int32) - nI v = nI (1 - v) from nsub (a := 1) (by omega), ite_eq (by omega) (by omega)]
    have h9 := hB.b9 (a * 5 + b)
    by_cases hv9 : A 9 (a * 5 + b) = v
    · rw [if_pos hv9, if_pos (by omega)]
      obtain ⟨O', o0, o1, o2⟩ := c2_refuse (N := N) (O := O) (w := nI 5) (d := nI v)
      obtain ⟨M', m0, m1, m2⟩ := r2_refuse (N := N) (M := rm M0 A) (w := nI 5) (d := nI v)
      rw [o0, m0, bdO_n, bdE_n]
      exact IC_refuse ho hm (by decide) o1 o2 m1 m2
    · have hs := St_road h ha hb5 hab hv
      have e2 : fset (fset (pcK A) 9 (a * 5 + b) (nI v)) 9 (b * 5 + a) (nI v) = pcK (roadS A a b v) := by rw [fset_pcK (by decide), fset_pcK (by decide)]; rfl
      rw [if_neg hv9, if_neg (by omega), wrA_n (by omega) (by decide), inO_n, oset_eq, nmul, nadd, wrA_n (by omega) (by decide), e2, inO_n, oset_eq, oset_same, c0_openRoads (by omega) hs.2.2.1.b9, bdP_n, bdP_n, wr_road ha hb5 hab, r2_openRoads (by omega) hs.2.2.1.b9 hs.2.2.2, bdP_n]
      have hsm := sumN_le hs.2.2.1.b9 25
      exact IC_ok (by omega) (hs.mono (by omega))
theorem r2_awakeL {N : Nat} {M0 : KT} {A : AT} (h3 : ∀ k, A 3 k ≤ 1) : ∀ (k n i : Nat), k < n → i + k = 5 → fX3_awake_4 N (rm M0 A) n (nI (sumN (A 3) i)) (nI i) = some (nI (sumN (A 3) 5)) := by
  intro k
  induction k with
  | zero =>
    intro n i hn hi
    obtain ⟨m, rfl⟩ : ∃ m, n = m + 1 := ⟨n - 1, by omega⟩
    unfold fX3_awake_4
    rw [show (5 : Int32) = nI 5 from rfl, ite_le (by omega) (by omega), if_pos (by omega), show i = 5 by omega]
  | succ k ih =>
    intro n i hn hi
    obtain ⟨m, rfl⟩ : ∃ m, n = m + 1 := ⟨n - 1, by omega⟩
    have hi5 : i < 5 := by omega
    have e := ih m (i + 1) (by omega) (by omega)
    have h2 : sumN (A 3) (i + 1) = sumN (A 3) i + A 3 i := rfl
    have h3i := h3 i
    unfold fX3_awake_4 fX3_awake_20
    rw [show (5 : Int32) = nI 5 from rfl, ite_le (by omega) (by omega), if_neg (by omega), r0_isAwake hi5 (h3 i), bdP_n, ite_b0, i1, nadd, nadd]
    by_cases q : A 3 i = 1
    · rw [if_pos q]
      rw [h2, q] at e
      exact e
    · rw [if_neg q]
      rw [h2, show A 3 i = 0 by omega] at e
      exact e
theorem r2_awake {N : Nat} {M0 : KT} {A : AT} (hN : 100 ≤ N) (h3 : ∀ k, A 3 k ≤ 1) : mX3_awake N (rm M0 A) = some (nI (sumN (A 3) 5)) := by
  unfold mX3_awake
  exact r2_awakeL h3 5 N 0 (by omega) (by omega)
theorem St_sleep {B c v : Nat} {A : AT} (h : St B A) (hc : c < 5) (hv : v < 2) : St B (sleepS A c v) := by
  refine ⟨h.1, sleepS_Inv h.2.1 hc, ?_, Rd_congr (fun y => by unfold sleepS; rw [aset_f (by decide), aset_f (by decide), aset_f (by decide)]) h.2.2.2⟩
  exact ((h.2.2.1.set (f := 3) (show v ≤ 1 by omega)).set (f := 2) (Nat.zero_le _)).set (f := 4) (Nat.zero_le _)
theorem ic_sleep {N B : Nat} {A : AT} {O : OT} {M : KT} (hN : 1400 ≤ N) (h : St B A) (hb : B + 20000 < 2 ^ 30) (ho : O 0 = pcK A) (hm : M 0 = pcM A) (p s : Int32) : IC B A O M (mX2_turnCamp N O p s) (mX3_sleeps N M p s) := by
  obtain ⟨M0, rfl⟩ : ∃ M0, M = rm M0 A := ⟨M, (rm_self hm).symm⟩
  have hlt : Lt A := h.ltA (by omega)
  have hB := h.2.2.1
  unfold mX2_turnCamp mX3_sleeps
  rcases ix2 p (n := 5) (by decide) with w | ⟨c, hc, rfl⟩
  · rw [c2_noCamp_y w, r2_camp_y w, bdP_n, bdP_n, if_neg (show ¬ (1 : Int32) = 0 by decide), if_pos rfl]
    exact IC_fail ho hm (Or.inl rfl)
  rw [c2_noCamp_n hc, bdP_n, if_pos rfl, r2_camp_n hc, bdP_n, if_neg (show ¬ (1 : Int32) = 0 by decide)]
  rcases ix2 s (n := 2) (by decide) with w | ⟨v, hv, rfl⟩
  · rw [c2_noSwitch_y w, show mX3_in N s 0 1 = some 0 from r2_in_y (n := 1) (by decide) w, bdP_n, bdP_n, if_neg (show ¬ (1 : Int32) = 0 by decide), if_pos rfl]
    exact IC_fail ho hm (Or.inr rfl)
  have h3 := hB.b3 c
  rw [c2_noSwitch_n hv, bdP_n, if_pos rfl, show mX3_in N (nI v) 0 1 = some 1 from r2_in_n (n := 1) (by decide) (by omega), bdP_n, if_neg (show ¬ (1 : Int32) = 0 by decide), ho, rdA_n hc (by decide), pcK_at (f := 3) (by decide), ite_eq (hlt _ _) (by omega), show (3 : Int32) = nI 3 from rfl, x3_of3 hc, bdP_n, show (1 : Int32) - nI v = nI (1 - v) from nsub (a := 1) (by omega), ite_eq (by omega) (by omega)]
  by_cases hv3 : A 3 c = v
  · rw [if_pos hv3, if_pos (by omega)]
    obtain ⟨O', o0, o1, o2⟩ := c2_refuse (N := N) (O := O) (w := 5) (d := nI v)
    obtain ⟨M', m0, m1, m2⟩ := r2_refuse (N := N) (M := rm M0 A) (w := 5) (d := nI v)
    rw [o0, m0, bdO_n, bdE_n]
    exact IC_refuse ho hm (by decide) o1 o2 m1 m2
  · have hs := St_sleep h hc hv
    have e2 : fset (fset (fset (pcK A) 3 c (nI v)) 2 c (nI 0)) 4 c (nI 0) = pcK (sleepS A c v) := by rw [fset_pcK (by decide), fset_pcK (by decide), fset_pcK (by decide)]; rfl
    have e3 : aset (aset (aset A 3 c v) 4 c 0) 2 c 0 = sleepS A c v := by
      unfold sleepS
      rw [aset_comm _ (f := 4) (g := 2) (Or.inl (by decide))]
    rw [if_neg hv3, if_neg (by omega), wrA_n hc (by decide), inO_n, oset_eq, wrA_n hc (by decide), inO_n, oset_eq, wrA_n hc (by decide), show (0 : Int32) = nI 0 from rfl, e2, inO_n, oset_eq, oset_same, oset_same, c2_sumOf (g := sleepS A c v 3) (by omega) (by decide) (fun i _ => pcK_at (by decide)), bdP_n, x3_sets3 hc, bdE_n, show (4 : Int32) = nI 4 from rfl, x3_sets4 (v := 0) hc, bdE_n, i2, x3_sets2 (v := 0) hc, bdE_n, e3, r2_awake (by omega) hs.2.2.1.b3, bdP_n]
    have hsm := sumN_le hs.2.2.1.b3 5
    exact IC_ok (by omega) (hs.mono (by omega))
/-! the captains that were made so far are never fewer -/
theorem copyL_k {a b f x : Nat} (h7 : f ≠ 7) (h8 : f ≠ 8) : ∀ (k : Nat) (A : AT) (p : Nat), copyL a b k A p f x = A f x := by
  intro k
  induction k with
  | zero => intro A p; rfl
  | succ k ih =>
    intro A p
    unfold copyL
    rw [ih, aset_f h8, aset_f h7]
theorem takeT_k {A : AT} {c t x : Nat} : takeT A c t 10 x = A 10 x := by
  unfold takeT
  rw [aset_f (by decide), aset_f (by decide), aset_f (by decide)]
theorem cap_askL {c : Nat} : ∀ (k : Nat) (A : AT) (v : Nat), A 10 1 ≤ (askL c k A v).2 10 1 := by
  intro k
  induction k with
  | zero =>
    intro A v
    unfold askL askEnd
    by_cases q : v < 3
    · rw [if_pos q]; exact Nat.le_refl _
    · rw [if_neg q]
      show A 10 1 ≤ aset (aset A 2 c 1) 10 1 (A 10 1 + 1) 10 1
      rw [aset_eq]
      omega
  | succ k ih =>
    intro A v
    unfold askL
    by_cases q1 : reach A c (4 - k)
    · rw [if_pos q1]
      by_cases q2 : A 0 c < A 0 (4 - k)
      · rw [if_pos q2]
        show A 10 1 ≤ takeT A c (A 0 (4 - k)) 10 1
        rw [takeT_k]
        exact Nat.le_refl _
      · rw [if_neg q2]
        by_cases q3 : (askTake A c (4 - k)) 1 (4 - k) = 0 ∧ far (askTake A c (4 - k)) c (4 - k)
        · rw [if_pos q3]
          have := ih (askVote (askTake A c (4 - k)) c (4 - k)) (v + 1)
          rw [askVote_f (by decide) (by decide), askTake_f (by decide)] at this
          exact this
        · rw [if_neg q3]
          have := ih (askTake A c (4 - k)) v
          rw [askTake_f (by decide)] at this
          exact this
    · rw [if_neg q1]; exact ih _ _
theorem cap_ask {c : Nat} {A : AT} : A 10 1 ≤ (ask A c).2 10 1 := by
  have h := cap_askL (c := c) 5 (askStart A c) 1
  have e : askStart A c 10 1 = A 10 1 := by
    unfold askStart
    rw [aset_f (by decide), aset_f (by decide), aset_f (by decide), aset_i (by decide)]
  rw [e] at h
  exact h
theorem cap_visitS {A : AT} {a b : Nat} : visitS A a b 10 1 = A 10 1 := by
  unfold visitS copyS
  rw [aset_f (by decide), copyL_k (by decide) (by decide)]
  have e : tearS (visitT A a b) a b 10 1 = visitT A a b 10 1 := by
    unfold tearS
    by_cases q : alike (visitT A a b) a b < visitT A a b 5 a ∧ alike (visitT A a b) a b < visitT A a b 5 b
    · rw [if_pos q, aset_f (by decide), aset_i (by decide)]
    · rw [if_neg q]
  rw [e, visitT_f (by decide) (by decide) (by decide) (by decide)]
theorem cap_goL {a : Nat} : ∀ (k : Nat) (A : AT), (goL a k A).2 10 1 = A 10 1 := by
  intro k
  induction k with
  | zero => intro A; rfl
  | succ k ih =>
    intro A
    unfold goL
    by_cases q1 : reach A a (4 - k)
    · rw [if_pos q1]
      by_cases q2 : A 0 a < A 0 (4 - k)
      · rw [if_pos q2]
        show takeT A a (A 0 (4 - k)) 10 1 = A 10 1
        exact takeT_k
      · rw [if_neg q2, ih, cap_visitS]
    · rw [if_neg q1]; exact ih _
theorem cap_goC {A : AT} {a : Nat} : goC A a 10 1 = A 10 1 := by
  have e : (goL a 5 (aset A 10 4 (A 10 4 + 1))).2 10 1 = A 10 1 := by rw [cap_goL, aset_i (by decide)]
  rw [goC_of]
  by_cases q : (goL a 5 (aset A 10 4 (A 10 4 + 1))).1 = true
  · rw [if_pos q]
    unfold settleC
    rw [spreadL_n (by decide)]
    by_cases q2 : 3 ≤ 1 + reachN (goL a 5 (aset A 10 4 (A 10 4 + 1))).2 a 5 ∧ lastT (goL a 5 (aset A 10 4 (A 10 4 + 1))).2 a = (goL a 5 (aset A 10 4 (A 10 4 + 1))).2 0 a
    · rw [if_pos q2, aset_f (by decide), e]
    · rw [if_neg q2, e]
  · rw [if_neg q, e]
theorem cap_marchL : ∀ (k : Nat) (A : AT), marchL goC k A 10 1 = A 10 1 := by
  intro k
  induction k with
  | zero => intro A; rfl
  | succ k ih =>
    intro A
    unfold marchL
    rw [ih]
    by_cases q : A 3 (4 - k) = 1 ∧ A 2 (4 - k) = 1
    · rw [if_pos q, cap_goC]
    · rw [if_neg q]
theorem cap_silenceL : ∀ (k : Nat) (A : AT), silenceL k A 10 1 = A 10 1 := by
  intro k
  induction k with
  | zero => intro A; rfl
  | succ k ih =>
    intro A
    unfold silenceL
    rw [ih]
    by_cases q : waits A (4 - k)
    · rw [if_pos q, aset_f (by decide)]
    · rw [if_neg q]
theorem cap_duskL : ∀ (k : Nat) (A : AT), A 10 1 ≤ duskL k A 10 1 := by
  intro k
  induction k with
  | zero => intro A; exact Nat.le_refl _
  | succ k ih =>
    intro A
    unfold duskL
    by_cases q : waits A (4 - k) ∧ 3 + (4 - k) ≤ A 4 (4 - k)
    · rw [if_pos q]
      exact Nat.le_trans cap_ask (ih _)
    · rw [if_neg q]; exact ih _
theorem cap_hour {A : AT} : A 10 1 ≤ hourC A 10 1 := by
  unfold hourC hourB
  have h := cap_duskL 5 (silenceL 5 (marchL goC 5 (aset A 10 5 (A 10 5 + 1))))
  rw [cap_silenceL, cap_marchL, aset_i (by decide)] at h
  exact h
def hoursN : Nat → AT → AT
  | 0, A => A
  | k + 1, A => hoursN k (hourC A)
theorem St_hours : ∀ (k B : Nat) (A : AT), St B A → St (B + 321 * k) (hoursN k A) ∧ A 10 1 ≤ hoursN k A 10 1 := by
  intro k
  induction k with
  | zero => intro B A h; exact ⟨h, Nat.le_refl _⟩
  | succ k ih =>
    intro B A h
    obtain ⟨h1, h2⟩ := ih (B + 321) (hourC A) (hour_eq h).2
    exact ⟨h1.mono (by omega), Nat.le_trans cap_hour h2⟩
theorem c2_hours {N z : Nat} {x : Int32} {O : OT} (hN : 1400 ≤ N) (hz : z ≤ 30) : ∀ (k n i B : Nat) (A : AT), k < n → i + k = z → St B A → B + 321 * k + 1000 < 2 ^ 30 → fX2_passHours_24 N n (oset O 0 (pcK A)) (nI z) x (nI i) = some (nI (hoursN k A 10 1) - x, oset O 0 (pcK (hoursN k A))) := by
  intro k
  induction k with
  | zero =>
    intro n i B A hn hi h hb
    obtain ⟨m, rfl⟩ : ∃ m, n = m + 1 := ⟨n - 1, by omega⟩
    unfold fX2_passHours_24 fX2_passHours_42 hoursN
    rw [ite_le (by omega) (by omega), if_pos (by omega), oset_eq, pcK_at (by decide)]
  | succ k ih =>
    intro n i B A hn hi h hb
    obtain ⟨m, rfl⟩ : ∃ m, n = m + 1 := ⟨n - 1, by omega⟩
    unfold fX2_passHours_24 hoursN
    rw [ite_le (by omega) (by omega), if_neg (by omega), oset_eq, c0_hour (by omega) h (by omega), bdE_n, inO_n, oset_same, i1, nadd]
    exact ih m (i + 1) (B + 321) _ (by omega) (by omega) (hour_eq h).2 (by omega)
theorem r2_hours {N z : Nat} {x : Int32} {M0 : KT} (hN : 1400 ≤ N) (hz : z ≤ 30) : ∀ (k n i B : Nat) (A : AT), k < n → i + k = z → St B A → B + 321 * k + 1000 < 2 ^ 30 → fX3_passes_22 N n (rm M0 A) (nI z) x (nI i) = some (nI (hoursN k A 10 1) - x, rm M0 (hoursN k A)) := by
  intro k
  induction k with
  | zero =>
    intro n i B A hn hi h hb
    obtain ⟨m, rfl⟩ : ∃ m, n = m + 1 := ⟨n - 1, by omega⟩
    unfold fX3_passes_22 fX3_passes_37 hoursN
    rw [ite_le (by omega) (by omega), if_pos (by omega), i1, rd_cnt (by decide)]
  | succ k ih =>
    intro n i B A hn hi h hb
    obtain ⟨m, rfl⟩ : ∃ m, n = m + 1 := ⟨n - 1, by omega⟩
    unfold fX3_passes_22 hoursN
    rw [ite_le (by omega) (by omega), if_neg (by omega), r0_hour (by omega) h (by omega), bdE_n, i1, nadd]
    exact ih m (i + 1) (B + 321) _ (by omega) (by omega) (hour_eq h).2 (by omega)
theorem ic_pass {N B : Nat} {A : AT} {O : OT} {M : KT} (hN : 1400 ≤ N) (h : St B A) (hb : B + 20000 < 2 ^ 30) (ho : O 0 = pcK A) (hm : M 0 = pcM A) (p : Int32) : IC B A O M (mX2_passHours N O p) (mX3_passes N M p) := by
  obtain ⟨M0, rfl⟩ : ∃ M0, M = rm M0 A := ⟨M, (rm_self hm).symm⟩
  unfold mX2_passHours mX3_passes
  rcases ix2 p (n := 31) (by decide) with w | ⟨z, hz, rfl⟩
  · have h30 : ¬ (0 ≤ p ∧ p ≤ nI 30) := i32_off (n := 30) (by decide) w
    have h1 : ¬ (1 ≤ p ∧ p ≤ 30) := fun q => h30 ⟨Int32.le_trans (by decide) q.1, q.2⟩
    rw [r0_in, bN_f h1, bdP_n, if_pos (show nI 0 = 0 from rfl)]
    by_cases q1 : p < 1
    · rw [if_pos q1]
      exact IC_fail ho hm (Or.inr rfl)
    · rw [if_neg q1, if_neg (fun q => h1 ⟨Int32.not_lt.mp q1, q⟩)]
      exact IC_fail ho hm (Or.inr rfl)
  · by_cases hz0 : z = 0
    · subst hz0
      rw [r0_in, bN_f (by decide), bdP_n, if_pos (show nI 0 = 0 from rfl), if_pos (show nI 0 < 1 by decide)]
      exact IC_fail ho hm (Or.inr rfl)
    · obtain ⟨hs, hc⟩ := St_hours z B A h
      have e2 := c2_hours (N := N) (z := z) (x := O 0 10 1) (O := O) hN (by omega) z N 0 B A (by omega) (by omega) h (by omega)
      have e3 := r2_hours (N := N) (z := z) (x := nI (A 10 1)) (M0 := M0) hN (by omega) z N 0 B A (by omega) (by omega) h (by omega)
      rw [oset_self ho, ho, pcK_at (by decide), nsub hc] at e2
      rw [nsub hc] at e3
      rw [r0_in, bN_t (show (1 : Int32) ≤ nI z ∧ nI z ≤ 30 from ⟨nI_le (a := 1) (by omega) (by omega), nI_le (b := 30) (by omega) (by decide)⟩), bdP_n, if_neg (show ¬ nI 1 = 0 by decide), if_neg (show ¬ nI z < 1 from nI_nlt (a := z) (b := 1) (by omega) (by omega)), if_pos (show nI z ≤ 30 from nI_le (b := 30) (by omega) (by decide)), i1, rd_cnt (by decide), ho, pcK_at (by decide)]
      have hbb := hs.2.2.1.b10 1
      refine ⟨nI (hoursN z A 10 1 - A 10 1), hoursN z A, _, _, e2, e3, oset_eq _ _ _, rm_0 _ _, fun k h0 _ => oset_ne h0, fun j h0 _ => by rw [rm_j h0, rm_j h0], Or.inl ⟨⟨_, rfl, by omega⟩, hs.mono (by omega), oset_ne (by decide), by rw [rm_j (by decide), rm_j (by decide)]⟩⟩
