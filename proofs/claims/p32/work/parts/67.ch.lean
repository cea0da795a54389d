/-! ===== the changes, class and reference side by side ===== -/
theorem inO_n {α β : Type} {x : α} {k : α → Option β} : inO x k = k x := rfl
theorem bdO_n {β : Type} {r : Int32} {O : OT} {k : Int32 → OT → Option β} : bdO (some (r, O)) k = k r O := rfl
theorem rdP_n {β : Type} {n : Nat} {k : Nat → Option β} (h : n < 8) : rdP (nI n) k = k n := by
  have h1 : (nI n).toNatClampNeg = n := nI_clamp (by omega)
  unfold rdP
  rw [if_neg, h1]
  rw [h1]
  intro q
  rcases q with q | q
  · exact nI_pos (by omega) q
  · omega
theorem rm_self {M : KT} {A : AT} (h : M 0 = pcM A) : rm M A = M := by
  funext j
  by_cases q : j = 0
  · rw [q, rm_0, h]
  · exact rm_j q
theorem ite_z {α : Type} {n : Nat} {x y : α} (h : n < 2 ^ 31) : (if nI n = 0 then x else y) = (if n = 0 then x else y) := ite_eq h (by decide)
theorem ite_o {α : Type} {n : Nat} {x y : α} (h : n < 2 ^ 31) : (if nI n = 1 then x else y) = (if n = 1 then x else y) := ite_eq h (by decide)
theorem ix2 (p : Int32) {n : Nat} (h : n < 2 ^ 31) : (p < 0 ∨ nI n ≤ p) ∨ ∃ j, j < n ∧ p = nI j := by
  rcases pk_ix p h with q | q | q
  · exact Or.inl (Or.inl q)
  · exact Or.inl (Or.inr q)
  · exact Or.inr q
theorem i32_gap {p : Int32} {n : Nat} (hn : n + 1 < 2 ^ 31) (h : nI (n + 1) ≤ p) : ¬ p ≤ nI n := by
  intro q
  have h1 := Int32.le_iff_toInt_le.mp h
  have h2 := Int32.le_iff_toInt_le.mp q
  rw [nI_toInt hn] at h1
  rw [nI_toInt (by omega)] at h2
  omega
theorem i32_off {p : Int32} {n : Nat} (hn : n + 1 < 2 ^ 31) (h : p < 0 ∨ nI (n + 1) ≤ p) : ¬ (0 ≤ p ∧ p ≤ nI n) := by
  intro q
  rcases h with h | h
  · exact Int32.not_le.mpr h q.1
  · exact i32_gap hn h q.2
theorem i32_on {c n : Nat} (hn : n < 2 ^ 31) (h : c ≤ n) : 0 ≤ nI c ∧ nI c ≤ nI n := ⟨nI_pos' (by omega), nI_le h hn⟩
theorem c2_noCamp_n {N c : Nat} (h : c < 5) : mX2_isNoCamp N (nI c) = some 0 := by
  unfold mX2_isNoCamp fX2_isNoCamp_14
  rw [if_neg (nI_pos (by omega)), show (5 : Int32) = nI 5 from rfl, if_pos (nI_lt h (by decide))]
  rfl
theorem c2_noCamp_y {N : Nat} {p : Int32} (h : p < 0 ∨ nI 5 ≤ p) : mX2_isNoCamp N p = some 1 := by
  unfold mX2_isNoCamp fX2_isNoCamp_9 fX2_isNoCamp_14
  by_cases q : p < 0
  · rw [if_pos q]; rfl
  · rw [if_neg q, show (5 : Int32) = nI 5 from rfl, if_neg (Int32.not_lt.mpr (h.resolve_left q))]; rfl
theorem c2_noLetter_n {N c : Nat} (h : c < 4) : mX2_isNoLetter N (nI c) = some 0 := by
  unfold mX2_isNoLetter fX2_isNoLetter_14
  rw [if_neg (nI_pos (by omega)), show (4 : Int32) = nI 4 from rfl, if_pos (nI_lt h (by decide))]
  rfl
theorem c2_noLetter_y {N : Nat} {p : Int32} (h : p < 0 ∨ nI 4 ≤ p) : mX2_isNoLetter N p = some 1 := by
  unfold mX2_isNoLetter fX2_isNoLetter_9 fX2_isNoLetter_14
  by_cases q : p < 0
  · rw [if_pos q]; rfl
  · rw [if_neg q, show (4 : Int32) = nI 4 from rfl, if_neg (Int32.not_lt.mpr (h.resolve_left q))]; rfl
theorem c2_noSwitch_n {N c : Nat} (h : c < 2) : mX2_isNoSwitch N (nI c) = some 0 := by
  unfold mX2_isNoSwitch fX2_isNoSwitch_13 fX2_isNoSwitch_14
  have h2 : c = 0 ∨ c = 1 := by omega
  rcases h2 with rfl | rfl
  · rw [if_pos (show nI 0 = 0 from rfl)]; rfl
  · rw [if_neg (by decide), if_pos (show nI 1 = 1 from rfl)]; rfl
theorem c2_noSwitch_y {N : Nat} {p : Int32} (h : p < 0 ∨ nI 2 ≤ p) : mX2_isNoSwitch N p = some 1 := by
  have h2 : ¬ (0 ≤ p ∧ p ≤ nI 1) := i32_off (n := 1) (by decide) h
  unfold mX2_isNoSwitch fX2_isNoSwitch_14
  rw [if_neg (fun q => h2 (by rw [q]; decide)), if_neg (fun q => h2 (by rw [q]; decide))]
  rfl
theorem r2_in_n {N c n : Nat} (hn : n < 2 ^ 31) (h : c ≤ n) : mX3_in N (nI c) 0 (nI n) = some 1 := by
  rw [r0_in, bN_t (i32_on hn h)]
  rfl
theorem r2_in_y {N n : Nat} {p : Int32} (hn : n + 1 < 2 ^ 31) (h : p < 0 ∨ nI (n + 1) ≤ p) : mX3_in N p 0 (nI n) = some 0 := by
  rw [r0_in, bN_f (i32_off hn h)]
  rfl
theorem r2_camp_n {N c : Nat} (h : c < 5) : mX3_isCamp N (nI c) = some 1 := by
  rw [r0_isCamp, show (4 : Int32) = nI 4 from rfl, bN_t (i32_on (n := 4) (by decide) (by omega))]
  rfl
theorem r2_camp_y {N : Nat} {p : Int32} (h : p < 0 ∨ nI 5 ≤ p) : mX3_isCamp N p = some 0 := by
  rw [r0_isCamp, show (4 : Int32) = nI 4 from rfl, bN_f (i32_off (n := 4) (by decide) h)]
  rfl
theorem c2_refuse {N : Nat} {O : OT} {w d : Int32} : ∃ O', mX2_refuse N O w d = some (-3, O') ∧ (∀ k, k ≠ 12 → O' k = O k) ∧ O' 12 = fset (fset (fset (O 12) 0 4 w) 0 5 d) 0 6 (O 12 0 3) := by
  unfold mX2_refuse
  rw [inO_n, inO_n, inO_n]
  refine ⟨_, rfl, fun k hk => by rw [oset_ne hk, oset_ne hk, oset_ne hk], ?_⟩
  rw [oset_eq, oset_eq, oset_eq]
  congr 1
theorem r2_refuse {N : Nat} {M : KT} {w d : Int32} : ∃ M', mX3_refuses N M w d = some (-3, M') ∧ (∀ j, j ≠ 8 → M' j = M j) ∧ M' 8 = upd (upd (upd (M 8) 6 w) 7 d) 8 (-4) := by
  unfold mX3_refuses
  rw [ptF_n, ptF_n, ptF_n]
  exact ⟨_, rfl, fun j hj => by rw [fset_ne hj, fset_ne hj, fset_ne hj], by rw [fset_eq, fset_eq, fset_eq]⟩
/-- how a change comes out on the two sides -/
def ICr (B : Nat) (A A' : AT) (O O' : OT) (M M' : KT) (r : Int32) : Prop :=
  ((∃ n, r = nI n ∧ n < 2 ^ 30) ∧ St (B + 10000) A' ∧ O' 12 = O 12 ∧ M' 8 = M 8) ∨
  ((r = -1 ∨ r = -2) ∧ A' = A ∧ O' 12 = O 12 ∧ M' 8 = M 8) ∨
  (r = -3 ∧ A' = A ∧ ∃ w d : Int32, w ≠ 0 ∧ O' 12 = fset (fset (fset (O 12) 0 4 w) 0 5 d) 0 6 (O 12 0 3) ∧ M' 8 = upd (upd (upd (M 8) 6 w) 7 d) 8 (-4))
def IC (B : Nat) (A : AT) (O : OT) (M : KT) (q2 : Option (Int32 × OT)) (q3 : Option (Int32 × KT)) : Prop :=
  ∃ (r : Int32) (A' : AT) (O' : OT) (M' : KT), q2 = some (r, O') ∧ q3 = some (r, M') ∧ O' 0 = pcK A' ∧ M' 0 = pcM A' ∧ (∀ k, k ≠ 0 → k ≠ 12 → O' k = O k) ∧ (∀ j, j ≠ 0 → j ≠ 8 → M' j = M j) ∧ ICr B A A' O O' M M' r
theorem IC_fail {B : Nat} {A : AT} {O : OT} {M : KT} {r : Int32} (ho : O 0 = pcK A) (hm : M 0 = pcM A) (hr : r = -1 ∨ r = -2) : IC B A O M (some (r, O)) (some (r, M)) :=
  ⟨r, A, O, M, rfl, rfl, ho, hm, fun _ _ _ => rfl, fun _ _ _ => rfl, Or.inr (Or.inl ⟨hr, rfl, rfl, rfl⟩)⟩
theorem IC_ok {B n : Nat} {A A' : AT} {O : OT} {M : KT} (hn : n < 2 ^ 30) (hs : St (B + 10000) A') : IC B A O (rm M A) (some (nI n, oset O 0 (pcK A'))) (some (nI n, rm M A')) :=
  ⟨nI n, A', _, _, rfl, rfl, oset_eq _ _ _, rm_0 _ _, fun k h0 _ => oset_ne h0, fun j h0 _ => by rw [rm_j h0, rm_j h0], Or.inl ⟨⟨n, rfl, hn⟩, hs, oset_ne (by decide), by rw [rm_j (by decide), rm_j (by decide)]⟩⟩
theorem IC_refuse {B : Nat} {A : AT} {O O' : OT} {M M' : KT} {w d : Int32} (ho : O 0 = pcK A) (hm : M 0 = pcM A) (hw : w ≠ 0) (o1 : ∀ k, k ≠ 12 → O' k = O k) (o2 : O' 12 = fset (fset (fset (O 12) 0 4 w) 0 5 d) 0 6 (O 12 0 3)) (m1 : ∀ j, j ≠ 8 → M' j = M j) (m2 : M' 8 = upd (upd (upd (M 8) 6 w) 7 d) 8 (-4)) : IC B A O M (some (-3, O')) (some (-3, M')) :=
  ⟨-3, A, O', M', rfl, rfl, by rw [o1 0 (by decide), ho], by rw [m1 0 (by decide), hm], fun k _ h => o1 k h, fun j _ h => m1 j h, Or.inr (Or.inr ⟨rfl, rfl, w, d, hw, o2, m2⟩)⟩
theorem askL_v {c : Nat} : ∀ (k : Nat) (A : AT) (v : Nat), v + k ≤ 6 → (askL c k A v).1 ≤ 6 := by
  intro k
  induction k with
  | zero =>
    intro A v hv
    unfold askL askEnd
    by_cases q : v < 3
    · rw [if_pos q]; exact hv
    · rw [if_neg q]; exact hv
  | succ k ih =>
    intro A v hv
    unfold askL
    by_cases q1 : reach A c (4 - k)
    · rw [if_pos q1]
      by_cases q2 : A 0 c < A 0 (4 - k)
      · rw [if_pos q2]; exact Nat.zero_le _
      · rw [if_neg q2]
        by_cases q3 : (askTake A c (4 - k)) 1 (4 - k) = 0 ∧ far (askTake A c (4 - k)) c (4 - k)
        · rw [if_pos q3]; exact ih _ _ (by omega)
        · rw [if_neg q3]; exact ih _ _ (by omega)
    · rw [if_neg q1]; exact ih _ _ (by omega)
theorem ask_v {c : Nat} {A : AT} : (ask A c).1 ≤ 6 := askL_v 5 _ 1 (by decide)
theorem ic_dusk {N B : Nat} {A : AT} {O : OT} {M : KT} (hN : 1400 ≤ N) (h : St B A) (hb : B + 20000 < 2 ^ 30) (ho : O 0 = pcK A) (hm : M 0 = pcM A) (p : Int32) : IC B A O M (mX2_bringDusk N O p) (mX3_dusks N M p) := by
  obtain ⟨M0, rfl⟩ : ∃ M0, M = rm M0 A := ⟨M, (rm_self hm).symm⟩
  have hlt : Lt A := h.ltA (by omega)
  have hB := h.2.2.1
  unfold mX2_bringDusk mX3_dusks
  rcases ix2 p (n := 5) (by decide) with q | ⟨c, hc, rfl⟩
  · rw [c2_noCamp_y q, r2_camp_y q, bdP_n, bdP_n, if_neg (by decide), if_pos rfl]
    exact IC_fail ho hm (Or.inl rfl)
  · rw [c2_noCamp_n hc, bdP_n, if_pos rfl, r2_camp_n hc, bdP_n, if_neg (by decide), ho, rdA_n hc (by decide), pcK_at (f := 3) (by decide), ite_z (hlt _ _), r0_isAwake hc (hB.b3 c), bdP_n, ite_b0]
    by_cases h3 : A 3 c = 1
    · rw [if_neg (by omega), if_pos h3, rdA_n hc (by decide), pcK_at (f := 2) (by decide), ite_o (hlt _ _), show (2 : Int32) = nI 2 from rfl, x3_of2 hc, bdP_n, ite_o (hlt _ _)]
      by_cases h2 : A 2 c = 1
      · rw [if_pos h2, if_pos h2, rdA_n hc (by decide), pcK_at (f := 0) (by decide), show (0 : Int32) = nI 0 from rfl, x3_of0 hc, bdP_n]
        obtain ⟨O', o0, o1, o2⟩ := c2_refuse (N := N) (O := O) (w := nI 2) (d := nI (A 0 c))
        obtain ⟨M', m0, m1, m2⟩ := r2_refuse (N := N) (M := rm M0 A) (w := nI 2) (d := nI (A 0 c))
        rw [o0, m0, bdO_n, bdE_n]
        exact IC_refuse ho hm (by decide) o1 o2 m1 m2
      · have h20 : A 2 c = 0 := by have := hB.b2 c; omega
        rw [if_neg h2, if_neg h2, c0_ask (by omega) hc hlt (by have := hB.b0 c; omega) (by have := hB.b10 0; omega) h.l12, bdE_n, inO_n, r0_asks (by omega) hc h (by omega) h20, bdE_n]
        exact IC_ok (by have := ask_v (c := c) (A := A); omega) ((St_ask h hc h20 h3).mono (by omega))
    · rw [if_pos (by have := hB.b3 c; omega), if_neg h3]
      obtain ⟨O', o0, o1, o2⟩ := c2_refuse (N := N) (O := O) (w := 1) (d := nI c)
      obtain ⟨M', m0, m1, m2⟩ := r2_refuse (N := N) (M := rm M0 A) (w := 1) (d := nI c)
      rw [o0, m0, bdO_n, bdE_n]
      exact IC_refuse ho hm (by decide) o1 o2 m1 m2
theorem St_write {B c x : Nat} {A : AT} (h : St B A) (hc : c < 5) (hx : x < 4) (h2 : A 2 c = 1) (hn : A 5 c < 12) : St (B + 1) (writeS A c x) := by
  refine ⟨by have := h.1; omega, writeS_Inv h.2.1 hc h2 hn, ?_, Rd_congr (fun y => by unfold writeS; rw [aset_f (by decide), aset_f (by decide), aset_f (by decide), aset_f (by decide)]) h.2.2.2⟩
  have hB := h.2.2.1
  exact ((((hB.mono (Nat.le_succ B)).set (f := 7) (show A 0 c ≤ B + 1 by have := hB.b0 c; omega)).set (f := 8) (show x ≤ 3 by omega)).set (f := 5) (show A 5 c + 1 ≤ 12 by omega)).set (f := 10) (show A 10 2 + 1 ≤ B + 1 by have := hB.b10 2; omega)
theorem c0_addPage {N c x : Nat} {A : AT} (hc : c < 5) (hn : A 5 c < 12) : mX0_addPage N (pcK A) (nI c) (nI x) = some (nI (A 5 c + 1), pcK (writeS A c x)) := by
  unfold mX0_addPage writeS
  rw [rdA_n hc (by decide), rdA_n hc (by decide), pcK_at (f := 5) (by decide), pcK_at (f := 0) (by decide), i12, nmul, nadd, wrA_n (by omega) (by decide), fset_pcK (by decide), wrA_n (by omega) (by decide), fset_pcK (by decide), rdA_n hc (by decide), pcK_at (f := 5) (by decide), aset_f (f := 8) (g := 5) (by decide), aset_f (f := 7) (g := 5) (by decide), i1, nadd, wrA_n hc (by decide), fset_pcK (by decide), pcK_at (f := 10) (by decide), aset_f (f := 5) (g := 10) (by decide), aset_f (f := 8) (g := 10) (by decide), aset_f (f := 7) (g := 10) (by decide), nadd, ptF_n, fset_pcK (by decide), rdA_n hc (by decide), pcK_at (f := 5) (by decide), aset_f (f := 10) (g := 5) (by decide), aset_eq]
/-- what the reference says where a camp can't write or march -/
theorem r2_lacks {N B c : Nat} {M0 : KT} {A : AT} (h : St B A) (hb : B + 20000 < 2 ^ 30) (hc : c < 5) : mX3_lacks N (rm M0 A) (nI c) = if A 3 c = 1 then (if A 2 c = 1 then some (0, rm M0 A) else mX3_refuses N (rm M0 A) 2 (nI (A 0 c))) else mX3_refuses N (rm M0 A) 1 (nI c) := by
  have hlt : Lt A := h.ltA (by omega)
  have hB := h.2.2.1
  unfold mX3_lacks
  rw [r0_isAwake hc (hB.b3 c), bdP_n, ite_b0]
  by_cases h3 : A 3 c = 1
  · rw [if_pos h3, if_pos h3, show (2 : Int32) = nI 2 from rfl, x3_of2 hc, bdP_n, ite_o (hlt _ _)]
    by_cases h2 : A 2 c = 1
    · rw [if_pos h2, if_pos h2]
      rfl
    · rw [if_neg h2, if_neg h2, show (0 : Int32) = nI 0 from rfl, x3_of0 hc, bdP_n]
      obtain ⟨M', m0, m1, m2⟩ := r2_refuse (N := N) (M := rm M0 A) (w := nI 2) (d := nI (A 0 c))
      rw [m0, bdE_n]
      rfl
  · rw [if_neg h3, if_neg h3]
    obtain ⟨M', m0, m1, m2⟩ := r2_refuse (N := N) (M := rm M0 A) (w := 1) (d := nI c)
    rw [m0, bdE_n]
theorem ic_write {N B : Nat} {A : AT} {O : OT} {M : KT} (hN : 1400 ≤ N) (h : St B A) (hb : B + 20000 < 2 ^ 30) (ho : O 0 = pcK A) (hm : M 0 = pcM A) (p q : Int32) : IC B A O M (mX2_writePage N O p q) (mX3_writes N M p q) := by
  obtain ⟨M0, rfl⟩ : ∃ M0, M = rm M0 A := ⟨M, (rm_self hm).symm⟩
  have hlt : Lt A := h.ltA (by omega)
  have hB := h.2.2.1
  unfold mX2_writePage mX3_writes
  rcases ix2 p (n := 5) (by decide) with w | ⟨c, hc, rfl⟩
  · rw [c2_noCamp_y w, r2_camp_y w, bdP_n, bdP_n, if_neg (by decide), if_pos rfl]
    exact IC_fail ho hm (Or.inl rfl)
  rw [c2_noCamp_n hc, bdP_n, if_pos rfl, r2_camp_n hc, bdP_n, if_neg (by decide)]
  rcases ix2 q (n := 4) (by decide) with w | ⟨x, hx, rfl⟩
  · rw [c2_noLetter_y w, show (3 : Int32) = nI 3 from rfl, r2_in_y (n := 3) (by decide) w, bdP_n, bdP_n, if_neg (by decide), if_pos rfl]
    exact IC_fail ho hm (Or.inl rfl)
  rw [c2_noLetter_n hx, bdP_n, if_pos rfl, show mX3_in N (nI x) 0 3 = some 1 from r2_in_n (n := 3) (by decide) (by omega), bdP_n, if_neg (by decide), r2_lacks h hb hc, ho, rdA_n hc (by decide), pcK_at (f := 3) (by decide), ite_z (hlt _ _)]
  by_cases h3 : A 3 c = 1
  · rw [if_neg (by omega), if_pos h3, rdA_n hc (by decide), pcK_at (f := 2) (by decide), ite_z (hlt _ _)]
    by_cases h2 : A 2 c = 1
    · rw [if_neg (by omega), if_pos h2, bdE_n, if_pos (by decide), rdA_n hc (by decide), pcK_at (f := 5) (by decide), show (12 : Int32) = nI 12 from rfl, ite_lt (hlt _ _) (by decide), show (6 : Int32) = nI 6 from rfl, x3_of6 hc, bdP_n, ite_eq (hlt _ _) (by decide)]
      by_cases h5 : A 5 c = 12
      · rw [if_neg (by omega), if_pos h5]
        obtain ⟨O', o0, o1, o2⟩ := c2_refuse (N := N) (O := O) (w := 3) (d := nI 12)
        obtain ⟨M', m0, m1, m2⟩ := r2_refuse (N := N) (M := rm M0 A) (w := 3) (d := nI 12)
        rw [o0, m0, bdO_n, bdE_n]
        exact IC_refuse ho hm (by decide) o1 o2 m1 m2
      · have h5' : A 5 c < 12 := by have := hB.b5 c; omega
        rw [if_pos h5', if_neg h5, c0_addPage hc h5', bdE_n, inO_n, show (0 : Int32) = nI 0 from rfl, x3_of0 hc, bdP_n, i7, i2, nmul, nadd, x3_setsT hc h5', bdE_n, i1, nadd, x3_setsL hc h5', bdE_n, nadd, x3_sets6 hc, bdE_n, rd_cnt (by decide), aset_f (f := 5) (g := 10) (by decide), aset_f (f := 8) (g := 10) (by decide), aset_f (f := 7) (g := 10) (by decide), nadd, wr_cnt (by decide)]
        exact IC_ok (by omega) ((St_write h hc hx h2 h5').mono (by omega))
    · rw [if_pos (by have := hB.b2 c; omega), if_neg h2, rdA_n hc (by decide), pcK_at (f := 0) (by decide)]
      obtain ⟨O', o0, o1, o2⟩ := c2_refuse (N := N) (O := O) (w := 2) (d := nI (A 0 c))
      obtain ⟨M', m0, m1, m2⟩ := r2_refuse (N := N) (M := rm M0 A) (w := 2) (d := nI (A 0 c))
      rw [o0, m0, bdO_n, bdE_n, if_neg (by decide)]
      exact IC_refuse ho hm (by decide) o1 o2 m1 m2
  · rw [if_pos (by have := hB.b3 c; omega), if_neg h3]
    obtain ⟨O', o0, o1, o2⟩ := c2_refuse (N := N) (O := O) (w := 1) (d := nI c)
    obtain ⟨M', m0, m1, m2⟩ := r2_refuse (N := N) (M := rm M0 A) (w := 1) (d := nI c)
    rw [o0, m0, bdO_n, bdE_n, if_neg (by decide)]
    exact IC_refuse ho hm (by decide) o1 o2 m1 m2
theorem ic_march {N B : Nat} {A : AT} {O : OT} {M : KT} (hN : 1400 ≤ N) (h : St B A) (hb : B + 20000 < 2 ^ 30) (ho : O 0 = pcK A) (hm : M 0 = pcM A) (p : Int32) : IC B A O M (mX2_sendCaptain N O p) (mX3_marches N M p) := by
  obtain ⟨M0, rfl⟩ : ∃ M0, M = rm M0 A := ⟨M, (rm_self hm).symm⟩
  have hlt : Lt A := h.ltA (by omega)
  have hB := h.2.2.1
  unfold mX2_sendCaptain mX3_marches fX3_marches_27
  rcases ix2 p (n := 5) (by decide) with w | ⟨c, hc, rfl⟩
  · rw [c2_noCamp_y w, r2_camp_y w, bdP_n, bdP_n, if_neg (by decide), if_pos rfl]
    exact IC_fail ho hm (Or.inl rfl)
  rw [c2_noCamp_n hc, bdP_n, if_pos rfl, r2_camp_n hc, bdP_n, if_neg (by decide), r2_lacks h hb hc, ho, rdA_n hc (by decide), pcK_at (f := 3) (by decide), ite_z (hlt _ _)]
  by_cases h3 : A 3 c = 1
  · rw [if_neg (by omega), if_pos h3, rdA_n hc (by decide), pcK_at (f := 2) (by decide), ite_z (hlt _ _)]
    by_cases h2 : A 2 c = 1
    · have hs := St_go h hc h2
      rw [if_neg (by omega), if_pos h2, bdE_n, if_pos (by decide), c0_goRound (by omega) hc h (by omega), bdE_n, inO_n, oset_eq, rdA_n hc (by decide), pcK_at (f := 6) (by decide), r0_goes (by omega) hc h (by omega), ← (go_eq h.2.1 hc h2 (h.2.2.2.1 c hc)).1, bdE_n]
      exact IC_ok (by have := hs.2.2.1.b6 c; omega) (hs.mono (by omega))
    · rw [if_pos (by have := hB.b2 c; omega), if_neg h2, rdA_n hc (by decide), pcK_at (f := 0) (by decide)]
      obtain ⟨O', o0, o1, o2⟩ := c2_refuse (N := N) (O := O) (w := 2) (d := nI (A 0 c))
      obtain ⟨M', m0, m1, m2⟩ := r2_refuse (N := N) (M := rm M0 A) (w := 2) (d := nI (A 0 c))
      rw [o0, m0, bdO_n, bdE_n, if_neg (by decide)]
      exact IC_refuse ho hm (by decide) o1 o2 m1 m2
  · rw [if_pos (by have := hB.b3 c; omega), if_neg h3]
    obtain ⟨O', o0, o1, o2⟩ := c2_refuse (N := N) (O := O) (w := 1) (d := nI c)
    obtain ⟨M', m0, m1, m2⟩ := r2_refuse (N := N) (M := rm M0 A) (w := 1) (d := nI c)
    rw [o0, m0, bdO_n, bdE_n, if_neg (by decide)]
    exact IC_refuse ho hm (by decide) o1 o2 m1 m2
