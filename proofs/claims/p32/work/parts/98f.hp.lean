/-! ===== some, happens, makes, changes ===== -/
theorem l_some (N : Nat) (v : Int32) {k : Nat} (hk : 0 < k) (hk2 : k ≤ 100) : ∃ j, j < k ∧ mL_some N v (nI k) = some (nI j) := by
  have hk3 : (nI k).toInt = (k : Int) := nI_toInt (by omega)
  have hne : nI k ≠ 0 := fun e => by
    have := (nI_eq (a := k) (b := 0) (by omega) (by decide)).mp e
    omega
  have hn1 : nI k ≠ -1 := fun e => by
    have e2 := congrArg Int32.toInt e
    rw [hk3] at e2
    have : (-1 : Int32).toInt = -1 := by decide
    rw [this] at e2
    omega
  have v1 := Int32.le_toInt v
  have v2 := Int32.toInt_lt v
  obtain ⟨t, ht⟩ : ∃ t, t = v.toInt.tmod k := ⟨_, rfl⟩
  obtain ⟨q, hq⟩ : ∃ q, q = v.toInt.tdiv k * k := ⟨_, rfl⟩
  have h1 : q + t = v.toInt := by rw [hq, ht]; exact Int.tdiv_mul_add_tmod _ _
  have h2 : t < k := by rw [ht]; exact Int.tmod_lt_of_pos _ (by omega)
  have h3 : -(k : Int) < t := by rw [ht]; exact Int.lt_tmod_of_pos _ (by omega)
  have hp : 0 ≤ v.toInt → 0 ≤ t := fun h => by rw [ht]; exact Int.tmod_nonneg _ h
  have hm : v.toInt ≤ 0 → t ≤ 0 := fun h => by
    have h4 := Int.tmod_nonneg (a := -v.toInt) k (by omega)
    rw [Int.neg_tmod, ← ht] at h4
    omega
  have e1 : (v / nI k * nI k).toInt = q := by
    rw [Int32.toInt_mul, Int32.toInt_div_of_ne_right _ _ hn1, hk3, ← hq]
    exact Int.bmod_eq_of_le_mul_two (by omega) (by omega)
  have e2 : (v - v / nI k * nI k).toInt = t := by
    rw [Int32.toInt_sub, e1, show v.toInt - q = t by omega]
    exact Int.bmod_eq_of_le_mul_two (by omega) (by omega)
  unfold mL_some
  rw [if_neg hne]
  by_cases c : 0 ≤ v - v / nI k * nI k
  · rw [if_pos c]
    have c2 := Int32.le_iff_toInt_le.mp c
    rw [e2] at c2
    have c3 : (0 : Int32).toInt = 0 := by decide
    rw [c3] at c2
    refine ⟨t.toNat, by omega, ?_⟩
    congr 1
    apply Int32.toInt_inj.mp
    rw [e2, nI_toInt (by omega)]
    omega
  · rw [if_neg c]
    have c2 : ¬ (0 : Int32).toInt ≤ (v - v / nI k * nI k).toInt := fun w => c (Int32.le_iff_toInt_le.mpr w)
    rw [e2] at c2
    have c3 : (0 : Int32).toInt = 0 := by decide
    rw [c3] at c2
    refine ⟨(t + k).toNat, by omega, ?_⟩
    congr 1
    apply Int32.toInt_inj.mp
    rw [Int32.toInt_add, e2, hk3, nI_toInt (by omega), Int.bmod_eq_of_le_mul_two (by omega) (by omega)]
    omega
theorem l_some' (N : Nat) (v n : Int32) (k : Nat) (hn : n = nI k) (hk : 0 < k) (hk2 : k ≤ 100) : ∃ j, j < k ∧ mL_some N v n = some (nI j) := by
  rw [hn]
  exact l_some N v hk hk2
theorem and1 (x : Int32) : x &&& 1 = nI 0 ∨ x &&& 1 = nI 1 := by
  have h : (x &&& 1).toBitVec = BitVec.setWidth 32 (BitVec.ofBool (x.toBitVec.getLsbD 0)) := by
    rw [Int32.toBitVec_and]
    exact BitVec.and_one_eq_setWidth_ofBool_getLsbD
  cases hb : x.toBitVec.getLsbD 0 with
  | false =>
    left
    apply Int32.toBitVec_inj.mp
    rw [h, hb]
    decide
  | true =>
    right
    apply Int32.toBitVec_inj.mp
    rw [h, hb]
    decide
theorem bdO_id (qq : Option (Int32 × OT)) : bdO qq (fun v O2 => some (v, O2)) = qq := by
  cases qq with
  | none => rfl
  | some x =>
    obtain ⟨r, K⟩ := x
    rfl
theorem x_captain {N B : Nat} {A : AT} {O : OT} (hN : 1400 ≤ N) (h : St B A) (hb : B + 20000 < 2 ^ 30) (ho : O 0 = pcK A) : mX2_captain N O = some (pcV (bestN A 5)) := by
  unfold mX2_captain
  rw [ho, c0_great (by omega) (h.ltA (by omega)), bdP_n]
abbrev PH : Int32 → Prop := fun r => 0 ≤ r ∨ r = -3
section HP
variable {N B c : Nat} {A : AT} {L : List AT} {sv : Option AT} {O : OT}
theorem kc_dusk (hN : 1400 ≤ N) (hb : B + 20000 < 2 ^ 30) (h : KX B A L sv O) (hc : c < 5) : CP PH B A L sv O (mX2_dusk N O (nI c)) := by
  obtain ⟨oc, h1, h2⟩ := in_dusk (N := N) (O := oset O 1 (O 0)) hN h.st hb (by rw [oset_ne (by decide), h.now]) hc
  exact k_CE (f2 := fun O => mX2_bringDusk N O (nI c)) h h1 h2
theorem kc_write {x : Nat} (hb : B + 20000 < 2 ^ 30) (h : KX B A L sv O) (hc : c < 5) (hx : x < 4) : CP PH B A L sv O (mX2_write N O (nI c) (nI x)) := by
  obtain ⟨oc, h1, h2⟩ := in_write (N := N) (O := oset O 1 (O 0)) h.st hb (by rw [oset_ne (by decide), h.now]) hc hx
  exact k_CE (f2 := fun O => mX2_writePage N O (nI c) (nI x)) h h1 h2
theorem kc_march (hN : 1400 ≤ N) (hb : B + 20000 < 2 ^ 30) (h : KX B A L sv O) (hc : c < 5) : CP PH B A L sv O (mX2_march N O (nI c)) := by
  obtain ⟨oc, h1, h2⟩ := in_march (N := N) (O := oset O 1 (O 0)) hN h.st hb (by rw [oset_ne (by decide), h.now]) hc
  exact k_CE (f2 := fun O => mX2_sendCaptain N O (nI c)) h h1 h2
theorem kc_road {b v : Nat} (hN : 1400 ≤ N) (hb : B + 20000 < 2 ^ 30) (h : KX B A L sv O) (hc : c < 5) (hb5 : b < 5) (hv : v < 2) : CP PH B A L sv O (mX2_road N O (nI c) (nI b) (nI v)) := by
  obtain ⟨oc, h1, h2⟩ := in_road (N := N) (O := oset O 1 (O 0)) hN h.st hb (by rw [oset_ne (by decide), h.now]) hc hb5 hv
  exact k_CE (f2 := fun O => mX2_turnRoad N O (nI c) (nI b) (nI v)) h h1 h2
theorem kc_sleep {v : Nat} (hN : 1400 ≤ N) (hb : B + 20000 < 2 ^ 30) (h : KX B A L sv O) (hc : c < 5) (hv : v < 2) : CP PH B A L sv O (mX2_sleep N O (nI c) (nI v)) := by
  obtain ⟨oc, h1, h2⟩ := in_sleep (N := N) (O := oset O 1 (O 0)) hN h.st hb (by rw [oset_ne (by decide), h.now]) hc hv
  exact k_CE (f2 := fun O => mX2_turnCamp N O (nI c) (nI v)) h h1 h2
theorem kc_pass {z : Nat} (hN : 1400 ≤ N) (hb : B + 20000 < 2 ^ 30) (h : KX B A L sv O) (hz : 1 ≤ z) (hz2 : z ≤ 30) : CP PH B A L sv O (mX2_pass N O (nI z)) := by
  obtain ⟨oc, h1, h2⟩ := in_pass (N := N) (O := oset O 1 (O 0)) hN h.st hb (by rw [oset_ne (by decide), h.now]) hz hz2
  exact k_CE (f2 := fun O => mX2_passHours N O (nI z)) h h1 h2
theorem h_96 (hN : 1400 ≤ N) (hb : B + 20000 < 2 ^ 30) (h : KX B A L sv O) (hc : c < 5) : CP PH B A L sv O (fL_happens_96 N O (nI c)) := by
  unfold fL_happens_96
  rw [bdO_id]
  exact kc_dusk hN hb h hc
theorem h_118 {x : Int32} (hb : B + 20000 < 2 ^ 30) (h : KX B A L sv O) (hc : c < 5) : CP PH B A L sv O (fL_happens_118 N O x (nI c)) := by
  unfold fL_happens_118
  obtain ⟨j, hj, e⟩ := l_some' N (x >>> (8 &&& 31)) 4 4 rfl (by decide) (by decide)
  rw [e, bdP_n, bdO_id]
  exact kc_write hb h hc hj
theorem h_102 {x : Int32} (hN : 1400 ≤ N) (hb : B + 20000 < 2 ^ 30) (h : KX B A L sv O) (hc : c < 5) : CP PH B A L sv O (fL_happens_102 N O x (nI c)) := by
  have hl := bestN_le (A := A) 5
  unfold fL_happens_102
  rw [x_captain hN h.st hb h.now, bdP_n]
  by_cases q : bestN A 5 = 0
  · rw [if_neg (Int32.not_le.mpr (by rw [pcV_neg (by omega)]; exact q))]
    exact h_118 hb h hc
  · rw [pcV_n q, if_pos (nI_pos' (by omega)), bdP_n]
    exact h_118 hb h (by omega)
theorem h_156 (hN : 1400 ≤ N) (hb : B + 20000 < 2 ^ 30) (h : KX B A L sv O) (hc : c < 5) : CP PH B A L sv O (fL_happens_156 N O (nI c)) := by
  unfold fL_happens_156
  rw [bdO_id]
  exact kc_march hN hb h hc
theorem h_130 {x : Int32} (hN : 1400 ≤ N) (hb : B + 20000 < 2 ^ 30) (h : KX B A L sv O) (hc : c < 5) : CP PH B A L sv O (fL_happens_130 N O x (nI c)) := by
  have hl := bestN_le (A := A) 5
  unfold fL_happens_130 fL_happens_148
  rw [x_captain hN h.st hb h.now, bdP_n]
  by_cases q : bestN A 5 = 0
  · rw [if_pos (by rw [pcV_neg (by omega)]; exact q)]
    exact h_156 hN hb h hc
  · rw [pcV_n q, if_neg (nI_pos (by omega))]
    by_cases w : ((x >>> (9 &&& 31)) &&& 7) = 0
    · rw [if_pos w]
      exact h_156 hN hb h hc
    · rw [if_neg w, bdP_n]
      exact h_156 hN hb h (by omega)
theorem h_160 {x : Int32} (hN : 1400 ≤ N) (hb : B + 20000 < 2 ^ 30) (h : KX B A L sv O) (hc : c < 5) : CP PH B A L sv O (fL_happens_160 N O x (nI c)) := by
  unfold fL_happens_160
  obtain ⟨j, hj, e⟩ := l_some' N (x >>> (8 &&& 31)) 5 5 rfl (by decide) (by decide)
  rw [e, bdP_n, bdO_id]
  rcases and1 (x >>> (11 &&& 31)) with w | w
  · rw [w]
    exact kc_road hN hb h hc hj (by decide)
  · rw [w]
    exact kc_road hN hb h hc hj (by decide)
theorem h_180 {x : Int32} (hN : 1400 ≤ N) (hb : B + 20000 < 2 ^ 30) (h : KX B A L sv O) (hc : c < 5) : CP PH B A L sv O (fL_happens_180 N O x (nI c)) := by
  unfold fL_happens_180 fL_happens_196
  by_cases w : ((x >>> (8 &&& 31)) &&& 3) = 0
  · rw [if_pos w, bdO_id]
    exact kc_sleep (v := 0) hN hb h hc (by decide)
  · rw [if_neg w, bdO_id]
    exact kc_sleep (v := 1) hN hb h hc (by decide)
theorem h_all (hN : 1400 ≤ N) (hb : B + 20000 < 2 ^ 30) (h : KX B A L sv O) (z : Int32) : CP PH B A L sv O (mL_happens N O z) := by
  obtain ⟨c, hc, e1⟩ := l_some' N (z >>> (5 &&& 31)) 5 5 rfl (by decide) (by decide)
  obtain ⟨y, hy, e2⟩ := l_some' N z 20 20 rfl (by decide) (by decide)
  obtain ⟨j, hj, e3⟩ := l_some' N (z >>> (8 &&& 31)) 8 8 rfl (by decide) (by decide)
  have g1 := h_96 hN hb h hc
  have g2 := h_102 (x := z) hN hb h hc
  have g3 := h_130 (x := z) hN hb h hc
  have g4 := h_160 (x := z) hN hb h hc
  have g5 := h_180 (x := z) hN hb h hc
  have g6 : CP PH B A L sv O (bdP (mL_some N (z >>> (8 &&& 31)) 8) (fun v40 => bdO (mX2_pass N O (1 + v40)) (fun v41 O42 => some (v41, O42)))) := by
    rw [e3, bdP_n, bdO_id, show (1 : Int32) + nI j = nI (1 + j) from nadd 1 j]
    exact kc_pass hN hb h (by omega) (by omega)
  have I : ∀ {p : Prop} [Decidable p] {a b : Option (Int32 × OT)}, CP PH B A L sv O a → CP PH B A L sv O b → CP PH B A L sv O (if p then a else b) := fun ha hb => by
    split
    · exact ha
    · exact hb
  unfold mL_happens
  rw [e1, bdP_n, e2, bdP_n]
  exact I g1 (I g1 (I g1 (I g2 (I g2 (I g2 (I g2 (I g2 (I g2 (I g3 (I g3 (I g3 (I g4 (I g4 (I g4 (I g5 (I g5 g6))))))))))))))))
end HP
def QQ (B : Nat) (sv : Option AT) (O : OT) : Prop := ∃ A L, KX B A L sv O ∧ O 13 1 0 = 0 ∧ GL O
theorem CP.qq {P : Int32 → Prop} {B : Nat} {A : AT} {L : List AT} {sv : Option AT} {O : OT} {qq : Option (Int32 × OT)} (h : CP P B A L sv O qq) (h0 : O 13 1 0 = 0) (hg : GL O) : ∃ r O', qq = some (r, O') ∧ P r ∧ QQ (B + 10000) sv O' := by
  obtain ⟨r, O', e, hp, h13, h14, hr⟩ := h
  have g0 : O' 13 1 0 = 0 := by rw [h13]; exact h0
  have g1 : GL O' := by unfold GL; rw [h14]; exact hg
  rcases hr with ⟨n, A', -, -, hk⟩ | ⟨-, hk⟩
  · exact ⟨r, O', e, hp, A', _, hk, g0, g1⟩
  · exact ⟨r, O', e, hp, A, L, hk, g0, g1⟩
theorem l_at {N L i : Nat} {xs : Nat → Int32} (hL : L < 2 ^ 31) (hi : i < 2 ^ 31) : ∃ v, mL_at N L xs (nI i) = some v := by
  unfold mL_at
  by_cases q : L ≤ i
  · rw [if_pos (show Int32.ofNat L ≤ nI i from (nI_leI hL hi).mpr q)]
    exact ⟨0, rfl⟩
  · rw [if_neg (show ¬ Int32.ofNat L ≤ nI i from fun w => q ((nI_leI hL hi).mp w))]
    unfold rdA
    have h1 : (nI i).toNatClampNeg = i := nI_clamp hi
    rw [if_neg]
    · exact ⟨_, rfl⟩
    · rw [h1]
      intro w
      rcases w with w | w
      · exact nI_pos hi w
      · exact q w
theorem mk_go {N L : Nat} {xs : Nat → Int32} {sv : Option AT} (hN : 1400 ≤ N) (hL : L < 2 ^ 31) : ∀ (k m i B : Nat) (O : OT), k < m → i + k = 26 → B + 10000 * k + 20000 < 2 ^ 30 → QQ B sv O → ∃ O', fL_makes_2 N L xs m O (nI i) = some (1, O') ∧ QQ (B + 10000 * k) sv O' := by
  intro k
  induction k with
  | zero =>
    intro m i B O hm hi hb h
    obtain ⟨z, rfl⟩ : ∃ z, m = z + 1 := ⟨m - 1, by omega⟩
    obtain rfl : i = 26 := by omega
    refine ⟨O, ?_, h⟩
    unfold fL_makes_2
    rw [if_pos (show (26 : Int32) ≤ nI 26 by decide)]
  | succ k ih =>
    intro m i B O hm hi hb h
    obtain ⟨z, rfl⟩ : ∃ z, m = z + 1 := ⟨m - 1, by omega⟩
    obtain ⟨A, Ls, hk, h0, hg⟩ := h
    obtain ⟨v, e1⟩ := l_at (N := N) (L := L) (i := i) (xs := xs) hL (by omega)
    obtain ⟨r, O1, e2, hp, q1⟩ := (h_all (N := N) hN (by omega) hk ((v ^^^ (nI i * 7919)) ^^^ (ushr (v ^^^ (nI i * 7919)) 7))).qq h0 hg
    obtain ⟨O2, e3, q2⟩ := ih z (i + 1) (B + 10000) O1 (by omega) (by omega) (by omega) q1
    refine ⟨O2, ?_, by rw [show B + 10000 * (k + 1) = B + 10000 + 10000 * k by omega]; exact q2⟩
    unfold fL_makes_2 fL_makes_48
    rw [if_neg (show ¬ (26 : Int32) ≤ nI i from le_lit (a := 26) (by decide) (by omega) (by omega)), e1, bdP_n, e2, bdO_n, show nI i + 1 = nI (i + 1) from nadd i 1]
    rcases hp with w | w
    · rw [if_pos w]
      exact e3
    · rw [if_neg (by rw [w]; decide), if_pos w]
      exact e3
theorem mk_all {N L B : Nat} {xs : Nat → Int32} {sv : Option AT} {O : OT} (hN : 1400 ≤ N) (hL : L < 2 ^ 31) (hb : B + 300000 < 2 ^ 30) (h : QQ B sv O) : ∃ O', mL_makes N L xs O = some (1, O') ∧ QQ (B + 260000) sv O' := by
  unfold mL_makes
  exact mk_go hN hL 26 N 0 B O (by omega) (by omega) (by omega) h
/-! letters and texts -/
theorem TX_0 {T : Nat → Nat} {O : OT} (h : O 13 1 0 = 0) : TX 0 T O := ⟨by decide, h, fun i hi => absurd hi (Nat.not_lt_zero i)⟩
theorem x_append {N n : Nat} {T : Nat → Nat} {O : OT} (h : TX n T O) (hn : n < 70) (ht : 32 ≤ T n ∧ T n ≤ 126) : ∃ K, mX2_append N O (nI (T n)) = some (nI (n + 1), oset O 13 K) ∧ TX (n + 1) T (oset O 13 K) := by
  obtain ⟨t1, t2, t4⟩ := h
  have ea : s_cC (O 13) (nI (T n)) = some (apS (O 13) (nI (T n))) := by
    unfold s_cC
    rw [t2, if_pos ⟨⟨nI_pos' (by omega), nI_lt (b := 128) (by omega) (by decide)⟩, nI_pos' (by omega), nI_lt (b := 127) (by omega) (by decide)⟩]
  have e1 : apS (O 13) (nI (T n)) 1 0 = nI (n + 1) := by
    unfold apS
    rw [fset_eq, pk_us, t2]
    exact nadd n 1
  have e0 : apS (O 13) (nI (T n)) 0 = upd (O 13 0) n (nI (T n)) := by
    unfold apS
    rw [fset_ne (show (0 : Nat) ≠ 1 by decide), fset_eq, t2, nI_clamp (by omega)]
  refine ⟨apS (O 13) (nI (T n)), ?_, by omega, by rw [oset_eq, e1], fun i hi => ?_⟩
  · unfold mX2_append
    rw [if_neg (show ¬ nI (T n) < 32 from nI_nlt (b := 32) (by omega) (by omega)), if_neg (show ¬ (126 : Int32) < nI (T n) from nI_nlt (a := 126) (by omega) (by omega))]
    unfold s_length
    rw [bdP_n, t2, show (70 : Int32) = nI 70 from rfl, ite_lt (by omega) (by decide), if_pos hn, i2c_n (T n) (by omega), ea]
    show inO (oset O 13 (apS (O 13) (nI (T n)))) (fun O6 => bdP (some (O6 13 1 0)) (fun v7 => some (v7, O6))) = _
    rw [inO_n, oset_eq, e1, bdP_n]
  · rw [oset_eq, e0]
    by_cases q : i = n
    · rw [q, pk_us]
      exact ⟨ht, rfl⟩
    · rw [pk_un q]
      exact t4 i (by omega)
theorem KX_13 {B : Nat} {A : AT} {L : List AT} {sv : Option AT} {O : OT} {K : KT} (h : KX B A L sv O) : KX B A L sv (oset O 13 K) := KX_congr h (Nat.le_refl _) (oset_ne (by decide)) (fun k k1 k2 => oset_ne (by omega)) (fun i _ => by rw [oset_ne (by decide)])
theorem rs_go {N B sn : Nat} {A : AT} {L : List AT} {sv : Option AT} {T : Nat → Nat} {sf : Nat → Int32} (hs : sn ≤ 70) (hT : ∀ j, j < sn → (32 ≤ T j ∧ T j ≤ 126) ∧ sf j &&& 255 = nI (T j)) : ∀ (k m i : Nat) (O : OT), k < m → i + k = sn → KX B A L sv O → TX i T O → ∃ O1, fL_reads_2 N sn sf m O (nI i) = mX2_read N O1 ∧ KX B A L sv O1 ∧ TX sn T O1 ∧ O1 14 = O 14 ∧ O1 12 = O 12 := by
  intro k
  induction k with
  | zero =>
    intro m i O hm hi h ht
    obtain ⟨z, rfl⟩ : ∃ z, m = z + 1 := ⟨m - 1, by omega⟩
    obtain rfl : i = sn := by omega
    refine ⟨O, ?_, h, ht, rfl, rfl⟩
    unfold fL_reads_2
    rw [if_pos (nI_le (Nat.le_refl _) (by omega)), bdO_id]
  | succ k ih =>
    intro m i O hm hi h ht
    obtain ⟨z, rfl⟩ : ∃ z, m = z + 1 := ⟨m - 1, by omega⟩
    obtain ⟨h1, h2⟩ := hT i (by omega)
    obtain ⟨K, e, ht2⟩ := x_append (N := N) ht (by omega) h1
    obtain ⟨O1, g1, g2, g3, g4, g5⟩ := ih z (i + 1) (oset O 13 K) (by omega) (by omega) (KX_13 h) ht2
    refine ⟨O1, ?_, g2, g3, by rw [g4, oset_ne (by decide)], by rw [g5, oset_ne (by decide)]⟩
    rw [← g1]
    conv => lhs; unfold fL_reads_2
    rw [ite_le (by omega) (by omega), if_neg (by omega), rdA_n (by omega) (by omega), h2, e, bdO_n, show nI i + 1 = nI (i + 1) from nadd i 1, if_pos rfl]
theorem rs_all {N B sn : Nat} {A : AT} {L : List AT} {sv : Option AT} {T : Nat → Nat} {sf : Nat → Int32} {O : OT} (hs : sn ≤ 8) (hT : ∀ j, j < sn → (32 ≤ T j ∧ T j ≤ 126) ∧ sf j &&& 255 = nI (T j)) (h : KX B A L sv O) (h0 : O 13 1 0 = 0) : ∃ O1, mL_reads N sn sf O = mX2_read N O1 ∧ KX B A L sv O1 ∧ TX sn T O1 ∧ O1 14 = O 14 ∧ O1 12 = O 12 := by
  unfold mL_reads
  exact rs_go (by omega) hT sn 9 0 O (by omega) (by omega) h (TX_0 h0)
/-! changes -/
def CX (B : Nat) (A : AT) (L : List AT) (sv : Option AT) (qq : Option (Int32 × OT)) : Prop := ∃ O', O' 13 1 0 = 0 ∧ GL O' ∧ ((qq = some (1, O') ∧ ∃ A', KX (B + 800000) A' ((A :: L).take 8) sv O') ∨ (qq = some (0, O') ∧ KX (B + 800000) A L sv O'))
theorem CP.cx {P : Int32 → Prop} {B : Nat} {A : AT} {L : List AT} {sv : Option AT} {O : OT} {qq : Option (Int32 × OT)} {F : OT → Int32 → Option (Int32 × OT)} (hF : ∀ O, F O 0 = some (0, O) ∧ F O 1 = some (1, O)) (h : CP P B A L sv O qq) (h0 : O 13 1 0 = 0) (hg : GL O) : CX B A L sv (bdO qq (fun v O' => if v < 0 then F O' 0 else F O' 1)) := by
  obtain ⟨r, O', e, hp, h13, h14, hr⟩ := h
  have g0 : O' 13 1 0 = 0 := by rw [h13]; exact h0
  have g1 : GL O' := by unfold GL; rw [h14]; exact hg
  rw [e, bdO_n]
  rcases hr with ⟨n, A', rfl, hn, hk⟩ | ⟨hr, hk⟩
  · rw [if_neg (nI_pos (by omega)), (hF O').2]
    exact ⟨O', g0, g1, Or.inl ⟨rfl, A', KX_congr hk (by omega) rfl (fun _ _ _ => rfl) (fun _ _ => rfl)⟩⟩
  · rw [if_pos hr, (hF O').1]
    exact ⟨O', g0, g1, Or.inr ⟨rfl, KX_congr hk (by omega) rfl (fun _ _ _ => rfl) (fun _ _ => rfl)⟩⟩
theorem gdF {O : OT} : gd ((0 : Int32) = 0 ∨ (0 : Int32) = 1) (some ((0 : Int32), O)) = some (0, O) ∧ gd ((1 : Int32) = 0 ∨ (1 : Int32) = 1) (some ((1 : Int32), O)) = some (1, O) := ⟨gd_n (Or.inl rfl), gd_n (Or.inr rfl)⟩
def lsT (k x : Nat) : Nat → Nat := fun j => (lS k x j &&& 255).toNatClampNeg
theorem ls_0 : ∀ x, x < 6 → lLen.getD 0 0 + sb_dg x ≤ 8 ∧ ∀ j, j < lLen.getD 0 0 + sb_dg x → (32 ≤ lsT 0 x j ∧ lsT 0 x j ≤ 126) ∧ lS 0 x j &&& 255 = nI (lsT 0 x j) := by decide +kernel
theorem ls_1 : ∀ x, x < 32 → lLen.getD 1 0 + sb_dg x ≤ 8 ∧ ∀ j, j < lLen.getD 1 0 + sb_dg x → (32 ≤ lsT 1 x j ∧ lsT 1 x j ≤ 126) ∧ lS 1 x j &&& 255 = nI (lsT 1 x j) := by decide +kernel
theorem toN_n {β : Type} {j : Nat} {k : Nat → Option β} (h : j < 100) : toN (nI j) k = k j := by
  unfold toN
  rw [if_pos ⟨nI_pos' (by omega), nI_lt (b := 100) h (by decide)⟩, nI_clamp (by omega)]
section CG
variable {N B : Nat} {A : AT} {L : List AT} {sv : Option AT} {O : OT}
theorem cg_rd {T : Nat → Nat} {sn : Nat} {sf : Nat → Int32} (hN : 1400 ≤ N) (hb : B + 900000 < 2 ^ 30) (h : KX B A L sv O) (h0 : O 13 1 0 = 0) (hg : GL O) (hs : sn ≤ 8) (hT : ∀ j, j < sn → (32 ≤ T j ∧ T j ≤ 126) ∧ sf j &&& 255 = nI (T j)) : CX B A L sv (bdO (mL_reads N sn sf O) (fun v7 O8 => (if v7 < 0 then fL_changes_229 N O8 0 else fL_changes_229 N O8 1))) := by
  obtain ⟨O1, e1, h1, t1, g14, g12⟩ := rs_all (N := N) hs hT h h0
  obtain ⟨r, O', e2, r1, r2, hr⟩ := rd_all hN hb h1 t1
  have g1 : GL O' := by unfold GL; rw [r2, g14]; exact hg
  rw [e1, e2, bdO_n]
  unfold fL_changes_229
  rcases hr with ⟨n, A', rfl, hn, hk⟩ | ⟨hr, hk⟩
  · rw [if_neg (nI_pos (by omega)), gdF.2]
    exact ⟨O', r1, g1, Or.inl ⟨rfl, A', hk⟩⟩
  · rw [if_pos hr, gdF.1]
    exact ⟨O', r1, g1, Or.inr ⟨rfl, hk⟩⟩
theorem cg_153 (hN : 1400 ≤ N) (hb : B + 900000 < 2 ^ 30) (h : KX B A L sv O) (h0 : O 13 1 0 = 0) (hg : GL O) (x : Int32) : CX B A L sv (fL_changes_153 N O x) := by
  unfold fL_changes_153
  by_cases w : ((x >>> (6 &&& 31)) &&& 1) = 0
  · rw [if_pos w]
    obtain ⟨j, hj, e⟩ := l_some' N (x >>> (4 &&& 31)) 6 6 rfl (by decide) (by decide)
    rw [e, bdP_n, toN_n (by omega)]
    exact cg_rd hN hb h h0 hg (ls_0 j hj).1 (ls_0 j hj).2
  · rw [if_neg w]
    obtain ⟨j, hj, e⟩ := l_some' N (x >>> (4 &&& 31)) 32 32 rfl (by decide) (by decide)
    rw [e, bdP_n, toN_n (by omega)]
    exact cg_rd hN hb h h0 hg (ls_1 j hj).1 (ls_1 j hj).2
theorem cg_all (hN : 1400 ≤ N) (hb : B + 900000 < 2 ^ 30) (h : KX B A L sv O) (h0 : O 13 1 0 = 0) (hg : GL O) (x : Int32) : CX B A L sv (mL_changes N O x) := by
  obtain ⟨y, hy, e0⟩ := l_some' N x 12 12 rfl (by decide) (by decide)
  have g0 : CX B A L sv (bdP (mL_some N (x >>> (4 &&& 31)) 6) (fun v12 => bdO (mX2_dusk N O v12) (fun v13 O14 => (if v13 < 0 then fL_changes_64 N O14 0 else fL_changes_64 N O14 1)))) := by
    obtain ⟨j, hj, e⟩ := l_some' N (x >>> (4 &&& 31)) 6 6 rfl (by decide) (by decide)
    rw [e, bdP_n]
    exact CP.cx (F := fL_changes_64 N) (fun O => gdF) (k_dusk hN (by omega) h _).toCP h0 hg
  have g1 : CX B A L sv (bdP (mL_some N (x >>> (4 &&& 31)) 6) (fun v17 => bdP (mL_some N (x >>> (7 &&& 31)) 6) (fun v18 => bdP (mL_some N (x >>> (9 &&& 31)) 3) (fun v19 => bdO (mX2_road N O v17 v18 v19) (fun v20 O21 => (if v20 < 0 then fL_changes_102 N O21 0 else fL_changes_102 N O21 1)))))) := by
    obtain ⟨j, hj, e⟩ := l_some' N (x >>> (4 &&& 31)) 6 6 rfl (by decide) (by decide)
    obtain ⟨j2, hj2, e2⟩ := l_some' N (x >>> (7 &&& 31)) 6 6 rfl (by decide) (by decide)
    obtain ⟨j3, hj3, e3⟩ := l_some' N (x >>> (9 &&& 31)) 3 3 rfl (by decide) (by decide)
    rw [e, bdP_n, e2, bdP_n, e3, bdP_n]
    exact CP.cx (F := fL_changes_102 N) (fun O => gdF) (k_road hN (by omega) h _ _ _).toCP h0 hg
  have g2 : CX B A L sv (bdP (mL_some N (x >>> (4 &&& 31)) 6) (fun v24 => bdP (mL_some N (x >>> (7 &&& 31)) 3) (fun v25 => bdO (mX2_sleep N O v24 v25) (fun v26 O27 => (if v26 < 0 then fL_changes_131 N O27 0 else fL_changes_131 N O27 1))))) := by
    obtain ⟨j, hj, e⟩ := l_some' N (x >>> (4 &&& 31)) 6 6 rfl (by decide) (by decide)
    obtain ⟨j2, hj2, e2⟩ := l_some' N (x >>> (7 &&& 31)) 3 3 rfl (by decide) (by decide)
    rw [e, bdP_n, e2, bdP_n]
    exact CP.cx (F := fL_changes_131 N) (fun O => gdF) (k_sleep hN (by omega) h _ _).toCP h0 hg
  have g3 : CX B A L sv (bdP (mL_some N (x >>> (4 &&& 31)) 33) (fun v30 => bdO (mX2_pass N O v30) (fun v31 O32 => (if v31 < 0 then fL_changes_152 N O32 0 else fL_changes_152 N O32 1)))) := by
    obtain ⟨j, hj, e⟩ := l_some' N (x >>> (4 &&& 31)) 33 33 rfl (by decide) (by decide)
    rw [e, bdP_n]
    exact CP.cx (F := fL_changes_152 N) (fun O => gdF) (k_pass hN (by omega) h _).toCP h0 hg
  have g4 := cg_153 hN hb h h0 hg x
  have g5 : CX B A L sv (bdO (mL_happens N O (x >>> (4 &&& 31))) (fun v36 O37 => (if v36 < 0 then fL_changes_245 N O37 0 else fL_changes_245 N O37 1))) :=
    CP.cx (F := fL_changes_245 N) (fun O => gdF) (h_all hN (by omega) h _) h0 hg
  have I : ∀ {p : Prop} [Decidable p] {a b : Option (Int32 × OT)}, CX B A L sv a → CX B A L sv b → CX B A L sv (if p then a else b) := fun ha hb => by
    split
    · exact ha
    · exact hb
  unfold mL_changes
  rw [e0, bdP_n]
  exact I g0 (I g1 (I g2 (I g3 (I g4 (I g4 g5)))))
end CG
