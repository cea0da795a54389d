/-! ===== the text of commands: the class ===== -/
abbrev dg (T : Nat → Nat) (n a : Nat) : Prop := a < n ∧ 48 ≤ T a ∧ T a ≤ 57
abbrev lt (T : Nat → Nat) (n a : Nat) : Prop := a < n ∧ 97 ≤ T a ∧ T a ≤ 100
abbrev pm (T : Nat → Nat) (n a : Nat) : Prop := a < n ∧ (T a = 43 ∨ T a = 45)
def TK (T : Nat → Nat) (n : Nat) (K : KT) (a : Nat) : Prop := n ≤ 70 ∧ K 1 0 = nI n ∧ (∀ i, i < n → (32 ≤ T i ∧ T i ≤ 126) ∧ K 0 i = nI (T i)) ∧ K 1 2 = nI a ∧ a ≤ n
def TM (T : Nat → Nat) (n : Nat) (M : KT) (a : Nat) : Prop := n ≤ 70 ∧ M 8 3 = nI n ∧ (∀ i, i < n → (32 ≤ T i ∧ T i ≤ 126) ∧ M 6 i = nI (T i)) ∧ M 8 4 = nI a ∧ a ≤ n
/-- what a class's reading keeps -/
def KE (K K' : KT) : Prop := K' 0 = K 0 ∧ K' 1 0 = K 1 0 ∧ K' 1 1 = K 1 1
def ME (M M' : KT) : Prop := (∀ j, j ≠ 7 → j ≠ 8 → M' j = M j) ∧ ∀ i, i ≠ 4 → i ≠ 5 → M' 8 i = M 8 i
theorem KE.trans {A B C : KT} (h : KE A B) (g : KE B C) : KE A C := ⟨g.1.trans h.1, g.2.1.trans h.2.1, g.2.2.trans h.2.2⟩
theorem KE_set {K : KT} {i : Nat} {v : Int32} (h : 2 ≤ i) : KE K (fset K 1 i v) := ⟨fset_ne (by decide), by rw [fset_eq, pk_un (by omega)], by rw [fset_eq, pk_un (by omega)]⟩
theorem ME.trans {A B C : KT} (h : ME A B) (g : ME B C) : ME A C := ⟨fun j j7 j8 => (g.1 j j7 j8).trans (h.1 j j7 j8), fun i i4 i5 => (g.2 i i4 i5).trans (h.2 i i4 i5)⟩
theorem ME_8 {M : KT} {i : Nat} {v : Int32} (h : i = 4 ∨ i = 5) : ME M (fset M 8 i v) := ⟨fun j _ j8 => fset_ne j8, fun k k4 k5 => by rw [fset_eq, pk_un (by omega)]⟩
theorem ME_7 {M : KT} {i : Nat} {v : Int32} : ME M (fset M 7 i v) := ⟨fun j j7 _ => fset_ne j7, fun k _ _ => by rw [fset_ne (by decide)]⟩
theorem TK_set {T : Nat → Nat} {n a i : Nat} {K : KT} {v : Int32} (h : TK T n K a) (hi : 3 ≤ i) : TK T n (fset K 1 i v) a := by
  obtain ⟨h1, h2, h3, h4, h5⟩ := h
  exact ⟨h1, by rw [fset_eq, pk_un (by omega)]; exact h2, fun j hj => by rw [fset_ne (by decide)]; exact h3 j hj, by rw [fset_eq, pk_un (by omega)]; exact h4, h5⟩
theorem TK_at {T : Nat → Nat} {n a b : Nat} {K : KT} (h : TK T n K a) (hb : b ≤ n) : TK T n (fset K 1 2 (nI b)) b := by
  obtain ⟨h1, h2, h3, h4, h5⟩ := h
  exact ⟨h1, by rw [fset_eq, pk_un (by decide)]; exact h2, fun j hj => by rw [fset_ne (by decide)]; exact h3 j hj, by rw [fset_eq, pk_us], hb⟩
theorem TM_5 {T : Nat → Nat} {n a : Nat} {M : KT} {v : Int32} (h : TM T n M a) : TM T n (fset M 8 5 v) a := by
  obtain ⟨h1, h2, h3, h4, h5⟩ := h
  exact ⟨h1, by rw [fset_eq, pk_un (by decide)]; exact h2, fun j hj => by rw [fset_ne (by decide)]; exact h3 j hj, by rw [fset_eq, pk_un (by decide)]; exact h4, h5⟩
theorem TM_7 {T : Nat → Nat} {n a i : Nat} {M : KT} {v : Int32} (h : TM T n M a) : TM T n (fset M 7 i v) a := by
  obtain ⟨h1, h2, h3, h4, h5⟩ := h
  exact ⟨h1, by rw [fset_ne (by decide)]; exact h2, fun j hj => by rw [fset_ne (by decide)]; exact h3 j hj, by rw [fset_ne (by decide)]; exact h4, h5⟩
theorem TM_at {T : Nat → Nat} {n a b : Nat} {M : KT} (h : TM T n M a) (hb : b ≤ n) : TM T n (fset M 8 4 (nI b)) b := by
  obtain ⟨h1, h2, h3, h4, h5⟩ := h
  exact ⟨h1, by rw [fset_eq, pk_un (by decide)]; exact h2, fun j hj => by rw [fset_ne (by decide)]; exact h3 j hj, by rw [fset_eq, pk_us], hb⟩
theorem and255 : ∀ t, t < 128 → nI t &&& 255 = nI t := by decide +kernel
theorem s_at {K : KT} {n i t : Nat} (hn : n < 65536) (h0 : K 1 0 = nI n) (hi : i < n) (h : K 0 i = nI t) (ht : t < 128) : s_charAt K (nI i) = some (nI t) := by
  unfold s_charAt
  rw [h0, if_pos ⟨nI_pos' (by omega), nI_lt hi (by omega)⟩, nI_clamp (by omega), h, and255 t ht]
theorem c1_peek {N n a : Nat} {T : Nat → Nat} {K : KT} (h : TK T n K a) : mX1_peek N K = some (if a < n then nI (T a) else -1) := by
  obtain ⟨h1, h2, h3, h4, h5⟩ := h
  unfold mX1_peek fX1_peek_35 fX1_peek_36 s_length
  rw [h4, if_neg (nI_pos (by omega)), bdP_n, h2, ite_le (by omega) (by omega)]
  by_cases q : a < n
  · obtain ⟨h6, h7⟩ := h3 a q
    rw [if_neg (by omega), if_pos q, s_at (by omega) h2 q h7 (by omega), bdP_n]
  · rw [if_pos (by omega), if_neg q]
theorem c1_peekY {N n a : Nat} {T : Nat → Nat} {K : KT} (h : TK T n K a) (q : a < n) : mX1_peek N K = some (nI (T a)) := by rw [c1_peek h, if_pos q]
theorem c1_peekN {N n a : Nat} {T : Nat → Nat} {K : KT} (h : TK T n K a) (q : ¬ a < n) : mX1_peek N K = some (-1) := by rw [c1_peek h, if_neg q]
theorem c1_isAtDigit {N n a : Nat} {T : Nat → Nat} {K : KT} (h : TK T n K a) : mX1_isAtDigit N K = some (nI (bN (dg T n a))) := by
  unfold mX1_isAtDigit fX1_isAtDigit_22 fX1_isAtDigit_23
  by_cases q : a < n
  · obtain ⟨h6, -⟩ := h.2.2.1 a q
    rw [c1_peekY h q, bdP_n, bdP_n, show (48 : Int32) = nI 48 from rfl, ite_lt (by omega) (by omega), show (57 : Int32) = nI 57 from rfl, ite_lt (by omega) (by omega)]
    by_cases q1 : T a < 48
    · rw [if_pos q1, bN_f (by omega)]; exact gd_n (Or.inl rfl)
    · rw [if_neg q1]
      by_cases q2 : 57 < T a
      · rw [if_pos q2, bN_f (by omega)]; exact gd_n (Or.inl rfl)
      · rw [if_neg q2, bN_t (show dg T n a from ⟨q, by omega, by omega⟩)]; exact gd_n (Or.inr rfl)
  · rw [c1_peekN h q, bdP_n, if_pos (by decide), bN_f (by omega)]; exact gd_n (Or.inl rfl)
theorem c1_takeDigitY {N n a : Nat} {T : Nat → Nat} {K : KT} (h : TK T n K a) (q : dg T n a) : mX1_takeDigit N K = some (1, fset (fset K 1 4 (nI (T a - 48))) 1 2 (nI (a + 1))) := by
  unfold mX1_takeDigit
  rw [c1_isAtDigit h, bdP_n, bN_t q, if_neg (show ¬ nI 1 = 0 by decide), c1_peekY h q.1, bdP_n, ptF_n, show nI (T a) - 48 = nI (T a - 48) from nsub (b := 48) q.2.1, fset_eq, pk_un (by decide), h.2.2.2.1, show nI a + 1 = nI (a + 1) from nadd a 1, ptF_n]
theorem c1_takeDigitN {N n a : Nat} {T : Nat → Nat} {K : KT} (h : TK T n K a) (q : ¬ dg T n a) : mX1_takeDigit N K = some (0, K) := by
  unfold mX1_takeDigit
  rw [c1_isAtDigit h, bdP_n, bN_f q, if_pos (show nI 0 = 0 from rfl)]
theorem c1_takeLetterY {N n a : Nat} {T : Nat → Nat} {K : KT} (h : TK T n K a) (q : lt T n a) : mX1_takeLetter N K = some (1, fset (fset K 1 5 (nI (T a - 97))) 1 2 (nI (a + 1))) := by
  have q2 := q.2
  unfold mX1_takeLetter
  rw [c1_peekY h q.1, bdP_n, bdP_n, bdP_n, show (97 : Int32) = nI 97 from rfl, ite_lt (by omega) (by omega), if_neg (by omega), show (100 : Int32) = nI 100 from rfl, ite_le (by omega) (by omega), if_pos (by omega), ptF_n, nsub q.2.1, fset_eq, pk_un (by decide), h.2.2.2.1, show nI a + 1 = nI (a + 1) from nadd a 1, ptF_n]
theorem c1_takeLetterN {N n a : Nat} {T : Nat → Nat} {K : KT} (h : TK T n K a) (q : ¬ lt T n a) : mX1_takeLetter N K = some (0, K) := by
  unfold mX1_takeLetter fX1_takeLetter_18
  by_cases w : a < n
  · obtain ⟨h6, -⟩ := h.2.2.1 a w
    rw [c1_peekY h w, bdP_n, bdP_n, bdP_n, show (97 : Int32) = nI 97 from rfl, ite_lt (by omega) (by omega), show (100 : Int32) = nI 100 from rfl, ite_le (by omega) (by omega)]
    by_cases q1 : T a < 97
    · rw [if_pos q1]
    · rw [if_neg q1, if_neg (by omega)]
  · rw [c1_peekN h w, bdP_n, if_pos (by decide)]
theorem c1_takeSignY {N n a c : Nat} {T : Nat → Nat} {K : KT} (h : TK T n K a) (q : a < n) (qc : T a = c) : mX1_takeSign N K (nI c) = some (1, fset K 1 2 (nI (a + 1))) := by
  unfold mX1_takeSign
  rw [c1_peekY h q, bdP_n, qc, if_pos rfl, ptF_n, h.2.2.2.1, show nI a + 1 = nI (a + 1) from nadd a 1]
theorem c1_takeSignN {N n a c : Nat} {T : Nat → Nat} {K : KT} (h : TK T n K a) (hc : c < 128) (q : ¬ (a < n ∧ T a = c)) : mX1_takeSign N K (nI c) = some (0, K) := by
  unfold mX1_takeSign
  by_cases w : a < n
  · obtain ⟨h6, -⟩ := h.2.2.1 a w
    rw [c1_peekY h w, bdP_n, ite_eq (by omega) (by omega), if_neg (fun z => q ⟨w, z⟩)]
  · rw [c1_peekN h w, bdP_n, if_neg (fun z => absurd (show (0 : Int32) ≤ -1 by rw [z]; exact nI_pos' (by omega)) (by decide))]
/-- a command at a: is it one, where reading stops, its numbers -/
def cmdR (T : Nat → Nat) (n a : Nat) : Nat × Nat × Nat × Nat × Nat :=
  if a < n then
    if T a = 100 ∨ T a = 107 ∨ T a = 109 ∨ T a = 122 then (if dg T n (a + 1) then (1, a + 2, T (a + 1) - 48, 0, 0) else (0, a + 1, 0, 0, 0))
    else if T a = 119 then (if dg T n (a + 1) then (if lt T n (a + 2) then (1, a + 3, T (a + 1) - 48, T (a + 2) - 97, 0) else (0, a + 2, 0, 0, 0)) else (0, a + 1, 0, 0, 0))
    else if T a = 114 then (if dg T n (a + 1) then (if dg T n (a + 2) then (if pm T n (a + 3) then (1, a + 4, T (a + 1) - 48, T (a + 2) - 48, if T (a + 3) = 43 then 1 else 0) else (0, a + 3, 0, 0, 0)) else (0, a + 2, 0, 0, 0)) else (0, a + 1, 0, 0, 0))
    else if T a = 112 then (if dg T n (a + 1) then (if dg T n (a + 2) then (1, a + 3, 10 * (T (a + 1) - 48) + (T (a + 2) - 48), 0, 0) else (1, a + 2, T (a + 1) - 48, 0, 0)) else (0, a + 1, 0, 0, 0))
    else (0, a, 0, 0, 0)
  else (0, a, 0, 0, 0)
def KOK (T : Nat → Nat) (a : Nat) (K : KT) (x y z : Nat) : Prop := K 1 3 = nI (T a) ∧ K 1 4 = nI x ∧ (T a = 119 → K 1 5 = nI y) ∧ (T a = 114 → K 1 5 = nI y ∧ K 1 6 = nI z)
def CR1 (T : Nat → Nat) (n a : Nat) (K : KT) (q : Option (Int32 × KT)) : Prop := ∃ K', q = some (nI (cmdR T n a).1, K') ∧ KE K K' ∧ TK T n K' (cmdR T n a).2.1 ∧ ((cmdR T n a).1 = 1 → KOK T a K' (cmdR T n a).2.2.1 (cmdR T n a).2.2.2.1 (cmdR T n a).2.2.2.2)
theorem c1_120 {N n a : Nat} {T : Nat → Nat} {K : KT} (h : TK T n K a) (ha : a < n) (hk : T a = 100 ∨ T a = 107 ∨ T a = 109 ∨ T a = 122) : CR1 T n a K (fX1_takeCommand_120 N (fset K 1 3 (nI (T a)))) := by
  have h1 : TK T n (fset (fset K 1 3 (nI (T a))) 1 2 (nI (a + 1))) (a + 1) := TK_at (TK_set h (Nat.le_refl 3)) (by omega)
  have k1 : KE K (fset (fset K 1 3 (nI (T a))) 1 2 (nI (a + 1))) := (KE_set (by decide)).trans (KE_set (by decide))
  have e1 : fset K 1 3 (nI (T a)) 1 2 + 1 = nI (a + 1) := by
    rw [fset_eq, pk_un (by decide), h.2.2.2.1]
    exact nadd a 1
  have hd : T (a + 1) = T (a + 1) := rfl
  unfold CR1 fX1_takeCommand_120 cmdR
  rw [ptF_n, e1, if_pos ha, if_pos hk]
  by_cases q : dg T n (a + 1)
  · rw [if_pos q, c1_takeDigitY h1 q, bdE_n]
    have q1 := q.1
    refine ⟨_, gd_n (Or.inr rfl), k1.trans ((KE_set (by decide)).trans (KE_set (by decide))), TK_at (TK_set h1 (by decide)) (show a + 2 ≤ n by omega), fun _ => ⟨?_, ?_, fun w => absurd w (by omega), fun w => absurd w (by omega)⟩⟩
    · rw [fset_eq, pk_un (by decide), fset_eq, pk_un (by decide), fset_eq, pk_un (by decide), fset_eq, pk_us]
    · rw [fset_eq, pk_un (by decide), fset_eq, pk_us]
  · rw [if_neg q, c1_takeDigitN h1 q, bdE_n]
    exact ⟨_, gd_n (Or.inl rfl), k1, h1, fun w => absurd (show (0 : Nat) = 1 from w) (by decide)⟩
theorem c1_cmd {N n a : Nat} {T : Nat → Nat} {K : KT} (h : TK T n K a) : CR1 T n a K (mX1_takeCommand N K) := by
  unfold mX1_takeCommand
  by_cases ha : a < n
  · obtain ⟨hr, -⟩ := h.2.2.1 a ha
    rw [c1_peekY h ha, bdP_n, ptF_n]
    have e3 : fset K 1 3 (nI (T a)) 1 3 = nI (T a) := by rw [fset_eq, pk_us]
    have e2 : fset K 1 3 (nI (T a)) 1 2 + 1 = nI (a + 1) := by
      rw [fset_eq, pk_un (by decide), h.2.2.2.1]
      exact nadd a 1
    have h1 : TK T n (fset (fset K 1 3 (nI (T a))) 1 2 (nI (a + 1))) (a + 1) := TK_at (TK_set h (Nat.le_refl 3)) (by omega)
    have k1 : KE K (fset (fset K 1 3 (nI (T a))) 1 2 (nI (a + 1))) := (KE_set (by decide)).trans (KE_set (by decide))
    rw [e3]
    by_cases t100 : T a = 100
    · have e := c1_120 (N := N) h ha (by omega)
      rw [t100] at e ⊢
      rw [if_pos (show nI 100 = 100 from rfl)]
      exact e
    by_cases t107 : T a = 107
    · have e := c1_120 (N := N) h ha (by omega)
      rw [t107] at e ⊢
      rw [if_neg (by decide), if_neg (by decide), if_neg (by decide), if_neg (by decide), if_neg (by decide), if_neg (by decide), if_neg (by decide), if_pos (show nI 107 = 107 from rfl)]
      exact e
    by_cases t109 : T a = 109
    · have e := c1_120 (N := N) h ha (by omega)
      rw [t109] at e ⊢
      rw [if_neg (by decide), if_neg (by decide), if_neg (by decide), if_neg (by decide), if_neg (by decide), if_neg (by decide), if_neg (by decide), if_neg (by decide), if_neg (by decide), if_pos (show nI 109 = 109 from rfl)]
      exact e
    by_cases t122 : T a = 122
    · have e := c1_120 (N := N) h ha (by omega)
      rw [t122] at e ⊢
      rw [if_neg (by decide), if_neg (by decide), if_neg (by decide), if_neg (by decide), if_neg (by decide), if_neg (by decide), if_neg (by decide), if_neg (by decide), if_neg (by decide), if_neg (by decide), if_neg (by decide), if_neg (by decide), if_neg (by decide), if_neg (by decide), if_neg (by decide), if_neg (by decide), if_neg (by decide), if_neg (by decide), if_neg (by decide), if_neg (by decide), if_neg (by decide), if_neg (by decide), if_pos (show nI 122 = 122 from rfl)]
      exact e
    by_cases t119 : T a = 119
    · have ec : cmdR T n a = (if dg T n (a + 1) then (if lt T n (a + 2) then (1, a + 3, T (a + 1) - 48, T (a + 2) - 97, 0) else (0, a + 2, 0, 0, 0)) else (0, a + 1, 0, 0, 0)) := by
        unfold cmdR
        rw [if_pos ha, if_neg (by omega), if_pos t119]
      rw [t119] at h1 k1 e2 ⊢
      rw [if_neg (by decide), if_neg (by decide), if_neg (by decide), if_neg (by decide), if_neg (by decide), if_neg (by decide), if_neg (by decide), if_neg (by decide), if_neg (by decide), if_neg (by decide), if_neg (by decide), if_neg (by decide), if_neg (by decide), if_neg (by decide), if_neg (by decide), if_neg (by decide), if_neg (by decide), if_neg (by decide), if_neg (by decide), if_pos (show nI 119 = 119 from rfl), ptF_n, e2]
      unfold CR1
      rw [ec]
      by_cases q : dg T n (a + 1)
      · have q1 := q.1
        have h2 : TK T n (fset (fset (fset (fset K 1 3 (nI 119)) 1 2 (nI (a + 1))) 1 4 (nI (T (a + 1) - 48))) 1 2 (nI (a + 2))) (a + 2) := TK_at (TK_set h1 (by decide)) (show a + 2 ≤ n by omega)
        have k2 := k1.trans ((KE_set (K := fset (fset K 1 3 (nI 119)) 1 2 (nI (a + 1))) (i := 4) (v := nI (T (a + 1) - 48)) (by decide)).trans (KE_set (i := 2) (v := nI (a + 2)) (by decide)))
        rw [if_pos q, c1_takeDigitY h1 q, bdE_n, if_neg (show ¬ (1 : Int32) = 0 by decide)]
        by_cases q2 : lt T n (a + 2)
        · rw [if_pos q2, c1_takeLetterY h2 q2, bdE_n, if_neg (show ¬ (1 : Int32) = 0 by decide)]
          have q21 := q2.1
          unfold fX1_takeCommand_164
          refine ⟨_, gd_n (Or.inr rfl), k2.trans ((KE_set (by decide)).trans (KE_set (by decide))), TK_at (TK_set h2 (by decide)) (show a + 3 ≤ n by omega), fun _ => ⟨?_, ?_, fun _ => ?_, fun w => absurd w (by omega)⟩⟩
          · rw [fset_eq, pk_un (by decide), fset_eq, pk_un (by decide), fset_eq, pk_un (by decide), fset_eq, pk_un (by decide), fset_eq, pk_un (by decide), fset_eq, pk_us, t119]
          · rw [fset_eq, pk_un (by decide), fset_eq, pk_un (by decide), fset_eq, pk_un (by decide), fset_eq, pk_us]
          · rw [fset_eq, pk_un (by decide), fset_eq, pk_us]
        · rw [if_neg q2, c1_takeLetterN h2 q2, bdE_n, if_pos (show (0 : Int32) = 0 from rfl)]
          unfold fX1_takeCommand_163 fX1_takeCommand_164
          exact ⟨_, gd_n (Or.inl rfl), k2, h2, fun w => absurd (show (0 : Nat) = 1 from w) (by decide)⟩
      · rw [if_neg q, c1_takeDigitN h1 q, bdE_n, if_pos (show (0 : Int32) = 0 from rfl)]
        unfold fX1_takeCommand_163 fX1_takeCommand_164
        exact ⟨_, gd_n (Or.inl rfl), k1, h1, fun w => absurd (show (0 : Nat) = 1 from w) (by decide)⟩
    by_cases t112 : T a = 112
    · have ec : cmdR T n a = (if dg T n (a + 1) then (if dg T n (a + 2) then (1, a + 3, 10 * (T (a + 1) - 48) + (T (a + 2) - 48), 0, 0) else (1, a + 2, T (a + 1) - 48, 0, 0)) else (0, a + 1, 0, 0, 0)) := by
        unfold cmdR
        rw [if_pos ha, if_neg (by omega), if_neg t119, if_neg (by omega), if_pos t112]
      rw [t112] at h1 k1 e2 ⊢
      rw [if_neg (by decide), if_neg (by decide), if_neg (by decide), if_neg (by decide), if_neg (by decide), if_neg (by decide), if_neg (by decide), if_neg (by decide), if_neg (by decide), if_neg (by decide), if_neg (by decide), if_neg (by decide), if_pos (show nI 112 = 112 from rfl), ptF_n, e2]
      unfold CR1 mX1_takeNumber fX1_takeNumber_45
      rw [ec]
      by_cases q : dg T n (a + 1)
      · have q1 := q.1
        have h2 : TK T n (fset (fset (fset (fset K 1 3 (nI 112)) 1 2 (nI (a + 1))) 1 4 (nI (T (a + 1) - 48))) 1 2 (nI (a + 2))) (a + 2) := TK_at (TK_set h1 (by decide)) (show a + 2 ≤ n by omega)
        have k2 := k1.trans ((KE_set (K := fset (fset K 1 3 (nI 112)) 1 2 (nI (a + 1))) (i := 4) (v := nI (T (a + 1) - 48)) (by decide)).trans (KE_set (i := 2) (v := nI (a + 2)) (by decide)))
        rw [if_pos q, c1_takeDigitY h1 q, bdE_n, if_neg (show ¬ (1 : Int32) = 0 by decide), c1_isAtDigit h2, bdP_n]
        by_cases q2 : dg T n (a + 2)
        · have q21 := q2.1
          have e4 : fset (fset (fset (fset K 1 3 (nI 112)) 1 2 (nI (a + 1))) 1 4 (nI (T (a + 1) - 48))) 1 2 (nI (a + 2)) 1 4 * 10 + nI (T (a + 2)) - 48 = nI (10 * (T (a + 1) - 48) + (T (a + 2) - 48)) := by
            rw [fset_eq, pk_un (by decide), fset_eq, pk_us, show (10 : Int32) = nI 10 from rfl, nmul, nadd, show (48 : Int32) = nI 48 from rfl, nsub (by omega)]
            congr 1
            omega
          rw [if_pos q2, bN_t q2, if_neg (show ¬ nI 1 = 0 by decide), c1_peekY h2 q21, bdP_n, ptF_n, e4, fset_eq, pk_un (show (2 : Nat) ≠ 4 by decide), h2.2.2.2.1, show nI (a + 2) + 1 = nI (a + 3) from nadd (a + 2) 1, ptF_n, bdE_n]
          refine ⟨_, gd_n (Or.inr rfl), k2.trans ((KE_set (by decide)).trans (KE_set (by decide))), TK_at (TK_set h2 (by decide)) (show a + 3 ≤ n by omega), fun _ => ⟨?_, ?_, fun w => absurd w (by omega), fun w => absurd w (by omega)⟩⟩
          · rw [fset_eq, pk_un (by decide), fset_eq, pk_un (by decide), fset_eq, pk_un (by decide), fset_eq, pk_un (by decide), fset_eq, pk_un (by decide), fset_eq, pk_us, t112]
          · rw [fset_eq, pk_un (by decide), fset_eq, pk_us]
        · rw [if_neg q2, bN_f q2, if_pos (show nI 0 = 0 from rfl), bdE_n]
          refine ⟨_, gd_n (Or.inr rfl), k2, h2, fun _ => ⟨?_, ?_, fun w => absurd w (by omega), fun w => absurd w (by omega)⟩⟩
          · rw [fset_eq, pk_un (by decide), fset_eq, pk_un (by decide), fset_eq, pk_un (by decide), fset_eq, pk_us, t112]
          · rw [fset_eq, pk_un (by decide), fset_eq, pk_us]
      · rw [if_neg q, c1_takeDigitN h1 q, bdE_n, if_pos (show (0 : Int32) = 0 from rfl), bdE_n]
        exact ⟨_, gd_n (Or.inl rfl), k1, h1, fun w => absurd (show (0 : Nat) = 1 from w) (by decide)⟩
    by_cases t114 : T a = 114
    · have ec : cmdR T n a = (if dg T n (a + 1) then (if dg T n (a + 2) then (if pm T n (a + 3) then (1, a + 4, T (a + 1) - 48, T (a + 2) - 48, if T (a + 3) = 43 then 1 else 0) else (0, a + 3, 0, 0, 0)) else (0, a + 2, 0, 0, 0)) else (0, a + 1, 0, 0, 0)) := by
        unfold cmdR
        rw [if_pos ha, if_neg (by omega), if_neg t119, if_pos t114]
      rw [t114] at h1 k1 e2 ⊢
      rw [if_neg (by decide), if_neg (by decide), if_neg (by decide), if_neg (by decide), if_neg (by decide), if_neg (by decide), if_neg (by decide), if_neg (by decide), if_neg (by decide), if_neg (by decide), if_neg (by decide), if_neg (by decide), if_neg (by decide), if_neg (by decide), if_pos (show nI 114 = 114 from rfl), ptF_n, e2]
      unfold CR1 mX1_takeRoad
      rw [ec]
      by_cases q : dg T n (a + 1)
      · have q1 := q.1
        obtain ⟨K2, eK2⟩ : ∃ K2, K2 = fset (fset (fset (fset K 1 3 (nI 114)) 1 2 (nI (a + 1))) 1 4 (nI (T (a + 1) - 48))) 1 2 (nI (a + 2)) := ⟨_, rfl⟩
        have h2 : TK T n K2 (a + 2) := by rw [eK2]; exact TK_at (TK_set h1 (by decide)) (show a + 2 ≤ n by omega)
        have k2 : KE K K2 := by rw [eK2]; exact k1.trans ((KE_set (by decide)).trans (KE_set (by decide)))
        have k24 : K2 1 4 = nI (T (a + 1) - 48) := by rw [eK2, fset_eq, pk_un (by decide), fset_eq, pk_us]
        have k23 : K2 1 3 = nI 114 := by rw [eK2, fset_eq, pk_un (by decide), fset_eq, pk_un (by decide), fset_eq, pk_un (by decide), fset_eq, pk_us]
        have d2 := c1_takeDigitY (N := N) h1 q
        rw [show a + 1 + 1 = a + 2 by omega, ← eK2] at d2
        rw [if_pos q, d2, bdE_n, if_neg (show ¬ (1 : Int32) = 0 by decide)]
        by_cases q2 : dg T n (a + 2)
        · have q21 := q2.1
          obtain ⟨K3, eK3⟩ : ∃ K3, K3 = fset (fset (fset (fset K2 1 4 (nI (T (a + 2) - 48))) 1 2 (nI (a + 3))) 1 5 (nI (T (a + 2) - 48))) 1 4 (nI (T (a + 1) - 48)) := ⟨_, rfl⟩
          have h3 : TK T n K3 (a + 3) := by rw [eK3]; exact TK_set (TK_set (TK_at (TK_set h2 (by decide)) (show a + 3 ≤ n by omega)) (by decide)) (by decide)
          have k3 : KE K K3 := by rw [eK3]; exact k2.trans (((KE_set (by decide)).trans (KE_set (by decide))).trans ((KE_set (by decide)).trans (KE_set (by decide))))
          have k33 : K3 1 3 = nI 114 := by rw [eK3, fset_eq, pk_un (by decide), fset_eq, pk_un (by decide), fset_eq, pk_un (by decide), fset_eq, pk_un (by decide), k23]
          have k34 : K3 1 4 = nI (T (a + 1) - 48) := by rw [eK3, fset_eq, pk_us]
          have k35 : K3 1 5 = nI (T (a + 2) - 48) := by rw [eK3, fset_eq, pk_un (by decide), fset_eq, pk_us]
          have ek : fset (fset (fset K2 1 4 (nI (T (a + 2) - 48))) 1 2 (nI (a + 3))) 1 5 (fset (fset K2 1 4 (nI (T (a + 2) - 48))) 1 2 (nI (a + 3)) 1 4) = fset (fset (fset K2 1 4 (nI (T (a + 2) - 48))) 1 2 (nI (a + 3))) 1 5 (nI (T (a + 2) - 48)) := by
            rw [show fset (fset K2 1 4 (nI (T (a + 2) - 48))) 1 2 (nI (a + 3)) 1 4 = nI (T (a + 2) - 48) by rw [fset_eq, pk_un (by decide), fset_eq, pk_us]]
          have d3 := c1_takeDigitY (N := N) h2 q2
          rw [show a + 2 + 1 = a + 3 by omega] at d3
          rw [if_pos q2, d3, bdE_n, if_neg (show ¬ (1 : Int32) = 0 by decide), ptF_n, ek, k24, ptF_n, ← eK3]
          have fin : ∀ (x : Int32), x = nI (if T (a + 3) = 43 then 1 else 0) → (∃ K', bdE (fX1_takeRoad_51 N K3 x) (fun v25 K26 => gd (v25 = 0 ∨ v25 = 1) (some (v25, K26))) = some (nI (if pm T n (a + 3) then (1, a + 4, T (a + 1) - 48, T (a + 2) - 48, if T (a + 3) = 43 then 1 else 0) else (0, a + 3, 0, 0, 0)).1, K') ∧ KE K K' ∧ TK T n K' (if pm T n (a + 3) then (1, a + 4, T (a + 1) - 48, T (a + 2) - 48, if T (a + 3) = 43 then 1 else 0) else (0, a + 3, 0, 0, 0)).2.1 ∧ ((if pm T n (a + 3) then (1, a + 4, T (a + 1) - 48, T (a + 2) - 48, if T (a + 3) = 43 then 1 else 0) else (0, a + 3, 0, 0, 0)).1 = 1 → KOK T a K' (if pm T n (a + 3) then (1, a + 4, T (a + 1) - 48, T (a + 2) - 48, if T (a + 3) = 43 then 1 else 0) else (0, a + 3, 0, 0, 0)).2.2.1 (if pm T n (a + 3) then (1, a + 4, T (a + 1) - 48, T (a + 2) - 48, if T (a + 3) = 43 then 1 else 0) else (0, a + 3, 0, 0, 0)).2.2.2.1 (if pm T n (a + 3) then (1, a + 4, T (a + 1) - 48, T (a + 2) - 48, if T (a + 3) = 43 then 1 else 0) else (0, a + 3, 0, 0, 0)).2.2.2.2)) := by
            intro x hx
            have h4 : TK T n (fset K3 1 6 x) (a + 3) := TK_set h3 (by decide)
            have k4 : KE K (fset K3 1 6 x) := k3.trans (KE_set (by decide))
            unfold fX1_takeRoad_51 fX1_takeRoad_72 fX1_takeRoad_77
            rw [ptF_n]
            by_cases q3 : pm T n (a + 3)
            · have q31 := q3.1
              have good : ∀ K', K' = fset (fset K3 1 6 x) 1 2 (nI (a + 4)) → KE K K' ∧ TK T n K' (a + 4) ∧ KOK T a K' (T (a + 1) - 48) (T (a + 2) - 48) (if T (a + 3) = 43 then 1 else 0) := by
                intro K' eK'
                rw [eK']
                refine ⟨k4.trans (KE_set (by decide)), TK_at h4 (by omega), ?_, ?_, fun w => absurd w (by omega), fun _ => ⟨?_, ?_⟩⟩
                · rw [fset_eq, pk_un (by decide), fset_eq, pk_un (by decide), k33, t114]
                · rw [fset_eq, pk_un (by decide), fset_eq, pk_un (by decide), k34]
                · rw [fset_eq, pk_un (by decide), fset_eq, pk_un (by decide), k35]
                · rw [fset_eq, pk_un (by decide), fset_eq, pk_us, hx]
              rw [if_pos q3]
              rcases q3.2 with c43 | c45
              · have s := c1_takeSignY (N := N) (c := 43) h4 q31 c43
                rw [show a + 3 + 1 = a + 4 by omega] at s
                rw [show mX1_takeSign N (fset K3 1 6 x) 43 = _ from s, bdE_n, if_neg (show ¬ (1 : Int32) = 0 by decide), show gd ((1 : Int32) = 0 ∨ (1 : Int32) = 1) (some ((1 : Int32), fset (fset K3 1 6 x) 1 2 (nI (a + 4)))) = some (1, fset (fset K3 1 6 x) 1 2 (nI (a + 4))) from gd_n (Or.inr rfl), bdE_n]
                obtain ⟨g1, g2, g3⟩ := good _ rfl
                exact ⟨_, gd_n (Or.inr rfl), g1, g2, fun _ => g3⟩
              · have s0 := c1_takeSignN (N := N) (c := 43) h4 (by decide) (fun z => absurd (c45.symm.trans z.2) (by decide))
                have s := c1_takeSignY (N := N) (c := 45) h4 q31 c45
                rw [show a + 3 + 1 = a + 4 by omega] at s
                rw [show mX1_takeSign N (fset K3 1 6 x) 43 = _ from s0, bdE_n, if_pos (show (0 : Int32) = 0 from rfl), show mX1_takeSign N (fset K3 1 6 x) 45 = _ from s, bdE_n, if_neg (show ¬ (1 : Int32) = 0 by decide), show gd ((1 : Int32) = 0 ∨ (1 : Int32) = 1) (some ((1 : Int32), fset (fset K3 1 6 x) 1 2 (nI (a + 4)))) = some (1, fset (fset K3 1 6 x) 1 2 (nI (a + 4))) from gd_n (Or.inr rfl), bdE_n]
                obtain ⟨g1, g2, g3⟩ := good _ rfl
                exact ⟨_, gd_n (Or.inr rfl), g1, g2, fun _ => g3⟩
            · have s0 := c1_takeSignN (N := N) (c := 43) h4 (by decide) (fun z => q3 ⟨z.1, Or.inl z.2⟩)
              have s1 := c1_takeSignN (N := N) (c := 45) h4 (by decide) (fun z => q3 ⟨z.1, Or.inr z.2⟩)
              rw [if_neg q3, show mX1_takeSign N (fset K3 1 6 x) 43 = _ from s0, bdE_n, if_pos (show (0 : Int32) = 0 from rfl), show mX1_takeSign N (fset K3 1 6 x) 45 = _ from s1, bdE_n, if_pos (show (0 : Int32) = 0 from rfl), show gd ((0 : Int32) = 0 ∨ (0 : Int32) = 1) (some ((0 : Int32), fset K3 1 6 x)) = some (0, fset K3 1 6 x) from gd_n (Or.inl rfl), bdE_n]
              exact ⟨_, gd_n (Or.inl rfl), k4, h4, fun w => absurd (show (0 : Nat) = 1 from w) (by decide)⟩
          rw [c1_peek h3, bdP_n]
          by_cases q3 : a + 3 < n
          · have hr3 := (h.2.2.1 (a + 3) q3).1
            rw [if_pos q3, show (43 : Int32) = nI 43 from rfl, ite_eq (by omega) (by decide)]
            by_cases c43 : T (a + 3) = 43
            · rw [if_pos c43]
              exact fin 1 (by rw [if_pos c43]; rfl)
            · rw [if_neg c43]
              exact fin 0 (by rw [if_neg c43]; rfl)
          · rw [if_neg q3, if_neg (by decide)]
            have nf : ¬ pm T n (a + 3) := fun z => q3 z.1
            have h4 : TK T n (fset K3 1 6 0) (a + 3) := TK_set h3 (by decide)
            have k4 : KE K (fset K3 1 6 0) := k3.trans (KE_set (by decide))
            have s0 := c1_takeSignN (N := N) (c := 43) h4 (by decide) (fun z => q3 z.1)
            have s1 := c1_takeSignN (N := N) (c := 45) h4 (by decide) (fun z => q3 z.1)
            unfold fX1_takeRoad_51 fX1_takeRoad_72 fX1_takeRoad_77
            rw [ptF_n, if_neg nf, show mX1_takeSign N (fset K3 1 6 0) 43 = _ from s0, bdE_n, if_pos (show (0 : Int32) = 0 from rfl), show mX1_takeSign N (fset K3 1 6 0) 45 = _ from s1, bdE_n, if_pos (show (0 : Int32) = 0 from rfl), show gd ((0 : Int32) = 0 ∨ (0 : Int32) = 1) (some ((0 : Int32), fset K3 1 6 0)) = some (0, fset K3 1 6 0) from gd_n (Or.inl rfl), bdE_n]
            exact ⟨_, gd_n (Or.inl rfl), k4, h4, fun w => absurd (show (0 : Nat) = 1 from w) (by decide)⟩
        · rw [if_neg q2, c1_takeDigitN h2 q2, bdE_n, if_pos (show (0 : Int32) = 0 from rfl), bdE_n]
          exact ⟨_, gd_n (Or.inl rfl), k2, h2, fun w => absurd (show (0 : Nat) = 1 from w) (by decide)⟩
      · rw [if_neg q, c1_takeDigitN h1 q, bdE_n, if_pos (show (0 : Int32) = 0 from rfl), bdE_n]
        exact ⟨_, gd_n (Or.inl rfl), k1, h1, fun w => absurd (show (0 : Nat) = 1 from w) (by decide)⟩
    have ec : cmdR T n a = (0, a, 0, 0, 0) := by
      unfold cmdR
      rw [if_pos ha, if_neg (by omega), if_neg t119, if_neg t114, if_neg t112]
    have hX : CR1 T n a K (fX1_takeCommand_195 N (fset K 1 3 (nI (T a)))) := by
      unfold CR1 fX1_takeCommand_195
      rw [ec]
      exact ⟨_, rfl, KE_set (by decide), TK_set h (Nat.le_refl 3), fun w => absurd (show (0 : Nat) = 1 from w) (by decide)⟩
    rw [if_neg (show ¬ nI (T a) = 100 from fun z => t100 ((nI_eq (b := 100) (by omega) (by decide)).mp z))]
    by_cases w101 : nI (T a) = 101
    · rw [if_pos w101]; exact hX
    rw [if_neg w101]
    by_cases w102 : nI (T a) = 102
    · rw [if_pos w102]; exact hX
    rw [if_neg w102]
    by_cases w103 : nI (T a) = 103
    · rw [if_pos w103]; exact hX
    rw [if_neg w103]
    by_cases w104 : nI (T a) = 104
    · rw [if_pos w104]; exact hX
    rw [if_neg w104]
    by_cases w105 : nI (T a) = 105
    · rw [if_pos w105]; exact hX
    rw [if_neg w105]
    by_cases w106 : nI (T a) = 106
    · rw [if_pos w106]; exact hX
    rw [if_neg w106]
    rw [if_neg (show ¬ nI (T a) = 107 from fun z => t107 ((nI_eq (b := 107) (by omega) (by decide)).mp z))]
    by_cases w108 : nI (T a) = 108
    · rw [if_pos w108]; exact hX
    rw [if_neg w108]
    rw [if_neg (show ¬ nI (T a) = 109 from fun z => t109 ((nI_eq (b := 109) (by omega) (by decide)).mp z))]
    by_cases w110 : nI (T a) = 110
    · rw [if_pos w110]; exact hX
    rw [if_neg w110]
    by_cases w111 : nI (T a) = 111
    · rw [if_pos w111]; exact hX
    rw [if_neg w111]
    rw [if_neg (show ¬ nI (T a) = 112 from fun z => t112 ((nI_eq (b := 112) (by omega) (by decide)).mp z))]
    by_cases w113 : nI (T a) = 113
    · rw [if_pos w113]; exact hX
    rw [if_neg w113]
    rw [if_neg (show ¬ nI (T a) = 114 from fun z => t114 ((nI_eq (b := 114) (by omega) (by decide)).mp z))]
    by_cases w115 : nI (T a) = 115
    · rw [if_pos w115]; exact hX
    rw [if_neg w115]
    by_cases w116 : nI (T a) = 116
    · rw [if_pos w116]; exact hX
    rw [if_neg w116]
    by_cases w117 : nI (T a) = 117
    · rw [if_pos w117]; exact hX
    rw [if_neg w117]
    by_cases w118 : nI (T a) = 118
    · rw [if_pos w118]; exact hX
    rw [if_neg w118]
    rw [if_neg (show ¬ nI (T a) = 119 from fun z => t119 ((nI_eq (b := 119) (by omega) (by decide)).mp z))]
    by_cases w120 : nI (T a) = 120
    · rw [if_pos w120]; exact hX
    rw [if_neg w120]
    by_cases w121 : nI (T a) = 121
    · rw [if_pos w121]; exact hX
    rw [if_neg w121]
    rw [if_neg (show ¬ nI (T a) = 122 from fun z => t122 ((nI_eq (b := 122) (by omega) (by decide)).mp z))]
    exact hX
  · have ec : cmdR T n a = (0, a, 0, 0, 0) := by
      unfold cmdR
      rw [if_neg ha]
    rw [c1_peekN h ha, bdP_n, ptF_n]
    have e3 : fset K 1 3 (-1) 1 3 = -1 := by rw [fset_eq, pk_us]
    rw [e3]
    rw [if_neg (by decide)]
    rw [if_neg (by decide)]
    rw [if_neg (by decide)]
    rw [if_neg (by decide)]
    rw [if_neg (by decide)]
    rw [if_neg (by decide)]
    rw [if_neg (by decide)]
    rw [if_neg (by decide)]
    rw [if_neg (by decide)]
    rw [if_neg (by decide)]
    rw [if_neg (by decide)]
    rw [if_neg (by decide)]
    rw [if_neg (by decide)]
    rw [if_neg (by decide)]
    rw [if_neg (by decide)]
    rw [if_neg (by decide)]
    rw [if_neg (by decide)]
    rw [if_neg (by decide)]
    rw [if_neg (by decide)]
    rw [if_neg (by decide)]
    rw [if_neg (by decide)]
    rw [if_neg (by decide)]
    rw [if_neg (by decide)]
    unfold CR1 fX1_takeCommand_195
    rw [ec]
    exact ⟨_, rfl, KE_set (by decide), TK_set h (Nat.le_refl 3), fun w => absurd (show (0 : Nat) = 1 from w) (by decide)⟩
