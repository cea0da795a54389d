/-! ===== the first trial of the law ===== -/
theorem KX_i : KX 12 A0t [] none Oi := ⟨St_i, fun X hX => absurd hX List.not_mem_nil, (fun X hX => by cases hX), rfl, ⟨0, by decide, by decide, rfl, rfl, fun j X hj => by simp at hj⟩, rfl, rfl⟩
theorem Oi_13 : Oi 13 1 0 = 0 := rfl
theorem Oi_14 : GL Oi := ⟨0, by decide, rfl⟩
section EX
variable {N B : Nat} {A : AT} {L : List AT} {sv : Option AT} {O : OT}
/-- a change that went well, its table known -/
theorem kx_pass {z : Nat} (hN : 1400 ≤ N) (hb : B + 20000 < 2 ^ 30) (h : KX B A L sv O) (hz : 1 ≤ z) (hz2 : z ≤ 30) : ∃ O', mX2_pass N O (nI z) = some (nI (hoursN z A 10 1 - A 10 1), O') ∧ KX (B + 10000) (hoursN z A) ((A :: L).take 8) sv O' ∧ O' 13 = O 13 ∧ O' 14 = O 14 := by
  obtain ⟨hs, -⟩ := St_hours z B A h.st
  have hbb := hs.2.2.1.b10 1
  exact k_ok (f2 := fun O => mX2_passHours N O (nI z)) h (x_pass_k hN h.st hb (by rw [oset_ne (by decide), h.now]) hz hz2) (by omega) (hs.mono (by omega)) (oset_eq _ _ _) (fun k hk => oset_ne hk)
theorem kx_write {c x : Nat} (hb : B + 20000 < 2 ^ 30) (h : KX B A L sv O) (hc : c < 5) (hx : x < 4) (h3 : A 3 c = 1) (h2 : A 2 c = 1) (h5 : A 5 c < 12) : ∃ O', mX2_write N O (nI c) (nI x) = some (nI (A 5 c + 1), O') ∧ KX (B + 10000) (writeS A c x) ((A :: L).take 8) sv O' ∧ O' 13 = O 13 ∧ O' 14 = O 14 :=
  k_ok (f2 := fun O => mX2_writePage N O (nI c) (nI x)) h (x_write_k h.st hb (by rw [oset_ne (by decide), h.now]) hc hx h3 h2 h5) (by omega) ((St_write h.st hc hx h2 h5).mono (by omega)) (oset_eq _ _ _) (fun k hk => oset_ne hk)
theorem kx_march {c : Nat} (hN : 1400 ≤ N) (hb : B + 20000 < 2 ^ 30) (h : KX B A L sv O) (hc : c < 5) (h3 : A 3 c = 1) (h2 : A 2 c = 1) : ∃ O', mX2_march N O (nI c) = some (nI (goC A c 6 c), O') ∧ KX (B + 10000) (goC A c) ((A :: L).take 8) sv O' ∧ O' 13 = O 13 ∧ O' 14 = O 14 := by
  have hs := St_go h.st hc h2
  exact k_ok (f2 := fun O => mX2_sendCaptain N O (nI c)) h (x_march_k hN h.st hb (by rw [oset_ne (by decide), h.now]) hc h3 h2) (by have := hs.2.2.1.b6 c; omega) (hs.mono (by omega)) (oset_eq _ _ _) (fun k hk => oset_ne hk)
theorem a_cnt {p : Int32} {j : Nat} (h : KX B A L sv O) (hp : mX2_account N O p = some (O 0 10 j)) : mX2_account N O p = some (nI (A 10 j)) := by
  rw [hp, h.now, pcK_at (by decide)]
theorem a_can (h : KX B A L sv O) : mX2_account N O 12 = some (nI L.length) := by
  obtain ⟨l, r1, r2, r3, r4, r5⟩ := h.2.2.2.2.1
  rw [show mX2_account N O 12 = some (O 12 0 2) from rfl, r4]
theorem a_txt : mX2_account N O 11 = some (O 13 1 0) := rfl
theorem a_letters {x : Nat} (hN : 1400 ≤ N) (hb : B + 20000 < 2 ^ 30) (h : KX B A L sv O) (hx : x < 4) : mX2_letters N O (nI x) = some (nI (cntN (letB A (mostN A 4) x) (A 6 (mostN A 4)))) := by
  have hlt : Lt A := h.st.ltA (by omega)
  have e2 : mX0_settledPagesWith N (pcK A) (nI x) = some (nI (cntN (letB A (mostN A 4) x) (A 6 (mostN A 4)))) := by
    unfold mX0_settledPagesWith
    exact c0_mostL (by omega) hlt h.st.2.2.1.b6 hx 4 N 0 (by omega) (by omega)
  unfold mX2_letters
  rw [c2_noLetter_n hx, bdP_n, if_pos rfl, h.now, e2, bdP_n]
theorem x_full {p : Int32} (h : O 13 1 0 = nI 70) (w1 : ¬ p < 32) (w2 : ¬ 126 < p) : mX2_append N O p = some (-2, O) := by
  unfold mX2_append fX2_append_27 s_length
  rw [if_neg w1, if_neg w2, bdP_n, h, if_neg (show ¬ nI 70 < 70 by decide)]
end EX
def eT : Nat → Nat := fun i => if i < 62 then 65 + i else 32
section EP
variable {N L : Nat} {xs : Nat → Int32}
/-- the second trial begins as new -/
def TRUE2 (N L : Nat) (xs : Nat → Int32) : Prop := ∀ K, fL_law_467 N L xs K = some 1
theorem l_und {B : Nat} {A X : AT} {Ls : List AT} {sv : Option AT} {O : OT} {j : Nat} (h : KX B A (X :: Ls) sv O) (hj : Ls.length = j) : ∃ O', mX2_undo N O = some (nI j, O') ∧ KX B X Ls sv O' := by
  obtain ⟨O', e, h1, -, -⟩ := k_undo (N := N) h
  exact ⟨O', by rw [e, hj], h1⟩
theorem ep_250 {B : Nat} {O : OT} (hN : 1400 ≤ N) (hb : B + 60000 < 2 ^ 30) (h2 : TRUE2 N L xs) (h : KX B (EP 12) [EP 11, EP 10, EP 9, EP 8, EP 7, EP 6, EP 5, EP 4] (some (EW 0)) O) : fL_law_250 N L xs O = some 1 := by
  have f12 := e_5 12 (by decide)
  unfold fL_law_250
  obtain ⟨O1, e, h, hre, -, -⟩ := k_ref (N := N) (f2 := fun O => mX2_writePage N O (nI 0) (nI 0)) h (x_write_f (c := 0) (x := 0) h.st (by omega) (by rw [oset_ne (by decide), h.now]) (by decide) (by decide) f12.2.1 f12.2.2 f12.1)
  rw [show mX2_write N O 0 0 = _ from e]
  rw [bdO_n, if_pos rfl, is_y hre, bdP_n, if_neg (show ¬ (1 : Int32) = 0 by decide)]
  rw [show mX2_account N O1 12 = some (nI 8) from a_can h, bdP_n, if_pos (show nI 8 = 8 from rfl)]
  obtain ⟨O2, e, h, -, -⟩ := kx_march (N := N) (c := 0) hN (by omega) h (by decide) f12.2.1 f12.2.2
  rw [show mX2_march N O1 0 = _ from e, bdO_n, e_go.1, if_pos (show nI 12 = 12 from rfl)]
  rw [show mX2_campOf N O2 3 5 = _ from o_camp (c := 3) (j := 5) (f := 6) (by decide) h.now (by decide), bdP_n, e_go.2.1, if_pos (show nI 12 = 12 from rfl)]
  rw [show mX2_letters N O2 2 = _ from a_letters (x := 2) hN (by omega) h (by decide), bdP_n, e_go.2.2, if_pos (show nI 3 = 3 from rfl)]
  have h : KX (B + 10000) (goC (EP 12) 0) [EP 12, EP 11, EP 10, EP 9, EP 8, EP 7, EP 6, EP 5] (some (EW 0)) O2 := h
  obtain ⟨O3, e, h⟩ := l_und (N := N) (j := 7) h rfl
  rw [e, bdO_n, if_pos (show nI 7 = 7 from rfl)]
  rw [show mX2_campOf N O3 3 4 = _ from o_camp (c := 3) (j := 4) (f := 5) (by decide) h.now (by decide), bdP_n, if_pos (show nI (EP 12 5 3) = 0 from rfl)]
  rw [show mX2_campOf N O3 0 5 = _ from o_camp (c := 0) (j := 5) (f := 6) (by decide) h.now (by decide), bdP_n, if_pos (show nI (EP 12 6 0) = 0 from rfl)]
  obtain ⟨O4, e, h⟩ := l_und (N := N) (j := 6) h rfl
  rw [e, bdO_n, if_pos (show nI 6 = 6 from rfl)]
  rw [show mX2_campOf N O4 0 4 = _ from o_camp (c := 0) (j := 4) (f := 5) (by decide) h.now (by decide), bdP_n, if_pos (show nI (EP 11 5 0) = 11 from rfl)]
  obtain ⟨O5, e, h⟩ := l_und (N := N) (j := 5) h rfl
  rw [e, bdO_n, if_pos (show nI 5 = 5 from rfl)]
  obtain ⟨O6, e, h⟩ := l_und (N := N) (j := 4) h rfl
  rw [e, bdO_n, if_pos (show nI 4 = 4 from rfl)]
  obtain ⟨O7, e, h⟩ := l_und (N := N) (j := 3) h rfl
  rw [e, bdO_n, if_pos (show nI 3 = 3 from rfl)]
  obtain ⟨O8, e, h⟩ := l_und (N := N) (j := 2) h rfl
  rw [e, bdO_n, if_pos (show nI 2 = 2 from rfl)]
  obtain ⟨O9, e, h⟩ := l_und (N := N) (j := 1) h rfl
  rw [e, bdO_n, if_pos (show nI 1 = 1 from rfl)]
  obtain ⟨O10, e, h⟩ := l_und (N := N) (j := 0) h rfl
  rw [e, bdO_n, if_pos (show nI 0 = 0 from rfl)]
  rw [show mX2_campOf N O10 0 4 = _ from o_camp (c := 0) (j := 4) (f := 5) (by decide) h.now (by decide), bdP_n, if_pos (show nI (EP 5 5 0) = 5 from rfl)]
  rw [k_undo0 h, bdO_n, if_pos rfl]
  obtain ⟨O11, e, h, -, -⟩ := k_restore (N := N) h
  rw [e, bdO_n, if_pos (show nI (EW 0 10 5) = 0 from rfl)]
  rw [a_cnt (j := 5) h (show mX2_account N O11 10 = some (O11 0 10 5) from rfl), bdP_n, if_pos (show nI (EW 0 10 5) = 0 from rfl)]
  rw [x_captain hN h.st (by omega) h.now, bdP_n, if_pos (show pcV (bestN (EW 0) 5) = -4 by decide +kernel)]
  rw [k_undo0 h, bdO_n, if_pos rfl]
  exact h2 O11
/-- the list of what can be undone, k pages written -/
def eL : Nat → List AT
  | 0 => [EH 0, EW 2, EW 0]
  | k + 1 => (EP k :: eL k).take 8
theorem ep_224 (hN : 1400 ≤ N) (h2 : TRUE2 N L xs) : ∀ (k m i B : Nat) (O : OT), k < m → i + k = 12 → B + 10000 * k + 80000 < 2 ^ 30 → KX B (EP i) (eL i) (some (EW 0)) O → fL_law_224 N L xs m O (nI (i + 1)) = some 1 := by
  intro k
  induction k with
  | zero =>
    intro m i B O hm hi hb h
    obtain ⟨z, rfl⟩ : ∃ z, m = z + 1 := ⟨m - 1, by omega⟩
    obtain rfl : i = 12 := by omega
    unfold fL_law_224
    rw [if_pos (show (13 : Int32) ≤ nI (12 + 1) by decide)]
    exact ep_250 hN (by omega) h2 h
  | succ k ih =>
    intro m i B O hm hi hb h
    obtain ⟨z, rfl⟩ : ∃ z, m = z + 1 := ⟨m - 1, by omega⟩
    have f := e_5 i (by omega)
    obtain ⟨O1, e, h1, -, -⟩ := kx_write (N := N) (c := 0) (x := (i + 1) % 4) (by omega) h (by decide) (by omega) f.2.1 f.2.2 (by rw [f.1]; omega)
    rw [e_p i (by omega)] at h1
    rw [f.1] at e
    unfold fL_law_224
    rw [if_neg (show ¬ (13 : Int32) ≤ nI (i + 1) from le_lit (a := 13) (by decide) (by omega) (by omega)), show nI (i + 1) - nI (i + 1) / 4 * 4 = nI ((i + 1) % 4) from (by rw [show (4 : Int32) = nI 4 from rfl, pk_rem (by omega) (by decide) (by decide)]), show mX2_write N O 0 (nI ((i + 1) % 4)) = _ from e, bdO_n, if_pos rfl, show nI (i + 1) + 1 = nI (i + 1 + 1) from nadd (i + 1) 1]
    exact ih z (i + 1) (B + 10000) O1 (by omega) (by omega) (by omega) h1
theorem ep_102 {B : Nat} {O : OT} (hN : 1400 ≤ N) (hb : B + 400000 < 2 ^ 30) (h2 : TRUE2 N L xs) (h : KX B (EW 2) [EW 0] (some (EW 0)) O) (ht : TX 70 eT O) : fL_law_102 N L xs O = some 1 := by
  unfold fL_law_102
  rw [x_full ht.2.1 (by decide) (by decide), bdO_n, if_pos rfl, a_txt, bdP_n, ht.2.1, if_pos (show nI 70 = 70 from rfl)]
  have ea : aft eT 70 71 (cmdR eT 70 0).1 (cmdR eT 70 0).2.1 1 = (false, 0, 0) := by decide +kernel
  obtain ⟨O1, e, h, h0, -, -⟩ := rd_fault hN h ht (by rw [ea]; decide)
  rw [ea] at e
  rw [e, bdO_n, if_pos (show (-100 : Int32) - nI 0 = -100 from rfl), a_txt, bdP_n, h0, if_pos rfl]
  obtain ⟨O2, e, h, -, -⟩ := kx_pass (N := N) (z := 1) hN (by omega) h (by decide) (by decide)
  rw [show hoursN 1 (EW 2) = EH 0 from e_w2] at e h
  rw [show mX2_pass N O1 1 = _ from e, bdO_n, if_pos (show nI (EH 0 10 1 - EW 2 10 1) = 1 from rfl)]
  rw [x_captain hN h.st (by omega) h.now, bdP_n, if_pos (show pcV (bestN (EH 0) 5) = 0 by decide +kernel)]
  obtain ⟨O3, e, h, -, -⟩ := kx_pass (N := N) (z := 30) hN (by omega) h (by decide) (by decide)
  rw [show hoursN 30 (EH 0) = EP 0 from (e_hs 30 0 (by decide)).trans e_30] at e h
  rw [show mX2_pass N O2 30 = _ from e, bdO_n, if_pos (show nI (EP 0 10 1 - EH 0 10 1) = 0 from rfl)]
  rw [a_cnt (j := 1) h (show mX2_account N O3 5 = some (O3 0 10 1) from rfl), bdP_n, if_pos (show nI (EP 0 10 1) = 1 from rfl)]
  rw [a_cnt (j := 0) h (show mX2_account N O3 4 = some (O3 0 10 0) from rfl), bdP_n, if_pos (show nI (EP 0 10 0) = 1 from rfl)]
  rw [a_cnt (j := 4) h (show mX2_account N O3 8 = some (O3 0 10 4) from rfl), bdP_n, if_pos (show nI (EP 0 10 4) = 30 from rfl)]
  rw [a_cnt (j := 5) h (show mX2_account N O3 10 = some (O3 0 10 5) from rfl), bdP_n, if_pos (show nI (EP 0 10 5) = 33 from rfl)]
  rw [show mX2_campOf N O3 4 6 = _ from o_camp (c := 4) (j := 6) (f := 4) (by decide) h.now (by decide), bdP_n, if_pos (show nI (EP 0 4 4) = 1 from rfl)]
  exact ep_224 hN h2 12 N 0 _ O3 (by omega) (by omega) (by omega) h
theorem eT_ok : ∀ i, i < 70 → 32 ≤ eT i ∧ eT i ≤ 126 := by decide +kernel
theorem ep_76 (hN : 1400 ≤ N) (h2 : TRUE2 N L xs) : ∀ (k m i : Nat) (O : OT), k < m → i + k = 70 → 62 ≤ i → KX 20012 (EW 2) [EW 0] (some (EW 0)) O → TX i eT O → fL_law_76 N L xs m O (nI i) = some 1 := by
  intro k
  induction k with
  | zero =>
    intro m i O hm hi h62 h ht
    obtain ⟨z, rfl⟩ : ∃ z, m = z + 1 := ⟨m - 1, by omega⟩
    obtain rfl : i = 70 := by omega
    unfold fL_law_76
    rw [if_pos (show (70 : Int32) ≤ nI 70 by decide)]
    exact ep_102 hN (by decide) h2 h ht
  | succ k ih =>
    intro m i O hm hi h62 h ht
    obtain ⟨z, rfl⟩ : ∃ z, m = z + 1 := ⟨m - 1, by omega⟩
    obtain ⟨K, e, ht2⟩ := x_append (N := N) ht (by omega) (eT_ok i (by omega))
    have ei : eT i = 32 := if_neg (by omega)
    rw [ei] at e
    unfold fL_law_76
    rw [if_neg (show ¬ (70 : Int32) ≤ nI i from le_lit (a := 70) (by decide) (by omega) (by omega)), show mX2_append N O 32 = _ from e, bdO_n, show nI i + 1 = nI (i + 1) from nadd i 1, if_pos rfl]
    exact ih z (i + 1) _ (by omega) (by omega) (by omega) (KX_13 h) ht2
theorem ep_45 (hN : 1400 ≤ N) (h2 : TRUE2 N L xs) : ∀ (k m i : Nat) (O : OT), k < m → i + k = 62 → KX 20012 (EW 2) [EW 0] (some (EW 0)) O → TX i eT O → fL_law_45 N L xs m O (nI i) = some 1 := by
  intro k
  induction k with
  | zero =>
    intro m i O hm hi h ht
    obtain ⟨z, rfl⟩ : ∃ z, m = z + 1 := ⟨m - 1, by omega⟩
    obtain rfl : i = 62 := by omega
    unfold fL_law_45 fL_law_73
    rw [if_pos (show (62 : Int32) ≤ nI 62 by decide)]
    exact ep_76 hN h2 8 9 62 O (by decide) (by decide) (by decide) h ht
  | succ k ih =>
    intro m i O hm hi h ht
    obtain ⟨z, rfl⟩ : ∃ z, m = z + 1 := ⟨m - 1, by omega⟩
    obtain ⟨K, e, ht2⟩ := x_append (N := N) ht (by omega) (eT_ok i (by omega))
    have ei : eT i = 65 + i := if_pos (by omega)
    rw [ei] at e
    unfold fL_law_45
    rw [if_neg (show ¬ (62 : Int32) ≤ nI i from le_lit (a := 62) (by decide) (by omega) (by omega)), show (65 : Int32) + nI i = nI (65 + i) from nadd 65 i, e, bdO_n, show nI i + 1 = nI (i + 1) from nadd i 1, if_pos rfl]
    exact ih z (i + 1) _ (by omega) (by omega) (KX_13 h) ht2
theorem ep_all (hN : 1400 ≤ N) (h2 : TRUE2 N L xs) : mL_law N L xs = some 1 := by
  unfold mL_law
  have h := KX_i
  rw [e_0] at h
  rw [k_undo0 h, bdO_n, if_pos rfl, k_restore0 h, bdO_n, if_pos rfl]
  obtain ⟨O1, e, h, t13, -⟩ := k_save (N := N) h
  rw [e, bdO_n, if_pos (show nI (EW 0 10 5) = 0 from rfl)]
  obtain ⟨O2, e, h, u13, -⟩ := kx_pass (N := N) (z := 2) hN (by decide) h (by decide) (by decide)
  have e2 : hoursN 2 (EW 0) = EW 2 := by
    show hourC (hourC (EW 0)) = EW 2
    rw [e_w0, e_w1]
  rw [e2] at e h
  rw [show mX2_pass N O1 2 = _ from e, bdO_n, if_pos (show nI (EW 2 10 1 - EW 0 10 1) = 0 from rfl)]
  exact ep_45 hN h2 62 63 0 O2 (by decide) (by decide) (KX_congr h (by decide) rfl (fun _ _ _ => rfl) (fun _ _ => rfl)) (TX_0 (by rw [u13, t13]; rfl))
end EP
