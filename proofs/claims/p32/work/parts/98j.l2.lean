/-! ===== the second trial of the law ===== -/
theorem take8 (A : AT) (l : List AT) : (A :: l.take 8).take 8 = (A :: l).take 8 := by
  show List.take (7 + 1) (A :: List.take 8 l) = List.take (7 + 1) (A :: l)
  rw [List.take_succ_cons, List.take_succ_cons, List.take_take]
  rfl
def WAS (N : Nat) (ds : List AT) (F : Nat → Int64) : Prop := ∀ (j : Nat) (X : AT), ds[j]? = some X → F (ds.length - 1 - j) = askV N X
theorem WAS.push {N : Nat} {ds : List AT} {F : Nat → Int64} (h : WAS N ds F) (A : AT) : WAS N (A :: ds) (vp_updL F ds.length (askV N A)) := by
  intro j X hj
  cases j with
  | zero =>
    rw [List.getElem?_cons_zero] at hj
    rw [← Option.some.inj hj]
    exact if_pos (by rw [List.length_cons]; omega)
  | succ j =>
    rw [List.getElem?_cons_succ] at hj
    have hlt : j < ds.length := (List.getElem?_eq_some_iff.mp hj).1
    have e : (A :: ds).length - 1 - (j + 1) = ds.length - 1 - j := by rw [List.length_cons]; omega
    rw [e]
    show (if ds.length - 1 - j = ds.length then askV N A else F (ds.length - 1 - j)) = askV N X
    rw [if_neg (by omega)]
    exact h j X hj
section L2
variable {N B L : Nat} {xs : Nat → Int32} {A As : AT} {Ls : List AT} {sv : Option AT} {O : OT} {F : Nat → Int64}
theorem l2_684 (hN : 1400 ≤ N) (hb : B + 90000 < 2 ^ 29) (h : SQ B A Ls (some As) O) : fL_law_684 N L xs O F (askV N As) (nI (As 10 5)) = some 1 := by
  unfold fL_law_684 fL_law_734
  obtain ⟨O1, e, k, h13, h14⟩ := k_restore (N := N) h.1
  have h1 : SQ B As [] (some As) O1 := ⟨k, by rw [h13]; exact h.2.1, by unfold GL; rw [h14]; exact h.2.2⟩
  rw [e, bdO_n, if_pos rfl, k_undo0 h1.1, bdO_n, if_pos rfl]
  obtain ⟨O2, e, k⟩ := asks_v hN h1.1.st hb h1.ga
  have h2 := k.sq h1
  rw [e, bdL_n, if_pos (lg_self _)]
  obtain ⟨O3, e, k, h13, h14⟩ := k_restore (N := N) h2.1
  have h3 : SQ B As [] (some As) O3 := ⟨k, by rw [h13]; exact h2.2.1, by unfold GL; rw [h14]; exact h2.2.2⟩
  rw [e, bdO_n, if_pos rfl]
  obtain ⟨O4, e, k⟩ := asks_v hN h3.1.st hb h3.ga
  rw [e, bdL_n, if_pos (lg_self _)]
theorem l2_627 {ds L0 : List AT} (hN : 1400 ≤ N) (hb : B + 90000 < 2 ^ 29) (hd : ds.length ≤ 10) (hw : WAS N ds F) : ∀ (k m j : Nat) (A : AT) (O : OT), k < m → j + k = min ds.length 8 → SQ B A (((ds ++ L0).take 8).drop j) (some As) O → fL_law_627 N L xs m O F (askV N As) (nI (As 10 5)) (nI ds.length) (nI (min ds.length 8)) (nI (j + 1)) = some 1 := by
  obtain ⟨l, hl⟩ : ∃ l, l = (ds ++ L0).take 8 := ⟨_, rfl⟩
  have hlen : l.length = min 8 (ds.length + L0.length) := by rw [hl, List.length_take, List.length_append]
  rw [← hl]
  intro k
  induction k with
  | zero =>
    intro m j A O hm hj h
    obtain ⟨z, rfl⟩ : ∃ z, m = z + 1 := ⟨m - 1, by omega⟩
    unfold fL_law_627
    rw [if_pos (nI_lt (by omega) (by omega))]
    exact l2_684 hN hb h
  | succ k ih =>
    intro m j A O hm hj h
    obtain ⟨z, rfl⟩ : ∃ z, m = z + 1 := ⟨m - 1, by omega⟩
    have hjl : j < l.length := by rw [hlen]; omega
    have hX : ds[j]? = some l[j] := by
      have e1 : l[j]? = some l[j] := List.getElem?_eq_getElem hjl
      rw [← e1, hl, List.getElem?_take, if_pos (by omega), List.getElem?_append_left (by omega)]
    have hwas := hw j _ hX
    have hh := h
    rw [List.drop_eq_getElem_cons hjl] at h
    obtain ⟨O1, e, k1, h13, h14⟩ := k_undo (N := N) h.1
    have h1 : SQ B l[j] (l.drop (j + 1)) (some As) O1 := ⟨k1, by rw [h13]; exact h.2.1, by unfold GL; rw [h14]; exact h.2.2⟩
    obtain ⟨O2, e2, k2⟩ := asks_v hN h1.1.st hb h1.ga
    have h2 := k2.sq h1
    have hdl : (l.drop (j + 1)).length = l.length - (j + 1) := List.length_drop
    unfold fL_law_627
    rw [if_neg (show ¬ nI (min ds.length 8) < nI (j + 1) from nI_nlt (by omega) (by omega)), e, bdO_n, hdl, show nI (min ds.length 8) - nI (j + 1) = nI (min ds.length 8 - (j + 1)) from nsub (by omega), show (8 : Int32) - nI (j + 1) = nI (8 - (j + 1)) from nsub (a := 8) (by omega), if_neg (nI_nlt (by omega) (by omega)), if_neg (nI_nlt (by omega) (by omega)), e2, bdL_n, show nI ds.length - nI (j + 1) = nI (ds.length - (j + 1)) from nsub (by omega)]
    have e3 : ∀ (β : Type) (g : Int64 → Option β), rdL F 11 (nI (ds.length - (j + 1))) g = g (askV N l[j]) := fun β g => by
      unfold rdL
      have hc : (nI (ds.length - (j + 1))).toNatClampNeg = ds.length - (j + 1) := nI_clamp (by omega)
      rw [hc, if_neg (fun w => by
        rcases w with w | w
        · exact nI_pos (by omega) w
        · omega), show ds.length - (j + 1) = ds.length - 1 - j by omega, hwas]
    rw [e3, if_pos (lg_self _), show nI (j + 1) + 1 = nI (j + 1 + 1) from nadd (j + 1) 1]
    exact ih z (j + 1) _ O2 (by omega) (by omega) h2
theorem l2_615 {ds L0 : List AT} (hN : 1400 ≤ N) (hb : B + 90000 < 2 ^ 29) (hd : ds.length ≤ 10) (hw : WAS N ds F) (h : SQ B A ((ds ++ L0).take 8) (some As) O) : fL_law_615 N L xs O F (askV N As) (nI (As 10 5)) (nI ds.length) = some 1 := by
  have e : (if nI ds.length < 8 then nI ds.length else (8 : Int32)) = nI (min ds.length 8) := by
    rw [show (8 : Int32) = nI 8 from rfl, ite_lt (by omega) (by decide)]
    by_cases q : ds.length < 8
    · rw [if_pos q, show min ds.length 8 = ds.length by omega]
    · rw [if_neg q, show min ds.length 8 = 8 by omega]
  unfold fL_law_615
  rw [e]
  exact l2_627 hN hb hd hw (min ds.length 8) 9 0 A O (by omega) (by omega) (by rw [List.drop_zero]; exact h)
theorem l2_548 {L0 : List AT} (hN : 1400 ≤ N) (hL : L < 2 ^ 31) : ∀ (k m i B : Nat) (A : AT) (ds : List AT) (O : OT) (F : Nat → Int64), k < m → i + k = 10 → ds.length ≤ i → B + 800000 * k + 1000000 < 2 ^ 29 → SQ B A ((ds ++ L0).take 8) (some As) O → WAS N ds F → fL_law_548 N L xs m O F (askV N As) (nI (As 10 5)) (nI ds.length) (nI i) = some 1 := by
  intro k
  induction k with
  | zero =>
    intro m i B A ds O F hm hi hd hb h hw
    obtain ⟨z, rfl⟩ : ∃ z, m = z + 1 := ⟨m - 1, by omega⟩
    obtain rfl : i = 10 := by omega
    unfold fL_law_548
    rw [if_pos (show (10 : Int32) ≤ nI 10 by decide)]
    exact l2_615 hN (by omega) hd hw h
  | succ k ih =>
    intro m i B A ds O F hm hi hd hb h hw
    obtain ⟨z, rfl⟩ : ∃ z, m = z + 1 := ⟨m - 1, by omega⟩
    obtain ⟨O1, e1, k1⟩ := asks_v hN h.1.st (by omega) h.ga
    have h1 := k1.sq h
    obtain ⟨v, e2⟩ := l_at (N := N) (L := L) (i := 20 + i) (xs := xs) hL (by omega)
    obtain ⟨O2, g0, gl, hcase⟩ := cg_all (N := N) hN (by omega) h1.1 h1.2.1 h1.2.2 (v ^^^ (nI i * 977))
    unfold fL_law_548 fL_law_609
    rw [if_neg (show ¬ (10 : Int32) ≤ nI i from le_lit (a := 10) (by decide) (by omega) (by omega)), e1, bdL_n, show (20 : Int32) + nI i = nI (20 + i) from nadd 20 i, e2, bdP_n]
    simp only [show nI i + 1 = nI (i + 1) from nadd i 1]
    rcases hcase with ⟨e3, A', hk⟩ | ⟨e3, hk⟩
    · rw [e3, bdO_n, if_neg (show ¬ (1 : Int32) = 0 by decide)]
      unfold wrL
      have hc : (nI ds.length).toNatClampNeg = ds.length := nI_clamp (by omega)
      rw [hc, if_neg (fun w => by
        rcases w with w | w
        · exact nI_pos (by omega) w
        · omega), show nI ds.length + 1 = nI (ds.length + 1) from nadd ds.length 1]
      rw [take8] at hk
      exact ih z (i + 1) (B + 800000) A' (A :: ds) O2 _ (by omega) (by omega) (by rw [List.length_cons]; omega) (by omega) ⟨hk, g0, gl⟩ (hw.push A)
    · have h2 : SQ (B + 800000) A ((ds ++ L0).take 8) (some As) O2 := ⟨hk, g0, gl⟩
      obtain ⟨O3, e4, k3⟩ := asks_v hN h2.1.st (by omega) h2.ga
      rw [e3, bdO_n, if_pos rfl, e4, bdL_n, if_pos (lg_self _)]
      exact ih z (i + 1) (B + 800000) A ds O3 F (by omega) (by omega) (by omega) (by omega) (k3.sq h2) hw
theorem l2_all (hN : 1400 ≤ N) (hL : L < 2 ^ 31) : TRUE2 N L xs := by
  intro K
  obtain ⟨O1, e, A, Ls, hk, h0, hg⟩ := mk_all (N := N) (L := L) (xs := xs) (B := 12) hN hL (by decide) ⟨A0t, [], KX_i, Oi_13, Oi_14⟩
  have h : SQ (12 + 260000) A Ls none O1 := ⟨hk, h0, hg⟩
  unfold fL_law_467
  rw [e, bdO_n, if_neg (show ¬ (1 : Int32) = 0 by decide)]
  obtain ⟨O2, e, k⟩ := asks_v hN h.1.st (by decide) h.ga
  have h := k.sq h
  rw [e, bdL_n]
  obtain ⟨O3, e, k⟩ := asks_v hN h.1.st (by decide) h.ga
  have h := k.sq h
  rw [e, bdL_n, if_pos (lg_self _)]
  obtain ⟨O4, e, h⟩ := rf_all hN (by decide) h
  rw [e, bdO_n, if_neg (show ¬ (1 : Int32) = 0 by decide)]
  obtain ⟨O5, e, k5, h13, h14⟩ := k_save (N := N) h.1
  have h : SQ (12 + 260000) A Ls (some A) O5 := ⟨k5, by rw [h13]; exact h.2.1, by unfold GL; rw [h14]; exact h.2.2⟩
  rw [e, bdO_n, a_cnt (j := 5) h.1 (show mX2_account N O5 10 = some (O5 0 10 5) from rfl), bdP_n, if_pos rfl]
  obtain ⟨O6, e, k⟩ := asks_v hN h.1.st (by decide) h.ga
  have h := k.sq h
  rw [e, bdL_n, if_pos (lg_self _)]
  have hlen : Ls.length ≤ 8 := by
    obtain ⟨l, r1, r2, -⟩ := h.1.2.2.2.2.1
    exact r2
  exact l2_548 (L0 := Ls) (As := A) hN hL 10 11 0 (12 + 260000) A [] O6 _ (by decide) (by decide) (by decide) (by decide) (by rw [List.nil_append, List.take_of_length_le hlen]; exact h) (fun j X hj => by simp at hj)
theorem law_true (hN : 1400 ≤ N) (hL : L < 2 ^ 31) : mL_law N L xs = some 1 := ep_all hN (l2_all hN hL)
end L2
