/-! ===== the class alone, between two calls ===== -/
theorem A0t_z : ∀ f i, f ≠ 3 → f ≠ 9 → A0t f i = 0 := fun f i h3 h9 => by
  unfold A0t
  rw [if_neg h3, if_neg h9]
theorem St_i : St 12 A0t := by
  refine ⟨Nat.le_refl _, Inv_0 A0t_z, ?_, ?_, ?_⟩
  · intro f i
    by_cases h3 : f = 3
    · subst h3
      show (if i < 5 then 1 else 0) ≤ 1
      split <;> omega
    · by_cases h9 : f = 9
      · subst h9
        show (if i < 25 ∧ i / 5 ≠ i % 5 then 1 else 0) ≤ 1
        split <;> omega
      · rw [A0t_z f i h3 h9]
        exact Nat.zero_le _
  · intro a ha
    exact (by decide : ∀ a, a < 5 → A0t 9 (a * 5 + a) = 0) a ha
  · intro a b ha hb
    exact (by decide : ∀ a, a < 5 → ∀ b, b < 5 → A0t 9 (a * 5 + b) = A0t 9 (b * 5 + a)) a ha b hb
set_option maxRecDepth 100000 in
theorem J_i : J 12 Oi K3i := by
  refine ⟨A0t, St_i, rfl, by decide +kernel, ?_, ?_, ?_, ?_, by decide⟩
  · exact ⟨0, 0, fun _ => A0t, 0, A0t, by decide, by decide, by decide, fun j hj => absurd hj (Nat.not_lt_zero j), fun h => absurd h (by decide), fun j hj => absurd hj (Nat.not_lt_zero j), fun h => absurd h (by decide), ⟨by decide, by decide, by decide⟩, fun j hj => absurd hj (Nat.not_lt_zero j), fun h => absurd h (by decide), by decide, by decide⟩
  · exact Or.inl ⟨by decide, by decide, by decide, by decide⟩
  · exact ⟨0, fun _ => 0, by decide, ⟨by decide, by decide⟩, fun i hi => absurd hi (Nat.not_lt_zero i)⟩
  · exact ⟨0, fun _ => 0, by decide, ⟨by decide, by decide⟩, fun i hi => absurd hi (Nat.not_lt_zero i)⟩

def OJ (A : AT) : OT := oset Oi 0 (pcK A)
def MJ (A : AT) : KT := rm K3i A
theorem JX_J {B : Nat} {A : AT} (h : St B A) : JX B A (OJ A) (MJ A) := by
  obtain ⟨A1, -, -, -, h4, h5, h6, h7, h8⟩ := J_i
  refine ⟨h, oset_eq _ _ _, rm_0 _ _, JQ_congr h4 h.1 (fun k k1 k2 => oset_ne (by omega)) (fun i _ => by unfold OJ; rw [oset_ne (by decide)]) (fun x _ => by unfold MJ; rw [rm_j (by decide)]) (rm_j (by decide)) (fun i _ => by unfold MJ; rw [rm_j (by decide)]), JF_congr h5 (fun i _ _ => by unfold OJ; rw [oset_ne (by decide)]) (fun i _ _ => by unfold MJ; rw [rm_j (by decide)]), JT_congr h6 (oset_ne (by decide)) (rm_j (by decide)) (by unfold MJ; rw [rm_j (by decide)]), JL_congr h7 (oset_ne (by decide)) (rm_j (by decide)) (by unfold MJ; rw [rm_j (by decide)]), ?_⟩
  unfold OJ
  rw [oset_ne (by decide)]
  exact h8
def svN : Option AT → Nat
  | none => 0
  | some _ => 1
/-- the ring of what can be undone, the newest first -/
def KR (l : Nat) (L : List AT) (O : OT) : Prop := l < 8 ∧ L.length ≤ 8 ∧ O 12 0 1 = nI l ∧ O 12 0 2 = nI L.length ∧ ∀ (j : Nat) (X : AT), L[j]? = some X → O (4 + (l + 8 - j) % 8) = pcK X
/-- now, what can be undone, what was saved -/
def KX (B : Nat) (A : AT) (L : List AT) (sv : Option AT) (O : OT) : Prop := St B A ∧ (∀ X ∈ L, St B X) ∧ (∀ X, sv = some X → St B X ∧ O 3 = pcK X) ∧ O 0 = pcK A ∧ (∃ l, KR l L O) ∧ O 12 0 0 = nI (svN sv) ∧ O 12 0 3 = -4
def GL (O : OT) : Prop := ∃ n, n ≤ 150 ∧ O 14 1 0 = nI n
def TX (n : Nat) (T : Nat → Nat) (O : OT) : Prop := n ≤ 70 ∧ O 13 1 0 = nI n ∧ ∀ i, i < n → (32 ≤ T i ∧ T i ≤ 126) ∧ O 13 0 i = nI (T i)
def RE (w d c : Int32) (O : OT) : Prop := O 12 0 4 = w ∧ O 12 0 5 = d ∧ O 12 0 6 = c
theorem KX.now {B : Nat} {A : AT} {L : List AT} {sv : Option AT} {O : OT} (h : KX B A L sv O) : O 0 = pcK A := h.2.2.2.1
theorem KX.st {B : Nat} {A : AT} {L : List AT} {sv : Option AT} {O : OT} (h : KX B A L sv O) : St B A := h.1
theorem KX_congr {B C : Nat} {A : AT} {L : List AT} {sv : Option AT} {O O' : OT} (h : KX B A L sv O) (hC : B ≤ C) (o0 : O' 0 = O 0) (o : ∀ k, 3 ≤ k → k < 12 → O' k = O k) (o2 : ∀ i, i < 4 → O' 12 0 i = O 12 0 i) : KX C A L sv O' := by
  obtain ⟨h1, h2, h3, h4, ⟨l, r1, r2, r3, r4, r5⟩, h6, h7⟩ := h
  exact ⟨h1.mono hC, fun X hX => (h2 X hX).mono hC, fun X hX => ⟨(h3 X hX).1.mono hC, by rw [o 3 (by decide) (by decide)]; exact (h3 X hX).2⟩, by rw [o0, h4], ⟨l, r1, r2, by rw [o2 1 (by decide)]; exact r3, by rw [o2 2 (by decide)]; exact r4, fun j X hX => by rw [o _ (by omega) (by omega)]; exact r5 j X hX⟩, by rw [o2 0 (by decide)]; exact h6, by rw [o2 3 (by decide)]; exact h7⟩
/-- what the queries of 'asks' may change -/
def KPa (O O' : OT) : Prop := (∀ k, k ≠ 2 → k ≠ 14 → O' k = O k) ∧ GL O'
theorem KPa.refl {O : OT} (h : GL O) : KPa O O := ⟨fun _ _ _ => rfl, h⟩
theorem KPa.trans {O1 O2 O3 : OT} (h : KPa O1 O2) (g : KPa O2 O3) : KPa O1 O3 := ⟨fun k k2 k14 => (g.1 k k2 k14).trans (h.1 k k2 k14), g.2⟩
theorem KPa.kx {B : Nat} {A : AT} {L : List AT} {sv : Option AT} {O O' : OT} (h : KPa O O') (k : KX B A L sv O) : KX B A L sv O' := KX_congr k (Nat.le_refl _) (h.1 0 (by decide) (by decide)) (fun j j1 j2 => h.1 j (by omega) (by omega)) (fun i _ => by rw [h.1 12 (by decide) (by decide)])
theorem KPa.tx {n : Nat} {T : Nat → Nat} {O O' : OT} (h : KPa O O') (k : TX n T O) : TX n T O' := by
  unfold TX
  rw [h.1 13 (by decide) (by decide)]
  exact k
theorem KPa.re {w d c : Int32} {O O' : OT} (h : KPa O O') (k : RE w d c O) : RE w d c O' := by
  unfold RE
  rw [h.1 12 (by decide) (by decide)]
  exact k
/-- a change comes to its end -/
theorem k_fin {N B : Nat} {A A' : AT} {L : List AT} {sv : Option AT} {O : OT} {r : Int32} (hr : 0 ≤ r) (h : KX B A' L sv O) (hA : St B A) (ho : O 1 = pcK A) : ∃ O', mX2_finishChange N O r = some (r, O') ∧ KX B A' ((A :: L).take 8) sv O' ∧ (∀ k, k < 4 ∨ 13 ≤ k → O' k = O k) ∧ ∀ i, i ≠ 1 → i ≠ 2 → O' 12 0 i = O 12 0 i := by
  obtain ⟨h1, h2, h3, h4, ⟨l, a2, a1, a9, a10, a6⟩, h6, h7⟩ := h
  obtain ⟨u, hu⟩ : ∃ u, u = L.length := ⟨_, rfl⟩
  rw [← hu] at a1 a10
  have el : (O 12 0 1 + 1) - (O 12 0 1 + 1) / 8 * 8 = nI ((l + 1) % 8) := by
    rw [a9, i1, nadd, show (8 : Int32) = nI 8 from rfl, pk_rem (by omega) (by decide) (by decide)]
  have hl : (l + 1) % 8 < 8 := by omega
  have eu : (if (8 : Int32) < nI u + 1 then 8 else nI u + 1) = nI (min (u + 1) 8) := by
    rw [i1, nadd, show (8 : Int32) = nI 8 from rfl, ite_lt (by decide) (by omega)]
    by_cases q : 8 < u + 1
    · rw [if_pos q, show min (u + 1) 8 = 8 by omega]
    · rw [if_neg q, show min (u + 1) 8 = u + 1 by omega]
  have e1 : mX2_finishChange N O r = some (r, oset (oset (oset O 12 (fset (O 12) 0 1 (nI ((l + 1) % 8)))) (4 + (l + 1) % 8) (pcK A)) 12 (fset (fset (O 12) 0 1 (nI ((l + 1) % 8))) 0 2 (nI (min (u + 1) 8)))) := by
    unfold mX2_finishChange fX2_finishChange_41
    rw [if_pos hr, el, inO_n, oset_eq, fset_eq, pk_us, rdP_n hl, inO_n, oset_ne (i := 1) (j := 12) (by decide), ho, inO_n, oset_ne (i := 12) (j := 4 + (l + 1) % 8) (by omega), oset_eq, fset_eq, pk_un (j := 2) (k := 1) (by decide), a10, eu]
  have o12 : ∀ X : KT, oset (oset (oset O 12 (fset (O 12) 0 1 (nI ((l + 1) % 8)))) (4 + (l + 1) % 8) (pcK A)) 12 X 12 = X := fun X => oset_eq _ _ _
  have oo : ∀ X k, k ≠ 12 → k ≠ 4 + (l + 1) % 8 → oset (oset (oset O 12 (fset (O 12) 0 1 (nI ((l + 1) % 8)))) (4 + (l + 1) % 8) (pcK A)) 12 X k = O k := fun X k h1 h2 => by rw [oset_ne h1, oset_ne h2, oset_ne h1]
  have on : ∀ X, oset (oset (oset O 12 (fset (O 12) 0 1 (nI ((l + 1) % 8)))) (4 + (l + 1) % 8) (pcK A)) 12 X (4 + (l + 1) % 8) = pcK A := fun X => by rw [oset_ne (by omega), oset_eq]
  have elen : ((A :: L).take 8).length = min (u + 1) 8 := by
    rw [List.length_take, List.length_cons, ← hu]
    omega
  refine ⟨_, e1, ⟨h1, ?_, ?_, ?_, ⟨(l + 1) % 8, hl, by rw [elen]; omega, ?_, ?_, ?_⟩, ?_, ?_⟩, ?_, ?_⟩
  · intro X hX
    rcases List.mem_cons.mp (List.mem_of_mem_take hX) with q | q
    · rw [q]; exact hA
    · exact h2 X q
  · intro X hX
    refine ⟨(h3 X hX).1, ?_⟩
    rw [oo _ 3 (by decide) (by omega)]
    exact (h3 X hX).2
  · rw [oo _ 0 (by decide) (by omega)]
    exact h4
  · rw [o12, fset_eq, pk_un (by decide), fset_eq, pk_us]
  · rw [o12, fset_eq, pk_us, elen]
  · intro j X hj
    have hj8 : j < 8 := by
      rcases Nat.lt_or_ge j 8 with q | q
      · exact q
      · rw [List.getElem?_take, if_neg (by omega)] at hj
        cases hj
    rw [List.getElem?_take_of_lt hj8] at hj
    cases j with
    | zero =>
      rw [List.getElem?_cons_zero] at hj
      rw [show (l + 1) % 8 + 8 - 0 = (l + 1) % 8 + 8 by omega, Nat.add_mod_right, Nat.mod_mod, on, Option.some.inj hj]
    | succ j =>
      rw [List.getElem?_cons_succ] at hj
      rw [show 4 + ((l + 1) % 8 + 8 - (j + 1)) % 8 = 4 + (l + 8 - j) % 8 by omega, oo _ _ (by omega) (by omega)]
      exact a6 j X hj
  · rw [o12, fset_eq, pk_un (by decide), fset_eq, pk_un (by decide)]
    exact h6
  · rw [o12, fset_eq, pk_un (by decide), fset_eq, pk_un (by decide)]
    exact h7
  · intro k hk
    exact oo _ k (by omega) (by omega)
  · intro i h1 h2
    rw [o12, fset_eq, pk_un h2, fset_eq, pk_un h1]
/-- the inner side of a change, the class alone -/
def CH (B : Nat) (A : AT) (O : OT) (q : Option (Int32 × OT)) : Prop := ∃ (r : Int32) (A' : AT) (O' : OT), q = some (r, O') ∧ O' 0 = pcK A' ∧ (∀ k, k ≠ 0 → k ≠ 12 → O' k = O k) ∧ (((∃ n, r = nI n ∧ n < 2 ^ 30) ∧ St (B + 10000) A' ∧ O' 12 = O 12) ∨ ((r = -1 ∨ r = -2) ∧ A' = A ∧ O' 12 = O 12) ∨ (r = -3 ∧ A' = A ∧ ∃ w d : Int32, O' 12 = fset (fset (fset (O 12) 0 4 w) 0 5 d) 0 6 (O 12 0 3)))
theorem IC.toCH {B : Nat} {A : AT} {O : OT} {M : KT} {q2 : Option (Int32 × OT)} {q3 : Option (Int32 × KT)} (h : IC B A O M q2 q3) : CH B A O q2 := by
  obtain ⟨r, A', O', M', e2, -, p0, -, po, -, hr⟩ := h
  refine ⟨r, A', O', e2, p0, po, ?_⟩
  rcases hr with ⟨h1, h2, h3, -⟩ | ⟨h1, h2, h3, -⟩ | ⟨h1, h2, w, d, -, h3, -⟩
  · exact Or.inl ⟨h1, h2, h3⟩
  · exact Or.inr (Or.inl ⟨h1, h2, h3⟩)
  · exact Or.inr (Or.inr ⟨h1, h2, w, d, h3⟩)
/-- how a change comes out -/
def CO (B : Nat) (A : AT) (L : List AT) (sv : Option AT) (O : OT) (q : Option (Int32 × OT)) : Prop := ∃ (r : Int32) (O' : OT), q = some (r, O') ∧ O' 13 = O 13 ∧ O' 14 = O 14 ∧ ((∃ n A', r = nI n ∧ n < 2 ^ 30 ∧ KX (B + 10000) A' ((A :: L).take 8) sv O') ∨ (r < 0 ∧ KX (B + 10000) A L sv O'))
abbrev chg (N : Nat) (f2 : OT → Option (Int32 × OT)) (O : OT) : Option (Int32 × OT) := inO (oset O 1 (O 0)) (fun O2 => bdO (f2 O2) (fun v3 O4 => bdO (mX2_finishChange N O4 v3) (fun v5 O6 => some (v5, O6))))
theorem chg_neg {N : Nat} {f2 : OT → Option (Int32 × OT)} {O O4 : OT} {r : Int32} (hr : r < 0) (h : f2 (oset O 1 (O 0)) = some (r, O4)) : chg N f2 O = some (r, O4) := by
  unfold chg
  rw [inO_n, h, bdO_n, c2_finN hr, bdO_n]
theorem k_change {N B : Nat} {A : AT} {L : List AT} {sv : Option AT} {O : OT} {f2 : OT → Option (Int32 × OT)} (h : KX B A L sv O) (hic : CH B A (oset O 1 (O 0)) (f2 (oset O 1 (O 0)))) : CO B A L sv O (chg N f2 O) := by
  have n0 : oset O 1 (O 0) 0 = O 0 := oset_ne (by decide)
  have nk : ∀ k, k ≠ 1 → oset O 1 (O 0) k = O k := fun k hk => oset_ne hk
  obtain ⟨r, A', O', e2, p0, po, hr⟩ := hic
  have ok : ∀ k, k ≠ 0 → k ≠ 1 → k ≠ 12 → O' k = O k := fun k k0 k1 k2 => by rw [po k k0 k2, nk k k1]
  rcases hr with ⟨⟨n, rfl, hn⟩, hs, c1⟩ | ⟨hr, rfl, c1⟩ | ⟨rfl, rfl, w, d, c1⟩
  · have hk : KX (B + 10000) A L sv (oset O' 0 (pcK A)) := KX_congr h (by omega) (by rw [oset_eq, h.now]) (fun k k1 k2 => by rw [oset_ne (by omega), ok k (by omega) (by omega) (by omega)]) (fun i _ => by rw [oset_ne (by decide), c1, nk 12 (by decide)])
    have hk2 : KX (B + 10000) A' L sv O' := by
      obtain ⟨g1, g2, g3, g4, ⟨l, r1, r2, r3, r4, r5⟩, g6, g7⟩ := hk
      rw [oset_ne (by decide)] at r3 r4 g6 g7
      refine ⟨hs, g2, fun X hX => ?_, p0, ⟨l, r1, r2, r3, r4, fun j X hX => ?_⟩, g6, g7⟩
      · have := g3 X hX
        rw [oset_ne (by decide)] at this
        exact this
      · have := r5 j X hX
        rw [oset_ne (by omega)] at this
        exact this
    obtain ⟨O2, g1, g2, g3, g4⟩ := k_fin (N := N) (A := A) (nI_pos' (n := n) (by omega)) hk2 (h.st.mono (by omega)) (by rw [po 1 (by decide) (by decide), oset_eq, h.now])
    refine ⟨_, O2, ?_, by rw [g3 13 (Or.inr (Nat.le_refl _)), ok 13 (by decide) (by decide) (by decide)], by rw [g3 14 (Or.inr (by decide)), ok 14 (by decide) (by decide) (by decide)], Or.inl ⟨n, A', rfl, hn, g2⟩⟩
    unfold chg
    rw [inO_n, e2, bdO_n, g1, bdO_n]
  · have hr0 : r < 0 := by rcases hr with rfl | rfl <;> decide
    exact ⟨r, O', chg_neg hr0 e2, ok 13 (by decide) (by decide) (by decide), ok 14 (by decide) (by decide) (by decide), Or.inr ⟨hr0, KX_congr h (by omega) (by rw [p0, h.now]) (fun k k1 k2 => ok k (by omega) (by omega) (by omega)) (fun i _ => by rw [c1, nk 12 (by decide)])⟩⟩
  · refine ⟨-3, O', chg_neg (by decide) e2, ok 13 (by decide) (by decide) (by decide), ok 14 (by decide) (by decide) (by decide), Or.inr ⟨by decide, KX_congr h (by omega) (by rw [p0, h.now]) (fun k k1 k2 => ok k (by omega) (by omega) (by omega)) (fun i hi => ?_)⟩⟩
    rw [c1, nk 12 (by decide), fset_eq, pk_un (by omega), fset_eq, pk_un (by omega), fset_eq, pk_un (by omega)]
theorem k_dusk {N B : Nat} {A : AT} {L : List AT} {sv : Option AT} {O : OT} (hN : 1400 ≤ N) (hb : B + 20000 < 2 ^ 30) (h : KX B A L sv O) (p : Int32) : CO B A L sv O (mX2_dusk N O p) :=
  k_change (f2 := fun O => mX2_bringDusk N O p) h (IC.toCH (ic_dusk (M := MJ A) hN h.st hb (by rw [oset_ne (by decide), h.now]) (rm_0 _ _) p))
theorem k_write {N B : Nat} {A : AT} {L : List AT} {sv : Option AT} {O : OT} (hN : 1400 ≤ N) (hb : B + 20000 < 2 ^ 30) (h : KX B A L sv O) (p q : Int32) : CO B A L sv O (mX2_write N O p q) :=
  k_change (f2 := fun O => mX2_writePage N O p q) h (IC.toCH (ic_write (M := MJ A) hN h.st hb (by rw [oset_ne (by decide), h.now]) (rm_0 _ _) p q))
theorem k_march {N B : Nat} {A : AT} {L : List AT} {sv : Option AT} {O : OT} (hN : 1400 ≤ N) (hb : B + 20000 < 2 ^ 30) (h : KX B A L sv O) (p : Int32) : CO B A L sv O (mX2_march N O p) :=
  k_change (f2 := fun O => mX2_sendCaptain N O p) h (IC.toCH (ic_march (M := MJ A) hN h.st hb (by rw [oset_ne (by decide), h.now]) (rm_0 _ _) p))
theorem k_road {N B : Nat} {A : AT} {L : List AT} {sv : Option AT} {O : OT} (hN : 1400 ≤ N) (hb : B + 20000 < 2 ^ 30) (h : KX B A L sv O) (p q s : Int32) : CO B A L sv O (mX2_road N O p q s) :=
  k_change (f2 := fun O => mX2_turnRoad N O p q s) h (IC.toCH (ic_road (M := MJ A) hN h.st hb (by rw [oset_ne (by decide), h.now]) (rm_0 _ _) p q s))
theorem k_sleep {N B : Nat} {A : AT} {L : List AT} {sv : Option AT} {O : OT} (hN : 1400 ≤ N) (hb : B + 20000 < 2 ^ 30) (h : KX B A L sv O) (p s : Int32) : CO B A L sv O (mX2_sleep N O p s) :=
  k_change (f2 := fun O => mX2_turnCamp N O p s) h (IC.toCH (ic_sleep (M := MJ A) hN h.st hb (by rw [oset_ne (by decide), h.now]) (rm_0 _ _) p s))
theorem k_pass {N B : Nat} {A : AT} {L : List AT} {sv : Option AT} {O : OT} (hN : 1400 ≤ N) (hb : B + 20000 < 2 ^ 30) (h : KX B A L sv O) (p : Int32) : CO B A L sv O (mX2_pass N O p) :=
  k_change (f2 := fun O => mX2_passHours N O p) h (IC.toCH (ic_pass (M := MJ A) hN h.st hb (by rw [oset_ne (by decide), h.now]) (rm_0 _ _) p))
/-! undo, save, restore -/
theorem k_undo0 {N B : Nat} {A : AT} {sv : Option AT} {O : OT} (h : KX B A [] sv O) : mX2_undo N O = some (-4, O) := by
  obtain ⟨h1, h2, h3, h4, ⟨l, a2, a1, a9, a10, a6⟩, h6, h7⟩ := h
  unfold mX2_undo fX2_undo_21
  rw [a9, rdP_n a2, a10, if_pos (show nI ([] : List AT).length = 0 from rfl)]
theorem k_undo {N B : Nat} {A X : AT} {L : List AT} {sv : Option AT} {O : OT} (h : KX B A (X :: L) sv O) : ∃ O', mX2_undo N O = some (nI L.length, O') ∧ KX B X L sv O' ∧ O' 13 = O 13 ∧ O' 14 = O 14 := by
  obtain ⟨h1, h2, h3, h4, ⟨l, a2, a1, a9, a10, a6⟩, h6, h7⟩ := h
  obtain ⟨u, hu⟩ : ∃ u, u = (X :: L).length := ⟨_, rfl⟩
  have hu1 : u = L.length + 1 := by rw [hu, List.length_cons]
  rw [← hu] at a1 a10
  have eO : O (4 + l) = pcK X := by
    have := a6 0 X List.getElem?_cons_zero
    rw [show 4 + (l + 8 - 0) % 8 = 4 + l by omega] at this
    exact this
  have el : (nI l + 8 - 1) - (nI l + 8 - 1) / 8 * 8 = nI ((l + 7) % 8) := by
    rw [show (8 : Int32) = nI 8 from rfl, nadd, show nI (l + 8) - 1 = nI (l + 7) from nsub (b := 1) (by omega), pk_rem (by omega) (by decide) (by decide)]
  have n12 : oset O 0 (O (4 + l)) 12 = O 12 := oset_ne (by decide)
  have hS : (fset (O 12) 0 1 (nI ((l + 7) % 8))) 0 2 = nI u := by rw [fset_eq, pk_un (by decide), a10]
  unfold mX2_undo fX2_undo_21
  rw [a9, rdP_n a2, a10, ite_z (by omega), if_neg (by omega), inO_n, inO_n, inO_n]
  simp only [oset_eq, n12, a9, el, hS]
  rw [show nI u - 1 = nI (u - 1) from nsub (b := 1) (by omega), fset_eq, pk_us]
  have ok : ∀ Y Z k, k ≠ 0 → k ≠ 12 → oset (oset (oset O 0 (O (4 + l))) 12 Y) 12 Z k = O k := fun Y Z k k0 k12 => by rw [oset_ne k12, oset_ne k12, oset_ne k0]
  refine ⟨_, by rw [show L.length = u - 1 by omega], ⟨h2 X List.mem_cons_self, fun Y hY => h2 Y (List.mem_cons_of_mem _ hY), fun Y hY => ⟨(h3 Y hY).1, by rw [ok _ _ _ (by decide) (by decide)]; exact (h3 Y hY).2⟩, ?_, ⟨(l + 7) % 8, by omega, by omega, ?_, ?_, fun j Y hY => ?_⟩, ?_, ?_⟩, ok _ _ _ (by decide) (by decide), ok _ _ _ (by decide) (by decide)⟩
  · rw [oset_ne (by decide), oset_ne (by decide), oset_eq, eO]
  · rw [oset_eq, fset_eq, pk_un (by decide), fset_eq, pk_us]
  · rw [oset_eq, fset_eq, pk_us, show u - 1 = L.length by omega]
  · have hj : j < L.length := (List.getElem?_eq_some_iff.mp hY).1
    rw [ok _ _ _ (by omega) (by omega), show 4 + ((l + 7) % 8 + 8 - j) % 8 = 4 + (l + 8 - (j + 1)) % 8 by omega]
    exact a6 (j + 1) Y (by rw [List.getElem?_cons_succ]; exact hY)
  · rw [oset_eq, fset_eq, pk_un (by decide), fset_eq, pk_un (by decide)]; exact h6
  · rw [oset_eq, fset_eq, pk_un (by decide), fset_eq, pk_un (by decide)]; exact h7
theorem k_save {N B : Nat} {A : AT} {L : List AT} {sv : Option AT} {O : OT} (h : KX B A L sv O) : ∃ O', mX2_save N O = some (nI (A 10 5), O') ∧ KX B A L (some A) O' ∧ O' 13 = O 13 ∧ O' 14 = O 14 := by
  obtain ⟨h1, h2, h3, h4, ⟨l, a2, a1, a9, a10, a6⟩, h6, h7⟩ := h
  unfold mX2_save
  rw [inO_n, inO_n]
  have n12 : oset O 3 (O 0) 12 = O 12 := oset_ne (by decide)
  have ok : ∀ Y k, k ≠ 3 → k ≠ 12 → oset (oset O 3 (O 0)) 12 Y k = O k := fun Y k k3 k12 => by rw [oset_ne k12, oset_ne k3]
  rw [n12, ok _ 0 (by decide) (by decide), h4, pcK_at (by decide)]
  refine ⟨_, rfl, ⟨h1, h2, fun X hX => ?_, ?_, ⟨l, a2, a1, ?_, ?_, fun j X hX => ?_⟩, ?_, ?_⟩, ?_, ?_⟩
  · cases hX
    exact ⟨h1, by rw [oset_ne (by decide), oset_eq]⟩
  · rw [oset_ne (by decide), oset_ne (by decide), h4]
  · rw [oset_eq, fset_eq, pk_un (by decide)]; exact a9
  · rw [oset_eq, fset_eq, pk_un (by decide)]; exact a10
  · rw [oset_ne (by omega), oset_ne (by omega)]; exact a6 j X hX
  · rw [oset_eq, fset_eq, pk_us]; rfl
  · rw [oset_eq, fset_eq, pk_un (by decide)]; exact h7
  · rw [oset_ne (by decide), oset_ne (by decide)]
  · rw [oset_ne (by decide), oset_ne (by decide)]
theorem k_restore0 {N B : Nat} {A : AT} {L : List AT} {O : OT} (h : KX B A L none O) : mX2_restore N O = some (-4, O) := by
  obtain ⟨h1, h2, h3, h4, h5, h6, h7⟩ := h
  unfold mX2_restore
  rw [h6, if_pos (show nI (svN none) = 0 from rfl)]
theorem k_restore {N B : Nat} {A X : AT} {L : List AT} {O : OT} (h : KX B A L (some X) O) : ∃ O', mX2_restore N O = some (nI (X 10 5), O') ∧ KX B X [] (some X) O' ∧ O' 13 = O 13 ∧ O' 14 = O 14 := by
  obtain ⟨h1, h2, h3, h4, ⟨l, a2, a1, a9, a10, a6⟩, h6, h7⟩ := h
  obtain ⟨hX, h3X⟩ := h3 X rfl
  have n12 : oset O 0 (O 3) 12 = O 12 := oset_ne (by decide)
  have ok : ∀ Y k, k ≠ 0 → k ≠ 12 → oset (oset O 0 (O 3)) 12 Y k = O k := fun Y k k3 k12 => by rw [oset_ne k12, oset_ne k3]
  have n0 : ∀ Y, oset (oset O 0 (O 3)) 12 Y 0 = pcK X := fun Y => by rw [oset_ne (by decide), oset_eq, h3X]
  unfold mX2_restore
  rw [h6, if_neg (show ¬ nI (svN (some X)) = 0 from (show ¬ nI 1 = 0 by decide)), inO_n, inO_n, n12, n0, pcK_at (by decide)]
  refine ⟨_, rfl, ⟨hX, fun Y hY => absurd hY List.not_mem_nil, fun Y hY => ?_, n0 _, ⟨l, a2, by decide, ?_, ?_, fun j Y hY => by simp at hY⟩, ?_, ?_⟩, ok _ _ (by decide) (by decide), ok _ _ (by decide) (by decide)⟩
  · cases hY
    exact ⟨hX, by rw [ok _ _ (by decide) (by decide)]; exact h3X⟩
  · rw [oset_eq, fset_eq, pk_un (by decide)]; exact a9
  · rw [oset_eq, fset_eq, pk_us]; rfl
  · rw [oset_eq, fset_eq, pk_un (by decide)]; exact h6
  · rw [oset_eq, fset_eq, pk_un (by decide)]; exact h7
