/-! ===== asks: a number of now alone ===== -/
theorem DP.bind {A : AT} {f : OT → Option Int32} {g : Int32 → OT → Option (Int64 × OT)} (hp : DP A f) (hk : ∀ r, DL A (g r)) : DL A (fun O => bdP (f O) (fun r => g r O)) := by
  obtain ⟨r, hr⟩ := hp
  obtain ⟨v, hv⟩ := hk r
  refine ⟨v, fun O hO => ?_⟩
  obtain ⟨O', e, k⟩ := hv O hO
  refine ⟨O', ?_, k⟩
  show bdP (f O) _ = _
  rw [hr O hO.1, bdP_n]
  exact e
theorem DE.bind {A : AT} {f : OT → Option (Int32 × OT)} {g : Int32 → OT → Option (Int64 × OT)} (hp : DE A f) (hk : ∀ r, DL A (g r)) : DL A (fun O => bdO (f O) (fun r O' => g r O')) := by
  obtain ⟨r, hr⟩ := hp
  obtain ⟨v, hv⟩ := hk r
  refine ⟨v, fun O hO => ?_⟩
  obtain ⟨O1, e1, k1⟩ := hr O hO
  obtain ⟨O', e, k⟩ := hv O1 (k1.ga hO)
  refine ⟨O', ?_, k1.trans k⟩
  show bdO (f O) _ = _
  rw [e1, bdO_n]
  exact e
theorem GA_J {B : Nat} {A : AT} (h : St B A) : GA A (OJ A) := by
  obtain ⟨-, h2, -, -, -, -, ⟨n, T, t1, ⟨t2, -⟩, -⟩, -⟩ := JX_J h
  exact ⟨h2, n, t1, t2⟩
def LNS (n : Nat) (S : Nat → Int32) (O : OT) : Prop := O 14 1 0 = nI n ∧ ∀ i, i < n → ∃ t, t ≤ 126 ∧ O 14 0 i = nI t ∧ S i = nI t
theorem c_sign {N n i t : Nat} {O : OT} (hn : n ≤ 150) (t2 : O 14 1 0 = nI n) (hi : i < n) (u3 : O 14 0 i = nI t) (ht : t ≤ 126) : mX2_sign N O (nI i) = some (nI t) := by
  unfold mX2_sign s_length
  rw [if_neg (nI_pos (by omega)), t2, bdP_n, if_pos (nI_lt hi (by omega)), s_at (by omega) t2 hi u3 (by omega), bdP_n]
theorem ln_of {A : AT} {f : OT → Option (Int32 × OT)} {q3 : Option (Int32 × KT)} {B : Nat} (h : St B A) (key : ∀ O, GA A O → LE2 O (MJ A) (f O) q3) : ∃ n S, n ≤ 127 ∧ ∀ O, GA A O → ∃ O', f O = some (nI n, O') ∧ KPa O O' ∧ LNS n S O' := by
  obtain ⟨n, K', M', l1, l2, l3, l4, l5⟩ := key (OJ A) (GA_J h)
  refine ⟨n, M' 5, l1, fun O g => ?_⟩
  obtain ⟨n2, K2, M2, g1, g2, g3, g4, g5⟩ := key O g
  have e := Option.some.inj (l3.symm.trans g3)
  have en : nI n = nI n2 := congrArg Prod.fst e
  have eM : M' = M2 := congrArg Prod.snd e
  have e2 : n = n2 := (nI_eq (by omega) (by omega)).mp en
  subst e2
  subst eM
  refine ⟨oset O 14 K2, g2, ⟨fun k k2 k14 => oset_ne k14, n, by omega, by rw [oset_eq]; exact g4.1⟩, by rw [oset_eq]; exact g4.1, fun i hi => ?_⟩
  obtain ⟨e1, t, t1, t2, t3⟩ := g4.2.2.2 i hi
  exact ⟨t, t2, by rw [oset_eq]; exact t3, by rw [e1, t3]⟩
theorem ln_describe {N B c : Nat} {A : AT} (h : St B A) (hb : B < 10 ^ 9) (hc : c < 5) : ∃ n S, n ≤ 127 ∧ ∀ O, GA A O → ∃ O', mX2_describe N O (nI c) = some (nI n, O') ∧ KPa O O' ∧ LNS n S O' :=
  ln_of (f := fun O => mX2_describe N O (nI c)) (q3 := mX3_describe N (MJ A) (nI c)) h (fun O g => by
    obtain ⟨n0, t1, t2⟩ := g.2
    exact e_describe hb h g.1 (rm_0 K3i A) t2 t1 hc)
theorem ln_show {B c : Nat} {A : AT} (h : St B A) (hb : B < 10 ^ 9) (hc : c < 5) : ∃ n S, n ≤ 127 ∧ ∀ O, GA A O → ∃ O', mX2_show 13 O (nI c) = some (nI n, O') ∧ KPa O O' ∧ LNS n S O' :=
  ln_of (f := fun O => mX2_show 13 O (nI c)) (q3 := mX3_show 1400 (MJ A) (nI c)) h (fun O g => by
    obtain ⟨n0, t1, t2⟩ := g.2
    exact e_show hb h g.1 (rm_0 K3i A) t2 t1 hc)
theorem le_lit {a i : Nat} (ha : a < 2 ^ 31) (hi : i < 2 ^ 31) (h : i < a) : ¬ nI a ≤ nI i := by
  rw [nle ha hi]
  omega
theorem sg_206 {N n c : Nat} {S : Nat → Int32} {k45 : OT → Int64 → Int32 → Option (Int64 × OT)} (hn : n ≤ 127) : ∀ (k m i : Nat) (sum : Int64), k < m → i + k = n → ∃ v, ∀ O, LNS n S O → fL_asks_206 N k45 m O sum (nI c) (nI n) (nI i) = fL_asks_233 N k45 O v (nI c) := by
  intro k
  induction k with
  | zero =>
    intro m i sum hm hi
    obtain ⟨z, rfl⟩ : ∃ z, m = z + 1 := ⟨m - 1, by omega⟩
    refine ⟨sum, fun O _ => ?_⟩
    unfold fL_asks_206
    rw [ite_le (by omega) (by omega), if_pos (by omega)]
  | succ k ih =>
    intro m i sum hm hi
    obtain ⟨z, rfl⟩ : ∃ z, m = z + 1 := ⟨m - 1, by omega⟩
    obtain ⟨v, hv⟩ := ih z (i + 1) ((((31 : Int64)) * sum) + (S i).toInt64) (by omega) (by omega)
    refine ⟨v, fun O hO => ?_⟩
    obtain ⟨t, t1, t2, t3⟩ := hO.2 i (by omega)
    have e := hv O hO
    rw [t3] at e
    conv => lhs; unfold fL_asks_206
    rw [ite_le (by omega) (by omega), if_neg (by omega), c_sign (by omega) hO.1 (by omega) t2 t1, bdP_n, show nI i + 1 = nI (i + 1) from nadd i 1]
    exact e
theorem sg_243 {N n c : Nat} {S : Nat → Int32} {k45 : OT → Int64 → Int32 → Option (Int64 × OT)} (hn : n ≤ 127) : ∀ (k m i : Nat) (sum : Int64), k < m → i + k = n → ∃ v, ∀ O, LNS n S O → fL_asks_243 N k45 m O sum (nI c) (nI n) (nI i) = fL_asks_270 N k45 O v (nI c) := by
  intro k
  induction k with
  | zero =>
    intro m i sum hm hi
    obtain ⟨z, rfl⟩ : ∃ z, m = z + 1 := ⟨m - 1, by omega⟩
    refine ⟨sum, fun O _ => ?_⟩
    unfold fL_asks_243
    rw [ite_le (by omega) (by omega), if_pos (by omega)]
  | succ k ih =>
    intro m i sum hm hi
    obtain ⟨z, rfl⟩ : ∃ z, m = z + 1 := ⟨m - 1, by omega⟩
    obtain ⟨v, hv⟩ := ih z (i + 1) ((((31 : Int64)) * sum) + (S i).toInt64) (by omega) (by omega)
    refine ⟨v, fun O hO => ?_⟩
    obtain ⟨t, t1, t2, t3⟩ := hO.2 i (by omega)
    have e := hv O hO
    rw [t3] at e
    conv => lhs; unfold fL_asks_243
    rw [ite_le (by omega) (by omega), if_neg (by omega), c_sign (by omega) hO.1 (by omega) t2 t1, bdP_n, show nI i + 1 = nI (i + 1) from nadd i 1]
    exact e
section AS
variable {N B c : Nat} {A : AT} {k45 : OT → Int64 → Int32 → Option (Int64 × OT)}
theorem as_270 (hN : 1400 ≤ N) (h : St B A) (hb : B + 60000 < 2 ^ 30) (hc : c < 5) (hk : ∀ sum, DL A (fun O => k45 O sum (nI (c + 1)))) (sum : Int64) : DL A (fun O => fL_asks_270 N k45 O sum (nI c)) := by
  unfold fL_asks_270
  simp only [show nI c + 1 = nI (c + 1) from nadd c 1]
  exact DE.bind (d_would hN h (by omega) hc) (fun r1 => DP.bind (d_ranked hN h (by omega) _) (fun r2 => DP.bind (d_letters hN h (by omega) _) (fun r3 => hk _)))
theorem as_233 (hN : 1400 ≤ N) (h : St B A) (hb : B < 10 ^ 9) (hc : c < 5) (hk : ∀ sum, DL A (fun O => fL_asks_270 N k45 O sum (nI c))) (sum : Int64) : DL A (fun O => fL_asks_233 N k45 O sum (nI c)) := by
  obtain ⟨n, S, hn, hl⟩ := ln_show h hb hc
  obtain ⟨v, hv⟩ := sg_243 (N := N) (c := c) (S := S) (k45 := k45) hn n N 0 sum (by omega) (by omega)
  obtain ⟨r, hr⟩ := hk v
  refine ⟨r, fun O g => ?_⟩
  obtain ⟨O1, e1, k1, l1⟩ := hl O g
  obtain ⟨O2, e2, k2⟩ := hr O1 (k1.ga g)
  refine ⟨O2, ?_, k1.trans k2⟩
  show fL_asks_233 N k45 O sum (nI c) = _
  unfold fL_asks_233
  rw [e1, bdO_n, show fL_asks_243 N k45 N O1 sum (nI c) (nI n) 0 = _ from hv O1 l1]
  exact e2
theorem as_196 (hN : 1400 ≤ N) (h : St B A) (hb : B < 10 ^ 9) (hc : c < 5) (hk : ∀ sum, DL A (fun O => fL_asks_233 N k45 O sum (nI c))) (sum : Int64) : DL A (fun O => fL_asks_196 N k45 O sum (nI c)) := by
  obtain ⟨n, S, hn, hl⟩ := ln_describe (N := N) h hb hc
  obtain ⟨v, hv⟩ := sg_206 (N := N) (c := c) (S := S) (k45 := k45) hn n N 0 sum (by omega) (by omega)
  obtain ⟨r, hr⟩ := hk v
  refine ⟨r, fun O g => ?_⟩
  obtain ⟨O1, e1, k1, l1⟩ := hl O g
  obtain ⟨O2, e2, k2⟩ := hr O1 (k1.ga g)
  refine ⟨O2, ?_, k1.trans k2⟩
  show fL_asks_196 N k45 O sum (nI c) = _
  unfold fL_asks_196
  rw [e1, bdO_n, show fL_asks_206 N k45 N O1 sum (nI c) (nI n) 0 = _ from hv O1 l1]
  exact e2
theorem as_143 (hN : 1400 ≤ N) (h : St B A) (hb : B + 20000 < 2 ^ 30) (hk : ∀ sum, DL A (fun O => fL_asks_196 N k45 O sum (nI c))) : ∀ (k m i : Nat) (sum : Int64), k < m → i + k = 5 → DL A (fun O => fL_asks_143 N k45 m O sum (nI c) (nI i)) := by
  intro k
  induction k with
  | zero =>
    intro m i sum hm hi
    obtain ⟨z, rfl⟩ : ∃ z, m = z + 1 := ⟨m - 1, by omega⟩
    obtain rfl : i = 5 := by omega
    unfold fL_asks_143
    simp only [if_pos (show (5 : Int32) ≤ nI 5 by decide)]
    exact hk sum
  | succ k ih =>
    intro m i sum hm hi
    obtain ⟨z, rfl⟩ : ∃ z, m = z + 1 := ⟨m - 1, by omega⟩
    unfold fL_asks_143
    simp only [if_neg (show ¬ (5 : Int32) ≤ nI i from le_lit (a := 5) (by decide) (by omega) (by omega)), show nI i + 1 = nI (i + 1) from nadd i 1]
    exact DP.bind (d_reaches h hb _ _) (fun r1 => DP.bind (d_matches hN h hb _ _) (fun r2 => DP.bind (d_matchesAgain hN h hb _ _) (fun r3 => ih z (i + 1) _ (by omega) (by omega))))
theorem as_84 (hN : 1400 ≤ N) (h : St B A) (hb : B + 20000 < 2 ^ 30) (hk : ∀ sum, DL A (fun O => fL_asks_140 N k45 O sum (nI c))) : ∀ (k m i : Nat) (sum : Int64), k < m → i + k = 13 → DL A (fun O => fL_asks_84 N k45 m O sum (nI c) (nI i)) := by
  intro k
  induction k with
  | zero =>
    intro m i sum hm hi
    obtain ⟨z, rfl⟩ : ∃ z, m = z + 1 := ⟨m - 1, by omega⟩
    obtain rfl : i = 13 := by omega
    unfold fL_asks_84
    simp only [if_pos (show (13 : Int32) ≤ nI 13 by decide)]
    exact hk sum
  | succ k ih =>
    intro m i sum hm hi
    obtain ⟨z, rfl⟩ : ∃ z, m = z + 1 := ⟨m - 1, by omega⟩
    unfold fL_asks_84
    simp only [if_neg (show ¬ (13 : Int32) ≤ nI i from le_lit (a := 13) (by decide) (by omega) (by omega)), show nI i + 1 = nI (i + 1) from nadd i 1]
    exact DP.bind (d_pageOf h hb _ _ _) (fun r1 => DP.bind (d_pageOf h hb _ _ _) (fun r2 => DP.bind (d_holders hN h hb _ _) (fun r3 => ih z (i + 1) _ (by omega) (by omega))))
theorem as_53 (hN : 1400 ≤ N) (h : St B A) (hb : B + 20000 < 2 ^ 30) (hk : ∀ sum, DL A (fun O => fL_asks_81 N k45 O sum (nI c))) : ∀ (k m i : Nat) (sum : Int64), k < m → i + k = 9 → DL A (fun O => fL_asks_53 N k45 m O sum (nI c) (nI i)) := by
  intro k
  induction k with
  | zero =>
    intro m i sum hm hi
    obtain ⟨z, rfl⟩ : ∃ z, m = z + 1 := ⟨m - 1, by omega⟩
    obtain rfl : i = 9 := by omega
    unfold fL_asks_53
    simp only [if_pos (show (9 : Int32) ≤ nI 9 by decide)]
    exact hk sum
  | succ k ih =>
    intro m i sum hm hi
    obtain ⟨z, rfl⟩ : ∃ z, m = z + 1 := ⟨m - 1, by omega⟩
    unfold fL_asks_53
    simp only [if_neg (show ¬ (9 : Int32) ≤ nI i from le_lit (a := 9) (by decide) (by omega) (by omega)), show nI i + 1 = nI (i + 1) from nadd i 1]
    exact DP.bind (d_campOf h hb _ _) (fun r1 => ih z (i + 1) _ (by omega) (by omega))
end AS
theorem as_45 {N B : Nat} {A : AT} (hN : 1400 ≤ N) (h : St B A) (hb : B + 90000 < 2 ^ 29) : ∀ (k m c : Nat) (sum : Int64), k < m → c + k = 5 → DL A (fun O => fL_asks_45 N m O sum (nI c)) := by
  intro k
  induction k with
  | zero =>
    intro m c sum hm hi
    obtain ⟨z, rfl⟩ : ∃ z, m = z + 1 := ⟨m - 1, by omega⟩
    obtain rfl : c = 5 := by omega
    unfold fL_asks_45 fL_asks_313
    simp only [if_pos (show (5 : Int32) ≤ nI 5 by decide)]
    exact DP.bind (d_captain hN h (by omega)) (fun r1 => DE.bind (d_captainIn hN h (by omega)) (fun r2 => ⟨_, fun O g => ⟨O, rfl, KPa.refl g.2⟩⟩))
  | succ k ih =>
    intro m c sum hm hi
    obtain ⟨z, rfl⟩ : ∃ z, m = z + 1 := ⟨m - 1, by omega⟩
    have hc : c < 5 := by omega
    unfold fL_asks_45
    simp only [if_neg (show ¬ (5 : Int32) ≤ nI c from le_lit (a := 5) (by decide) (by omega) (by omega))]
    have k45 : ∀ s, DL A (fun O => fL_asks_45 N z O s (nI (c + 1))) := fun s => ih z (c + 1) s (by omega) (by omega)
    have k270 := as_270 hN h (by omega) hc k45
    have k233 := as_233 hN h (by omega) hc k270
    have k196 := as_196 hN h (by omega) hc k233
    have k140 : ∀ s, DL A (fun O => fL_asks_140 N (fL_asks_45 N z) O s (nI c)) := fun s => as_143 hN h (by omega) k196 5 N 0 s (by omega) (by omega)
    have k81 : ∀ s, DL A (fun O => fL_asks_81 N (fL_asks_45 N z) O s (nI c)) := fun s => as_84 hN h (by omega) k140 13 N 0 s (by omega) (by omega)
    exact as_53 hN h (by omega) k81 9 N 0 sum (by omega) (by omega)
theorem as_18 {N B : Nat} {A : AT} (hN : 1400 ≤ N) (h : St B A) (hb : B + 90000 < 2 ^ 29) : ∀ (k m i : Nat) (sum : Int64), k < m → i + k = 11 → DL A (fun O => fL_asks_18 N m O sum (nI i)) := by
  intro k
  induction k with
  | zero =>
    intro m i sum hm hi
    obtain ⟨z, rfl⟩ : ∃ z, m = z + 1 := ⟨m - 1, by omega⟩
    obtain rfl : i = 11 := by omega
    unfold fL_asks_18
    simp only [if_pos (show (11 : Int32) ≤ nI 11 by decide)]
    exact as_45 hN h hb 5 6 0 sum (by decide) (by decide)
  | succ k ih =>
    intro m i sum hm hi
    obtain ⟨z, rfl⟩ : ∃ z, m = z + 1 := ⟨m - 1, by omega⟩
    unfold fL_asks_18
    simp only [if_neg (show ¬ (11 : Int32) ≤ nI i from le_lit (a := 11) (by decide) (by omega) (by omega)), show nI i + 1 = nI (i + 1) from nadd i 1]
    refine DP.bind (d_account hN h (by omega) (fun e => ?_) (fun e => ?_)) (fun r1 => ih z (i + 1) _ (by omega) (by omega))
    · have := (nI_eq (a := i) (b := 11) (by omega) (by decide)).mp e
      omega
    · have := (nI_eq (a := i) (b := 12) (by omega) (by decide)).mp e
      omega
theorem as_all {N B : Nat} {A : AT} (hN : 1400 ≤ N) (h : St B A) (hb : B + 90000 < 2 ^ 29) : DL A (fun O => mL_asks N O) := by
  unfold mL_asks
  exact DP.bind (d_share hN h (by omega)) (fun r1 => DP.bind (d_isWell hN h (by omega)) (fun r2 => as_18 hN h hb 11 N 0 _ (by omega) (by omega)))
/-- what 'asks' answers where now is A -/
def askV (N : Nat) (A : AT) : Int64 := match mL_asks N (OJ A) with
  | none => 0
  | some x => x.1
theorem asks_v {N B : Nat} {A : AT} (hN : 1400 ≤ N) (h : St B A) (hb : B + 90000 < 2 ^ 29) {O : OT} (g : GA A O) : ∃ O', mL_asks N O = some (askV N A, O') ∧ KPa O O' := by
  obtain ⟨v, hv⟩ := as_all hN h hb
  obtain ⟨O1, e1, -⟩ := hv (OJ A) (GA_J h)
  obtain ⟨O', e, k⟩ := hv O g
  have ev : askV N A = v := by
    unfold askV
    rw [show mL_asks N (OJ A) = some (v, O1) from e1]
  exact ⟨O', by rw [ev]; exact e, k⟩
