/-! ===== a text is read, the class alone ===== -/
def KZ (B : Nat) (L : List AT) (sv : Option AT) (O : OT) : Prop := (∀ X ∈ L, St B X) ∧ (∀ X, sv = some X → St B X ∧ O 3 = pcK X) ∧ (∃ l, KR l L O) ∧ O 12 0 0 = nI (svN sv)
theorem KZ_congr {B C : Nat} {L : List AT} {sv : Option AT} {O O' : OT} (h : KZ B L sv O) (hC : B ≤ C) (o : ∀ k, 3 ≤ k → k < 12 → O' k = O k) (o2 : ∀ i, i < 3 → O' 12 0 i = O 12 0 i) : KZ C L sv O' := by
  obtain ⟨h2, h3, ⟨l, r1, r2, r3, r4, r5⟩, h6⟩ := h
  exact ⟨fun X hX => (h2 X hX).mono hC, fun X hX => ⟨(h3 X hX).1.mono hC, by rw [o 3 (by decide) (by decide)]; exact (h3 X hX).2⟩, ⟨l, r1, r2, by rw [o2 1 (by decide)]; exact r3, by rw [o2 2 (by decide)]; exact r4, fun j X hX => by rw [o _ (by omega) (by omega)]; exact r5 j X hX⟩, by rw [o2 0 (by decide)]; exact h6⟩
theorem KX.kz {B : Nat} {A : AT} {L : List AT} {sv : Option AT} {O : OT} (h : KX B A L sv O) : KZ B L sv O := ⟨h.2.1, h.2.2.1, h.2.2.2.2.1, h.2.2.2.2.2.1⟩
theorem KZ.kx {B : Nat} {A : AT} {L : List AT} {sv : Option AT} {O : OT} (h : KZ B L sv O) (hs : St B A) (h0 : O 0 = pcK A) (h3 : O 12 0 3 = -4) : KX B A L sv O := ⟨hs, h.1, h.2.1, h0, h.2.2.1, h.2.2.2, h3⟩
def RD (B : Nat) (A As : AT) (L : List AT) (sv : Option AT) (O : OT) (T : Nat → Nat) (n a : Nat) : Prop := St B A ∧ St B As ∧ O 0 = pcK A ∧ O 1 = pcK As ∧ KZ B L sv O ∧ TK T n (O 13) a
def MC (A : AT) (t x y z : Nat) : KT := fun f i => if f = 0 then pcM A i else if f = 8 then nI t else if i = 0 then nI x else if i = 1 then nI y else nI z
section RDS
variable {N B n a ct i : Nat} {A As : AT} {L : List AT} {sv : Option AT} {O : OT} {T : Nat → Nat}
theorem end_okC {c : Nat} (h : RD B A As L sv O T n a) (hc : c < 2 ^ 30) : ∃ O', fX2_read_99 N O (nI c) = some (nI c, O') ∧ KX B A ((As :: L).take 8) sv O' ∧ O' 13 1 0 = 0 ∧ O' 14 = O 14 := by
  obtain ⟨h1, h2, h3, h5, h7, h10⟩ := h
  have hn := h10.1
  obtain ⟨O3, o1, o2, o3, o4, o5⟩ := c_99 (N := N) (x1 := nI c) h10.2.1 (by omega)
  have hZ : KZ B L sv O3 := KZ_congr h7 (Nat.le_refl _) (fun k k1 k2 => o2 k (by omega) (by omega)) (fun j hj => o3 j (by omega))
  obtain ⟨O', g1, g2, g3, g4⟩ := k_fin (N := N) (A := As) (nI_pos' (n := c) (by omega)) (hZ.kx h1 (by rw [o2 0 (by decide) (by decide), h3]) o4) h2 (by rw [o2 1 (by decide) (by decide), h5])
  refine ⟨O', ?_, g2, by rw [g3 13 (Or.inr (Nat.le_refl _)), o5], by rw [g3 14 (Or.inr (by decide)), o2 14 (by decide) (by decide)]⟩
  rw [o1, g1, bdO_n]
theorem end_neg {w : Int32} (hw : w < 0) (h2 : St B As) (h5 : O 0 = pcK As) (h7 : KZ B L sv O) (hn : O 13 1 0 = nI n) (hn2 : n ≤ 70) : ∃ O', fX2_read_99 N O w = some (w, O') ∧ KX B As L sv O' ∧ O' 13 1 0 = 0 ∧ O' 14 = O 14 ∧ ∀ j, j ≠ 3 → O' 12 0 j = O 12 0 j := by
  obtain ⟨O3, o1, o2, o3, o4, o5⟩ := c_99 (N := N) (O := O) (x1 := w) hn (by omega)
  have hZ : KZ B L sv O3 := KZ_congr h7 (Nat.le_refl _) (fun k k1 k2 => o2 k (by omega) (by omega)) (fun j hj => o3 j (by omega))
  refine ⟨O3, ?_, hZ.kx h2 (by rw [o2 0 (by decide) (by decide), h5]) o4, o5, o2 14 (by decide) (by decide), o3⟩
  rw [o1, c2_finN hw, bdO_n]
theorem end_badC {r : Int32} (h2 : St B As) (h5 : O 1 = pcK As) (h7 : KZ B L sv O) (hn : O 13 1 0 = nI n) (hn2 : n ≤ 70) : ∃ O', fX2_read_55 N O r = some (if r = -3 then -3 else -2, O') ∧ KX B As L sv O' ∧ O' 13 1 0 = 0 ∧ O' 14 = O 14 ∧ ∀ j, j ≠ 3 → O' 12 0 j = O 12 0 j := by
  have hZ : KZ B L sv (oset O 0 (O 1)) := KZ_congr h7 (Nat.le_refl _) (fun k k1 k2 => oset_ne (by omega)) (fun j hj => by rw [oset_ne (by decide)])
  have hw : (if r = -3 then (-3 : Int32) else -2) < 0 := by split <;> decide
  obtain ⟨O', g1, g2, g3, g4, g5⟩ := end_neg (N := N) hw h2 (by rw [oset_eq, h5]) hZ (by rw [oset_ne (by decide)]; exact hn) hn2
  refine ⟨O', ?_, g2, g3, by rw [g4, oset_ne (by decide)], fun j hj => by rw [g5 j hj, oset_ne (by decide)]⟩
  rw [← g1]
  unfold fX2_read_55 fX2_read_79
  rw [inO_n]
  by_cases q : r = -3
  · rw [if_pos q, if_pos q]
  · rw [if_neg q, if_neg q]
/-- a command is taken and tried -/
def D1 (N z n a ct i : Nat) (A : AT) (O : OT) (T : Nat → Nat) (Od : OT) : Prop := Od 0 = pcK A ∧ (∀ k, k ≠ 12 → k ≠ 13 → Od k = O k) ∧ (∀ j, j ≠ 3 → Od 12 0 j = O 12 0 j) ∧ Od 12 0 3 = nI i ∧ TK T n (Od 13) (cmdR T n a).2.1 ∧ KOK T a (Od 13) (cmdR T n a).2.2.1 (cmdR T n a).2.2.2.1 (cmdR T n a).2.2.2.2 ∧ ∀ r O', mX2_carryOutCommand N Od = some (r, O') → fX2_read_28 N (z + 1) O (nI ct) (nI i) = (if 0 ≤ r then bdE (mX1_takeSign N (O' 13) 59) (fun v17 K18 => inO (oset O' 13 K18) (fun O19 => fX2_read_28 N z O19 (nI ct) (nI (i + 1)))) else fX2_read_55 N O' r)
theorem rd_1 {z : Nat} (h : RD B A As L sv O T n a) (hi : i < ct) (hct : ct < 2 ^ 30) (hc1 : (cmdR T n a).1 = 1) : ∃ Od, D1 N z n a ct i A O T Od := by
  obtain ⟨h1, h2, h3, h5, h7, h10⟩ := h
  obtain ⟨K1, c1, c2, c3, c4⟩ := c1_cmd (N := N) h10
  obtain ⟨Od, eOd⟩ : ∃ Od, Od = oset (oset O 13 K1) 12 (fset (oset O 13 K1 12) 0 3 (nI i)) := ⟨_, rfl⟩
  have d13 : Od 13 = K1 := by rw [eOd, oset_ne (by decide), oset_eq]
  have dk : ∀ k, k ≠ 12 → k ≠ 13 → Od k = O k := fun k k1 k2 => by rw [eOd, oset_ne k1, oset_ne k2]
  refine ⟨Od, by rw [dk 0 (by decide) (by decide), h3], dk, fun j hj => by rw [eOd, oset_eq, fset_eq, pk_un hj, oset_ne (by decide)], by rw [eOd, oset_eq, fset_eq, pk_us], by rw [d13]; exact c3, by rw [d13]; exact c4 hc1, fun r O' e2 => ?_⟩
  conv => lhs; unfold fX2_read_28
  rw [ite_le (by omega) (by omega), if_neg (by omega), c1, bdE_n, inO_n, inO_n, ← eOd, e2, bdO_n, show nI i + 1 = nI (i + 1) from nadd i 1]
theorem rd_ok {z : Nat} {Od : OT} (h : RD B A As L sv O T n a) (hi : i < ct) (hct : ct < 2 ^ 30) (hs : n ≤ (cmdR T n a).2.1 ∨ T (cmdR T n a).2.1 = 59) (hd : D1 N z n a ct i A O T Od) (hc : CE B A Od (mX2_carryOutCommand N Od) none) : ∃ A' O2, fX2_read_28 N (z + 1) O (nI ct) (nI i) = fX2_read_28 N z O2 (nI ct) (nI (i + 1)) ∧ RD (B + 10000) A' As L sv O2 T n (if n ≤ (cmdR T n a).2.1 then (cmdR T n a).2.1 else (cmdR T n a).2.1 + 1) ∧ O2 14 = O 14 ∧ ∀ j, j ≠ 3 → O2 12 0 j = O 12 0 j := by
  obtain ⟨h1, h2, h3, h5, h7, h10⟩ := h
  obtain ⟨d0, dk, d12, d3, dT, dK, de⟩ := hd
  obtain ⟨v, A', O', e, hv, hs', p0, po⟩ : ∃ (n : Nat) (A' : AT) (O' : OT), mX2_carryOutCommand N Od = some (nI n, O') ∧ n < 2 ^ 30 ∧ St (B + 10000) A' ∧ O' 0 = pcK A' ∧ ∀ k, k ≠ 0 → O' k = Od k := hc
  have e1 := de _ _ e
  rw [if_pos (nI_pos' (by omega)), po 13 (by decide)] at e1
  have fin : ∀ (K : KT) (a2 : Nat), TK T n K a2 → RD (B + 10000) A' As L sv (oset O' 13 K) T n a2 ∧ oset O' 13 K 14 = O 14 ∧ ∀ j, j ≠ 3 → oset O' 13 K 12 0 j = O 12 0 j := fun K a2 hK => ⟨⟨hs', h2.mono (by omega), by rw [oset_ne (by decide), p0], by rw [oset_ne (by decide), po 1 (by decide), dk 1 (by decide) (by decide), h5], KZ_congr h7 (by omega) (fun k k1 k2 => by rw [oset_ne (by omega), po k (by omega), dk k (by omega) (by omega)]) (fun j hj => by rw [oset_ne (by decide), po 12 (by decide)]; exact d12 j (by omega)), by rw [oset_eq]; exact hK⟩, by rw [oset_ne (by decide), po 14 (by decide), dk 14 (by decide) (by decide)], fun j hj => by rw [oset_ne (by decide), po 12 (by decide)]; exact d12 j hj⟩
  by_cases q2 : n ≤ (cmdR T n a).2.1
  · rw [if_pos q2]
    rw [show mX1_takeSign N (Od 13) 59 = _ from c1_takeSignN (c := 59) dT (by decide) (fun w => by have := w.1; omega), bdE_n, inO_n] at e1
    exact ⟨A', _, e1, fin _ _ dT⟩
  · rw [if_neg q2]
    have q3 := hs.resolve_left q2
    rw [show mX1_takeSign N (Od 13) 59 = _ from c1_takeSignY (c := 59) dT (by omega) q3, bdE_n, inO_n] at e1
    exact ⟨A', _, e1, fin _ _ (TK_at dT (by omega))⟩
theorem rd_bad {z : Nat} {Od : OT} (h : RD B A As L sv O T n a) (hd : D1 N z n a ct i A O T Od) (hc : CE B A Od (mX2_carryOutCommand N Od) (some none)) : ∃ O', fX2_read_28 N (z + 1) O (nI ct) (nI i) = some (-2, O') ∧ KX B As L sv O' ∧ O' 13 1 0 = 0 ∧ O' 14 = O 14 ∧ ∀ j, j ≠ 3 → O' 12 0 j = O 12 0 j := by
  obtain ⟨h1, h2, h3, h5, h7, h10⟩ := h
  obtain ⟨d0, dk, d12, d3, dT, dK, de⟩ := hd
  obtain ⟨r, hr, e⟩ : ∃ r : Int32, (r = -1 ∨ r = -2) ∧ mX2_carryOutCommand N Od = some (r, Od) := hc
  have e1 := de _ _ e
  have hr0 : ¬ 0 ≤ r := by rcases hr with rfl | rfl <;> decide
  have hr3 : ¬ r = -3 := by rcases hr with rfl | rfl <;> decide
  rw [if_neg hr0] at e1
  obtain ⟨O', g1, g2, g3, g4, g5⟩ := end_badC (N := N) (r := r) (B := B) (As := As) (L := L) (sv := sv) (O := Od) h2 (by rw [dk 1 (by decide) (by decide), h5]) (KZ_congr h7 (Nat.le_refl _) (fun k k1 k2 => dk k (by omega) (by omega)) (fun j hj => d12 j (by omega))) dT.2.1 dT.1
  rw [if_neg hr3] at g1
  exact ⟨O', e1.trans g1, g2, g3, by rw [g4, dk 14 (by decide) (by decide)], fun j hj => by rw [g5 j hj, d12 j hj]⟩
theorem rd_ref {z : Nat} {Od : OT} {w d : Int32} (h : RD B A As L sv O T n a) (hd : D1 N z n a ct i A O T Od) (hc : CE B A Od (mX2_carryOutCommand N Od) (some (some (w, d)))) : ∃ O', fX2_read_28 N (z + 1) O (nI ct) (nI i) = some (-3, O') ∧ KX B As L sv O' ∧ O' 13 1 0 = 0 ∧ O' 14 = O 14 ∧ RE w d (nI i) O' := by
  obtain ⟨h1, h2, h3, h5, h7, h10⟩ := h
  obtain ⟨d0, dk, d12, d3, dT, dK, de⟩ := hd
  obtain ⟨O1, e, po, c1⟩ : ∃ O' : OT, mX2_carryOutCommand N Od = some (-3, O') ∧ (∀ k, k ≠ 12 → O' k = Od k) ∧ O' 12 = fset (fset (fset (Od 12) 0 4 w) 0 5 d) 0 6 (Od 12 0 3) := hc
  have e1 := de _ _ e
  rw [if_neg (by decide)] at e1
  obtain ⟨O', g1, g2, g3, g4, g5⟩ := end_badC (N := N) (r := -3) (B := B) (As := As) (L := L) (sv := sv) (O := O1) h2 (by rw [po 1 (by decide), dk 1 (by decide) (by decide), h5]) (KZ_congr h7 (Nat.le_refl _) (fun k k1 k2 => by rw [po k (by omega), dk k (by omega) (by omega)]) (fun j hj => by rw [c1, fset_eq, pk_un (by omega), fset_eq, pk_un (by omega), fset_eq, pk_un (by omega)]; exact d12 j (by omega))) (by rw [po 13 (by decide)]; exact dT.2.1) dT.1
  rw [if_pos rfl] at g1
  refine ⟨O', e1.trans g1, g2, g3, by rw [g4, po 14 (by decide), dk 14 (by decide) (by decide)], ?_, ?_, ?_⟩
  · rw [g5 4 (by decide), c1, fset_eq, pk_un (by decide), fset_eq, pk_un (by decide), fset_eq, pk_us]
  · rw [g5 5 (by decide), c1, fset_eq, pk_un (by decide), fset_eq, pk_us]
  · rw [g5 6 (by decide), c1, fset_eq, pk_us, d3]
end RDS
def RR (B : Nat) (As : AT) (L : List AT) (sv : Option AT) (O : OT) (r : Int32) (O' : OT) : Prop := O' 13 1 0 = 0 ∧ O' 14 = O 14 ∧ ((∃ n A', r = nI n ∧ n < 2 ^ 30 ∧ KX B A' ((As :: L).take 8) sv O') ∨ (r < 0 ∧ KX B As L sv O'))
theorem rd_runC {N n ct b : Nat} {As : AT} {L : List AT} {sv : Option AT} {T : Nat → Nat} (hN : 1400 ≤ N) : ∀ (k m B a i : Nat) (A : AT) (O : OT), k < m → RD B A As L sv O T n a → B + 10000 * k + 40000 < 2 ^ 30 → (cmdR T n a).1 = 1 → aft T n k (cmdR T n a).1 (cmdR T n a).2.1 (i + 1) = (true, b, ct) → i + k < 1000 → ∃ r O', fX2_read_28 N m O (nI ct) (nI i) = some (r, O') ∧ RR (B + 10000 * k) As L sv O r O' := by
  intro k
  induction k with
  | zero =>
    intro m B a i A O hm h hb hc1 ha hi
    exact absurd (show false = true from congrArg Prod.fst ha) (by decide)
  | succ k ih =>
    intro m B a i A O hm h hb hc1 ha hi
    obtain ⟨z, rfl⟩ : ∃ z, m = z + 1 := ⟨m - 1, by omega⟩
    have han := h.2.2.2.2.2.2.2.2.2
    have hn := h.2.2.2.2.2.1
    obtain ⟨b1, b2, b3, b4⟩ := cmdR_le (T := T) han
    obtain ⟨b5, b6, b7⟩ := b4 hc1
    have hbd := (aft_bd (T := T) (n := n) (k + 1) (cmdR T n a).1 (cmdR T n a).2.1 (i + 1) b3).2 (by rw [ha])
    rw [ha] at hbd
    have hct1 : i + 1 ≤ ct := hbd.1
    have hct2 : ct ≤ i + 1 + (k + 1) := hbd.2
    obtain ⟨Od, hd⟩ := rd_1 (N := N) (z := z) (i := i) (ct := ct) h (by omega) (by omega) hc1
    have hch : CH B A Od (mX2_carryOutCommand N Od) := IC.toCH (ic_carry (n := n) (M := MC A (T a) (cmdR T n a).2.2.1 (cmdR T n a).2.2.2.1 (cmdR T n a).2.2.2.2) hN h.1 (by omega) hd.1 rfl hd.2.2.2.2.2.1 ⟨rfl, rfl, fun _ => rfl, fun _ => ⟨rfl, rfl⟩⟩ b7)
    obtain ⟨oc, hoc⟩ := CH.toCE hd.1 hch
    cases oc with
    | none =>
      unfold aft at ha
      rw [hc1, if_neg (show ¬ (1 : Nat) = 0 by decide)] at ha
      by_cases q2 : n ≤ (cmdR T n a).2.1
      · rw [if_pos q2] at ha
        obtain ⟨A', O2, e1, r1, r2, r3⟩ := rd_ok h (by omega) (by omega) (Or.inl q2) hd hoc
        obtain rfl : i + 1 = ct := congrArg (fun z => z.2.2) ha
        obtain ⟨y, rfl⟩ : ∃ y, z = y + 1 := ⟨z - 1, by omega⟩
        obtain ⟨O', g1, g2, g3, g4⟩ := end_okC (N := N) (c := i + 1) r1 (by omega)
        refine ⟨nI (i + 1), O', ?_, g3, by rw [g4, r2], Or.inl ⟨i + 1, A', rfl, by omega, KX_congr g2 (by omega) rfl (fun _ _ _ => rfl) (fun _ _ => rfl)⟩⟩
        rw [e1]
        unfold fX2_read_28
        rw [ite_le (by omega) (by omega), if_pos (by omega)]
        exact g1
      · rw [if_neg q2] at ha
        by_cases q3 : T (cmdR T n a).2.1 = 59
        · rw [if_pos q3] at ha
          have hc2 : (cmdR T n ((cmdR T n a).2.1 + 1)).1 = 1 := by
            obtain ⟨x1, -, -, -⟩ := cmdR_le (T := T) (n := n) (a := (cmdR T n a).2.1 + 1) (by omega)
            by_cases w : (cmdR T n ((cmdR T n a).2.1 + 1)).1 = 0
            · cases k with
              | zero => exact absurd (show false = true from congrArg Prod.fst ha) (by decide)
              | succ k =>
                unfold aft at ha
                rw [if_pos w] at ha
                exact absurd (show false = true from congrArg Prod.fst ha) (by decide)
            · omega
          obtain ⟨A', O2, e1, r1, r2, r3⟩ := rd_ok h (by omega) (by omega) (Or.inr q3) hd hoc
          rw [if_neg q2] at r1
          obtain ⟨r, O', g1, g2, g3, g4⟩ := ih z (B + 10000) ((cmdR T n a).2.1 + 1) (i + 1) A' O2 (by omega) r1 (by omega) hc2 ha (by omega)
          refine ⟨r, O', e1.trans g1, g2, by rw [g3, r2], ?_⟩
          rw [show B + 10000 * (k + 1) = B + 10000 + 10000 * k by omega]
          exact g4
        · rw [if_neg q3] at ha
          exact absurd (show false = true from congrArg Prod.fst ha) (by decide)
    | some o2 =>
      cases o2 with
      | none =>
        obtain ⟨O', g1, g2, g3, g4, -⟩ := rd_bad h hd hoc
        exact ⟨-2, O', g1, g3, g4, Or.inr ⟨by decide, KX_congr g2 (by omega) rfl (fun _ _ _ => rfl) (fun _ _ => rfl)⟩⟩
      | some wd =>
        obtain ⟨w, d⟩ := wd
        obtain ⟨O', g1, g2, g3, g4, -⟩ := rd_ref h hd hoc
        exact ⟨-3, O', g1, g3, g4, Or.inr ⟨by decide, KX_congr g2 (by omega) rfl (fun _ _ _ => rfl) (fun _ _ => rfl)⟩⟩
theorem rd_start {N B n : Nat} {A : AT} {L : List AT} {sv : Option AT} {O : OT} {T : Nat → Nat} (hN : 1400 ≤ N) (h : KX B A L sv O) (ht : TX n T O) : ∃ Oc, mX2_read N O = fX2_read_28 N N Oc (chkI (aft T n 71 (cmdR T n 0).1 (cmdR T n 0).2.1 1)) 0 ∧ RD B A A L sv Oc T n 0 ∧ Oc 14 = O 14 ∧ Oc 12 = O 12 := by
  obtain ⟨t1, t2, t4⟩ := ht
  obtain ⟨Ob, eOb⟩ : ∃ Ob, Ob = oset O 1 (O 0) := ⟨_, rfl⟩
  have ob1 : Ob 1 = pcK A := by rw [eOb, oset_eq, h.now]
  have obk : ∀ k, k ≠ 1 → Ob k = O k := fun k hk => by rw [eOb, oset_ne hk]
  have hK0 : TK T n (fset (Ob 13) 1 2 (nI 0)) 0 := ⟨t1, by rw [fset_eq, pk_un (by decide), obk 13 (by decide), t2], fun i hi => ⟨(t4 i hi).1, by rw [fset_ne (by decide), obk 13 (by decide)]; exact (t4 i hi).2⟩, by rw [fset_eq, pk_us], Nat.zero_le _⟩
  obtain ⟨K1, c1, c2, b0, c3⟩ := c1_checkL (N := N) 71 N 0 1 _ (by omega) (by omega) (by decide) (by decide) hK0
  obtain ⟨Oc, eOc⟩ : ∃ Oc, Oc = oset (oset Ob 13 K1) 13 (fset K1 1 2 (nI 0)) := ⟨_, rfl⟩
  have hcl : mX2_read N O = fX2_read_28 N N Oc (chkI (aft T n 71 (cmdR T n 0).1 (cmdR T n 0).2.1 1)) 0 := by
    rw [eOc]
    unfold mX2_read mX1_check mX1_goToStart
    rw [inO_n, ← eOb, ptF_n, bdE_n, show fX1_check_6 N N (fset (Ob 13) 1 2 0) 1 = _ from c1, bdE_n, inO_n, oset_eq, ptF_n, bdE_n, inO_n]
    rfl
  have oc13 : Oc 13 = fset K1 1 2 (nI 0) := by rw [eOc, oset_eq]
  have ock : ∀ k, k ≠ 1 → k ≠ 13 → Oc k = O k := fun k k1 k13 => by rw [eOc, oset_ne k13, oset_ne k13, obk k k1]
  have oc1 : Oc 1 = pcK A := by rw [eOc, oset_ne (by decide), oset_ne (by decide), ob1]
  have hKc : TK T n (Oc 13) 0 := by rw [oc13]; exact TK_at c3 (Nat.zero_le _)
  exact ⟨Oc, hcl, ⟨h.1, h.1, by rw [ock 0 (by decide) (by decide), h.now], oc1, KZ_congr h.kz (Nat.le_refl _) (fun k k1 k2 => ock k (by omega) (by omega)) (fun j _ => by rw [ock 12 (by decide) (by decide)]), hKc⟩, ock 14 (by decide) (by decide), ock 12 (by decide) (by decide)⟩
theorem chk_neg : ∀ p, p ≤ 70 → (-100 : Int32) - nI p < 0 := by decide +kernel
/-- a text with a fault -/
theorem rd_fault {N B n : Nat} {A : AT} {L : List AT} {sv : Option AT} {O : OT} {T : Nat → Nat} (hN : 1400 ≤ N) (h : KX B A L sv O) (ht : TX n T O) (hf : ¬ (aft T n 71 (cmdR T n 0).1 (cmdR T n 0).2.1 1).1 = true) : ∃ O', mX2_read N O = some (-100 - nI (aft T n 71 (cmdR T n 0).1 (cmdR T n 0).2.1 1).2.1, O') ∧ KX B A L sv O' ∧ O' 13 1 0 = 0 ∧ O' 14 = O 14 ∧ ∀ j, j ≠ 3 → O' 12 0 j = O 12 0 j := by
  obtain ⟨Oc, e, hr, c14, c12⟩ := rd_start hN h ht
  obtain ⟨h1, h2, h3, h5, h7, h10⟩ := hr
  have hn := h10.1
  obtain ⟨b1, b2, b3, b4⟩ := cmdR_le (T := T) (n := n) (a := 0) (Nat.zero_le _)
  obtain ⟨w1, w2⟩ := aft_bd (T := T) (n := n) 71 (cmdR T n 0).1 (cmdR T n 0).2.1 1 b3
  have eneg := chk_neg _ (Nat.le_trans w1 hn)
  obtain ⟨O', g1, g2, g3, g4, g5⟩ := end_neg (N := N) eneg h2 h3 h7 h10.2.1 hn
  refine ⟨O', ?_, g2, g3, by rw [g4, c14], fun j hj => by rw [g5 j hj, c12]⟩
  rw [e]
  unfold chkI
  rw [if_neg hf]
  obtain ⟨y, rfl⟩ : ∃ y, N = y + 1 := ⟨N - 1, by omega⟩
  conv => lhs; unfold fX2_read_28
  rw [if_pos (Int32.le_of_lt eneg)]
  exact g1
theorem rd_all {N B n : Nat} {A : AT} {L : List AT} {sv : Option AT} {O : OT} {T : Nat → Nat} (hN : 1400 ≤ N) (hb : B + 900000 < 2 ^ 30) (h : KX B A L sv O) (ht : TX n T O) : ∃ r O', mX2_read N O = some (r, O') ∧ RR (B + 800000) A L sv O r O' := by
  by_cases ok : (aft T n 71 (cmdR T n 0).1 (cmdR T n 0).2.1 1).1 = true
  · obtain ⟨Oc, e, hr, c14, c12⟩ := rd_start hN h ht
    have ea : aft T n 71 (cmdR T n 0).1 (cmdR T n 0).2.1 1 = (true, (aft T n 71 (cmdR T n 0).1 (cmdR T n 0).2.1 1).2.1, (aft T n 71 (cmdR T n 0).1 (cmdR T n 0).2.1 1).2.2) := by
      rw [← ok]
    have hc1 : (cmdR T n 0).1 = 1 := by
      obtain ⟨b1, -, -, -⟩ := cmdR_le (T := T) (n := n) (a := 0) (Nat.zero_le _)
      by_cases q : (cmdR T n 0).1 = 0
      · unfold aft at ok
        rw [if_pos q] at ok
        exact absurd (show false = true from ok) (by decide)
      · omega
    obtain ⟨r, O', y1, y2, y3, y4⟩ := rd_runC (N := N) (As := A) hN 71 N B 0 0 A Oc (by omega) hr (by omega) hc1 ea (by omega)
    refine ⟨r, O', ?_, y2, by rw [y3, c14], ?_⟩
    · rw [e]
      unfold chkI
      rw [if_pos ok]
      exact y1
    · rcases y4 with ⟨v, A', e1, e2, e3⟩ | ⟨e1, e2⟩
      · exact Or.inl ⟨v, A', e1, e2, KX_congr e3 (by omega) rfl (fun _ _ _ => rfl) (fun _ _ => rfl)⟩
      · exact Or.inr ⟨e1, KX_congr e2 (by omega) rfl (fun _ _ _ => rfl) (fun _ _ => rfl)⟩
  · obtain ⟨O', e, g2, g3, g4, -⟩ := rd_fault hN h ht ok
    obtain ⟨b1, b2, b3, b4⟩ := cmdR_le (T := T) (n := n) (a := 0) (Nat.zero_le _)
    obtain ⟨w1, w2⟩ := aft_bd (T := T) (n := n) 71 (cmdR T n 0).1 (cmdR T n 0).2.1 1 b3
    exact ⟨_, O', e, g3, g4, Or.inr ⟨chk_neg _ (Nat.le_trans w1 ht.1), KX_congr g2 (by omega) rfl (fun _ _ _ => rfl) (fun _ _ => rfl)⟩⟩
