/-! ===== a text is carried out, the two sides together ===== -/
theorem TM_congr {T : Nat → Nat} {n a : Nat} {M M' : KT} (h : TM T n M a) (m6 : M' 6 = M 6) (m3 : M' 8 3 = M 8 3) (m4 : M' 8 4 = M 8 4) : TM T n M' a := by
  unfold TM
  rw [m6, m3, m4]
  exact h
def RS (B : Nat) (A As : AT) (O : OT) (M : KT) (T : Nat → Nat) (n a : Nat) : Prop := St B A ∧ St B As ∧ O 0 = pcK A ∧ M 0 = pcM A ∧ O 1 = pcK As ∧ (∀ x, x < 186 → M 1 x = pcM As x) ∧ JQ B O M ∧ JF O M ∧ JL O M ∧ TK T n (O 13) a ∧ TM T n M a
theorem c_99 {N n : Nat} {O : OT} {x1 : Int32} (h : O 13 1 0 = nI n) (hn : n < 2 ^ 31) : ∃ O3, fX2_read_99 N O x1 = bdO (mX2_finishChange N O3 x1) (fun v4 O5 => some (v4, O5)) ∧ (∀ k, k ≠ 12 → k ≠ 13 → O3 k = O k) ∧ (∀ i, i ≠ 3 → O3 12 0 i = O 12 0 i) ∧ O3 12 0 3 = -4 ∧ O3 13 1 0 = 0 := by
  unfold fX2_read_99
  have e : s_cL (oset O 12 (fset (O 12) 0 3 (-4)) 13) 0 = some (fset (if 0 < O 13 1 0 then fset (O 13) 1 1 1 else O 13) 1 0 0) := by
    unfold s_cL
    rw [oset_ne (show (13 : Nat) ≠ 12 by decide), if_pos ⟨rfl, by rw [h]; exact nI_pos' hn⟩]
  rw [inO_n, e]
  refine ⟨_, rfl, fun k k12 k13 => by rw [oset_ne k13, oset_ne k12], fun i hi => ?_, ?_, ?_⟩
  · rw [oset_ne (by decide), oset_eq, fset_eq, pk_un hi]
  · rw [oset_ne (by decide), oset_eq, fset_eq, pk_us]
  · rw [oset_eq, fset_eq, pk_us]
/-- the end where everything went well -/
theorem end_ok {N B n a c : Nat} {A As : AT} {O : OT} {M : KT} {T : Nat → Nat} {v : Int32} (hN : 1400 ≤ N) (h : RS B A As O M T n a) (hc : c < 2 ^ 31) (hv : ¬ v < 0) : ∃ r O' M', fX2_read_99 N O (nI c) = some (r, O') ∧ fX3_read_128 N M (nI c) v = some (r, M') ∧ J B O' M' := by
  obtain ⟨h1, h2, h3, h4, h5, h6, h7, h8, h9, h10, h11⟩ := h
  have hn := h10.1
  obtain ⟨O3, o1, o2, o3, o4, o5⟩ := c_99 (N := N) (x1 := nI c) h10.2.1 (by omega)
  have hQ : JQ B O3 (fset M 8 3 0) := JQ_congr h7 (Nat.le_refl _) (fun k k1 k2 => o2 k (by omega) (by omega)) (fun i hi => o3 i (by omega)) (fun x _ => by rw [fset_ne (by decide)]) (fset_ne (by decide)) (fun i hi => by rw [fset_eq, pk_un (by omega)])
  obtain ⟨O', M', g1, g2, g3, g4, g5, g6, g7⟩ := fin_pos (N := N) (A := As) (O := O3) (M := fset M 8 3 0) hN (nI_pos' hc) h2 (by rw [o2 1 (by decide) (by decide), h5]) (fun x hx => by rw [fset_ne (by decide)]; exact h6 x hx) hQ
  unfold fX3_read_128
  rw [o1, g1, bdO_n, ptF_n, if_neg hv, g2, bdE_n]
  refine ⟨_, _, _, rfl, rfl, A, h1, by rw [g4 0 (by decide), o2 0 (by decide) (by decide), h3], fun x _ => by rw [g6 0 (by decide) (by decide), fset_ne (by decide), h4], g3, ?_, ?_, ?_, ?_⟩
  · exact JF_congr h8 (fun i i1 i2 => by rw [g5 i (by omega) (by omega), o3 i (by omega)]) (fun i i1 i2 => by rw [g7 i (by omega), fset_eq, pk_un (by omega)])
  · exact ⟨0, T, by omega, ⟨by rw [g4 13 (by decide), o5]; rfl, by rw [g7 3 (by decide), fset_eq, pk_us]; rfl⟩, fun i hi => absurd hi (by omega)⟩
  · exact JL_congr h9 (by rw [g4 14 (by decide), o2 14 (by decide) (by decide)]) (by rw [g6 5 (by decide) (by decide), fset_ne (by decide)]) (by rw [g7 2 (by decide), fset_eq, pk_un (by decide)])
  · rw [g5 3 (by decide) (by decide), o4]
/-- the end where a command could not be carried out -/
theorem end_bad {N B n i : Nat} {As : AT} {O : OT} {M : KT} {r : Int32} (hN : 1400 ≤ N) (h2 : St B As) (h5 : O 1 = pcK As) (h6 : ∀ x, x < 186 → M 1 x = pcM As x) (h7 : JQ B O M) (h8 : JF O (if r = -3 then fset M 8 8 (nI i) else M)) (h9 : JL O M) (hn : O 13 1 0 = nI n) (hn2 : n ≤ 70) (hr : r < 0) : ∃ r' O' M', fX2_read_55 N O r = some (r', O') ∧ fX3_read_128 N M (nI i) r = some (r', M') ∧ J B O' M' := by
  have main : ∀ (w : Int32) (M1 : KT), w < 0 → (∀ j, j ≠ 8 → M1 j = M j) → (∀ j, j < 3 → M1 8 j = M 8 j) → M1 8 3 = 0 → JF O M1 → ∃ r' O' M', fX2_read_99 N (oset O 0 (O 1)) w = some (r', O') ∧ bdE (mX3_ends N M1 w) (fun v5 K6 => some (v5, K6)) = some (r', M') ∧ J B O' M' := by
    intro w M1 hw m1 m2 m3 hF
    obtain ⟨O3, o1, o2, o3, o4, o5⟩ := c_99 (N := N) (O := oset O 0 (O 1)) (x1 := w) (n := n) (by rw [oset_ne (by decide)]; exact hn) (by omega)
    obtain ⟨M2, g1, g2, g3⟩ := r0_endsN (N := N) (K := M1) hN hw
    have ob : ∀ k, k ≠ 0 → k ≠ 12 → k ≠ 13 → O3 k = O k := fun k k0 k1 k2 => by rw [o2 k k1 k2, oset_ne k0]
    have o12 : ∀ j, j ≠ 3 → O3 12 0 j = O 12 0 j := fun j hj => by rw [o3 j hj, oset_ne (by decide)]
    rw [o1, c2_finN hw, bdO_n, g1, bdE_n]
    refine ⟨_, _, _, rfl, rfl, As, h2, by rw [o2 0 (by decide) (by decide), oset_eq, h5], fun x hx => by rw [g3 x hx, m1 1 (by decide)]; exact h6 x hx, ?_, ?_, ?_, ?_, o4⟩
    · exact JQ_congr h7 (Nat.le_refl _) (fun k k1 k2 => ob k (by omega) (by omega) (by omega)) (fun j hj => o12 j (by omega)) (fun x _ => by rw [g2 3 (by decide), m1 3 (by decide)]) (by rw [g2 4 (by decide), m1 4 (by decide)]) (fun j hj => by rw [g2 8 (by decide)]; exact m2 j (by omega))
    · exact JF_congr hF (fun j j1 j2 => o12 j (by omega)) (fun j j1 j2 => by rw [g2 8 (by decide)])
    · exact ⟨0, fun _ => 0, by omega, ⟨by rw [o5]; rfl, by rw [g2 8 (by decide), m3]; rfl⟩, fun j hj => absurd hj (by omega)⟩
    · exact JL_congr h9 (ob 14 (by decide) (by decide) (by decide)) (by rw [g2 5 (by decide), m1 5 (by decide)]) (by rw [g2 8 (by decide)]; exact m2 2 (by decide))
  unfold fX2_read_55 fX2_read_79 fX3_read_128 fX3_read_154 fX3_read_168
  rw [inO_n, ptF_n, if_pos hr]
  by_cases q : r = -3
  · rw [if_pos q, if_pos q, ptF_n, if_pos q]
    rw [if_pos q] at h8
    exact main (-3) _ (by decide) (fun j hj => by rw [fset_ne hj, fset_ne hj]) (fun j hj => by rw [fset_eq, pk_un (by omega), fset_eq, pk_un (by omega)]) (by rw [fset_eq, pk_un (by decide), fset_eq, pk_us]) (JF_congr h8 (fun _ _ _ => rfl) (fun j j1 j2 => by
      rw [fset_eq, fset_eq]
      by_cases w : j = 8
      · rw [w, pk_us, fset_eq, pk_us]
      · rw [pk_un w, pk_un (show j ≠ 3 by omega), fset_eq, pk_un w]))
  · rw [if_neg q, if_neg q, if_neg q]
    rw [if_neg q] at h8
    exact main (-2) _ (by decide) (fun j hj => fset_ne hj) (fun j hj => by rw [fset_eq, pk_un (by omega)]) (by rw [fset_eq, pk_us]) (JF_congr h8 (fun _ _ _ => rfl) (fun j j1 j2 => by rw [fset_eq, pk_un (by omega)]))
theorem rd_run {N n ct b : Nat} {As : AT} {T : Nat → Nat} (hN : 1400 ≤ N) : ∀ (k m m' B a i : Nat) (A : AT) (O : OT) (M : KT) (x3 : Int32), k < m → k + 1 < m' → RS B A As O M T n a → B + 10000 * k + 40000 < 2 ^ 30 → (cmdR T n a).1 = 1 → aft T n k (cmdR T n a).1 (cmdR T n a).2.1 (i + 1) = (true, b, ct) → i + k < 1000 → ∃ r O' M', fX2_read_28 N m O (nI ct) (nI i) = some (r, O') ∧ fX3_read_83 N m' M (nI i) x3 1 = some (r, M') ∧ J (B + 10000 * k) O' M' := by
  intro k
  induction k with
  | zero =>
    intro m m' B a i A O M x3 hm hm' h hb hc1 ha hi
    exact absurd (show false = true from congrArg Prod.fst ha) (by decide)
  | succ k ih =>
    intro m m' B a i A O M x3 hm hm' h hb hc1 ha hi
    obtain ⟨z, rfl⟩ : ∃ z, m = z + 1 := ⟨m - 1, by omega⟩
    obtain ⟨z', rfl⟩ : ∃ z', m' = z' + 1 := ⟨m' - 1, by omega⟩
    obtain ⟨h1, h2, h3, h4, h5, h6, h7, h8, h9, h10, h11⟩ := h
    have hn := h10.1
    have han := h10.2.2.2.2
    obtain ⟨b1, b2, b3, b4⟩ := cmdR_le (T := T) han
    obtain ⟨b5, b6, b7⟩ := b4 hc1
    have hbd := (aft_bd (T := T) (n := n) (k + 1) (cmdR T n a).1 (cmdR T n a).2.1 (i + 1) b3).2 (by rw [ha])
    rw [ha] at hbd
    have hct1 : i + 1 ≤ ct := hbd.1
    have hct2 : ct ≤ i + 1 + (k + 1) := hbd.2
    obtain ⟨K1, c1, c2, c3, c4⟩ := c1_cmd (N := N) h10
    obtain ⟨M1, r1, r2, r3, r4⟩ := r3_cmd (N := N) (by omega) h11
    obtain ⟨Od, eOd⟩ : ∃ Od, Od = oset (oset O 13 K1) 12 (fset (oset O 13 K1 12) 0 3 (nI i)) := ⟨_, rfl⟩
    have d13 : Od 13 = K1 := by rw [eOd, oset_ne (by decide), oset_eq]
    have dk : ∀ k, k ≠ 12 → k ≠ 13 → Od k = O k := fun k k1 k2 => by rw [eOd, oset_ne k1, oset_ne k2]
    have d12 : ∀ j, j ≠ 3 → Od 12 0 j = O 12 0 j := fun j hj => by rw [eOd, oset_eq, fset_eq, pk_un hj, oset_ne (by decide)]
    have d3 : Od 12 0 3 = nI i := by rw [eOd, oset_eq, fset_eq, pk_us]
    obtain ⟨r, A', O', M', e2, e3, p0, q0, po, pm, hr⟩ := ic_carry (n := n) (N := N) (B := B) (A := A) (O := Od) (M := M1) hN h1 (by omega) (by rw [dk 0 (by decide) (by decide), h3]) (by rw [r2.1 0 (by decide) (by decide), h4]) (by rw [d13]; exact c4 hc1) (r4 hc1) b7
    have o13 : O' 13 = K1 := by rw [po 13 (by decide) (by decide), d13]
    have ok : ∀ k, k ≠ 0 → k ≠ 12 → k ≠ 13 → O' k = O k := fun k k0 k1 k2 => by rw [po k k0 k1, dk k k1 k2]
    have mk : ∀ j, j ≠ 0 → j ≠ 7 → j ≠ 8 → M' j = M j := fun j j0 j7 j8 => by rw [pm j j0 j8, r2.1 j j7 j8]
    have hcl : fX2_read_28 N (z + 1) O (nI ct) (nI i) = (if 0 ≤ r then bdE (mX1_takeSign N (O' 13) 59) (fun v17 K18 => inO (oset O' 13 K18) (fun O19 => fX2_read_28 N z O19 (nI ct) (nI (i + 1)))) else fX2_read_55 N O' r) := by
      conv => lhs; unfold fX2_read_28
      rw [ite_le (by omega) (by omega), if_neg (by omega), c1, bdE_n, inO_n, inO_n, ← eOd, e2, bdO_n, show nI i + 1 = nI (i + 1) from nadd i 1]
    have hrf : fX3_read_83 N (z' + 1) M (nI i) x3 1 = (if r < 0 then fX3_read_105 N (fX3_read_83 N z') M' (nI i) r else fX3_read_105 N (fX3_read_83 N z') M' (nI (i + 1)) r) := by
      conv => lhs; unfold fX3_read_83
      rw [if_neg (show ¬ (1 : Int32) = 0 by decide), r1, bdE_n, e3, bdE_n, show nI i + 1 = nI (i + 1) from nadd i 1]
    rw [hcl, hrf]
    have neg : r < 0 → JF O' (if r = -3 then fset M' 8 8 (nI i) else M') → (∀ j, j < 4 → j ≠ 3 → O' 12 0 j = O 12 0 j) → (∀ j, j < 4 → M' 8 j = M 8 j) → ∃ r' O'' M'', (if 0 ≤ r then bdE (mX1_takeSign N (O' 13) 59) (fun v17 K18 => inO (oset O' 13 K18) (fun O19 => fX2_read_28 N z O19 (nI ct) (nI (i + 1)))) else fX2_read_55 N O' r) = some (r', O'') ∧ (if r < 0 then fX3_read_105 N (fX3_read_83 N z') M' (nI i) r else fX3_read_105 N (fX3_read_83 N z') M' (nI (i + 1)) r) = some (r', M'') ∧ J (B + 10000 * (k + 1)) O'' M'' := by
      intro hr0 hF o12 m8
      obtain ⟨y, rfl⟩ : ∃ y, z' = y + 1 := ⟨z' - 1, by omega⟩
      have e83 : fX3_read_105 N (fX3_read_83 N (y + 1)) M' (nI i) r = fX3_read_128 N M' (nI i) r := by
        unfold fX3_read_105 fX3_read_122 fX3_read_123
        rw [if_pos hr0]
        unfold fX3_read_83
        rw [if_pos (show (0 : Int32) = 0 from rfl)]
      rw [if_neg (Int32.not_le.mpr hr0), if_pos hr0, e83]
      refine end_bad (n := n) (As := As) (B := B + 10000 * (k + 1)) hN (h2.mono (by omega)) (by rw [ok 1 (by decide) (by decide) (by decide), h5]) (fun x hx => by rw [mk 1 (by decide) (by decide) (by decide)]; exact h6 x hx) ?_ hF ?_ (by rw [o13]; exact c3.2.1) hn hr0
      · exact JQ_congr h7 (by omega) (fun k k1 k2 => ok k (by omega) (by omega) (by omega)) (fun j hj => o12 j (by omega) (by omega)) (fun x _ => by rw [mk 3 (by decide) (by decide) (by decide)]) (mk 4 (by decide) (by decide) (by decide)) (fun j hj => m8 j (by omega))
      · exact JL_congr h9 (ok 14 (by decide) (by decide) (by decide)) (mk 5 (by decide) (by decide) (by decide)) (m8 2 (by decide))
    rcases hr with ⟨⟨v, rfl, hv⟩, hs, s12, s8⟩ | ⟨hr, eA, s12, s8⟩ | ⟨rfl, eA, w, d, hw, s12, s8⟩
    · have t12 : ∀ j, j ≠ 3 → O' 12 0 j = O 12 0 j := fun j hj => by rw [s12]; exact d12 j hj
      have t8 : ∀ j, j ≠ 4 → j ≠ 5 → M' 8 j = M 8 j := fun j j4 j5 => by rw [s8]; exact r2.2 j j4 j5
      have hTM : TM T n M' (cmdR T n a).2.1 := TM_congr r3 (pm 6 (by decide) (by decide)) (by rw [s8]) (by rw [s8])
      have mkRS : ∀ (O2 : OT) (M2 : KT) (a2 : Nat), (∀ k, k ≠ 13 → O2 k = O' k) → (∀ j, j ≠ 8 → M2 j = M' j) → (∀ j, j ≠ 4 → M2 8 j = M' 8 j) → TK T n (O2 13) a2 → TM T n M2 a2 → RS (B + 10000) A' As O2 M2 T n a2 := by
        intro O2 M2 a2 f1 f2 f3 f4 f5
        refine ⟨hs, h2.mono (by omega), by rw [f1 0 (by decide), p0], by rw [f2 0 (by decide), q0], by rw [f1 1 (by decide), ok 1 (by decide) (by decide) (by decide), h5], fun x hx => by rw [f2 1 (by decide), mk 1 (by decide) (by decide) (by decide)]; exact h6 x hx, ?_, ?_, ?_, f4, f5⟩
        · exact JQ_congr h7 (by omega) (fun k k1 k2 => by rw [f1 k (by omega)]; exact ok k (by omega) (by omega) (by omega)) (fun j hj => by rw [f1 12 (by decide)]; exact t12 j (by omega)) (fun x _ => by rw [f2 3 (by decide), mk 3 (by decide) (by decide) (by decide)]) (by rw [f2 4 (by decide), mk 4 (by decide) (by decide) (by decide)]) (fun j hj => by rw [f3 j (by omega)]; exact t8 j (by omega) (by omega))
        · exact JF_congr h8 (fun j j1 j2 => by rw [f1 12 (by decide)]; exact t12 j (by omega)) (fun j j1 j2 => by rw [f3 j (by omega)]; exact t8 j (by omega) (by omega))
        · exact JL_congr h9 (by rw [f1 14 (by decide), ok 14 (by decide) (by decide) (by decide)]) (by rw [f2 5 (by decide), mk 5 (by decide) (by decide) (by decide)]) (by rw [f3 2 (by decide)]; exact t8 2 (by decide) (by decide))
      rw [if_pos (nI_pos' (by omega)), if_neg (nI_pos (by omega)), o13]
      unfold aft at ha
      rw [hc1, if_neg (show ¬ (1 : Nat) = 0 by decide)] at ha
      unfold fX3_read_105 fX3_read_122 fX3_read_123
      rw [if_neg (nI_pos (by omega))]
      by_cases q2 : n ≤ (cmdR T n a).2.1
      · rw [if_pos q2] at ha
        obtain rfl : i + 1 = ct := congrArg (fun z => z.2.2) ha
        obtain ⟨y, rfl⟩ : ∃ y, z = y + 1 := ⟨z - 1, by omega⟩
        obtain ⟨y', rfl⟩ : ∃ y', z' = y' + 1 := ⟨z' - 1, by omega⟩
        rw [show mX1_takeSign N K1 59 = _ from c1_takeSignN (c := 59) c3 (by decide) (fun w => by have := w.1; omega), bdE_n, inO_n, show mX3_takes N M' 59 = _ from r3_takesN (c := 59) hTM (by decide) (fun w => by have := w.1; omega), bdE_n, if_pos (show (0 : Int32) = 0 from rfl)]
        have e1 : fX2_read_28 N (y + 1) (oset O' 13 K1) (nI (i + 1)) (nI (i + 1)) = fX2_read_99 N (oset O' 13 K1) (nI (i + 1)) := by
          unfold fX2_read_28
          rw [ite_le (by omega) (by omega), if_pos (by omega)]
        have e2 : fX3_read_83 N (y' + 1) M' (nI (i + 1)) (nI v) 0 = fX3_read_128 N M' (nI (i + 1)) (nI v) := by
          unfold fX3_read_83
          rw [if_pos (show (0 : Int32) = 0 from rfl)]
        rw [e1, e2]
        obtain ⟨r', O'', M'', y1, y2, y3⟩ := end_ok (N := N) hN (mkRS (oset O' 13 K1) M' (cmdR T n a).2.1 (fun k hk => oset_ne hk) (fun _ _ => rfl) (fun _ _ => rfl) (by rw [oset_eq]; exact c3) hTM) (c := i + 1) (by omega) (nI_pos (n := v) (by omega))
        exact ⟨r', O'', M'', y1, y2, J_mono y3 (by omega)⟩
      · rw [if_neg q2] at ha
        by_cases q3 : T (cmdR T n a).2.1 = 59
        · rw [if_pos q3] at ha
          have hc2 : (cmdR T n ((cmdR T n a).2.1 + 1)).1 = 1 := by
            obtain ⟨x1, -, -, -⟩ := cmdR_le (T := T) (n := n) (a := (cmdR T n a).2.1 + 1) (by omega)
            by_cases w : (cmdR T n ((cmdR T n a).2.1 + 1)).1 = 0
            · cases k with
              | zero => exact absurd (show false = true from congrArg Prod.fst ha) (by decide)
              | succ k =>
                unfold aft at ha
                rw [if_pos w] at ha
                exact absurd (show false = true from congrArg Prod.fst ha) (by decide)
            · omega
          rw [show mX1_takeSign N K1 59 = _ from c1_takeSignY (c := 59) c3 (by omega) q3, bdE_n, inO_n, show mX3_takes N M' 59 = _ from r3_takesY (c := 59) hTM (by omega) q3, bdE_n, if_neg (show ¬ (1 : Int32) = 0 by decide)]
          obtain ⟨r', O'', M'', y1, y2, y3⟩ := ih z z' (B + 10000) ((cmdR T n a).2.1 + 1) (i + 1) A' (oset O' 13 (fset K1 1 2 (nI ((cmdR T n a).2.1 + 1)))) (fset M' 8 4 (nI ((cmdR T n a).2.1 + 1))) (nI v) (by omega) (by omega) (mkRS _ _ _ (fun k hk => oset_ne hk) (fun j hj => fset_ne hj) (fun j hj => by rw [fset_eq, pk_un hj]) (by rw [oset_eq]; exact TK_at c3 (by omega)) (TM_at hTM (by omega))) (by omega) hc2 ha (by omega)
          exact ⟨r', O'', M'', y1, y2, J_mono y3 (by omega)⟩
        · rw [if_neg q3] at ha
          exact absurd (show false = true from congrArg Prod.fst ha) (by decide)
    · have t12 : ∀ j, j ≠ 3 → O' 12 0 j = O 12 0 j := fun j hj => by rw [s12]; exact d12 j hj
      have t8 : ∀ j, j ≠ 4 → j ≠ 5 → M' 8 j = M 8 j := fun j j4 j5 => by rw [s8]; exact r2.2 j j4 j5
      have r3n : ¬ r = -3 := fun e => by rcases hr with q | q <;> rw [q] at e <;> exact absurd e (by decide)
      refine neg (by rcases hr with q | q <;> rw [q] <;> decide) ?_ (fun j _ hj => t12 j hj) (fun j hj => t8 j (by omega) (by omega))
      rw [if_neg r3n]
      exact JF_congr h8 (fun j j1 j2 => t12 j (by omega)) (fun j j1 j2 => t8 j (by omega) (by omega))
    · refine neg (by decide) ?_ (fun j hj hj3 => by rw [s12, fset_eq, pk_un (by omega), fset_eq, pk_un (by omega), fset_eq, pk_un (by omega)]; exact d12 j hj3) (fun j hj => by rw [s8, pk_un (by omega), pk_un (by omega), pk_un (by omega)]; exact r2.2 j (by omega) (by omega))
      rw [if_pos rfl]
      refine Or.inr ⟨?_, ?_, ?_, ?_⟩
      · rw [fset_eq, pk_un (by decide), s8, pk_un (by decide), pk_un (by decide), pk_us]; exact hw
      · rw [s12, fset_eq, pk_un (by decide), fset_eq, pk_un (by decide), fset_eq, pk_us, fset_eq, pk_un (by decide), s8, pk_un (by decide), pk_un (by decide), pk_us]
      · rw [s12, fset_eq, pk_un (by decide), fset_eq, pk_us, fset_eq, pk_un (by decide), s8, pk_un (by decide), pk_us]
      · rw [s12, fset_eq, pk_us, fset_eq, pk_us]; exact d3
theorem j_read {N B : Nat} {A : AT} {O : OT} {M : KT} (hN : 1400 ≤ N) (hb : B + 900000 < 2 ^ 30) (hJ : JX B A O M) : ∃ r O' M', mX2_read N O = some (r, O') ∧ mX3_read N M = some (r, M') ∧ J (B + 800000) O' M' := by
  obtain ⟨h1, h2, h3, h4, h5, ⟨n, T, t1, ⟨t2, t3⟩, t4⟩, h7, h8⟩ := hJ
  obtain ⟨Ob, eOb⟩ : ∃ Ob, Ob = oset O 1 (O 0) := ⟨_, rfl⟩
  have ob1 : Ob 1 = pcK A := by rw [eOb, oset_eq, h2]
  have obk : ∀ k, k ≠ 1 → Ob k = O k := fun k hk => by rw [eOb, oset_ne hk]
  have hK0 : TK T n (fset (Ob 13) 1 2 (nI 0)) 0 := ⟨t1, by rw [fset_eq, pk_un (by decide), obk 13 (by decide), t2], fun i hi => ⟨(t4 i hi).1, by rw [fset_ne (by decide), obk 13 (by decide)]; exact (t4 i hi).2.1⟩, by rw [fset_eq, pk_us], Nat.zero_le _⟩
  obtain ⟨K1, c1, c2, b0, c3⟩ := c1_checkL (N := N) 71 N 0 1 _ (by omega) (by omega) (by decide) (by decide) hK0
  obtain ⟨M1, m1, m2, m3⟩ := r0_tries (N := N) (K := M) hN
  have hM0 : TM T n (fset M1 8 4 (nI 0)) 0 := ⟨t1, by rw [fset_eq, pk_un (by decide), m2 8 (by decide), t3], fun i hi => ⟨(t4 i hi).1, by rw [fset_ne (by decide), m2 6 (by decide)]; exact (t4 i hi).2.2⟩, by rw [fset_eq, pk_us], Nat.zero_le _⟩
  obtain ⟨M2, r1, r2, r3, -⟩ := r3_cmd (N := N) (by omega) hM0
  obtain ⟨b1, b2, b3, b4⟩ := cmdR_le (T := T) (n := n) (a := 0) (Nat.zero_le _)
  obtain ⟨M3, s1, s2, s3⟩ := r3_checkL (N := N) (by omega) 71 N (cmdR T n 0).2.1 1 (cmdR T n 0).1 M2 (by omega) (by omega) b1 r3
  have hcl : mX2_read N O = fX2_read_28 N N (oset (oset Ob 13 K1) 13 (fset K1 1 2 (nI 0))) (chkI (aft T n 71 (cmdR T n 0).1 (cmdR T n 0).2.1 1)) 0 := by
    unfold mX2_read mX1_check mX1_goToStart
    rw [inO_n, ← eOb, ptF_n, bdE_n, show fX1_check_6 N N (fset (Ob 13) 1 2 0) 1 = _ from c1, bdE_n, inO_n, oset_eq, ptF_n, bdE_n, inO_n]
    rfl
  have hrf : mX3_read N M = fX3_read_54 N M3 (if (aft T n 71 (cmdR T n 0).1 (cmdR T n 0).2.1 1).1 = true then 1 else 0) := by
    unfold mX3_read
    rw [m1, bdE_n, ptF_n, show mX3_isCommand N (fset M1 8 4 0) = _ from r1, bdE_n, s1]
  rw [hcl, hrf]
  obtain ⟨Oc, eOc⟩ : ∃ Oc, Oc = oset (oset Ob 13 K1) 13 (fset K1 1 2 (nI 0)) := ⟨_, rfl⟩
  rw [← eOc]
  have oc13 : Oc 13 = fset K1 1 2 (nI 0) := by rw [eOc, oset_eq]
  have ock : ∀ k, k ≠ 1 → k ≠ 13 → Oc k = O k := fun k k1 k13 => by rw [eOc, oset_ne k13, oset_ne k13, obk k k1]
  have oc1 : Oc 1 = pcK A := by rw [eOc, oset_ne (by decide), oset_ne (by decide), ob1]
  have hKc : TK T n (Oc 13) 0 := by rw [oc13]; exact TK_at c3 (Nat.zero_le _)
  have mk : ∀ j, j ≠ 1 → j ≠ 7 → j ≠ 8 → M3 j = M j := fun j j1 j7 j8 => by rw [s2.1 j j7 j8, r2.1 j j7 j8, fset_ne j8, m2 j j1]
  have mk1 : ∀ x, x < 186 → M3 1 x = pcM A x := fun x hx => by rw [s2.1 1 (by decide) (by decide), r2.1 1 (by decide) (by decide), fset_ne (by decide), m3 x hx, h3]
  have mk8 : ∀ j, j ≠ 4 → j ≠ 5 → M3 8 j = M 8 j := fun j j4 j5 => by rw [s2.2 j j4 j5, r2.2 j j4 j5, fset_eq, pk_un j4, m2 8 (by decide)]
  obtain ⟨w1, w2⟩ := aft_bd (T := T) (n := n) 71 (cmdR T n 0).1 (cmdR T n 0).2.1 1 b3
  by_cases ok : (aft T n 71 (cmdR T n 0).1 (cmdR T n 0).2.1 1).1 = true
  · have w3 := w2 ok
    have ea : aft T n 71 (cmdR T n 0).1 (cmdR T n 0).2.1 1 = (true, (aft T n 71 (cmdR T n 0).1 (cmdR T n 0).2.1 1).2.1, (aft T n 71 (cmdR T n 0).1 (cmdR T n 0).2.1 1).2.2) := by
      rw [← ok]
    have hc1 : (cmdR T n 0).1 = 1 := by
      by_cases q : (cmdR T n 0).1 = 0
      · unfold aft at ok
        rw [if_pos q] at ok
        exact absurd (show false = true from ok) (by decide)
      · omega
    have hRS : RS B A A Oc (fset M3 8 4 (nI 0)) T n 0 := by
      refine ⟨h1, h1, by rw [ock 0 (by decide) (by decide), h2], by rw [fset_ne (by decide), mk 0 (by decide) (by decide) (by decide), h3], oc1, fun x hx => by rw [fset_ne (by decide)]; exact mk1 x hx, ?_, ?_, ?_, hKc, TM_at s3 (Nat.zero_le _)⟩
      · exact JQ_congr h4 (Nat.le_refl _) (fun k k1 k2 => ock k (by omega) (by omega)) (fun j _ => by rw [ock 12 (by decide) (by decide)]) (fun x _ => by rw [fset_ne (by decide), mk 3 (by decide) (by decide) (by decide)]) (by rw [fset_ne (by decide), mk 4 (by decide) (by decide) (by decide)]) (fun j hj => by rw [fset_eq, pk_un (by omega)]; exact mk8 j (by omega) (by omega))
      · exact JF_congr h5 (fun j _ _ => by rw [ock 12 (by decide) (by decide)]) (fun j j1 j2 => by rw [fset_eq, pk_un (by omega)]; exact mk8 j (by omega) (by omega))
      · exact JL_congr h7 (ock 14 (by decide) (by decide)) (by rw [fset_ne (by decide), mk 5 (by decide) (by decide) (by decide)]) (by rw [fset_eq, pk_un (by decide)]; exact mk8 2 (by decide) (by decide))
    unfold fX3_read_54 chkI
    rw [if_pos ok, if_pos ok, if_neg (show ¬ (1 : Int32) = 0 by decide), ptF_n]
    obtain ⟨r', O', M', y1, y2, y3⟩ := rd_run (N := N) (As := A) hN 71 N N B 0 0 A Oc (fset M3 8 4 (nI 0)) 0 (by omega) (by omega) hRS (by omega) hc1 ea (by omega)
    exact ⟨r', O', M', y1, y2, J_mono y3 (by omega)⟩
  · have hp := w1
    have eneg : (-100 : Int32) - nI (aft T n 71 (cmdR T n 0).1 (cmdR T n 0).2.1 1).2.1 < 0 := by
      have e : ∀ p, p ≤ 70 → (-100 : Int32) - nI p < 0 := by decide +kernel
      exact e _ (by omega)
    obtain ⟨O3, o1, o2, o3, o4, o5⟩ := c_99 (N := N) (O := Oc) (n := n) (x1 := (-100 : Int32) - nI (aft T n 71 (cmdR T n 0).1 (cmdR T n 0).2.1 1).2.1) hKc.2.1 (by omega)
    have e28 : fX2_read_28 N N Oc ((-100 : Int32) - nI (aft T n 71 (cmdR T n 0).1 (cmdR T n 0).2.1 1).2.1) 0 = some ((-100 : Int32) - nI (aft T n 71 (cmdR T n 0).1 (cmdR T n 0).2.1 1).2.1, O3) := by
      obtain ⟨y, rfl⟩ : ∃ y, N = y + 1 := ⟨N - 1, by omega⟩
      unfold fX2_read_28
      rw [if_pos (Int32.le_of_lt eneg), o1, c2_finN eneg, bdO_n]
    unfold fX3_read_54 chkI
    rw [if_neg ok, if_neg ok, if_pos (show (0 : Int32) = 0 from rfl), ptF_n, e28, fset_eq, pk_un (by decide), s3.2.2.2.1]
    refine ⟨_, _, _, rfl, rfl, A, h1.mono (by omega), by rw [o2 0 (by decide) (by decide), ock 0 (by decide) (by decide), h2], fun x _ => by rw [fset_ne (by decide), mk 0 (by decide) (by decide) (by decide), h3], ?_, ?_, ?_, ?_, o4⟩
    · exact JQ_congr h4 (by omega) (fun k k1 k2 => by rw [o2 k (by omega) (by omega), ock k (by omega) (by omega)]) (fun j hj => by rw [o3 j (by omega), ock 12 (by decide) (by decide)]) (fun x _ => by rw [fset_ne (by decide), mk 3 (by decide) (by decide) (by decide)]) (by rw [fset_ne (by decide), mk 4 (by decide) (by decide) (by decide)]) (fun j hj => by rw [fset_eq, pk_un (by omega)]; exact mk8 j (by omega) (by omega))
    · exact JF_congr h5 (fun j j1 j2 => by rw [o3 j (by omega), ock 12 (by decide) (by decide)]) (fun j j1 j2 => by rw [fset_eq, pk_un (by omega)]; exact mk8 j (by omega) (by omega))
    · exact ⟨0, T, by omega, ⟨by rw [o5]; rfl, by rw [fset_eq, pk_us]; rfl⟩, fun j hj => absurd hj (by omega)⟩
    · exact JL_congr h7 (by rw [o2 14 (by decide) (by decide), ock 14 (by decide) (by decide)]) (by rw [fset_ne (by decide), mk 5 (by decide) (by decide) (by decide)]) (by rw [fset_eq, pk_un (by decide)]; exact mk8 2 (by decide) (by decide))
