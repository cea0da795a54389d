/-! ===== a text is taken, looked through, carried out ===== -/
theorem i2c_n : ∀ c, c < 256 → i2c (nI c) = nI c := fun c hc => (sb_byte c hc).2.1
theorem narc_n {q : Nat} (h : q < 65536) : vp_nar .char (nI q) = nI q := by
  unfold vp_nar
  rw [(pk_charN h).1]
theorem j_append {N B : Nat} {A : AT} {O : OT} {M : KT} (hJ : JX B A O M) (p : Int32) : ∃ r O' M', mX2_append N O p = some (r, O') ∧ mX3_append N M p = some (r, M') ∧ J B O' M' := by
  have hJ0 := hJ.toJ
  obtain ⟨h1, h2, h3, h4, h5, ⟨n, T, t1, ⟨t2, t3⟩, t4⟩, h7, h8⟩ := hJ
  unfold mX2_append fX2_append_27 mX3_append fX3_append_20
  rw [r0_in, bdP_n]
  by_cases w1 : p < 32
  · rw [if_pos w1, bN_f (fun q => Int32.not_le.mpr w1 q.1), if_pos (show nI 0 = 0 from rfl)]
    exact ⟨_, _, _, rfl, rfl, hJ0⟩
  by_cases w2 : 126 < p
  · rw [if_neg w1, if_pos w2, bN_f (fun q => Int32.not_le.mpr w2 q.2), if_pos (show nI 0 = 0 from rfl)]
    exact ⟨_, _, _, rfl, rfl, hJ0⟩
  have l1 := Int32.not_lt.mp w1
  have l2 := Int32.not_lt.mp w2
  obtain ⟨j, hj, rfl⟩ := nI_of (x := p) (fun z => absurd (Int32.le_trans l1 (Int32.le_of_lt z)) (by decide))
  have j1 : 32 ≤ j := (nI_leI (a := 32) (by decide) hj).mp l1
  have j2 : j ≤ 126 := (nI_leI (b := 126) hj (by decide)).mp l2
  rw [if_neg w1, if_neg w2, bN_t ⟨l1, l2⟩, if_neg (show ¬ nI 1 = 0 by decide), t3, show (70 : Int32) = nI 70 from rfl, ite_eq (by omega) (by decide)]
  unfold s_length
  rw [bdP_n, t2, ite_lt (by omega) (by decide)]
  by_cases hn : n = 70
  · rw [if_neg (by omega), if_pos hn]
    exact ⟨_, _, _, rfl, rfl, hJ0⟩
  have ea : s_cC (O 13) (nI j) = some (apS (O 13) (nI j)) := by
    unfold s_cC
    rw [t2, if_pos ⟨⟨nI_pos' (by omega), nI_lt (b := 128) (by omega) (by decide)⟩, nI_pos' (by omega), nI_lt (b := 127) (by omega) (by decide)⟩]
  have e1 : apS (O 13) (nI j) 1 0 = nI (n + 1) := by
    unfold apS
    rw [fset_eq, pk_us, t2]
    exact nadd n 1
  have e0 : apS (O 13) (nI j) 0 = upd (O 13 0) n (nI j) := by
    unfold apS
    rw [fset_ne (show (0 : Nat) ≠ 1 by decide), fset_eq, t2, nI_clamp (by omega)]
  have m83 : fset (fset M 8 3 (nI (n + 1))) 6 n (nI j) 8 3 = nI (n + 1) := by rw [fset_ne (by decide), fset_eq, pk_us]
  rw [if_pos (by omega), if_neg hn, i2c_n j (by omega), narc_n (by omega), ea]
  show ∃ r O' M', inO (oset O 13 (apS (O 13) (nI j))) (fun O6 => bdP (some (O6 13 1 0)) (fun v7 => some (v7, O6))) = some (r, O') ∧ _ ∧ _
  rw [inO_n, oset_eq, e1, bdP_n, ptF_n, show nI n + 1 = nI (n + 1) from nadd n 1, wrA_n (by omega) (by decide), m83]
  refine ⟨_, _, _, rfl, rfl, A, h1, ?_, ?_, ?_, ?_, ?_, ?_, ?_⟩
  · rw [oset_ne (by decide), h2]
  · intro x _
    rw [fset_ne (by decide), fset_ne (by decide), h3]
  · exact JQ_congr h4 (Nat.le_refl _) (fun k k1 k2 => oset_ne (by omega)) (fun i _ => by rw [oset_ne (by decide)]) (fun x _ => by rw [fset_ne (by decide), fset_ne (by decide)]) (by rw [fset_ne (by decide), fset_ne (by decide)]) (fun i hi => by rw [fset_ne (by decide), fset_eq, pk_un (by omega)])
  · exact JF_congr h5 (fun i _ _ => by rw [oset_ne (by decide)]) (fun i i1 i2 => by rw [fset_ne (by decide), fset_eq, pk_un (by omega)])
  · refine ⟨n + 1, fun i => if i = n then j else T i, by omega, ⟨by rw [oset_eq, e1], m83⟩, fun i hi => ?_⟩
    rw [oset_eq, e0, fset_eq]
    show (32 ≤ (if i = n then j else T i) ∧ (if i = n then j else T i) ≤ 126) ∧ upd (O 13 0) n (nI j) i = nI (if i = n then j else T i) ∧ upd (fset M 8 3 (nI (n + 1)) 6) n (nI j) i = nI (if i = n then j else T i)
    by_cases q : i = n
    · rw [if_pos q, q, pk_us, pk_us]
      exact ⟨⟨j1, j2⟩, rfl, rfl⟩
    · rw [if_neg q, pk_un q, pk_un q, fset_ne (by decide)]
      exact t4 i (by omega)
  · exact JL_congr h7 (oset_ne (by decide)) (by rw [fset_ne (by decide), fset_ne (by decide)]) (by rw [fset_ne (by decide), fset_eq, pk_un (by decide)])
  · rw [oset_ne (by decide)]; exact h8
/-- behind a command: on to the next one, or how it ends -/
def aft (T : Nat → Nat) (n : Nat) : Nat → Nat → Nat → Nat → Bool × Nat × Nat
  | 0, _, a, _ => (false, a, 0)
  | k + 1, ok, a, c => if ok = 0 then (false, a, 0) else if n ≤ a then (true, a, c) else if T a = 59 then aft T n k (cmdR T n (a + 1)).1 (cmdR T n (a + 1)).2.1 (c + 1) else (false, a, 0)
theorem cmdR_le {T : Nat → Nat} {n a : Nat} (h : a ≤ n) : (cmdR T n a).1 ≤ 1 ∧ a ≤ (cmdR T n a).2.1 ∧ (cmdR T n a).2.1 ≤ n ∧ ((cmdR T n a).1 = 1 → a + 2 ≤ (cmdR T n a).2.1 ∧ a < n ∧ (T a = 100 ∨ T a = 107 ∨ T a = 109 ∨ T a = 114 ∨ T a = 119 ∨ T a = 122 ∨ T a = 112)) := by
  have F : ∀ b : Nat, (0 : Nat) = 1 → b = b + 1 := fun b z => by omega
  unfold cmdR
  by_cases ha : a < n
  · rw [if_pos ha]
    by_cases k1 : T a = 100 ∨ T a = 107 ∨ T a = 109 ∨ T a = 122
    · rw [if_pos k1]
      by_cases q : dg T n (a + 1)
      · have := q.1
        rw [if_pos q]
        exact ⟨Nat.le_refl 1, by show a ≤ a + 2; omega, by show a + 2 ≤ n; omega, fun _ => ⟨Nat.le_refl (a + 2), ha, by omega⟩⟩
      · rw [if_neg q]
        exact ⟨Nat.zero_le 1, by show a ≤ a + 1; omega, by show a + 1 ≤ n; omega, fun w => absurd (show (0 : Nat) = 1 from w) (by decide)⟩
    rw [if_neg k1]
    by_cases k2 : T a = 119
    · rw [if_pos k2]
      by_cases q : dg T n (a + 1)
      · have := q.1
        rw [if_pos q]
        by_cases q2 : lt T n (a + 2)
        · have := q2.1
          rw [if_pos q2]
          exact ⟨Nat.le_refl 1, by show a ≤ a + 3; omega, by show a + 3 ≤ n; omega, fun _ => ⟨by show a + 2 ≤ a + 3; omega, ha, by omega⟩⟩
        · rw [if_neg q2]
          exact ⟨Nat.zero_le 1, by show a ≤ a + 2; omega, by show a + 2 ≤ n; omega, fun w => absurd (show (0 : Nat) = 1 from w) (by decide)⟩
      · rw [if_neg q]
        exact ⟨Nat.zero_le 1, by show a ≤ a + 1; omega, by show a + 1 ≤ n; omega, fun w => absurd (show (0 : Nat) = 1 from w) (by decide)⟩
    rw [if_neg k2]
    by_cases k3 : T a = 114
    · rw [if_pos k3]
      by_cases q : dg T n (a + 1)
      · have := q.1
        rw [if_pos q]
        by_cases q2 : dg T n (a + 2)
        · have := q2.1
          rw [if_pos q2]
          by_cases q3 : pm T n (a + 3)
          · have := q3.1
            rw [if_pos q3]
            exact ⟨Nat.le_refl 1, by show a ≤ a + 4; omega, by show a + 4 ≤ n; omega, fun _ => ⟨by show a + 2 ≤ a + 4; omega, ha, by omega⟩⟩
          · rw [if_neg q3]
            exact ⟨Nat.zero_le 1, by show a ≤ a + 3; omega, by show a + 3 ≤ n; omega, fun w => absurd (show (0 : Nat) = 1 from w) (by decide)⟩
        · rw [if_neg q2]
          exact ⟨Nat.zero_le 1, by show a ≤ a + 2; omega, by show a + 2 ≤ n; omega, fun w => absurd (show (0 : Nat) = 1 from w) (by decide)⟩
      · rw [if_neg q]
        exact ⟨Nat.zero_le 1, by show a ≤ a + 1; omega, by show a + 1 ≤ n; omega, fun w => absurd (show (0 : Nat) = 1 from w) (by decide)⟩
    rw [if_neg k3]
    by_cases k4 : T a = 112
    · rw [if_pos k4]
      by_cases q : dg T n (a + 1)
      · have := q.1
        rw [if_pos q]
        by_cases q2 : dg T n (a + 2)
        · have := q2.1
          rw [if_pos q2]
          exact ⟨Nat.le_refl 1, by show a ≤ a + 3; omega, by show a + 3 ≤ n; omega, fun _ => ⟨by show a + 2 ≤ a + 3; omega, ha, by omega⟩⟩
        · rw [if_neg q2]
          exact ⟨Nat.le_refl 1, by show a ≤ a + 2; omega, by show a + 2 ≤ n; omega, fun _ => ⟨Nat.le_refl (a + 2), ha, by omega⟩⟩
      · rw [if_neg q]
        exact ⟨Nat.zero_le 1, by show a ≤ a + 1; omega, by show a + 1 ≤ n; omega, fun w => absurd (show (0 : Nat) = 1 from w) (by decide)⟩
    rw [if_neg k4]
    exact ⟨Nat.zero_le 1, Nat.le_refl a, h, fun w => absurd (show (0 : Nat) = 1 from w) (by decide)⟩
  · rw [if_neg ha]
    exact ⟨Nat.zero_le 1, Nat.le_refl a, h, fun w => absurd (show (0 : Nat) = 1 from w) (by decide)⟩
theorem aft_bd {T : Nat → Nat} {n : Nat} : ∀ (k ok a c : Nat), a ≤ n → (aft T n k ok a c).2.1 ≤ n ∧ ((aft T n k ok a c).1 = true → c ≤ (aft T n k ok a c).2.2 ∧ (aft T n k ok a c).2.2 ≤ c + k) := by
  intro k
  induction k with
  | zero => intro ok a c h; exact ⟨h, fun w => absurd (show false = true from w) (by decide)⟩
  | succ k ih =>
    intro ok a c h
    unfold aft
    by_cases q1 : ok = 0
    · rw [if_pos q1]; exact ⟨h, fun w => absurd (show false = true from w) (by decide)⟩
    rw [if_neg q1]
    by_cases q2 : n ≤ a
    · rw [if_pos q2]; exact ⟨h, fun _ => ⟨Nat.le_refl c, by show c ≤ c + (k + 1); omega⟩⟩
    rw [if_neg q2]
    by_cases q3 : T a = 59
    · rw [if_pos q3]
      obtain ⟨i1, i2⟩ := ih (cmdR T n (a + 1)).1 (cmdR T n (a + 1)).2.1 (c + 1) (cmdR_le (by omega)).2.2.1
      exact ⟨i1, fun w => by have := i2 w; omega⟩
    · rw [if_neg q3]; exact ⟨h, fun w => absurd (show false = true from w) (by decide)⟩
/-- what the check says -/
def chkI (r : Bool × Nat × Nat) : Int32 := if r.1 = true then nI r.2.2 else -100 - nI r.2.1
theorem c1_checkL {N n : Nat} {T : Nat → Nat} : ∀ (k m a c : Nat) (K : KT), k < m → n < a + k → 3 * (c - 1) ≤ a → 1 ≤ c → TK T n K a → ∃ K', fX1_check_6 N m K (nI c) = some (chkI (aft T n k (cmdR T n a).1 (cmdR T n a).2.1 c), K') ∧ KE K K' ∧ ∃ b, TK T n K' b := by
  intro k
  induction k with
  | zero => intro m a c K hm hk hc hc1 h; exact absurd h.2.2.2.2 (by omega)
  | succ k ih =>
    intro m a c K hm hk hc hc1 h
    obtain ⟨z, rfl⟩ : ∃ z, m = z + 1 := ⟨m - 1, by omega⟩
    have hn := h.1
    have han := h.2.2.2.2
    obtain ⟨K1, g1, g2, g3, g4⟩ := c1_cmd (N := N) h
    obtain ⟨b1, b2, b3, b4⟩ := cmdR_le (T := T) han
    unfold fX1_check_6
    rw [if_neg (show ¬ (70 : Int32) < nI c from nI_nlt (a := 70) (by omega) (by decide)), g1, bdE_n, ite_z (by omega)]
    unfold aft
    have e60 : ∀ b, K1 1 2 = nI b → fX1_check_60 N K1 = some (-100 - nI b, K1) := fun b hb => by unfold fX1_check_60; rw [hb]
    by_cases q1 : (cmdR T n a).1 = 0
    · rw [if_pos q1, if_pos q1, e60 _ g3.2.2.2.1]
      exact ⟨K1, rfl, g2, _, g3⟩
    have b5 := b4 (by omega)
    rw [if_neg q1, if_neg q1]
    by_cases q2 : n ≤ (cmdR T n a).2.1
    · rw [show mX1_takeSign N K1 59 = _ from c1_takeSignN (c := 59) g3 (by decide) (fun w => by have := w.1; omega), bdE_n, if_pos (show (0 : Int32) = 0 from rfl), if_pos q2]
      unfold fX1_check_28 s_length
      rw [bdP_n, g3.2.2.2.1, g3.2.1, ite_eq (by omega) (by omega), if_pos (by omega)]
      exact ⟨K1, rfl, g2, _, g3⟩
    rw [if_neg q2]
    by_cases q3 : T (cmdR T n a).2.1 = 59
    · rw [if_pos q3, show mX1_takeSign N K1 59 = _ from c1_takeSignY (c := 59) g3 (by omega) q3, bdE_n, if_neg (show ¬ (1 : Int32) = 0 by decide), show nI c + 1 = nI (c + 1) from nadd c 1]
      obtain ⟨K2, i1, i2, i3⟩ := ih z ((cmdR T n a).2.1 + 1) (c + 1) _ (by omega) (by omega) (by omega) (by omega) (TK_at g3 (by omega))
      exact ⟨K2, i1, (g2.trans (KE_set (by decide))).trans i2, i3⟩
    · rw [if_neg q3, show mX1_takeSign N K1 59 = _ from c1_takeSignN (c := 59) g3 (by decide) (fun w => q3 w.2), bdE_n, if_pos (show (0 : Int32) = 0 from rfl)]
      unfold fX1_check_28 s_length
      rw [bdP_n, g3.2.2.2.1, g3.2.1, ite_eq (by omega) (by omega), if_neg (by omega)]
      exact ⟨K1, rfl, g2, _, g3⟩
theorem r3_checkL {N n : Nat} {T : Nat → Nat} (hN : 100 ≤ N) : ∀ (k m a c ok : Nat) (M : KT), 2 * k + 1 < m → n < a + k → ok ≤ 1 → TM T n M a → ∃ M', fX3_read_14 N m M (nI ok) = fX3_read_54 N M' (if (aft T n k ok a c).1 = true then 1 else 0) ∧ ME M M' ∧ TM T n M' (aft T n k ok a c).2.1 := by
  intro k
  induction k with
  | zero => intro m a c ok M hm hk ho h; exact absurd h.2.2.2.2 (by omega)
  | succ k ih =>
    intro m a c ok M hm hk ho h
    obtain ⟨z, rfl⟩ : ∃ z, m = z + 2 := ⟨m - 2, by omega⟩
    have hn := h.1
    have han := h.2.2.2.2
    have stop : ∀ (z : Nat) (M1 : KT), fX3_read_14 N (z + 1) M1 0 = fX3_read_54 N M1 0 := fun z M1 => by
      unfold fX3_read_14
      rw [if_pos (show (0 : Int32) = 0 from rfl)]
    unfold aft
    by_cases q1 : ok = 0
    · rw [q1, if_pos (show (0 : Nat) = 0 from rfl)]
      refine ⟨M, ?_, ⟨fun _ _ _ => rfl, fun _ _ _ => rfl⟩, h⟩
      rw [if_neg (show ¬ ((false, a, 0) : Bool × Nat × Nat).1 = true from fun w => absurd (show false = true from w) (by decide))]
      exact stop (z + 1) M
    obtain rfl : ok = 1 := by omega
    rw [if_neg q1]
    conv => enter [1, M', 1]; unfold fX3_read_14
    rw [if_neg (show ¬ nI 1 = 0 by decide), h.2.2.2.1, h.2.1, ite_le (by omega) (by omega)]
    by_cases q2 : n ≤ a
    · rw [if_pos q2, if_pos q2]
      exact ⟨M, by rw [if_pos (show ((true, a, c) : Bool × Nat × Nat).1 = true from rfl)]; rfl, ⟨fun _ _ _ => rfl, fun _ _ _ => rfl⟩, h⟩
    rw [if_neg q2, if_neg q2]
    by_cases q3 : T a = 59
    · rw [if_pos q3, show mX3_takes N M 59 = _ from r3_takesY (c := 59) h (by omega) q3, bdE_n, if_neg (show ¬ (1 : Int32) = 0 by decide)]
      have h1 : TM T n (fset M 8 4 (nI (a + 1))) (a + 1) := TM_at h (by omega)
      obtain ⟨M1, g1, g2, g3, -⟩ := r3_cmd hN h1
      obtain ⟨b1, b2, b3, b4⟩ := cmdR_le (T := T) (show a + 1 ≤ n by omega)
      rw [g1, bdE_n, ite_z (by omega)]
      unfold fX3_read_49 fX3_read_50
      have k1 : ME M M1 := (ME_8 (Or.inl rfl)).trans g2
      by_cases q4 : (cmdR T n (a + 1)).1 = 0
      · have e : aft T n k (cmdR T n (a + 1)).1 (cmdR T n (a + 1)).2.1 (c + 1) = (false, (cmdR T n (a + 1)).2.1, 0) := by
          cases k with
          | zero => rfl
          | succ k => unfold aft; rw [if_pos q4]
        rw [if_pos q4, e]
        refine ⟨M1, ?_, k1, g3⟩
        rw [if_neg (show ¬ ((false, (cmdR T n (a + 1)).2.1, 0) : Bool × Nat × Nat).1 = true from fun w => absurd (show false = true from w) (by decide))]
        exact stop z M1
      · rw [if_neg q4]
        obtain ⟨M2, i1, i2, i3⟩ := ih (z + 1) (cmdR T n (a + 1)).2.1 (c + 1) (cmdR T n (a + 1)).1 M1 (by omega) (by omega) b1 g3
        rw [show (cmdR T n (a + 1)).1 = 1 by omega] at i1 i3 ⊢
        exact ⟨M2, i1, k1.trans i2, i3⟩
    · rw [if_neg q3, show mX3_takes N M 59 = _ from r3_takesN (c := 59) h (by decide) (fun w => q3 w.2), bdE_n, if_pos (show (0 : Int32) = 0 from rfl)]
      unfold fX3_read_49 fX3_read_50
      refine ⟨M, ?_, ⟨fun _ _ _ => rfl, fun _ _ _ => rfl⟩, h⟩
      rw [if_neg (show ¬ ((false, a, 0) : Bool × Nat × Nat).1 = true from fun w => absurd (show false = true from w) (by decide))]
      exact stop z M
theorem ic_carry {N B a n x y z : Nat} {A : AT} {O : OT} {M : KT} {T : Nat → Nat} (hN : 1400 ≤ N) (h : St B A) (hb : B + 20000 < 2 ^ 30) (ho : O 0 = pcK A) (hm : M 0 = pcM A) (hK : KOK T a (O 13) x y z) (hM : MOK T a M x y z) (ht : T a = 100 ∨ T a = 107 ∨ T a = 109 ∨ T a = 114 ∨ T a = 119 ∨ T a = 122 ∨ T a = 112) : IC B A O M (mX2_carryOutCommand N O) (mX3_carries N M) := by
  obtain ⟨k1, k2, k3, k4⟩ := hK
  obtain ⟨m1, m2, m3, m4⟩ := hM
  have r0 : ∀ {β : Type} (k : Int32 → Option β), rdA (M 7) 3 0 k = k (nI x) := fun k => by
    rw [show rdA (M 7) 3 0 k = _ from rdA_n (i := 0) (by decide) (by decide), m2]
  have wrap : ∀ (q2 : Option (Int32 × OT)) (q3 : Option (Int32 × KT)), IC B A O M q2 q3 → IC B A O M (bdO q2 (fun v O3 => some (v, O3))) (bdE q3 (fun v K => some (v, K))) := by
    intro q2 q3 hI
    obtain ⟨r, A', O', M', e2, e3, rest⟩ := hI
    rw [e2, e3, bdO_n, bdE_n]
    exact ⟨r, A', O', M', rfl, rfl, rest⟩
  unfold mX2_carryOutCommand mX3_carries
  rw [k1, m1, k2]
  rcases ht with t | t | t | t | t | t | t
  · rw [t, if_pos (show nI 100 = 100 from rfl), if_pos (show nI 100 = 100 from rfl), r0]
    exact wrap _ _ (ic_dusk hN h hb ho hm _)
  · rw [t, if_neg (show ¬ nI 107 = 100 by decide), if_neg (show ¬ nI 107 = 100 by decide), if_pos (show nI 107 = 107 from rfl), if_pos (show nI 107 = 107 from rfl), r0]
    exact wrap _ _ (ic_sleep hN h hb ho hm _ _)
  · rw [t, if_neg (show ¬ nI 109 = 100 by decide), if_neg (show ¬ nI 109 = 100 by decide), if_neg (show ¬ nI 109 = 107 by decide), if_neg (show ¬ nI 109 = 107 by decide), if_pos (show nI 109 = 109 from rfl), if_pos (show nI 109 = 109 from rfl), r0]
    exact wrap _ _ (ic_march hN h hb ho hm _)
  · obtain ⟨k5, k6⟩ := k4 t
    obtain ⟨m5, m6⟩ := m4 t
    rw [t, if_neg (show ¬ nI 114 = 100 by decide), if_neg (show ¬ nI 114 = 100 by decide), if_neg (show ¬ nI 114 = 107 by decide), if_neg (show ¬ nI 114 = 107 by decide), if_neg (show ¬ nI 114 = 109 by decide), if_neg (show ¬ nI 114 = 109 by decide), if_pos (show nI 114 = 114 from rfl), if_pos (show nI 114 = 114 from rfl), r0, k5, k6]
    rw [show ∀ k : Int32 → Option (Int32 × KT), rdA (M 7) 3 1 k = k (nI y) from fun k => by rw [show rdA (M 7) 3 1 k = _ from rdA_n (i := 1) (by decide) (by decide), m5], show ∀ k : Int32 → Option (Int32 × KT), rdA (M 7) 3 2 k = k (nI z) from fun k => by rw [show rdA (M 7) 3 2 k = _ from rdA_n (i := 2) (by decide) (by decide), m6]]
    exact wrap _ _ (ic_road hN h hb ho hm _ _ _)
  · have k5 := k3 t
    have m5 := m3 t
    rw [t, if_neg (show ¬ nI 119 = 100 by decide), if_neg (show ¬ nI 119 = 100 by decide), if_neg (show ¬ nI 119 = 107 by decide), if_neg (show ¬ nI 119 = 107 by decide), if_neg (show ¬ nI 119 = 109 by decide), if_neg (show ¬ nI 119 = 109 by decide), if_neg (show ¬ nI 119 = 114 by decide), if_neg (show ¬ nI 119 = 114 by decide), if_pos (show nI 119 = 119 from rfl), if_pos (show nI 119 = 119 from rfl), r0, k5]
    rw [show ∀ k : Int32 → Option (Int32 × KT), rdA (M 7) 3 1 k = k (nI y) from fun k => by rw [show rdA (M 7) 3 1 k = _ from rdA_n (i := 1) (by decide) (by decide), m5]]
    exact wrap _ _ (ic_write hN h hb ho hm _ _)
  · rw [t, if_neg (show ¬ nI 122 = 100 by decide), if_neg (show ¬ nI 122 = 100 by decide), if_neg (show ¬ nI 122 = 107 by decide), if_neg (show ¬ nI 122 = 107 by decide), if_neg (show ¬ nI 122 = 109 by decide), if_neg (show ¬ nI 122 = 109 by decide), if_neg (show ¬ nI 122 = 114 by decide), if_neg (show ¬ nI 122 = 114 by decide), if_neg (show ¬ nI 122 = 119 by decide), if_neg (show ¬ nI 122 = 119 by decide), if_pos (show nI 122 = 122 from rfl), if_pos (show nI 122 = 122 from rfl), r0]
    exact wrap _ _ (ic_sleep hN h hb ho hm _ _)
  · rw [t, if_neg (show ¬ nI 112 = 100 by decide), if_neg (show ¬ nI 112 = 100 by decide), if_neg (show ¬ nI 112 = 107 by decide), if_neg (show ¬ nI 112 = 107 by decide), if_neg (show ¬ nI 112 = 109 by decide), if_neg (show ¬ nI 112 = 109 by decide), if_neg (show ¬ nI 112 = 114 by decide), if_neg (show ¬ nI 112 = 114 by decide), if_neg (show ¬ nI 112 = 119 by decide), if_neg (show ¬ nI 112 = 119 by decide), if_neg (show ¬ nI 112 = 122 by decide), if_neg (show ¬ nI 112 = 122 by decide), r0]
    exact wrap _ _ (ic_pass hN h hb ho hm _)
