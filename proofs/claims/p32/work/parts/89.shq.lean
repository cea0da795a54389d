set_option maxRecDepth 100000 in
theorem shT_0 : (List.range 20).all (fun b => (b + 0) == 0 || (List.range (b + 1)).all (fun a => shT (b + 0) a)) = true := by decide +kernel
set_option maxRecDepth 100000 in
theorem shT_1 : (List.range 10).all (fun b => (b + 20) == 0 || (List.range (b + 21)).all (fun a => shT (b + 20) a)) = true := by decide +kernel
set_option maxRecDepth 100000 in
theorem shT_2 : (List.range 8).all (fun b => (b + 30) == 0 || (List.range (b + 31)).all (fun a => shT (b + 30) a)) = true := by decide +kernel
set_option maxRecDepth 100000 in
theorem shT_3 : (List.range 6).all (fun b => (b + 38) == 0 || (List.range (b + 39)).all (fun a => shT (b + 38) a)) = true := by decide +kernel
set_option maxRecDepth 100000 in
theorem shT_4 : (List.range 6).all (fun b => (b + 44) == 0 || (List.range (b + 45)).all (fun a => shT (b + 44) a)) = true := by decide +kernel
set_option maxRecDepth 100000 in
theorem shT_5 : (List.range 5).all (fun b => (b + 50) == 0 || (List.range (b + 51)).all (fun a => shT (b + 50) a)) = true := by decide +kernel
set_option maxRecDepth 100000 in
theorem shT_6 : (List.range 6).all (fun b => (b + 55) == 0 || (List.range (b + 56)).all (fun a => shT (b + 55) a)) = true := by decide +kernel
theorem shT_all {a b : Nat} (h0 : 0 < b) (h1 : a ≤ b) (h2 : b ≤ 60) : shT b a = true := by
  have go : ∀ k c : Nat, (List.range k).all (fun b => (b + c) == 0 || (List.range (b + (c + 1))).all (fun a => shT (b + c) a)) = true → c ≤ b → b < k + c → shT b a = true := by
    intro k c h h3 h4
    have h5 := List.all_eq_true.mp h (b - c) (List.mem_range.mpr (by omega))
    rw [show b - c + c = b by omega, Bool.or_eq_true] at h5
    rcases h5 with h5 | h5
    · exact absurd (of_decide_eq_true (p := b = 0) h5) (by omega)
    · exact List.all_eq_true.mp h5 a (List.mem_range.mpr (by omega))
  by_cases w0 : b < 20
  · exact go 20 0 shT_0 (by omega) (by omega)
  by_cases w1 : b < 30
  · exact go 10 20 shT_1 (by omega) (by omega)
  by_cases w2 : b < 38
  · exact go 8 30 shT_2 (by omega) (by omega)
  by_cases w3 : b < 44
  · exact go 6 38 shT_3 (by omega) (by omega)
  by_cases w4 : b < 50
  · exact go 6 44 shT_4 (by omega) (by omega)
  by_cases w5 : b < 55
  · exact go 5 50 shT_5 (by omega) (by omega)
  exact go 6 55 shT_6 (by omega) (by omega)
theorem shT_of {a b : Nat} (h0 : 0 < b) (h1 : a ≤ b) (h2 : b ≤ 60) : n32 (shD (nI a) (nI b)) = true ∧ mFb (shD (nI a) (nI b)) = some (shD (nI a) (nI b)).toInt32 ∧ mX2_bitsOf (shD (nI a) (nI b)) = some (shD (nI a) (nI b)).toInt32 := by
  have h := shT_all h0 h1 h2
  unfold shT at h
  rw [Bool.and_eq_true, Bool.and_eq_true] at h
  exact ⟨h.1.1, eq_of_beq h.1.2, eq_of_beq h.2⟩
theorem sumN_le2 {g h : Nat → Nat} (k : Nat) (hh : ∀ i, i < k → g i ≤ h i) : sumN g k ≤ sumN h k := by
  induction k with
  | zero => exact Nat.le_refl _
  | succ k ih =>
    have h1 := ih (fun i hi => hh i (by omega))
    have h2 := hh k (by omega)
    show sumN g k + g k ≤ sumN h k + h k
    omega
theorem r4_shareL {N : Nat} {M0 : KT} {A : AT} (h1 : sumN (A 6) 5 ≤ sumN (A 5) 5) (h2 : sumN (A 5) 5 ≤ 60) : ∀ (k n i : Nat), k < n → i + k = 5 → fX3_share_6 N (rm M0 A) n (nI (sumN (A 5) i)) (nI (sumN (A 6) i)) (nI i) = some (if sumN (A 5) 5 = 0 then -4 else (shD (nI (sumN (A 6) 5)) (nI (sumN (A 5) 5))).toInt32) := by
  intro k
  induction k with
  | zero =>
    intro n i hn hi
    obtain ⟨m, rfl⟩ : ∃ m, n = m + 1 := ⟨n - 1, by omega⟩
    obtain rfl : i = 5 := by omega
    unfold fX3_share_6
    rw [show (5 : Int32) = nI 5 from rfl, ite_le (by omega) (by omega), if_pos (by omega)]
    by_cases w : sumN (A 5) 5 = 0
    · rw [if_pos w, w]
      rfl
    · obtain ⟨e1, e2, e3⟩ := shT_of (a := sumN (A 6) 5) (b := sumN (A 5) 5) (by omega) h1 h2
      rw [if_neg w, if_neg (show ¬ nI (sumN (A 5) 5) = 0 from fun c => w ((nI_eq (by omega) (by decide)).mp c)), if_pos e1, e2, bdP_n]
  | succ k ih =>
    intro n i hn hi
    obtain ⟨m, rfl⟩ : ∃ m, n = m + 1 := ⟨n - 1, by omega⟩
    have e := ih m (i + 1) (by omega) (by omega)
    have e1 : sumN (A 5) (i + 1) = sumN (A 5) i + A 5 i := rfl
    have e2 : sumN (A 6) (i + 1) = sumN (A 6) i + A 6 i := rfl
    unfold fX3_share_6
    rw [show (5 : Int32) = nI 5 from rfl, show (6 : Int32) = nI 6 from rfl, ite_le (by omega) (by omega), if_neg (by omega), x3_of6 (by omega), bdP_n, x3_of5 (by omega), bdP_n, nadd, nadd, show nI i + 1 = nI (i + 1) from nadd i 1, ← e1, ← e2]
    exact e
theorem q_share {N B : Nat} {A : AT} {O : OT} {M : KT} (hN : 1400 ≤ N) (hb : B + 20000 < 2 ^ 30) (hJ : JX B A O M) : ∃ r, mX2_share N O = some r ∧ mX3_share N M = some r := by
  obtain ⟨h1, ho, hm, -⟩ := hJ
  obtain ⟨M0, rfl⟩ : ∃ M0, M = rm M0 A := ⟨M, (rm_self hm).symm⟩
  have hB := h1.2.2.1
  have b1 : sumN (A 6) 5 ≤ sumN (A 5) 5 := sumN_le2 5 (fun i hi => (Inv_len h1.2.1 hi).1)
  have b2 : sumN (A 5) 5 ≤ 60 := by
    have := sumN_le (b := 12) (fun i => hB.b5 i) 5
    omega
  refine ⟨_, ?_, r4_shareL (N := N) (M0 := M0) b1 b2 5 N 0 (by omega) (by omega)⟩
  unfold mX2_share
  rw [ho, c2_sumOf (g := A 5) (by omega) (by decide) (fun i _ => pcK_at (by decide)), bdP_n]
  by_cases w : sumN (A 5) 5 = 0
  · rw [if_pos w, w]
    rfl
  · obtain ⟨e1, e2, e3⟩ := shT_of (a := sumN (A 6) 5) (b := sumN (A 5) 5) (by omega) b1 b2
    rw [if_neg w, if_neg (show ¬ nI (sumN (A 5) 5) = 0 from fun c => w ((nI_eq (by omega) (by decide)).mp c)), c2_sumOf (g := A 6) (by omega) (by decide) (fun i _ => pcK_at (by decide)), bdP_n, if_pos e1, e3, bdP_n]
