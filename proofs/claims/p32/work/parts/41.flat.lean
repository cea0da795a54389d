theorem pmW_congr {A A' : AT} {c w : Nat} (h0 : w = 0 → A' 0 c = A 0 c) (h1 : w = 1 → A' 1 c = A 1 c) (h2 : w = 2 → A' 2 c = A 2 c) (h3 : w = 3 → A' 3 c = A 3 c) (h4 : w = 4 → A' 4 c = A 4 c) (h5 : w = 5 → A' 6 c = A 6 c) (h6 : w = 6 → A' 5 c = A 5 c) (h7 : 7 ≤ w → w % 2 = 1 → A' 7 (c * 12 + (w - 7) / 2) = A 7 (c * 12 + (w - 7) / 2)) (h8 : 7 ≤ w → w % 2 = 0 → A' 8 (c * 12 + (w - 7) / 2) = A 8 (c * 12 + (w - 7) / 2)) : pmW A' c w = pmW A c w := by
  unfold pmW
  by_cases e0 : w = 0
  · rw [if_pos e0, if_pos e0, h0 e0]
  by_cases e1 : w = 1
  · rw [if_neg e0, if_neg e0, if_pos e1, if_pos e1, h1 e1]
  by_cases e2 : w = 2
  · rw [if_neg e0, if_neg e0, if_neg e1, if_neg e1, if_pos e2, if_pos e2, h2 e2]
  by_cases e3 : w = 3
  · rw [if_neg e0, if_neg e0, if_neg e1, if_neg e1, if_neg e2, if_neg e2, if_pos e3, if_pos e3, h3 e3]
  by_cases e4 : w = 4
  · rw [if_neg e0, if_neg e0, if_neg e1, if_neg e1, if_neg e2, if_neg e2, if_neg e3, if_neg e3, if_pos e4, if_pos e4, h4 e4]
  by_cases e5 : w = 5
  · rw [if_neg e0, if_neg e0, if_neg e1, if_neg e1, if_neg e2, if_neg e2, if_neg e3, if_neg e3, if_neg e4, if_neg e4, if_pos e5, if_pos e5, h5 e5]
  by_cases e6 : w = 6
  · rw [if_neg e0, if_neg e0, if_neg e1, if_neg e1, if_neg e2, if_neg e2, if_neg e3, if_neg e3, if_neg e4, if_neg e4, if_neg e5, if_neg e5, if_pos e6, if_pos e6, h6 e6]
  rw [if_neg e0, if_neg e0, if_neg e1, if_neg e1, if_neg e2, if_neg e2, if_neg e3, if_neg e3, if_neg e4, if_neg e4, if_neg e5, if_neg e5, if_neg e6, if_neg e6]
  by_cases e7 : w % 2 = 1
  · rw [if_pos e7, if_pos e7, h7 (by omega) e7]
  · rw [if_neg e7, if_neg e7, h8 (by omega) (by omega)]
theorem pm_u0 {A : AT} {c p v : Nat}  : upd (pcM A) (31 + 31 * c + 0) (nI (v)) = pcM (aset A 0 (c) v) := by
  have e : ∀ g j, ¬ (g = 0 ∧ j = c) → aset A 0 (c) v g j = A g j := fun g j h => if_neg h
  refine pm_ext ?_ (fun i _ _ => e _ _ (by omega)) (fun k _ _ _ => e _ _ (by omega)) (fun c2 w hw hx => pmW_congr (fun _ => e _ _ (by omega)) (fun _ => e _ _ (by omega)) (fun _ => e _ _ (by omega)) (fun _ => e _ _ (by omega)) (fun _ => e _ _ (by omega)) (fun _ => e _ _ (by omega)) (fun _ => e _ _ (by omega)) (fun _ _ => e _ _ (by omega)) (fun _ _ => e _ _ (by omega)))
  rw [pm_camp _ _ (by omega)]
  unfold pmW
  rw [if_pos rfl, aset_eq]
theorem pm_u1 {A : AT} {c p v : Nat}  : upd (pcM A) (31 + 31 * c + 1) (nI (v)) = pcM (aset A 1 (c) v) := by
  have e : ∀ g j, ¬ (g = 1 ∧ j = c) → aset A 1 (c) v g j = A g j := fun g j h => if_neg h
  refine pm_ext ?_ (fun i _ _ => e _ _ (by omega)) (fun k _ _ _ => e _ _ (by omega)) (fun c2 w hw hx => pmW_congr (fun _ => e _ _ (by omega)) (fun _ => e _ _ (by omega)) (fun _ => e _ _ (by omega)) (fun _ => e _ _ (by omega)) (fun _ => e _ _ (by omega)) (fun _ => e _ _ (by omega)) (fun _ => e _ _ (by omega)) (fun _ _ => e _ _ (by omega)) (fun _ _ => e _ _ (by omega)))
  rw [pm_camp _ _ (by omega)]
  unfold pmW
  rw [if_neg (by decide), if_pos rfl, aset_eq]
theorem pm_u2 {A : AT} {c p v : Nat}  : upd (pcM A) (31 + 31 * c + 2) (nI (v)) = pcM (aset A 2 (c) v) := by
  have e : ∀ g j, ¬ (g = 2 ∧ j = c) → aset A 2 (c) v g j = A g j := fun g j h => if_neg h
  refine pm_ext ?_ (fun i _ _ => e _ _ (by omega)) (fun k _ _ _ => e _ _ (by omega)) (fun c2 w hw hx => pmW_congr (fun _ => e _ _ (by omega)) (fun _ => e _ _ (by omega)) (fun _ => e _ _ (by omega)) (fun _ => e _ _ (by omega)) (fun _ => e _ _ (by omega)) (fun _ => e _ _ (by omega)) (fun _ => e _ _ (by omega)) (fun _ _ => e _ _ (by omega)) (fun _ _ => e _ _ (by omega)))
  rw [pm_camp _ _ (by omega)]
  unfold pmW
  rw [if_neg (by decide), if_neg (by decide), if_pos rfl, aset_eq]
theorem pm_u4 {A : AT} {c p v : Nat}  : upd (pcM A) (31 + 31 * c + 4) (nI (v)) = pcM (aset A 4 (c) v) := by
  have e : ∀ g j, ¬ (g = 4 ∧ j = c) → aset A 4 (c) v g j = A g j := fun g j h => if_neg h
  refine pm_ext ?_ (fun i _ _ => e _ _ (by omega)) (fun k _ _ _ => e _ _ (by omega)) (fun c2 w hw hx => pmW_congr (fun _ => e _ _ (by omega)) (fun _ => e _ _ (by omega)) (fun _ => e _ _ (by omega)) (fun _ => e _ _ (by omega)) (fun _ => e _ _ (by omega)) (fun _ => e _ _ (by omega)) (fun _ => e _ _ (by omega)) (fun _ _ => e _ _ (by omega)) (fun _ _ => e _ _ (by omega)))
  rw [pm_camp _ _ (by omega)]
  unfold pmW
  rw [if_neg (by decide), if_neg (by decide), if_neg (by decide), if_neg (by decide), if_pos rfl, aset_eq]
theorem pm_u6 {A : AT} {c p v : Nat}  : upd (pcM A) (31 + 31 * c + 5) (nI (v)) = pcM (aset A 6 (c) v) := by
  have e : ∀ g j, ¬ (g = 6 ∧ j = c) → aset A 6 (c) v g j = A g j := fun g j h => if_neg h
  refine pm_ext ?_ (fun i _ _ => e _ _ (by omega)) (fun k _ _ _ => e _ _ (by omega)) (fun c2 w hw hx => pmW_congr (fun _ => e _ _ (by omega)) (fun _ => e _ _ (by omega)) (fun _ => e _ _ (by omega)) (fun _ => e _ _ (by omega)) (fun _ => e _ _ (by omega)) (fun _ => e _ _ (by omega)) (fun _ => e _ _ (by omega)) (fun _ _ => e _ _ (by omega)) (fun _ _ => e _ _ (by omega)))
  rw [pm_camp _ _ (by omega)]
  unfold pmW
  rw [if_neg (by decide), if_neg (by decide), if_neg (by decide), if_neg (by decide), if_neg (by decide), if_pos rfl, aset_eq]
theorem pm_u5 {A : AT} {c p v : Nat}  : upd (pcM A) (31 + 31 * c + 6) (nI (v)) = pcM (aset A 5 (c) v) := by
  have e : ∀ g j, ¬ (g = 5 ∧ j = c) → aset A 5 (c) v g j = A g j := fun g j h => if_neg h
  refine pm_ext ?_ (fun i _ _ => e _ _ (by omega)) (fun k _ _ _ => e _ _ (by omega)) (fun c2 w hw hx => pmW_congr (fun _ => e _ _ (by omega)) (fun _ => e _ _ (by omega)) (fun _ => e _ _ (by omega)) (fun _ => e _ _ (by omega)) (fun _ => e _ _ (by omega)) (fun _ => e _ _ (by omega)) (fun _ => e _ _ (by omega)) (fun _ _ => e _ _ (by omega)) (fun _ _ => e _ _ (by omega)))
  rw [pm_camp _ _ (by omega)]
  unfold pmW
  rw [if_neg (by decide), if_neg (by decide), if_neg (by decide), if_neg (by decide), if_neg (by decide), if_neg (by decide), if_pos rfl, aset_eq]
theorem pm_u3 {A : AT} {c p v : Nat}  : upd (pcM A) (31 + 31 * c + 3) (nI (1 - v)) = pcM (aset A 3 (c) v) := by
  have e : ∀ g j, ¬ (g = 3 ∧ j = c) → aset A 3 (c) v g j = A g j := fun g j h => if_neg h
  refine pm_ext ?_ (fun i _ _ => e _ _ (by omega)) (fun k _ _ _ => e _ _ (by omega)) (fun c2 w hw hx => pmW_congr (fun _ => e _ _ (by omega)) (fun _ => e _ _ (by omega)) (fun _ => e _ _ (by omega)) (fun _ => e _ _ (by omega)) (fun _ => e _ _ (by omega)) (fun _ => e _ _ (by omega)) (fun _ => e _ _ (by omega)) (fun _ _ => e _ _ (by omega)) (fun _ _ => e _ _ (by omega)))
  rw [pm_camp _ _ (by omega)]
  unfold pmW
  rw [if_neg (by decide), if_neg (by decide), if_neg (by decide), if_pos rfl, aset_eq]
theorem pm_u7 {A : AT} {c p v : Nat} (hp : p < 12) : upd (pcM A) (31 + 31 * c + (7 + 2 * p)) (nI (v)) = pcM (aset A 7 (c * 12 + p) v) := by
  have e : ∀ g j, ¬ (g = 7 ∧ j = c * 12 + p) → aset A 7 (c * 12 + p) v g j = A g j := fun g j h => if_neg h
  refine pm_ext ?_ (fun i _ _ => e _ _ (by omega)) (fun k _ _ _ => e _ _ (by omega)) (fun c2 w hw hx => pmW_congr (fun _ => e _ _ (by omega)) (fun _ => e _ _ (by omega)) (fun _ => e _ _ (by omega)) (fun _ => e _ _ (by omega)) (fun _ => e _ _ (by omega)) (fun _ => e _ _ (by omega)) (fun _ => e _ _ (by omega)) (fun _ _ => e _ _ (by omega)) (fun _ _ => e _ _ (by omega)))
  rw [pm_camp _ _ (by omega)]
  unfold pmW
  rw [if_neg (by omega), if_neg (by omega), if_neg (by omega), if_neg (by omega), if_neg (by omega), if_neg (by omega), if_neg (by omega), if_pos (by omega), show c * 12 + (7 + 2 * p - 7) / 2 = c * 12 + p by omega, aset_eq]
theorem pm_u8 {A : AT} {c p v : Nat} (hp : p < 12) : upd (pcM A) (31 + 31 * c + (7 + 2 * p + 1)) (nI (v)) = pcM (aset A 8 (c * 12 + p) v) := by
  have e : ∀ g j, ¬ (g = 8 ∧ j = c * 12 + p) → aset A 8 (c * 12 + p) v g j = A g j := fun g j h => if_neg h
  refine pm_ext ?_ (fun i _ _ => e _ _ (by omega)) (fun k _ _ _ => e _ _ (by omega)) (fun c2 w hw hx => pmW_congr (fun _ => e _ _ (by omega)) (fun _ => e _ _ (by omega)) (fun _ => e _ _ (by omega)) (fun _ => e _ _ (by omega)) (fun _ => e _ _ (by omega)) (fun _ => e _ _ (by omega)) (fun _ => e _ _ (by omega)) (fun _ _ => e _ _ (by omega)) (fun _ _ => e _ _ (by omega)))
  rw [pm_camp _ _ (by omega)]
  unfold pmW
  rw [if_neg (by omega), if_neg (by omega), if_neg (by omega), if_neg (by omega), if_neg (by omega), if_neg (by omega), if_neg (by omega), if_neg (by omega), show c * 12 + (7 + 2 * p + 1 - 7) / 2 = c * 12 + p by omega, aset_eq]
theorem pm_u10 {A : AT} {i v : Nat} (hi : i < 6) : upd (pcM A) i (nI v) = pcM (aset A 10 i v) := by
  have e : ∀ g j, ¬ (g = 10 ∧ j = i) → aset A 10 i v g j = A g j := fun g j h => if_neg h
  refine pm_ext ?_ (fun i _ _ => e _ _ (by omega)) (fun k _ _ _ => e _ _ (by omega)) (fun c2 w hw hx => pmW_congr (fun _ => e _ _ (by omega)) (fun _ => e _ _ (by omega)) (fun _ => e _ _ (by omega)) (fun _ => e _ _ (by omega)) (fun _ => e _ _ (by omega)) (fun _ => e _ _ (by omega)) (fun _ => e _ _ (by omega)) (fun _ _ => e _ _ (by omega)) (fun _ _ => e _ _ (by omega)))
  unfold pmN
  rw [if_pos hi, aset_eq]
theorem pm_u9 {A : AT} {a b v : Nat} (hab : a < b) (hb : b < 5) : upd (pcM A) (6 + 5 * a + b) (nI (1 - v)) = pcM (aset (aset A 9 (a * 5 + b) v) 9 (b * 5 + a) v) := by
  have e : ∀ g j, ¬ (g = 9 ∧ (j = a * 5 + b ∨ j = b * 5 + a)) → aset (aset A 9 (a * 5 + b) v) 9 (b * 5 + a) v g j = A g j := fun g j h => by
    rw [show aset (aset A 9 (a * 5 + b) v) 9 (b * 5 + a) v g j = aset A 9 (a * 5 + b) v g j from if_neg (by omega)]
    exact if_neg (by omega)
  refine pm_ext ?_ (fun i _ _ => e _ _ (by omega)) (fun k _ _ _ => e _ _ (by omega)) (fun c2 w hw hx => pmW_congr (fun _ => e _ _ (by omega)) (fun _ => e _ _ (by omega)) (fun _ => e _ _ (by omega)) (fun _ => e _ _ (by omega)) (fun _ => e _ _ (by omega)) (fun _ => e _ _ (by omega)) (fun _ => e _ _ (by omega)) (fun _ _ => e _ _ (by omega)) (fun _ _ => e _ _ (by omega)))
  unfold pmN
  rw [if_neg (by omega), if_pos (by omega), if_pos (by omega), show 6 + 5 * a + b - 6 = a * 5 + b by omega, aset_i (by omega), aset_eq]
theorem x3_of {N : Nat} {M : KT} {A : AT} {c w : Nat} (hc : c < 5) (hw : w < 31) : mX3_of N (rm M A) (nI c) (nI w) = some (nI (pmW A c w)) := by
  unfold mX3_of
  rw [i31, nmul, nadd, nadd, rdA_n (by omega) (by decide), rm_0]
  unfold pcM
  rw [pm_camp _ _ hw]
theorem x3_of0 {N : Nat} {M : KT} {A : AT} {c : Nat} (hc : c < 5) : mX3_of N (rm M A) (nI c) (nI 0) = some (nI (A 0 c)) := by
  rw [x3_of hc (by decide)]
  rfl
theorem x3_of1 {N : Nat} {M : KT} {A : AT} {c : Nat} (hc : c < 5) : mX3_of N (rm M A) (nI c) (nI 1) = some (nI (A 1 c)) := by
  rw [x3_of hc (by decide)]
  rfl
theorem x3_of2 {N : Nat} {M : KT} {A : AT} {c : Nat} (hc : c < 5) : mX3_of N (rm M A) (nI c) (nI 2) = some (nI (A 2 c)) := by
  rw [x3_of hc (by decide)]
  rfl
theorem x3_of3 {N : Nat} {M : KT} {A : AT} {c : Nat} (hc : c < 5) : mX3_of N (rm M A) (nI c) (nI 3) = some (nI (1 - A 3 c)) := by
  rw [x3_of hc (by decide)]
  rfl
theorem x3_of4 {N : Nat} {M : KT} {A : AT} {c : Nat} (hc : c < 5) : mX3_of N (rm M A) (nI c) (nI 4) = some (nI (A 4 c)) := by
  rw [x3_of hc (by decide)]
  rfl
theorem x3_of5 {N : Nat} {M : KT} {A : AT} {c : Nat} (hc : c < 5) : mX3_of N (rm M A) (nI c) (nI 5) = some (nI (A 6 c)) := by
  rw [x3_of hc (by decide)]
  rfl
theorem x3_of6 {N : Nat} {M : KT} {A : AT} {c : Nat} (hc : c < 5) : mX3_of N (rm M A) (nI c) (nI 6) = some (nI (A 5 c)) := by
  rw [x3_of hc (by decide)]
  rfl
theorem x3_sets0 {N : Nat} {M : KT} {A : AT} {c v : Nat} (hc : c < 5) : mX3_sets N (rm M A) (nI c) (nI 0) (nI (v)) = some (0, rm M (aset A 0 c v)) := by
  unfold mX3_sets
  rw [i31, nmul, nadd, nadd, wrA_n (by omega) (by decide), fset_rm M A _ _ _ (pm_u0 (p := 0))]
theorem x3_sets1 {N : Nat} {M : KT} {A : AT} {c v : Nat} (hc : c < 5) : mX3_sets N (rm M A) (nI c) (nI 1) (nI (v)) = some (0, rm M (aset A 1 c v)) := by
  unfold mX3_sets
  rw [i31, nmul, nadd, nadd, wrA_n (by omega) (by decide), fset_rm M A _ _ _ (pm_u1 (p := 0))]
theorem x3_sets2 {N : Nat} {M : KT} {A : AT} {c v : Nat} (hc : c < 5) : mX3_sets N (rm M A) (nI c) (nI 2) (nI (v)) = some (0, rm M (aset A 2 c v)) := by
  unfold mX3_sets
  rw [i31, nmul, nadd, nadd, wrA_n (by omega) (by decide), fset_rm M A _ _ _ (pm_u2 (p := 0))]
theorem x3_sets3 {N : Nat} {M : KT} {A : AT} {c v : Nat} (hc : c < 5) : mX3_sets N (rm M A) (nI c) (nI 3) (nI (1 - v)) = some (0, rm M (aset A 3 c v)) := by
  unfold mX3_sets
  rw [i31, nmul, nadd, nadd, wrA_n (by omega) (by decide), fset_rm M A _ _ _ (pm_u3 (p := 0))]
theorem x3_sets4 {N : Nat} {M : KT} {A : AT} {c v : Nat} (hc : c < 5) : mX3_sets N (rm M A) (nI c) (nI 4) (nI (v)) = some (0, rm M (aset A 4 c v)) := by
  unfold mX3_sets
  rw [i31, nmul, nadd, nadd, wrA_n (by omega) (by decide), fset_rm M A _ _ _ (pm_u4 (p := 0))]
theorem x3_sets5 {N : Nat} {M : KT} {A : AT} {c v : Nat} (hc : c < 5) : mX3_sets N (rm M A) (nI c) (nI 5) (nI (v)) = some (0, rm M (aset A 6 c v)) := by
  unfold mX3_sets
  rw [i31, nmul, nadd, nadd, wrA_n (by omega) (by decide), fset_rm M A _ _ _ (pm_u6 (p := 0))]
theorem x3_sets6 {N : Nat} {M : KT} {A : AT} {c v : Nat} (hc : c < 5) : mX3_sets N (rm M A) (nI c) (nI 6) (nI (v)) = some (0, rm M (aset A 5 c v)) := by
  unfold mX3_sets
  rw [i31, nmul, nadd, nadd, wrA_n (by omega) (by decide), fset_rm M A _ _ _ (pm_u5 (p := 0))]
theorem x3_setsT {N : Nat} {M : KT} {A : AT} {c p v : Nat} (hc : c < 5) (hp : p < 12) : mX3_sets N (rm M A) (nI c) (nI (7 + 2 * p)) (nI v) = some (0, rm M (aset A 7 (c * 12 + p) v)) := by
  unfold mX3_sets
  rw [i31, nmul, nadd, nadd, wrA_n (by omega) (by decide), fset_rm M A _ _ _ (pm_u7 hp)]
theorem x3_setsL {N : Nat} {M : KT} {A : AT} {c p v : Nat} (hc : c < 5) (hp : p < 12) : mX3_sets N (rm M A) (nI c) (nI (7 + 2 * p + 1)) (nI v) = some (0, rm M (aset A 8 (c * 12 + p) v)) := by
  unfold mX3_sets
  rw [i31, nmul, nadd, nadd, wrA_n (by omega) (by decide), fset_rm M A _ _ _ (pm_u8 hp)]
theorem x3_pageT {N : Nat} {M : KT} {A : AT} {c p : Nat} (hc : c < 5) (hp : p < 12) : mX3_page N (rm M A) (nI c) (nI p) (nI 0) = some (nI (A 7 (c * 12 + p))) := by
  unfold mX3_page
  rw [i7, i2, nmul, nadd, nadd, x3_of hc (by omega), bdP_n]
  unfold pmW
  rw [if_neg (by omega), if_neg (by omega), if_neg (by omega), if_neg (by omega), if_neg (by omega), if_neg (by omega), if_neg (by omega), if_pos (by omega), show c * 12 + (7 + 2 * p + 0 - 7) / 2 = c * 12 + p by omega]
theorem x3_pageL {N : Nat} {M : KT} {A : AT} {c p : Nat} (hc : c < 5) (hp : p < 12) : mX3_page N (rm M A) (nI c) (nI p) (nI 1) = some (nI (A 8 (c * 12 + p))) := by
  unfold mX3_page
  rw [i7, i2, nmul, nadd, nadd, x3_of hc (by omega), bdP_n]
  unfold pmW
  rw [if_neg (by omega), if_neg (by omega), if_neg (by omega), if_neg (by omega), if_neg (by omega), if_neg (by omega), if_neg (by omega), if_neg (by omega), show c * 12 + (7 + 2 * p + 1 - 7) / 2 = c * 12 + p by omega]
