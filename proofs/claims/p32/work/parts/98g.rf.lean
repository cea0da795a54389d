/-! ===== what is refused ===== -/
theorem bdL_n {β : Type} {r : Int64} {O : OT} {k : Int64 → OT → Option β} : bdL (some (r, O)) k = k r O := rfl
theorem KX_low {B C : Nat} {A : AT} {L : List AT} {sv : Option AT} {O O' : OT} (h : KX B A L sv O) (g : KX C A L sv O') : KX B A L sv O' := ⟨h.1, h.2.1, fun X hX => ⟨(h.2.2.1 X hX).1, (g.2.2.1 X hX).2⟩, g.2.2.2.1, g.2.2.2.2.1, g.2.2.2.2.2.1, g.2.2.2.2.2.2⟩
def SQ (B : Nat) (A : AT) (L : List AT) (sv : Option AT) (O : OT) : Prop := KX B A L sv O ∧ O 13 1 0 = 0 ∧ GL O
theorem lg_self (x : Int64) : lg_cmp x x = 0 := by
  unfold lg_cmp
  simp
section SQS
variable {N B : Nat} {A : AT} {L : List AT} {sv : Option AT} {O : OT} {f2 : OT → Option (Int32 × OT)}
theorem KPa.sq {O' : OT} (k : KPa O O') (h : SQ B A L sv O) : SQ B A L sv O' := ⟨k.kx h.1, by rw [k.1 13 (by decide) (by decide)]; exact h.2.1, k.2⟩
theorem SQ.ga (h : SQ B A L sv O) : GA A O := ⟨h.1.now, h.2.2⟩
theorem sq_fail {r : Int32} (hr : r < 0) (h : SQ B A L sv O) (e : f2 (oset O 1 (O 0)) = some (r, oset O 1 (O 0))) : ∃ O', chg N f2 O = some (r, O') ∧ SQ B A L sv O' := by
  obtain ⟨O', e1, h1, -, h13, h14⟩ := k_fail (N := N) hr h.1 e
  exact ⟨O', e1, h1, by rw [h13]; exact h.2.1, by unfold GL; rw [h14]; exact h.2.2⟩
theorem sq_ref {w d : Int32} (h : SQ B A L sv O) (e : f2 (oset O 1 (O 0)) = rfu N (oset O 1 (O 0)) w d) : ∃ O', chg N f2 O = some (-3, O') ∧ SQ B A L sv O' ∧ RE w d (-4) O' := by
  obtain ⟨O', e1, h1, hr, h13, h14⟩ := k_ref (N := N) h.1 e
  exact ⟨O', e1, ⟨h1, by rw [h13]; exact h.2.1, by unfold GL; rw [h14]; exact h.2.2⟩, hr⟩
theorem SQ.n0 (h : SQ B A L sv O) : oset O 1 (O 0) 0 = pcK A := by rw [oset_ne (by decide), h.1.now]
theorem s_dusk {p : Int32} (h : SQ B A L sv O) (w : p < 0 ∨ nI 5 ≤ p) : ∃ O', mX2_dusk N O p = some (-1, O') ∧ SQ B A L sv O' := sq_fail (f2 := fun O => mX2_bringDusk N O p) (by decide) h (x_dusk_off w)
theorem s_write1 {p q : Int32} (h : SQ B A L sv O) (w : p < 0 ∨ nI 5 ≤ p) : ∃ O', mX2_write N O p q = some (-1, O') ∧ SQ B A L sv O' := sq_fail (f2 := fun O => mX2_writePage N O p q) (by decide) h (x_write_off w)
theorem s_write2 {c : Nat} {q : Int32} (h : SQ B A L sv O) (hc : c < 5) (w : q < 0 ∨ nI 4 ≤ q) : ∃ O', mX2_write N O (nI c) q = some (-1, O') ∧ SQ B A L sv O' := sq_fail (f2 := fun O => mX2_writePage N O (nI c) q) (by decide) h (x_write_offL hc w)
theorem s_march {p : Int32} (h : SQ B A L sv O) (w : p < 0 ∨ nI 5 ≤ p) : ∃ O', mX2_march N O p = some (-1, O') ∧ SQ B A L sv O' := sq_fail (f2 := fun O => mX2_sendCaptain N O p) (by decide) h (x_march_off w)
theorem s_road1 {p q s : Int32} (h : SQ B A L sv O) (w : p < 0 ∨ nI 5 ≤ p) : ∃ O', mX2_road N O p q s = some (-1, O') ∧ SQ B A L sv O' := sq_fail (f2 := fun O => mX2_turnRoad N O p q s) (by decide) h (x_road_off1 w)
theorem s_road2 {c : Nat} {q s : Int32} (h : SQ B A L sv O) (hc : c < 5) (w : q < 0 ∨ nI 5 ≤ q) : ∃ O', mX2_road N O (nI c) q s = some (-1, O') ∧ SQ B A L sv O' := sq_fail (f2 := fun O => mX2_turnRoad N O (nI c) q s) (by decide) h (x_road_off2 hc w)
theorem s_road3 {c b : Nat} {s : Int32} (h : SQ B A L sv O) (hc : c < 5) (hb5 : b < 5) (w : s < 0 ∨ nI 2 ≤ s) : ∃ O', mX2_road N O (nI c) (nI b) s = some (-2, O') ∧ SQ B A L sv O' := sq_fail (f2 := fun O => mX2_turnRoad N O (nI c) (nI b) s) (by decide) h (x_road_offS hc hb5 w)
theorem s_sleep1 {p s : Int32} (h : SQ B A L sv O) (w : p < 0 ∨ nI 5 ≤ p) : ∃ O', mX2_sleep N O p s = some (-1, O') ∧ SQ B A L sv O' := sq_fail (f2 := fun O => mX2_turnCamp N O p s) (by decide) h (x_sleep_off w)
theorem s_sleep2 {c : Nat} {s : Int32} (h : SQ B A L sv O) (hc : c < 5) (w : s < 0 ∨ nI 2 ≤ s) : ∃ O', mX2_sleep N O (nI c) s = some (-2, O') ∧ SQ B A L sv O' := sq_fail (f2 := fun O => mX2_turnCamp N O (nI c) s) (by decide) h (x_sleep_offS hc w)
theorem s_pass {p : Int32} (h : SQ B A L sv O) (w : p < 1 ∨ 30 < p) : ∃ O', mX2_pass N O p = some (-2, O') ∧ SQ B A L sv O' := sq_fail (f2 := fun O => mX2_passHours N O p) (by decide) h (x_pass_off w)
theorem s_road_s {c v : Nat} (h : SQ B A L sv O) (hc : c < 5) (hv : v < 2) : ∃ O', mX2_road N O (nI c) (nI c) (nI v) = some (-3, O') ∧ SQ B A L sv O' ∧ RE 4 (nI c) (-4) O' := sq_ref (f2 := fun O => mX2_turnRoad N O (nI c) (nI c) (nI v)) h (x_road_s hc hv)
theorem s_sleep_v {c v : Nat} (h : SQ B A L sv O) (hb : B + 20000 < 2 ^ 30) (hc : c < 5) (hv : v < 2) (h3 : A 3 c = v) : ∃ O', mX2_sleep N O (nI c) (nI v) = some (-3, O') ∧ SQ B A L sv O' ∧ RE 5 (nI v) (-4) O' := sq_ref (f2 := fun O => mX2_turnCamp N O (nI c) (nI v)) h (x_sleep_v h.1.st hb h.n0 hc hv h3)
theorem s_dusk_z {c : Nat} (h : SQ B A L sv O) (hb : B + 20000 < 2 ^ 30) (hc : c < 5) (h3 : A 3 c = 0) : ∃ O', mX2_dusk N O (nI c) = some (-3, O') ∧ SQ B A L sv O' ∧ RE 1 (nI c) (-4) O' := sq_ref (f2 := fun O => mX2_bringDusk N O (nI c)) h (x_dusk_z h.1.st hb h.n0 hc h3)
theorem s_dusk_c {c : Nat} (h : SQ B A L sv O) (hb : B + 20000 < 2 ^ 30) (hc : c < 5) (h3 : A 3 c = 1) (h2 : A 2 c = 1) : ∃ O', mX2_dusk N O (nI c) = some (-3, O') ∧ SQ B A L sv O' ∧ RE 2 (nI (A 0 c)) (-4) O' := sq_ref (f2 := fun O => mX2_bringDusk N O (nI c)) h (x_dusk_c h.1.st hb h.n0 hc h3 h2)
theorem s_write_z {c x : Nat} (h : SQ B A L sv O) (hb : B + 20000 < 2 ^ 30) (hc : c < 5) (hx : x < 4) (h3 : A 3 c = 0) : ∃ O', mX2_write N O (nI c) (nI x) = some (-3, O') ∧ SQ B A L sv O' ∧ RE 1 (nI c) (-4) O' := sq_ref (f2 := fun O => mX2_writePage N O (nI c) (nI x)) h (x_write_z h.1.st hb h.n0 hc hx h3)
theorem s_write_c {c x : Nat} (h : SQ B A L sv O) (hb : B + 20000 < 2 ^ 30) (hc : c < 5) (hx : x < 4) (h3 : A 3 c = 1) (h2 : A 2 c = 0) : ∃ O', mX2_write N O (nI c) (nI x) = some (-3, O') ∧ SQ B A L sv O' ∧ RE 2 (nI (A 0 c)) (-4) O' := sq_ref (f2 := fun O => mX2_writePage N O (nI c) (nI x)) h (x_write_c h.1.st hb h.n0 hc hx h3 h2)
theorem s_march_z {c : Nat} (h : SQ B A L sv O) (hb : B + 20000 < 2 ^ 30) (hc : c < 5) (h3 : A 3 c = 0) : ∃ O', mX2_march N O (nI c) = some (-3, O') ∧ SQ B A L sv O' ∧ RE 1 (nI c) (-4) O' := sq_ref (f2 := fun O => mX2_sendCaptain N O (nI c)) h (x_march_z h.1.st hb h.n0 hc h3)
theorem s_march_c {c : Nat} (h : SQ B A L sv O) (hb : B + 20000 < 2 ^ 30) (hc : c < 5) (h3 : A 3 c = 1) (h2 : A 2 c = 0) : ∃ O', mX2_march N O (nI c) = some (-3, O') ∧ SQ B A L sv O' ∧ RE 2 (nI (A 0 c)) (-4) O' := sq_ref (f2 := fun O => mX2_sendCaptain N O (nI c)) h (x_march_c h.1.st hb h.n0 hc h3 h2)
theorem is_y {w d c : Int32} (h : RE w d c O) : mL_is N O w d c = some 1 := by
  obtain ⟨h1, h2, h3⟩ := h
  have e0 : mX2_refusal N O 0 = some (O 12 0 4) := rfl
  have e1 : mX2_refusal N O 1 = some (O 12 0 5) := rfl
  have e2 : mX2_refusal N O 2 = some (O 12 0 6) := rfl
  unfold mL_is fL_is_32
  rw [e0, bdP_n, if_pos h1, e1, bdP_n, if_pos h2, e2, bdP_n, if_pos h3]
  exact gd_n (Or.inr rfl)
/-! queries out of range -/
theorem o_reaches1 {p q : Int32} (w : p < 0 ∨ nI 5 ≤ p) : mX2_reaches N O p q = some (-1) := by
  unfold mX2_reaches fX2_reaches_14
  rw [c2_noCamp_y w, bdP_n, if_neg (show ¬ (1 : Int32) = 0 by decide)]
theorem o_reaches2 {c : Nat} {q : Int32} (hc : c < 5) (w : q < 0 ∨ nI 5 ≤ q) : mX2_reaches N O (nI c) q = some (-1) := by
  unfold mX2_reaches fX2_reaches_14
  rw [c2_noCamp_n hc, bdP_n, if_pos rfl, c2_noCamp_y w, bdP_n, if_neg (show ¬ (1 : Int32) = 0 by decide)]
theorem o_matches2 {c : Nat} {q : Int32} (hc : c < 5) (w : q < 0 ∨ nI 5 ≤ q) : mX2_matches N O (nI c) q = some (-1) := by
  unfold mX2_matches fX2_matches_14
  rw [c2_noCamp_n hc, bdP_n, if_pos rfl, c2_noCamp_y w, bdP_n, if_neg (show ¬ (1 : Int32) = 0 by decide)]
theorem o_again1 {p q : Int32} (w : p < 0 ∨ nI 5 ≤ p) : mX2_matchesAgain N O p q = some (-1) := by
  unfold mX2_matchesAgain fX2_matchesAgain_14
  rw [c2_noCamp_y w, bdP_n, if_neg (show ¬ (1 : Int32) = 0 by decide)]
theorem o_holders {p q : Int32} (e : mX2_isNoPage N O p q = some 1) : mX2_holders N O p q = some (-1) := by
  unfold mX2_holders
  rw [e, bdP_n, if_neg (show ¬ (1 : Int32) = 0 by decide)]
theorem o_letters {p : Int32} (w : p < 0 ∨ nI 4 ≤ p) : mX2_letters N O p = some (-1) := by
  unfold mX2_letters
  rw [c2_noLetter_y w, bdP_n, if_neg (show ¬ (1 : Int32) = 0 by decide)]
theorem o_would {p : Int32} (w : p < 0 ∨ nI 5 ≤ p) : mX2_would N O p = some (-1, O) := by
  unfold mX2_would
  rw [c2_noCamp_y w, bdP_n, if_neg (show ¬ (1 : Int32) = 0 by decide)]
theorem o_describe {p : Int32} (w : p < 0 ∨ nI 5 ≤ p) : mX2_describe N O p = some (-1, O) := by
  unfold mX2_describe
  rw [c2_noCamp_y w, bdP_n, if_neg (show ¬ (1 : Int32) = 0 by decide)]
theorem o_show {p : Int32} (w : p < 0 ∨ nI 5 ≤ p) : mX2_show N O p = some (-1, O) := by
  unfold mX2_show
  rw [c2_noCamp_y w, bdP_n, if_neg (show ¬ (1 : Int32) = 0 by decide)]
theorem o_camp1 {p q : Int32} (w : p < 0 ∨ nI 5 ≤ p) : mX2_campOf N O p q = some (-1) := by
  unfold mX2_campOf
  rw [c2_noCamp_y w, bdP_n, if_neg (show ¬ (1 : Int32) = 0 by decide)]
theorem o_campN {c : Nat} {q : Int32} (hc : c < 5) (w : q < 0 ∨ nI 9 ≤ q) : mX2_campOf N O (nI c) q = some (-2) := by
  have d : ∀ j, j < 9 → ¬ q = nI j := fun j hj e => by
    rw [e] at w
    rcases w with w | w
    · exact nI_pos (by omega) w
    · exact absurd ((nI_leI (by decide) (by omega)).mp w) (by omega)
  unfold mX2_campOf
  rw [c2_noCamp_n hc, bdP_n, if_pos rfl, if_neg (show ¬ q = 0 from d 0 (by decide)), if_neg (show ¬ q = 1 from d 1 (by decide)), if_neg (show ¬ q = 2 from d 2 (by decide)), if_neg (show ¬ q = 3 from d 3 (by decide)), if_neg (show ¬ q = 4 from d 4 (by decide)), if_neg (show ¬ q = 5 from d 5 (by decide)), if_neg (show ¬ q = 6 from d 6 (by decide)), if_neg (show ¬ q = 7 from d 7 (by decide)), if_neg (show ¬ q = 8 from d 8 (by decide))]
theorem o_page {p q v : Int32} (e : mX2_isNoPage N O p q = some 1) : mX2_pageOf N O p q v = some (-1) := by
  unfold mX2_pageOf
  rw [e, bdP_n, if_neg (show ¬ (1 : Int32) = 0 by decide)]
theorem o_pageN {p q v : Int32} (e : mX2_isNoPage N O p q = some 0) (h0 : ¬ v = 0) (h1 : ¬ v = 1) : mX2_pageOf N O p q v = some (-2) := by
  unfold mX2_pageOf
  rw [e, bdP_n, if_pos rfl, if_neg h0, if_neg h1]
theorem o_camp {c j f : Nat} (hc : c < 5) (ho : O 0 = pcK A) (hj : (j = 0 ∧ f = 0) ∨ (j = 2 ∧ f = 2) ∨ (j = 3 ∧ f = 3) ∨ (j = 4 ∧ f = 5) ∨ (j = 5 ∧ f = 6) ∨ (j = 6 ∧ f = 4)) : mX2_campOf N O (nI c) (nI j) = some (nI (A f c)) := by
  have e : ∀ f, f ≠ 1 → rdA (O 0 f) 5 (nI c) (fun v => some v) = some (nI (A f c)) := fun f hf => by
    rw [ho, rdA_n hc (by decide), pcK_at hf]
  unfold mX2_campOf
  rw [c2_noCamp_n hc, bdP_n, if_pos rfl]
  rcases hj with ⟨rfl, rfl⟩ | ⟨rfl, rfl⟩ | ⟨rfl, rfl⟩ | ⟨rfl, rfl⟩ | ⟨rfl, rfl⟩ | ⟨rfl, rfl⟩
  · rw [if_pos (show nI 0 = 0 by decide)]
    exact e 0 (by decide)
  · rw [if_neg (show ¬ nI 2 = 0 by decide), if_neg (show ¬ nI 2 = 1 by decide), if_pos (show nI 2 = 2 by decide)]
    exact e 2 (by decide)
  · rw [if_neg (show ¬ nI 3 = 0 by decide), if_neg (show ¬ nI 3 = 1 by decide), if_neg (show ¬ nI 3 = 2 by decide), if_pos (show nI 3 = 3 by decide)]
    exact e 3 (by decide)
  · rw [if_neg (show ¬ nI 4 = 0 by decide), if_neg (show ¬ nI 4 = 1 by decide), if_neg (show ¬ nI 4 = 2 by decide), if_neg (show ¬ nI 4 = 3 by decide), if_pos (show nI 4 = 4 by decide)]
    exact e 5 (by decide)
  · rw [if_neg (show ¬ nI 5 = 0 by decide), if_neg (show ¬ nI 5 = 1 by decide), if_neg (show ¬ nI 5 = 2 by decide), if_neg (show ¬ nI 5 = 3 by decide), if_neg (show ¬ nI 5 = 4 by decide), if_pos (show nI 5 = 5 by decide)]
    exact e 6 (by decide)
  · rw [if_neg (show ¬ nI 6 = 0 by decide), if_neg (show ¬ nI 6 = 1 by decide), if_neg (show ¬ nI 6 = 2 by decide), if_neg (show ¬ nI 6 = 3 by decide), if_neg (show ¬ nI 6 = 4 by decide), if_neg (show ¬ nI 6 = 5 by decide), if_pos (show nI 6 = 6 by decide)]
    exact e 4 (by decide)
theorem cntN_lt {p : Nat → Bool} {c : Nat} (hp : ¬ p c = true) : ∀ k, c < k → cntN p k < k := by
  intro k
  induction k with
  | zero => intro h; omega
  | succ k ih =>
    intro h
    have hl := cntN_le (p := p) k
    show cntN p k + (if p k = true then 1 else 0) < k + 1
    by_cases q : k = c
    · rw [q, if_neg hp]
      have := cntN_le (p := p) c
      omega
    · have := ih (by omega)
      by_cases w : p k = true
      · rw [if_pos w]; omega
      · rw [if_neg w]; omega
theorem o_rankL {w : Int32} (hw : w < 0 ∨ nI 5 ≤ w) (hlt : ∀ f i, A f i < 2 ^ 30) (h5 : ∀ x, A 5 x ≤ 12) (ho : O 0 = pcK A) (hN : 1400 ≤ N) : ∀ (k n i : Nat), k < n → i + k = 5 → fX2_ranked_2 N O n w (nI i) = some (-1) := by
  intro k
  induction k with
  | zero =>
    intro n i hn hi
    obtain ⟨m, rfl⟩ : ∃ m, n = m + 1 := ⟨n - 1, by omega⟩
    obtain rfl : i = 5 := by omega
    unfold fX2_ranked_2
    rw [if_pos (show (5 : Int32) ≤ nI 5 by decide)]
  | succ k ih =>
    intro n i hn hi
    obtain ⟨m, rfl⟩ : ∃ m, n = m + 1 := ⟨n - 1, by omega⟩
    have hi5 : i < 5 := by omega
    have e1 : mX0_campsAheadOf N (pcK A) (nI i) = some (nI (cntN (ahB A i) 5)) := by
      unfold mX0_campsAheadOf
      exact c0_aheadL hlt h5 hi5 5 N 0 (by omega) (by omega)
    have hx : ¬ ahB A i i = true := by
      unfold ahB
      intro q
      have := of_decide_eq_true q
      omega
    have hc := cntN_lt hx 5 hi5
    have hne : ¬ nI (cntN (ahB A i) 5) = w := fun e => by
      rw [← e] at hw
      rcases hw with q | q
      · exact nI_pos (by omega) q
      · exact absurd ((nI_leI (by decide) (by omega)).mp q) (by omega)
    have e := ih m (i + 1) (by omega) (by omega)
    unfold fX2_ranked_2
    rw [show (5 : Int32) = nI 5 from rfl, ite_le (by omega) (by omega), if_neg (by omega), ho, e1, bdP_n, if_neg hne, show nI i + 1 = nI (i + 1) from nadd i 1]
    exact e
theorem o_ranked {w : Int32} (hN : 1400 ≤ N) (hb : B + 20000 < 2 ^ 30) (h : SQ B A L sv O) (hw : w < 0 ∨ nI 5 ≤ w) : mX2_ranked N O w = some (-1) := by
  unfold mX2_ranked
  have hB := h.1.st.2.2.1
  have hlt : ∀ f i, A f i < 2 ^ 30 := h.1.st.lt (by omega)
  exact o_rankL hw hlt hB.b5 h.1.now hN 5 N 0 (by omega) (by omega)
theorem o_sign1 {p : Int32} (w : p < 0) : mX2_sign N O p = some (-1) := by
  unfold mX2_sign fX2_sign_15
  rw [if_pos w]
theorem o_sign200 (h : GL O) : mX2_sign N O 200 = some (-1) := by
  obtain ⟨n, hn, e⟩ := h
  unfold mX2_sign fX2_sign_15 s_length
  rw [if_neg (show ¬ (200 : Int32) < 0 by decide), bdP_n, e, if_neg (show ¬ (200 : Int32) < nI n from nI_nlt (a := 200) (by omega) (by omega))]
theorem o_append {p : Int32} (w : p < 32 ∨ 126 < p) : mX2_append N O p = some (-2, O) := by
  unfold mX2_append fX2_append_27
  by_cases w1 : p < 32
  · rw [if_pos w1]
  · rw [if_neg w1, if_pos (w.resolve_left w1)]
/-! texts that are refused -/
def lT (k : Nat) : Nat → Nat := fun j => (lF k j &&& 255).toNatClampNeg
theorem lT_ok : ∀ k, k < 6 → lLen.getD k 0 ≤ 8 ∧ ∀ j, j < lLen.getD k 0 → (32 ≤ lT k j ∧ lT k j ≤ 126) ∧ lF k j &&& 255 = nI (lT k j) := by decide +kernel
theorem rd_q (hN : 1400 ≤ N) (h : SQ B A L sv O) : ∃ O', mL_reads N (lLen.getD 2 0) (lF 2) O = some (-100, O') ∧ SQ B A L sv O' := by
  obtain ⟨O1, e1, h1, t1, g14, g12⟩ := rs_all (N := N) (lT_ok 2 (by decide)).1 (lT_ok 2 (by decide)).2 h.1 h.2.1
  have ea : aft (lT 2) (lLen.getD 2 0) 71 (cmdR (lT 2) (lLen.getD 2 0) 0).1 (cmdR (lT 2) (lLen.getD 2 0) 0).2.1 1 = (false, 0, 0) := by decide +kernel
  obtain ⟨O', e2, k1, k2, k3, k4⟩ := rd_fault hN h1 t1 (by rw [ea]; decide)
  rw [ea] at e2
  refine ⟨O', ?_, k1, k2, by unfold GL; rw [k3, g14]; exact h.2.2⟩
  rw [e1, e2]
  rfl
theorem cy_p {x y z a : Nat} {T : Nat → Nat} (k : KOK T a (O 13) x y z) (t : T a = 112) : mX2_carryOutCommand N O = mX2_passHours N O (nI x) := by
  obtain ⟨k1, k2, k3, k4⟩ := k
  unfold mX2_carryOutCommand
  rw [k1, k2, t, if_neg (show ¬ nI 112 = 100 by decide), if_neg (show ¬ nI 112 = 107 by decide), if_neg (show ¬ nI 112 = 109 by decide), if_neg (show ¬ nI 112 = 114 by decide), if_neg (show ¬ nI 112 = 119 by decide), if_neg (show ¬ nI 112 = 122 by decide), bdO_id]
theorem cy_r {x y z a : Nat} {T : Nat → Nat} (k : KOK T a (O 13) x y z) (t : T a = 114) : mX2_carryOutCommand N O = mX2_turnRoad N O (nI x) (nI y) (nI z) := by
  obtain ⟨k1, k2, k3, k4⟩ := k
  obtain ⟨k5, k6⟩ := k4 t
  unfold mX2_carryOutCommand
  rw [k1, k2, t, if_neg (show ¬ nI 114 = 100 by decide), if_neg (show ¬ nI 114 = 107 by decide), if_neg (show ¬ nI 114 = 109 by decide), if_pos (show nI 114 = 114 from rfl), k5, k6, bdO_id]
theorem cy_d {x y z a : Nat} {T : Nat → Nat} (k : KOK T a (O 13) x y z) (t : T a = 100) : mX2_carryOutCommand N O = mX2_bringDusk N O (nI x) := by
  obtain ⟨k1, k2, k3, k4⟩ := k
  unfold mX2_carryOutCommand
  rw [k1, k2, t, if_pos (show nI 100 = 100 from rfl), bdO_id]
/-- a command that lets hours go by -/
theorem rd_p {As : AT} {T : Nat → Nat} {n a a2 ct i z x : Nat} (hN : 1400 ≤ N) (hb : B + 20000 < 2 ^ 30) (h : RD B A As L sv O T n a) (hi : i < ct) (hct : ct < 2 ^ 30) (hc1 : (cmdR T n a).1 = 1) (ht : T a = 112) (hx : (cmdR T n a).2.2.1 = x) (hx1 : 1 ≤ x) (hx2 : x ≤ 30) (hs : n ≤ (cmdR T n a).2.1 ∨ T (cmdR T n a).2.1 = 59) (ha : (if n ≤ (cmdR T n a).2.1 then (cmdR T n a).2.1 else (cmdR T n a).2.1 + 1) = a2) : ∃ A' O2, fX2_read_28 N (z + 1) O (nI ct) (nI i) = fX2_read_28 N z O2 (nI ct) (nI (i + 1)) ∧ RD (B + 10000) A' As L sv O2 T n a2 ∧ O2 14 = O 14 ∧ ∀ j, j ≠ 3 → O2 12 0 j = O 12 0 j := by
  obtain ⟨Od, hd⟩ := rd_1 (N := N) (z := z) h hi hct hc1
  obtain ⟨hs', -⟩ := St_hours x B A h.1
  have hbb := hs'.2.2.1.b10 1
  have hce : CE B A Od (mX2_carryOutCommand N Od) none := CE_ok (by rw [cy_p hd.2.2.2.2.2.1 ht, hx]; exact x_pass_k hN h.1 hb hd.1 hx1 hx2) (by omega) (hs'.mono (by omega))
  obtain ⟨A', O2, e, r1, r2, r3⟩ := rd_ok h hi hct hs hd hce
  rw [ha] at r1
  exact ⟨A', O2, e, r1, r2, r3⟩
theorem rd_s3 (hN : 1400 ≤ N) (hb : B + 90000 < 2 ^ 30) (h : SQ B A L sv O) : ∃ O', mL_reads N (lLen.getD 3 0) (lF 3) O = some (-3, O') ∧ SQ B A L sv O' ∧ RE 4 2 1 O' := by
  obtain ⟨O1, e1, h1, t1, g14, g12⟩ := rs_all (N := N) (lT_ok 3 (by decide)).1 (lT_ok 3 (by decide)).2 h.1 h.2.1
  have ea : aft (lT 3) (lLen.getD 3 0) 71 (cmdR (lT 3) (lLen.getD 3 0) 0).1 (cmdR (lT 3) (lLen.getD 3 0) 0).2.1 1 = (true, 7, 2) := by decide +kernel
  obtain ⟨Oc, e2, hr, c14, c12⟩ := rd_start hN h1 t1
  obtain ⟨z, rfl⟩ : ∃ z, N = z + 2 := ⟨N - 2, by omega⟩
  obtain ⟨A1, O2, e3, r1, r14, r12⟩ := rd_p (z := z + 1) (a2 := 3) (ct := 2) (i := 0) (x := 1) hN (by omega) hr (by decide) (by decide) (by decide +kernel) (by decide +kernel) (by decide +kernel) (by decide) (by decide) (by decide +kernel) (by decide +kernel)
  obtain ⟨Od, hd⟩ := rd_1 (N := z + 2) (z := z) (ct := 2) (i := 0 + 1) r1 (by decide) (by decide) (by decide +kernel)
  have hx : cmdR (lT 3) (lLen.getD 3 0) 3 = (1, 7, 2, 2, 1) := by decide +kernel
  obtain ⟨O', e4, k1, k2, k3, k4⟩ := rd_ref (w := 4) (d := nI 2) r1 hd (CE_r (by rw [cy_r hd.2.2.2.2.2.1 (by decide +kernel), hx]; exact x_road_s (a := 2) (v := 1) (by decide) (by decide)))
  refine ⟨O', ?_, ⟨KX_low h.1 k1, k2, by unfold GL; rw [k3, r14, c14, g14]; exact h.2.2⟩, k4⟩
  rw [e1, e2, ea]
  exact e3.trans e4
theorem rd_s4 (hN : 1400 ≤ N) (hb : B + 90000 < 2 ^ 30) (h : SQ B A L sv O) : ∃ O', mL_reads N (lLen.getD 4 0) (lF 4) O = some (-2, O') ∧ SQ B A L sv O' ∧ ∀ j, j ≠ 3 → O' 12 0 j = O 12 0 j := by
  obtain ⟨O1, e1, h1, t1, g14, g12⟩ := rs_all (N := N) (lT_ok 4 (by decide)).1 (lT_ok 4 (by decide)).2 h.1 h.2.1
  have ea : aft (lT 4) (lLen.getD 4 0) 71 (cmdR (lT 4) (lLen.getD 4 0) 0).1 (cmdR (lT 4) (lLen.getD 4 0) 0).2.1 1 = (true, 8, 3) := by decide +kernel
  obtain ⟨Oc, e2, hr, c14, c12⟩ := rd_start hN h1 t1
  obtain ⟨z, rfl⟩ : ∃ z, N = z + 3 := ⟨N - 3, by omega⟩
  obtain ⟨A1, O2, e3, r1, r14, r12⟩ := rd_p (z := z + 2) (a2 := 3) (ct := 3) (i := 0) (x := 1) hN (by omega) hr (by decide) (by decide) (by decide +kernel) (by decide +kernel) (by decide +kernel) (by decide) (by decide) (by decide +kernel) (by decide +kernel)
  obtain ⟨A2, O3, e4, q1, q14, q12⟩ := rd_p (z := z + 1) (a2 := 6) (ct := 3) (i := 0 + 1) (x := 2) hN (by omega) r1 (by decide) (by decide) (by decide +kernel) (by decide +kernel) (by decide +kernel) (by decide) (by decide) (by decide +kernel) (by decide +kernel)
  obtain ⟨Od, hd⟩ := rd_1 (N := z + 3) (z := z) (ct := 3) (i := 0 + 1 + 1) q1 (by decide) (by decide) (by decide +kernel)
  have hx : (cmdR (lT 4) (lLen.getD 4 0) 6).2.2.1 = 7 := by decide +kernel
  obtain ⟨O', e5, k1, k2, k3, k4⟩ := rd_bad q1 hd (CE_no (r := -1) (by rw [cy_d hd.2.2.2.2.2.1 (by decide +kernel), hx]; exact x_dusk_off (by decide)) (Or.inl rfl))
  refine ⟨O', ?_, ⟨KX_low h.1 k1, k2, by unfold GL; rw [k3, q14, r14, c14, g14]; exact h.2.2⟩, fun j hj => by rw [k4 j hj, q12 j hj, r12 j hj, c12, g12]⟩
  rw [e1, e2, ea]
  exact e3.trans (e4.trans e5)
theorem rd_s5 (hN : 1400 ≤ N) (hb : B + 90000 < 2 ^ 30) (h : SQ B A L sv O) : ∃ O', mL_reads N (lLen.getD 5 0) (lF 5) O = some (-2, O') ∧ SQ B A L sv O' := by
  obtain ⟨O1, e1, h1, t1, g14, g12⟩ := rs_all (N := N) (lT_ok 5 (by decide)).1 (lT_ok 5 (by decide)).2 h.1 h.2.1
  have ea : aft (lT 5) (lLen.getD 5 0) 71 (cmdR (lT 5) (lLen.getD 5 0) 0).1 (cmdR (lT 5) (lLen.getD 5 0) 0).2.1 1 = (true, 8, 3) := by decide +kernel
  obtain ⟨Oc, e2, hr, c14, c12⟩ := rd_start hN h1 t1
  obtain ⟨z, rfl⟩ : ∃ z, N = z + 3 := ⟨N - 3, by omega⟩
  obtain ⟨A1, O2, e3, r1, r14, r12⟩ := rd_p (z := z + 2) (a2 := 3) (ct := 3) (i := 0) (x := 1) hN (by omega) hr (by decide) (by decide) (by decide +kernel) (by decide +kernel) (by decide +kernel) (by decide) (by decide) (by decide +kernel) (by decide +kernel)
  obtain ⟨A2, O3, e4, q1, q14, q12⟩ := rd_p (z := z + 1) (a2 := 6) (ct := 3) (i := 0 + 1) (x := 1) hN (by omega) r1 (by decide) (by decide) (by decide +kernel) (by decide +kernel) (by decide +kernel) (by decide) (by decide) (by decide +kernel) (by decide +kernel)
  obtain ⟨Od, hd⟩ := rd_1 (N := z + 3) (z := z) (ct := 3) (i := 0 + 1 + 1) q1 (by decide) (by decide) (by decide +kernel)
  have hx : (cmdR (lT 5) (lLen.getD 5 0) 6).2.2.1 = 0 := by decide +kernel
  obtain ⟨O', e5, k1, k2, k3, k4⟩ := rd_bad q1 hd (CE_no (r := -2) (by rw [cy_p hd.2.2.2.2.2.1 (by decide +kernel), hx]; exact x_pass_off (by decide)) (Or.inr rfl))
  refine ⟨O', ?_, ⟨KX_low h.1 k1, k2, by unfold GL; rw [k3, q14, r14, c14, g14]; exact h.2.2⟩⟩
  rw [e1, e2, ea]
  exact e3.trans (e4.trans e5)
theorem rf_826 (hN : 1400 ≤ N) (hb : B + 90000 < 2 ^ 29) (h : SQ B A L sv O) : ∃ O', fL_refused_826 N O (askV N A) 1 = some (1, O') ∧ SQ B A L sv O' := by
  unfold fL_refused_826
  rw [if_neg (show ¬ (1 : Int32) = 0 by decide)]
  obtain ⟨O1, e, h⟩ := rd_q hN h
  rw [e, bdO_n, if_pos rfl]
  obtain ⟨O2, e, h, hre⟩ := rd_s3 hN (by omega) h
  rw [e, bdO_n, if_pos rfl, is_y hre, bdP_n, if_neg (show ¬ (1 : Int32) = 0 by decide)]
  obtain ⟨O3, e, h, hk⟩ := rd_s4 hN (by omega) h
  have hre : RE 4 2 1 O3 := ⟨(hk 4 (by decide)).trans hre.1, (hk 5 (by decide)).trans hre.2.1, (hk 6 (by decide)).trans hre.2.2⟩
  rw [e, bdO_n, if_pos rfl, is_y hre, bdP_n, if_neg (show ¬ (1 : Int32) = 0 by decide)]
  obtain ⟨O4, e, h⟩ := rd_s5 hN (by omega) h
  rw [e, bdO_n, if_pos rfl]
  obtain ⟨O5, e, k⟩ := asks_v hN h.1.st hb h.ga
  rw [e, bdL_n, if_pos (lg_self _)]
  exact ⟨O5, gd_n (Or.inr rfl), k.sq h⟩
theorem rf_604 (hN : 1400 ≤ N) (hb : B + 90000 < 2 ^ 29) (h : SQ B A L sv O) (hre : RE 4 4 (-4) O) : ∃ O', fL_refused_604 N O (askV N A) = some (1, O') ∧ SQ B A L sv O' := by
  unfold fL_refused_604
  rw [o_reaches1 (by decide), bdP_n, if_pos rfl]
  rw [show mX2_reaches N O 0 (-1) = _ from o_reaches2 (c := 0) (by decide) (by decide), bdP_n, if_pos rfl]
  rw [show mX2_matches N O 0 5 = _ from o_matches2 (c := 0) (by decide) (by decide), bdP_n, if_pos rfl]
  rw [o_again1 (by decide), bdP_n, if_pos rfl]
  rw [o_holders (c2_noPage_c (by decide)), bdP_n, if_pos rfl]
  rw [o_holders (show mX2_isNoPage N O 0 (-1) = some 1 from c2_noPage_y (c := 0) h.1.st (by decide) h.1.now (Or.inl (by decide))), bdP_n, if_pos rfl]
  rw [o_letters (by decide), bdP_n, if_pos rfl]
  rw [o_letters (by decide), bdP_n, if_pos rfl]
  rw [o_would (by decide), bdO_n, if_pos rfl]
  rw [o_ranked hN (by omega) h (w := 5) (by decide), bdP_n, if_pos rfl]
  rw [o_ranked hN (by omega) h (w := -1) (by decide), bdP_n, if_pos rfl]
  rw [o_describe (by decide), bdO_n, if_pos rfl]
  rw [o_show (by decide), bdO_n, if_pos rfl]
  rw [o_sign1 (by decide), bdP_n, if_pos rfl]
  rw [o_sign200 h.2.2, bdP_n, if_pos rfl]
  rw [show mX2_refusal N O 3 = some (-2) from rfl, bdP_n, if_pos rfl]
  rw [show mX2_refusal N O (-1) = some (-2) from rfl, bdP_n, if_pos rfl]
  rw [show mX2_account N O 13 = some (-2) from rfl, bdP_n, if_pos rfl]
  rw [show mX2_account N O (-1) = some (-2) from rfl, bdP_n, if_pos rfl]
  rw [o_append (by decide), bdO_n, if_pos rfl]
  rw [o_append (by decide), bdO_n, if_pos rfl]
  rw [is_y hre, bdP_n, if_neg (show ¬ (1 : Int32) = 0 by decide)]
  exact rf_826 hN hb h
theorem rf_475 (hN : 1400 ≤ N) (hb : B + 90000 < 2 ^ 29) (h : SQ B A L sv O) : ∃ O', fL_refused_475 N O (askV N A) 1 = some (1, O') ∧ SQ B A L sv O' := by
  unfold fL_refused_475
  rw [if_neg (show ¬ (1 : Int32) = 0 by decide)]
  obtain ⟨O1, e, h, hre⟩ := s_road_s (N := N) (c := 4) (v := 1) h (by decide) (by decide)
  have hre : RE 4 4 (-4) O1 := hre
  have hB := h.1.st.2.2.1
  have b5 := hB.b5 0
  rw [show mX2_road N O 4 4 1 = _ from e, bdO_n, if_pos rfl]
  rw [o_camp1 (by decide), bdP_n, if_pos rfl]
  rw [o_camp1 (by decide), bdP_n, if_pos rfl]
  rw [show mX2_campOf N O1 0 9 = _ from o_campN (c := 0) (by decide) (by decide), bdP_n, if_pos rfl]
  rw [show mX2_campOf N O1 0 (-1) = _ from o_campN (c := 0) (by decide) (by decide), bdP_n, if_pos rfl]
  rw [o_page (c2_noPage_c (by decide)), bdP_n, if_pos rfl]
  rw [o_page (show mX2_isNoPage N O1 0 12 = some 1 from c2_noPage_y (c := 0) h.1.st (by decide) h.1.now (Or.inr (nI_le (b := 12) b5 (by decide)))), bdP_n, if_pos rfl]
  rw [o_page (show mX2_isNoPage N O1 0 (-1) = some 1 from c2_noPage_y (c := 0) h.1.st (by decide) h.1.now (Or.inl (by decide))), bdP_n, if_pos rfl]
  rw [show mX2_campOf N O1 0 4 = _ from o_camp (c := 0) (j := 4) (f := 5) (by decide) h.1.now (by decide), bdP_n]
  by_cases q : A 5 0 = 0
  · rw [if_pos (by rw [q]; rfl)]
    exact rf_604 hN hb h hre
  · rw [if_neg (show ¬ nI (A 5 0) = 0 from fun w => q ((nI_eq (a := A 5 0) (b := 0) (by omega) (by decide)).mp w))]
    have np : mX2_isNoPage N O1 0 0 = some 0 := c2_noPage_n (c := 0) (j := 0) h.1.st (by decide) h.1.now (by omega)
    rw [o_pageN np (by decide) (by decide), bdP_n, if_pos rfl, o_pageN np (by decide) (by decide), bdP_n, if_pos rfl]
    exact rf_604 hN hb h hre
theorem rf_281 {c : Nat} {k214 : OT → Int64 → Int32 → Int32 → Option (Int32 × OT)} (hb : B + 90000 < 2 ^ 29) (hc : c < 5) (h : SQ B A L sv O) (hk : ∀ O1, SQ B A L sv O1 → ∃ O', k214 O1 (askV N A) 1 (nI (c + 1)) = some (1, O') ∧ SQ B A L sv O') : ∃ O', fL_refused_281 N k214 O (askV N A) (nI c) (nI (A 3 c)) (nI (A 2 c)) (nI (A 0 c)) 1 = some (1, O') ∧ SQ B A L sv O' := by
  have hB := h.1.st.2.2.1
  have b3 := hB.b3 c
  have b2 := hB.b2 c
  unfold fL_refused_281 fL_refused_366 fL_refused_408 fL_refused_468 fL_refused_469
  simp only [show nI c + 1 = nI (c + 1) from nadd c 1]
  by_cases h3 : A 3 c = 0
  · rw [if_pos (by rw [h3]; rfl), if_neg (show ¬ (1 : Int32) = 0 by decide)]
    obtain ⟨O1, e, h, hre⟩ := s_dusk_z (N := N) h (by omega) hc h3
    rw [e, bdO_n, if_pos rfl, is_y hre, bdP_n, if_neg (show ¬ (1 : Int32) = 0 by decide)]
    obtain ⟨O2, e, h, hre⟩ := s_write_z (N := N) (x := 0) h (by omega) hc (by decide) h3
    rw [show mX2_write N O1 (nI c) 0 = _ from e, bdO_n, if_pos rfl, is_y hre, bdP_n, if_neg (show ¬ (1 : Int32) = 0 by decide)]
    obtain ⟨O3, e, h, hre⟩ := s_march_z (N := N) h (by omega) hc h3
    rw [e, bdO_n, if_pos rfl, is_y hre, bdP_n, if_neg (show ¬ (1 : Int32) = 0 by decide)]
    exact hk O3 h
  · have h31 : A 3 c = 1 := by omega
    rw [if_neg (show ¬ nI (A 3 c) = 0 from fun w => h3 ((nI_eq (a := A 3 c) (b := 0) (by omega) (by decide)).mp w))]
    by_cases h2 : A 2 c = 1
    · rw [if_pos (by rw [h2]; rfl), if_neg (show ¬ (1 : Int32) = 0 by decide)]
      obtain ⟨O1, e, h, hre⟩ := s_dusk_c (N := N) h (by omega) hc h31 h2
      rw [e, bdO_n, if_pos rfl, is_y hre, bdP_n, if_neg (show ¬ (1 : Int32) = 0 by decide)]
      exact hk O1 h
    · rw [if_neg (show ¬ nI (A 2 c) = 1 from fun w => h2 ((nI_eq (a := A 2 c) (b := 1) (by omega) (by decide)).mp w)), if_neg (show ¬ (1 : Int32) = 0 by decide)]
      obtain ⟨O1, e, h, hre⟩ := s_write_c (N := N) (x := 0) h (by omega) hc (by decide) h31 (by omega)
      rw [show mX2_write N O (nI c) 0 = _ from e, bdO_n, if_pos rfl, is_y hre, bdP_n, if_neg (show ¬ (1 : Int32) = 0 by decide)]
      obtain ⟨O2, e, h, hre⟩ := s_march_c (N := N) h (by omega) hc h31 (by omega)
      rw [e, bdO_n, if_pos rfl, is_y hre, bdP_n, if_neg (show ¬ (1 : Int32) = 0 by decide)]
      exact hk O2 h
theorem rf_214 (hN : 1400 ≤ N) (hb : B + 90000 < 2 ^ 29) : ∀ (k m c : Nat) (O : OT), k < m → c + k = 5 → SQ B A L sv O → ∃ O', fL_refused_214 N m O (askV N A) 1 (nI c) = some (1, O') ∧ SQ B A L sv O' := by
  intro k
  induction k with
  | zero =>
    intro m c O hm hi h
    obtain ⟨z, rfl⟩ : ∃ z, m = z + 1 := ⟨m - 1, by omega⟩
    obtain rfl : c = 5 := by omega
    unfold fL_refused_214
    rw [if_pos (show (5 : Int32) ≤ nI 5 by decide)]
    exact rf_475 hN hb h
  | succ k ih =>
    intro m c O hm hi h
    obtain ⟨z, rfl⟩ : ∃ z, m = z + 1 := ⟨m - 1, by omega⟩
    have hc : c < 5 := by omega
    have hB := h.1.st.2.2.1
    have b3 := hB.b3 c
    unfold fL_refused_214
    rw [if_neg (show ¬ (5 : Int32) ≤ nI c from le_lit (a := 5) (by decide) (by omega) (by omega)), if_neg (show ¬ (1 : Int32) = 0 by decide)]
    rw [show mX2_campOf N O (nI c) 3 = _ from o_camp (j := 3) (f := 3) hc h.1.now (by decide), bdP_n]
    rw [show mX2_campOf N O (nI c) 2 = _ from o_camp (j := 2) (f := 2) hc h.1.now (by decide), bdP_n]
    rw [show mX2_campOf N O (nI c) 0 = _ from o_camp (j := 0) (f := 0) hc h.1.now (by decide), bdP_n]
    obtain ⟨O1, e, h, hre⟩ := s_sleep_v (N := N) (c := c) (v := A 3 c) h (by omega) hc (by omega) rfl
    rw [e, bdO_n, if_pos rfl, is_y hre, bdP_n, if_neg (show ¬ (1 : Int32) = 0 by decide)]
    exact rf_281 hb hc h (fun O1 h1 => ih z (c + 1) O1 (by omega) (by omega) h1)
theorem rf_all (hN : 1400 ≤ N) (hb : B + 90000 < 2 ^ 29) (h : SQ B A L sv O) : ∃ O', mL_refused N O = some (1, O') ∧ SQ B A L sv O' := by
  unfold mL_refused
  obtain ⟨O0, e, k⟩ := asks_v hN h.1.st hb h.ga
  have h := k.sq h
  rw [e, bdL_n]
  obtain ⟨O1, e, h⟩ := s_dusk (p := 5) (N := N) h (by decide)
  rw [show mX2_dusk N O0 5 = _ from e, bdO_n, if_pos rfl]
  obtain ⟨O2, e, h⟩ := s_dusk (p := -1) (N := N) h (by decide)
  rw [show mX2_dusk N O1 (-1) = _ from e, bdO_n, if_pos rfl]
  obtain ⟨O3, e, h⟩ := s_write1 (p := 5) (q := 4) (N := N) h (by decide)
  rw [show mX2_write N O2 5 4 = _ from e, bdO_n, if_pos rfl]
  obtain ⟨O4, e, h⟩ := s_write2 (c := 0) (q := 4) (N := N) h (by decide) (by decide)
  rw [show mX2_write N O3 0 4 = _ from e, bdO_n, if_pos rfl]
  obtain ⟨O5, e, h⟩ := s_write2 (c := 0) (q := -1) (N := N) h (by decide) (by decide)
  rw [show mX2_write N O4 0 (-1) = _ from e, bdO_n, if_pos rfl]
  obtain ⟨O6, e, h⟩ := s_march (p := 5) (N := N) h (by decide)
  rw [show mX2_march N O5 5 = _ from e, bdO_n, if_pos rfl]
  obtain ⟨O7, e, h⟩ := s_march (p := -1) (N := N) h (by decide)
  rw [show mX2_march N O6 (-1) = _ from e, bdO_n, if_pos rfl]
  obtain ⟨O8, e, h⟩ := s_road1 (p := 5) (q := 0) (s := 9) (N := N) h (by decide)
  rw [show mX2_road N O7 5 0 9 = _ from e, bdO_n, if_pos rfl]
  obtain ⟨O9, e, h⟩ := s_road2 (c := 0) (q := -1) (s := 0) (N := N) h (by decide) (by decide)
  rw [show mX2_road N O8 0 (-1) 0 = _ from e, bdO_n, if_pos rfl]
  obtain ⟨O10, e, h⟩ := s_road3 (c := 0) (b := 0) (s := 2) (N := N) h (by decide) (by decide) (by decide)
  rw [show mX2_road N O9 0 0 2 = _ from e, bdO_n, if_pos rfl]
  obtain ⟨O11, e, h⟩ := s_road3 (c := 0) (b := 1) (s := -1) (N := N) h (by decide) (by decide) (by decide)
  rw [show mX2_road N O10 0 1 (-1) = _ from e, bdO_n, if_pos rfl]
  obtain ⟨O12, e, h, hre⟩ := s_road_s (N := N) (c := 3) (v := 0) h (by decide) (by decide)
  have hre : RE 4 3 (-4) O12 := hre
  rw [show mX2_road N O11 3 3 0 = _ from e, bdO_n, if_pos rfl, is_y hre, bdP_n, if_neg (show ¬ (1 : Int32) = 0 by decide)]
  obtain ⟨O13, e, h⟩ := s_sleep1 (p := 5) (s := 9) (N := N) h (by decide)
  rw [show mX2_sleep N O12 5 9 = _ from e, bdO_n, if_pos rfl]
  obtain ⟨O14, e, h⟩ := s_sleep1 (p := -1) (s := 0) (N := N) h (by decide)
  rw [show mX2_sleep N O13 (-1) 0 = _ from e, bdO_n, if_pos rfl]
  obtain ⟨O15, e, h⟩ := s_sleep2 (c := 0) (s := 2) (N := N) h (by decide) (by decide)
  rw [show mX2_sleep N O14 0 2 = _ from e, bdO_n, if_pos rfl]
  obtain ⟨O16, e, h⟩ := s_sleep2 (c := 0) (s := -1) (N := N) h (by decide) (by decide)
  rw [show mX2_sleep N O15 0 (-1) = _ from e, bdO_n, if_pos rfl]
  obtain ⟨O17, e, h⟩ := s_pass (p := 0) (N := N) h (by decide)
  rw [show mX2_pass N O16 0 = _ from e, bdO_n, if_pos rfl]
  obtain ⟨O18, e, h⟩ := s_pass (p := 31) (N := N) h (by decide)
  rw [show mX2_pass N O17 31 = _ from e, bdO_n, if_pos rfl]
  unfold fL_refused_210
  exact rf_214 hN hb 5 N 0 _ (by omega) (by omega) h
end SQS
