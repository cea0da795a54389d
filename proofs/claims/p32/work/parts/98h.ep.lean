/-! ===== tables that hold nothing out of their rows ===== -/
def tab (l : List (List Nat)) : AT := fun f i => (l.getD f []).getD i 0
def bd (f : Nat) : Nat := [5, 5, 5, 5, 5, 5, 5, 60, 60, 25, 6].getD f 0
def ZA (A : AT) : Prop := (∀ f i, bd f ≤ i → A f i = 0) ∧ ∀ c, A 5 c ≤ 12
theorem ZA.set {A : AT} {f i v : Nat} (h : ZA A) (hf : i < bd f) (h5 : f = 5 → v ≤ 12) : ZA (aset A f i v) := by
  refine ⟨fun g j hj => ?_, fun c => ?_⟩
  · unfold aset
    by_cases q : g = f ∧ j = i
    · exfalso
      obtain ⟨rfl, rfl⟩ := q
      omega
    · rw [if_neg q]
      exact h.1 g j hj
  · unfold aset
    by_cases q : 5 = f ∧ c = i
    · rw [if_pos q]
      exact h5 q.1.symm
    · rw [if_neg q]
      exact h.2 c
theorem ZA.set' {A : AT} {f i v : Nat} (h : ZA A) (hf : i < bd f) (h5 : f ≠ 5) : ZA (aset A f i v) := h.set hf (fun e => absurd e h5)
theorem tab_eq {A B : AT} (ha : ZA A) (hb : ZA B) (h : ∀ f, f < 11 → ∀ i, i < bd f → A f i = B f i) : A = B := by
  funext f i
  by_cases q : i < bd f
  · by_cases w : f < 11
    · exact h f w i q
    · exfalso
      have e : bd f = 0 := by
        unfold bd
        rw [List.getD_eq_getElem?_getD, List.getElem?_eq_none (show ([5, 5, 5, 5, 5, 5, 5, 60, 60, 25, 6] : List Nat).length ≤ f by show 11 ≤ f; omega)]
        rfl
      omega
  · rw [ha.1 f i (by omega), hb.1 f i (by omega)]
theorem ZA_tab {l : List (List Nat)} (h1 : l.length ≤ 11) (h2 : ∀ f, f < 11 → (l.getD f []).length ≤ bd f) (h3 : ∀ c, c < 5 → tab l 5 c ≤ 12) : ZA (tab l) := by
  have e0 : ∀ f i, bd f ≤ i → tab l f i = 0 := by
    intro f i hi
    unfold tab
    by_cases w : f < 11
    · have := h2 f w
      rw [List.getD_eq_getElem?_getD (l := l.getD f []), List.getElem?_eq_none (by omega)]
      rfl
    · rw [List.getD_eq_getElem?_getD (l := l), List.getElem?_eq_none (by omega)]
      rfl
  refine ⟨e0, fun c => ?_⟩
  by_cases w : c < 5
  · exact h3 c w
  · rw [e0 5 c (by show 5 ≤ c; omega)]
    exact Nat.zero_le _
theorem ZA_takeT {A : AT} {c t : Nat} (h : ZA A) (hc : c < 5) : ZA (takeT A c t) := by
  unfold takeT
  exact ((h.set' (f := 0) hc (by decide)).set' (f := 1) hc (by decide)).set' (f := 2) hc (by decide)
theorem ZA_askEnd {A : AT} {c v : Nat} (h : ZA A) (hc : c < 5) : ZA (askEnd A c v).2 := by
  unfold askEnd
  by_cases q : v < 3
  · rw [if_pos q]; exact h
  · rw [if_neg q]
    exact (h.set' (f := 2) hc (by decide)).set' (f := 10) (show 1 < 6 by decide) (by decide)
theorem ZA_askTake {A : AT} {c b : Nat} (h : ZA A) (hb : b < 5) : ZA (askTake A c b) := by
  unfold askTake
  by_cases q : A 0 b < A 0 c
  · rw [if_pos q]; exact ZA_takeT h hb
  · rw [if_neg q]; exact h
theorem ZA_askVote {A : AT} {c b : Nat} (h : ZA A) (hb : b < 5) : ZA (askVote A c b) := by
  unfold askVote
  exact (h.set' (f := 1) hb (by decide)).set' (f := 4) hb (by decide)
theorem ZA_askL {c : Nat} (hc : c < 5) : ∀ (k : Nat) (A : AT) (v : Nat), ZA A → ZA (askL c k A v).2 := by
  intro k
  induction k with
  | zero => intro A v h; unfold askL; exact ZA_askEnd h hc
  | succ k ih =>
    intro A v h
    have hk : 4 - k < 5 := by omega
    unfold askL
    by_cases q1 : reach A c (4 - k)
    · rw [if_pos q1]
      by_cases q2 : A 0 c < A 0 (4 - k)
      · rw [if_pos q2]; exact ZA_takeT h hc
      · rw [if_neg q2]
        by_cases q3 : (askTake A c (4 - k)) 1 (4 - k) = 0 ∧ far (askTake A c (4 - k)) c (4 - k)
        · rw [if_pos q3]; exact ih _ _ (ZA_askVote (ZA_askTake h hk) hk)
        · rw [if_neg q3]; exact ih _ _ (ZA_askTake h hk)
    · rw [if_neg q1]; exact ih _ _ h
theorem ZA_ask {A : AT} {c : Nat} (h : ZA A) (hc : c < 5) : ZA (ask A c).2 := by
  unfold ask askStart
  exact ZA_askL hc 5 _ 1 ((((h.set' (f := 10) (show 0 < 6 by decide) (by decide)).set' (f := 0) hc (by decide)).set' (f := 1) hc (by decide)).set' (f := 4) hc (by decide))
theorem ZA_copyL {a b : Nat} (hb : b < 5) : ∀ (k : Nat) (A : AT) (p : Nat), k + p ≤ 12 → ZA A → ZA (copyL a b k A p) := by
  intro k
  induction k with
  | zero => intro A p _ h; exact h
  | succ k ih =>
    intro A p hp h
    unfold copyL
    exact ih _ _ (by omega) ((h.set' (f := 7) (show b * 12 + p < 60 by omega) (by decide)).set' (f := 8) (show b * 12 + p < 60 by omega) (by decide))
theorem ZA_visitS {A : AT} {a b : Nat} (h : ZA A) (hb : b < 5) : ZA (visitS A a b) := by
  have h1 : ZA (visitT A a b) := by
    unfold visitT
    exact ((ZA_askTake h hb).set' (f := 2) hb (by decide)).set' (f := 4) hb (by decide)
  have h2 : ZA (tearS (visitT A a b) a b) := by
    unfold tearS
    have g := h1.2 b
    by_cases q : alike (visitT A a b) a b < visitT A a b 5 a ∧ alike (visitT A a b) a b < visitT A a b 5 b
    · rw [if_pos q]
      exact (h1.set' (f := 10) (show 3 < 6 by decide) (by decide)).set (f := 5) hb (fun _ => by omega)
    · rw [if_neg q]; exact h1
  unfold visitS copyS
  have ga := h2.2 a
  have gb := h2.2 b
  exact (ZA_copyL hb _ _ _ (by omega) h2).set (f := 5) hb (fun _ => by omega)
theorem ZA_goL {a : Nat} (ha : a < 5) : ∀ (k : Nat) (A : AT), ZA A → ZA (goL a k A).2 := by
  intro k
  induction k with
  | zero => intro A h; exact h
  | succ k ih =>
    intro A h
    have hk : 4 - k < 5 := by omega
    unfold goL
    by_cases q1 : reach A a (4 - k)
    · rw [if_pos q1]
      by_cases q2 : A 0 a < A 0 (4 - k)
      · rw [if_pos q2]; exact ZA_takeT h ha
      · rw [if_neg q2]; exact ih _ (ZA_visitS h hk)
    · rw [if_neg q1]; exact ih _ h
theorem ZA_spreadL {a : Nat} : ∀ (k : Nat) (A : AT), ZA A → ZA (spreadL a k A) := by
  intro k
  induction k with
  | zero => intro A h; exact h
  | succ k ih =>
    intro A h
    unfold spreadL
    by_cases q : reach A a (4 - k)
    · rw [if_pos q]; exact ih _ (h.set' (f := 6) (show 4 - k < 5 by omega) (by decide))
    · rw [if_neg q]; exact ih _ h
theorem ZA_goC {A : AT} {a : Nat} (h : ZA A) (ha : a < 5) : ZA (goC A a) := by
  have h1 := ZA_goL ha 5 _ (h.set' (f := 10) (i := 4) (v := A 10 4 + 1) (show 4 < 6 by decide) (by decide))
  rw [goC_of]
  by_cases q : (goL a 5 (aset A 10 4 (A 10 4 + 1))).1 = true
  · rw [if_pos q]
    unfold settleC
    by_cases q2 : 3 ≤ 1 + reachN (goL a 5 (aset A 10 4 (A 10 4 + 1))).2 a 5 ∧ lastT (goL a 5 (aset A 10 4 (A 10 4 + 1))).2 a = (goL a 5 (aset A 10 4 (A 10 4 + 1))).2 0 a
    · rw [if_pos q2]; exact ZA_spreadL 5 _ (h1.set' (f := 6) ha (by decide))
    · rw [if_neg q2]; exact ZA_spreadL 5 _ h1
  · rw [if_neg q]; exact h1
theorem ZA_marchL : ∀ (k : Nat) (A : AT), ZA A → ZA (marchL goC k A) := by
  intro k
  induction k with
  | zero => intro A h; exact h
  | succ k ih =>
    intro A h
    unfold marchL
    by_cases q : A 3 (4 - k) = 1 ∧ A 2 (4 - k) = 1
    · rw [if_pos q]; exact ih _ (ZA_goC h (by omega))
    · rw [if_neg q]; exact ih _ h
theorem ZA_silenceL : ∀ (k : Nat) (A : AT), ZA A → ZA (silenceL k A) := by
  intro k
  induction k with
  | zero => intro A h; exact h
  | succ k ih =>
    intro A h
    unfold silenceL
    by_cases q : waits A (4 - k)
    · rw [if_pos q]; exact ih _ (h.set' (f := 4) (show 4 - k < 5 by omega) (by decide))
    · rw [if_neg q]; exact ih _ h
theorem ZA_duskL : ∀ (k : Nat) (A : AT), ZA A → ZA (duskL k A) := by
  intro k
  induction k with
  | zero => intro A h; exact h
  | succ k ih =>
    intro A h
    unfold duskL
    by_cases q : waits A (4 - k) ∧ 3 + (4 - k) ≤ A 4 (4 - k)
    · rw [if_pos q]; exact ih _ (ZA_ask h (by omega))
    · rw [if_neg q]; exact ih _ h
theorem ZA_hour {A : AT} (h : ZA A) : ZA (hourC A) := by
  unfold hourC hourB
  exact ZA_duskL 5 _ (ZA_silenceL 5 _ (ZA_marchL 5 _ (h.set' (f := 10) (show 5 < 6 by decide) (by decide))))
theorem ZA_write {A : AT} {c x : Nat} (h : ZA A) (hc : c < 5) (hn : A 5 c < 12) : ZA (writeS A c x) := by
  unfold writeS
  exact (((h.set' (f := 7) (show c * 12 + A 5 c < 60 by omega) (by decide)).set' (f := 8) (show c * 12 + A 5 c < 60 by omega) (by decide)).set (f := 5) hc (fun _ => by omega)).set' (f := 10) (show 2 < 6 by decide) (by decide)
/-! ===== the first trial of the law, table by table ===== -/
def roadsL : List Nat := [0, 1, 1, 1, 1, 1, 0, 1, 1, 1, 1, 1, 0, 1, 1, 1, 1, 1, 0, 1, 1, 1, 1, 1, 0]
/-- after h hours, before a camp gives up waiting -/
def EW (h : Nat) : AT := tab [[], [], [], [1, 1, 1, 1, 1], [h, h, h, h, h], [], [], [], [], roadsL, [0, 0, 0, 0, 0, h]]
/-- the captain has gone round m times -/
def EH (m : Nat) : AT := tab [[1, 1, 1, 1, 1], [1, 1, 1, 1, 1], [1, 0, 0, 0, 0], [1, 1, 1, 1, 1], (if m = 0 then [0, 0, 0, 0, 0] else [0, 1, 1, 1, 1]), [], [], [], [], roadsL, [1, 1, 0, 0, m, m + 3]]
def lettersL : List Nat := [1, 2, 3, 0, 1, 2, 3, 0, 1, 2, 3, 0]
/-- the captain has written k pages -/
def EP (k : Nat) : AT := tab [[1, 1, 1, 1, 1], [1, 1, 1, 1, 1], [1, 0, 0, 0, 0], [1, 1, 1, 1, 1], [0, 1, 1, 1, 1], [k], [], List.replicate k 1, lettersL.take k, roadsL, [1, 1, k, 0, 30, 33]]
theorem z_w : ∀ h, h < 3 → ZA (EW h) := fun h hh => ZA_tab (Nat.le_refl 11) ((by decide +kernel : ∀ h, h < 3 → ∀ f, f < 11 → (([[], [], [], [1, 1, 1, 1, 1], [h, h, h, h, h], [], [], [], [], roadsL, [0, 0, 0, 0, 0, h]] : List (List Nat)).getD f []).length ≤ bd f) h hh) (fun c hc => Nat.zero_le _)
theorem z_h : ∀ m, m < 31 → ZA (EH m) := fun m hm => ZA_tab (Nat.le_refl 11) ((by decide +kernel : ∀ m, m < 31 → ∀ f, f < 11 → (([[1, 1, 1, 1, 1], [1, 1, 1, 1, 1], [1, 0, 0, 0, 0], [1, 1, 1, 1, 1], (if m = 0 then [0, 0, 0, 0, 0] else [0, 1, 1, 1, 1]), [], [], [], [], roadsL, [1, 1, 0, 0, m, m + 3]] : List (List Nat)).getD f []).length ≤ bd f) m hm) (fun c hc => Nat.zero_le _)
theorem z_p : ∀ k, k < 13 → ZA (EP k) := fun k hk => ZA_tab (Nat.le_refl 11) ((by decide +kernel : ∀ k, k < 13 → ∀ f, f < 11 → (([[1, 1, 1, 1, 1], [1, 1, 1, 1, 1], [1, 0, 0, 0, 0], [1, 1, 1, 1, 1], [0, 1, 1, 1, 1], [k], [], List.replicate k 1, lettersL.take k, roadsL, [1, 1, k, 0, 30, 33]] : List (List Nat)).getD f []).length ≤ bd f) k hk) ((by decide +kernel : ∀ k, k < 13 → ∀ c, c < 5 → EP k 5 c ≤ 12) k hk)
theorem z_0 : ZA A0t := by
  refine ⟨fun f i hi => ?_, fun c => ?_⟩
  · by_cases h3 : f = 3
    · subst h3
      have h : 5 ≤ i := hi
      unfold A0t
      rw [if_pos rfl, if_neg (by omega)]
    · by_cases h9 : f = 9
      · subst h9
        have h : 25 ≤ i := hi
        unfold A0t
        rw [if_neg h3, if_pos rfl, if_neg (by omega)]
      · exact A0t_z f i h3 h9
  · rw [A0t_z 5 c (by decide) (by decide)]
    exact Nat.zero_le _
theorem e_0 : A0t = EW 0 := tab_eq z_0 (z_w 0 (by decide)) (by decide +kernel)
theorem e_w0 : hourC (EW 0) = EW 1 := tab_eq (ZA_hour (z_w 0 (by decide))) (z_w 1 (by decide)) (by decide +kernel)
theorem e_w1 : hourC (EW 1) = EW 2 := tab_eq (ZA_hour (z_w 1 (by decide))) (z_w 2 (by decide)) (by decide +kernel)
theorem e_w2 : hourC (EW 2) = EH 0 := tab_eq (ZA_hour (z_w 2 (by decide))) (z_h 0 (by decide)) (by decide +kernel)
theorem e_hk : ∀ m, m < 30 → ∀ f, f < 11 → ∀ i, i < bd f → hourC (EH m) f i = EH (m + 1) f i := by decide +kernel
theorem e_h (m : Nat) (hm : m < 30) : hourC (EH m) = EH (m + 1) := tab_eq (ZA_hour (z_h m (by omega))) (z_h (m + 1) (by omega)) (e_hk m hm)
theorem e_hs : ∀ (k m : Nat), m + k ≤ 30 → hoursN k (EH m) = EH (m + k) := by
  intro k
  induction k with
  | zero => intro m _; rfl
  | succ k ih =>
    intro m hm
    unfold hoursN
    rw [e_h m (by omega), ih (m + 1) (by omega), show m + 1 + k = m + (k + 1) by omega]
theorem e_30 : EH 30 = EP 0 := tab_eq (z_h 30 (by decide)) (z_p 0 (by decide)) (by decide +kernel)
theorem e_pk : ∀ k, k < 12 → ∀ f, f < 11 → ∀ i, i < bd f → writeS (EP k) 0 ((k + 1) % 4) f i = EP (k + 1) f i := by decide +kernel
theorem e_5 : ∀ k, k < 13 → EP k 5 0 = k ∧ EP k 3 0 = 1 ∧ EP k 2 0 = 1 := by decide +kernel
theorem e_p (k : Nat) (hk : k < 12) : writeS (EP k) 0 ((k + 1) % 4) = EP (k + 1) := tab_eq (ZA_write (z_p k (by omega)) (by decide) (by rw [(e_5 k (by omega)).1]; exact hk)) (z_p (k + 1) (by omega)) (e_pk k hk)
theorem e_go : goC (EP 12) 0 6 0 = 12 ∧ goC (EP 12) 0 6 3 = 12 ∧ cntN (letB (goC (EP 12) 0) (mostN (goC (EP 12) 0) 4) 2) (goC (EP 12) 0 6 (mostN (goC (EP 12) 0) 4)) = 3 := by decide +kernel
