/-! ===== the changes, each case for itself ===== -/
abbrev rfu (N : Nat) (O : OT) (w d : Int32) : Option (Int32 × OT) := bdO (mX2_refuse N O w d) (fun v O2 => some (v, O2))
section XC
variable {N B : Nat} {A : AT} {O : OT}
theorem x_dusk_off {p : Int32} (w : p < 0 ∨ nI 5 ≤ p) : mX2_bringDusk N O p = some (-1, O) := by
  unfold mX2_bringDusk
  rw [c2_noCamp_y w, bdP_n, if_neg (show ¬ (1 : Int32) = 0 by decide)]
theorem x_dusk_z {c : Nat} (h : St B A) (hb : B + 20000 < 2 ^ 30) (ho : O 0 = pcK A) (hc : c < 5) (h3 : A 3 c = 0) : mX2_bringDusk N O (nI c) = rfu N O 1 (nI c) := by
  have hlt : Lt A := h.ltA (by omega)
  unfold mX2_bringDusk
  rw [c2_noCamp_n hc, bdP_n, if_pos rfl, ho, rdA_n hc (by decide), pcK_at (f := 3) (by decide), ite_z (hlt _ _), if_pos h3]
theorem x_dusk_c {c : Nat} (h : St B A) (hb : B + 20000 < 2 ^ 30) (ho : O 0 = pcK A) (hc : c < 5) (h3 : A 3 c = 1) (h2 : A 2 c = 1) : mX2_bringDusk N O (nI c) = rfu N O 2 (nI (A 0 c)) := by
  have hlt : Lt A := h.ltA (by omega)
  unfold mX2_bringDusk
  rw [c2_noCamp_n hc, bdP_n, if_pos rfl, ho, rdA_n hc (by decide), pcK_at (f := 3) (by decide), ite_z (hlt _ _), if_neg (by omega), rdA_n hc (by decide), pcK_at (f := 2) (by decide), ite_o (hlt _ _), if_pos h2, rdA_n hc (by decide), pcK_at (f := 0) (by decide)]
theorem x_dusk_k {c : Nat} (hN : 1400 ≤ N) (h : St B A) (hb : B + 20000 < 2 ^ 30) (ho : O 0 = pcK A) (hc : c < 5) (h3 : A 3 c = 1) (h2 : A 2 c = 0) : mX2_bringDusk N O (nI c) = some (nI (ask A c).1, oset O 0 (pcK (ask A c).2)) := by
  have hlt : Lt A := h.ltA (by omega)
  have hB := h.2.2.1
  unfold mX2_bringDusk
  rw [c2_noCamp_n hc, bdP_n, if_pos rfl, ho, rdA_n hc (by decide), pcK_at (f := 3) (by decide), ite_z (hlt _ _), if_neg (by omega), rdA_n hc (by decide), pcK_at (f := 2) (by decide), ite_o (hlt _ _), if_neg (by omega), c0_ask (by omega) hc hlt (by have := hB.b0 c; omega) (by have := hB.b10 0; omega) h.l12, bdE_n, inO_n]
theorem x_write_off {p q : Int32} (w : p < 0 ∨ nI 5 ≤ p) : mX2_writePage N O p q = some (-1, O) := by
  unfold mX2_writePage fX2_writePage_14
  rw [c2_noCamp_y w, bdP_n, if_neg (show ¬ (1 : Int32) = 0 by decide)]
theorem x_write_offL {c : Nat} {q : Int32} (hc : c < 5) (w : q < 0 ∨ nI 4 ≤ q) : mX2_writePage N O (nI c) q = some (-1, O) := by
  unfold mX2_writePage fX2_writePage_14
  rw [c2_noCamp_n hc, bdP_n, if_pos rfl, c2_noLetter_y w, bdP_n, if_neg (show ¬ (1 : Int32) = 0 by decide)]
theorem x_write_z {c x : Nat} (h : St B A) (hb : B + 20000 < 2 ^ 30) (ho : O 0 = pcK A) (hc : c < 5) (hx : x < 4) (h3 : A 3 c = 0) : mX2_writePage N O (nI c) (nI x) = rfu N O 1 (nI c) := by
  have hlt : Lt A := h.ltA (by omega)
  unfold mX2_writePage
  rw [c2_noCamp_n hc, bdP_n, if_pos rfl, c2_noLetter_n hx, bdP_n, if_pos rfl, ho, rdA_n hc (by decide), pcK_at (f := 3) (by decide), ite_z (hlt _ _), if_pos h3]
theorem x_write_c {c x : Nat} (h : St B A) (hb : B + 20000 < 2 ^ 30) (ho : O 0 = pcK A) (hc : c < 5) (hx : x < 4) (h3 : A 3 c = 1) (h2 : A 2 c = 0) : mX2_writePage N O (nI c) (nI x) = rfu N O 2 (nI (A 0 c)) := by
  have hlt : Lt A := h.ltA (by omega)
  unfold mX2_writePage
  rw [c2_noCamp_n hc, bdP_n, if_pos rfl, c2_noLetter_n hx, bdP_n, if_pos rfl, ho, rdA_n hc (by decide), pcK_at (f := 3) (by decide), ite_z (hlt _ _), if_neg (by omega), rdA_n hc (by decide), pcK_at (f := 2) (by decide), ite_z (hlt _ _), if_pos h2, rdA_n hc (by decide), pcK_at (f := 0) (by decide)]
theorem x_write_f {c x : Nat} (h : St B A) (hb : B + 20000 < 2 ^ 30) (ho : O 0 = pcK A) (hc : c < 5) (hx : x < 4) (h3 : A 3 c = 1) (h2 : A 2 c = 1) (h5 : A 5 c = 12) : mX2_writePage N O (nI c) (nI x) = rfu N O 3 12 := by
  have hlt : Lt A := h.ltA (by omega)
  unfold mX2_writePage
  rw [c2_noCamp_n hc, bdP_n, if_pos rfl, c2_noLetter_n hx, bdP_n, if_pos rfl, ho, rdA_n hc (by decide), pcK_at (f := 3) (by decide), ite_z (hlt _ _), if_neg (by omega), rdA_n hc (by decide), pcK_at (f := 2) (by decide), ite_z (hlt _ _), if_neg (by omega), rdA_n hc (by decide), pcK_at (f := 5) (by decide), h5, if_neg (show ¬ nI 12 < 12 by decide)]
theorem x_write_k {c x : Nat} (h : St B A) (hb : B + 20000 < 2 ^ 30) (ho : O 0 = pcK A) (hc : c < 5) (hx : x < 4) (h3 : A 3 c = 1) (h2 : A 2 c = 1) (h5 : A 5 c < 12) : mX2_writePage N O (nI c) (nI x) = some (nI (A 5 c + 1), oset O 0 (pcK (writeS A c x))) := by
  have hlt : Lt A := h.ltA (by omega)
  unfold mX2_writePage
  rw [c2_noCamp_n hc, bdP_n, if_pos rfl, c2_noLetter_n hx, bdP_n, if_pos rfl, ho, rdA_n hc (by decide), pcK_at (f := 3) (by decide), ite_z (hlt _ _), if_neg (by omega), rdA_n hc (by decide), pcK_at (f := 2) (by decide), ite_z (hlt _ _), if_neg (by omega), rdA_n hc (by decide), pcK_at (f := 5) (by decide), show (12 : Int32) = nI 12 from rfl, ite_lt (hlt _ _) (by decide), if_pos h5, c0_addPage hc h5, bdE_n, inO_n]
theorem x_march_off {p : Int32} (w : p < 0 ∨ nI 5 ≤ p) : mX2_sendCaptain N O p = some (-1, O) := by
  unfold mX2_sendCaptain
  rw [c2_noCamp_y w, bdP_n, if_neg (show ¬ (1 : Int32) = 0 by decide)]
theorem x_march_z {c : Nat} (h : St B A) (hb : B + 20000 < 2 ^ 30) (ho : O 0 = pcK A) (hc : c < 5) (h3 : A 3 c = 0) : mX2_sendCaptain N O (nI c) = rfu N O 1 (nI c) := by
  have hlt : Lt A := h.ltA (by omega)
  unfold mX2_sendCaptain
  rw [c2_noCamp_n hc, bdP_n, if_pos rfl, ho, rdA_n hc (by decide), pcK_at (f := 3) (by decide), ite_z (hlt _ _), if_pos h3]
theorem x_march_c {c : Nat} (h : St B A) (hb : B + 20000 < 2 ^ 30) (ho : O 0 = pcK A) (hc : c < 5) (h3 : A 3 c = 1) (h2 : A 2 c = 0) : mX2_sendCaptain N O (nI c) = rfu N O 2 (nI (A 0 c)) := by
  have hlt : Lt A := h.ltA (by omega)
  unfold mX2_sendCaptain
  rw [c2_noCamp_n hc, bdP_n, if_pos rfl, ho, rdA_n hc (by decide), pcK_at (f := 3) (by decide), ite_z (hlt _ _), if_neg (by omega), rdA_n hc (by decide), pcK_at (f := 2) (by decide), ite_z (hlt _ _), if_pos h2, rdA_n hc (by decide), pcK_at (f := 0) (by decide)]
theorem x_march_k {c : Nat} (hN : 1400 ≤ N) (h : St B A) (hb : B + 20000 < 2 ^ 30) (ho : O 0 = pcK A) (hc : c < 5) (h3 : A 3 c = 1) (h2 : A 2 c = 1) : mX2_sendCaptain N O (nI c) = some (nI (goC A c 6 c), oset O 0 (pcK (goC A c))) := by
  have hlt : Lt A := h.ltA (by omega)
  unfold mX2_sendCaptain
  rw [c2_noCamp_n hc, bdP_n, if_pos rfl, ho, rdA_n hc (by decide), pcK_at (f := 3) (by decide), ite_z (hlt _ _), if_neg (by omega), rdA_n hc (by decide), pcK_at (f := 2) (by decide), ite_z (hlt _ _), if_neg (by omega), c0_goRound (by omega) hc h (by omega), bdE_n, inO_n, oset_eq, rdA_n hc (by decide), pcK_at (f := 6) (by decide)]
theorem x_road_off1 {p q s : Int32} (w : p < 0 ∨ nI 5 ≤ p) : mX2_turnRoad N O p q s = some (-1, O) := by
  unfold mX2_turnRoad fX2_turnRoad_14
  rw [c2_noCamp_y w, bdP_n, if_neg (show ¬ (1 : Int32) = 0 by decide)]
theorem x_road_off2 {a : Nat} {q s : Int32} (ha : a < 5) (w : q < 0 ∨ nI 5 ≤ q) : mX2_turnRoad N O (nI a) q s = some (-1, O) := by
  unfold mX2_turnRoad fX2_turnRoad_14
  rw [c2_noCamp_n ha, bdP_n, if_pos rfl, c2_noCamp_y w, bdP_n, if_neg (show ¬ (1 : Int32) = 0 by decide)]
theorem x_road_offS {a b : Nat} {s : Int32} (ha : a < 5) (hb5 : b < 5) (w : s < 0 ∨ nI 2 ≤ s) : mX2_turnRoad N O (nI a) (nI b) s = some (-2, O) := by
  unfold mX2_turnRoad
  rw [c2_noCamp_n ha, bdP_n, if_pos rfl, c2_noCamp_n hb5, bdP_n, if_pos rfl, c2_noSwitch_y w, bdP_n, if_neg (show ¬ (1 : Int32) = 0 by decide)]
theorem x_road_s {a v : Nat} (ha : a < 5) (hv : v < 2) : mX2_turnRoad N O (nI a) (nI a) (nI v) = rfu N O 4 (nI a) := by
  unfold mX2_turnRoad
  rw [c2_noCamp_n ha, bdP_n, if_pos rfl, bdP_n, if_pos rfl, c2_noSwitch_n hv, bdP_n, if_pos rfl, if_pos rfl]
theorem x_road_v {a b v : Nat} (h : St B A) (hb : B + 20000 < 2 ^ 30) (ho : O 0 = pcK A) (ha : a < 5) (hb5 : b < 5) (hab : a ≠ b) (hv : v < 2) (h9 : A 9 (a * 5 + b) = v) : mX2_turnRoad N O (nI a) (nI b) (nI v) = rfu N O 5 (nI v) := by
  have hlt : Lt A := h.ltA (by omega)
  unfold mX2_turnRoad
  rw [c2_noCamp_n ha, bdP_n, if_pos rfl, c2_noCamp_n hb5, bdP_n, if_pos rfl, c2_noSwitch_n hv, bdP_n, if_pos rfl, ite_eq (by omega) (by omega), if_neg hab, ho, i5, nmul, nadd, rdA_n (by omega) (by decide), pcK_at (f := 9) (by decide), ite_eq (hlt _ _) (by omega), if_pos h9]
theorem x_road_k {a b v : Nat} (hN : 1400 ≤ N) (h : St B A) (hb : B + 20000 < 2 ^ 30) (ho : O 0 = pcK A) (ha : a < 5) (hb5 : b < 5) (hab : a ≠ b) (hv : v < 2) (h9 : A 9 (a * 5 + b) ≠ v) : mX2_turnRoad N O (nI a) (nI b) (nI v) = some (nI (sumN (roadS A a b v 9) 25 / 2), oset O 0 (pcK (roadS A a b v))) := by
  have hlt : Lt A := h.ltA (by omega)
  have hs := St_road h ha hb5 hab hv
  have e2 : fset (fset (pcK A) 9 (a * 5 + b) (nI v)) 9 (b * 5 + a) (nI v) = pcK (roadS A a b v) := by rw [fset_pcK (by decide), fset_pcK (by decide)]; rfl
  unfold mX2_turnRoad
  rw [c2_noCamp_n ha, bdP_n, if_pos rfl, c2_noCamp_n hb5, bdP_n, if_pos rfl, c2_noSwitch_n hv, bdP_n, if_pos rfl, ite_eq (by omega) (by omega), if_neg hab, ho, i5, nmul, nadd, rdA_n (by omega) (by decide), pcK_at (f := 9) (by decide), ite_eq (hlt _ _) (by omega), if_neg h9, wrA_n (by omega) (by decide), inO_n, oset_eq, nmul, nadd, wrA_n (by omega) (by decide), e2, inO_n, oset_eq, oset_same, c0_openRoads (by omega) hs.2.2.1.b9, bdP_n]
theorem x_sleep_off {p s : Int32} (w : p < 0 ∨ nI 5 ≤ p) : mX2_turnCamp N O p s = some (-1, O) := by
  unfold mX2_turnCamp
  rw [c2_noCamp_y w, bdP_n, if_neg (show ¬ (1 : Int32) = 0 by decide)]
theorem x_sleep_offS {c : Nat} {s : Int32} (hc : c < 5) (w : s < 0 ∨ nI 2 ≤ s) : mX2_turnCamp N O (nI c) s = some (-2, O) := by
  unfold mX2_turnCamp
  rw [c2_noCamp_n hc, bdP_n, if_pos rfl, c2_noSwitch_y w, bdP_n, if_neg (show ¬ (1 : Int32) = 0 by decide)]
theorem x_sleep_v {c v : Nat} (h : St B A) (hb : B + 20000 < 2 ^ 30) (ho : O 0 = pcK A) (hc : c < 5) (hv : v < 2) (h3 : A 3 c = v) : mX2_turnCamp N O (nI c) (nI v) = rfu N O 5 (nI v) := by
  have hlt : Lt A := h.ltA (by omega)
  unfold mX2_turnCamp
  rw [c2_noCamp_n hc, bdP_n, if_pos rfl, c2_noSwitch_n hv, bdP_n, if_pos rfl, ho, rdA_n hc (by decide), pcK_at (f := 3) (by decide), ite_eq (hlt _ _) (by omega), if_pos h3]
theorem x_sleep_k {c v : Nat} (hN : 1400 ≤ N) (h : St B A) (hb : B + 20000 < 2 ^ 30) (ho : O 0 = pcK A) (hc : c < 5) (hv : v < 2) (h3 : A 3 c ≠ v) : mX2_turnCamp N O (nI c) (nI v) = some (nI (sumN (sleepS A c v 3) 5), oset O 0 (pcK (sleepS A c v))) := by
  have hlt : Lt A := h.ltA (by omega)
  have e2 : fset (fset (fset (pcK A) 3 c (nI v)) 2 c (nI 0)) 4 c (nI 0) = pcK (sleepS A c v) := by rw [fset_pcK (by decide), fset_pcK (by decide), fset_pcK (by decide)]; rfl
  unfold mX2_turnCamp
  rw [c2_noCamp_n hc, bdP_n, if_pos rfl, c2_noSwitch_n hv, bdP_n, if_pos rfl, ho, rdA_n hc (by decide), pcK_at (f := 3) (by decide), ite_eq (hlt _ _) (by omega), if_neg h3, wrA_n hc (by decide), inO_n, oset_eq, wrA_n hc (by decide), inO_n, oset_eq, wrA_n hc (by decide), show (0 : Int32) = nI 0 from rfl, e2, inO_n, oset_eq, oset_same, oset_same, c2_sumOf (g := sleepS A c v 3) (by omega) (by decide) (fun i _ => pcK_at (by decide)), bdP_n]
theorem x_pass_off {p : Int32} (w : p < 1 ∨ 30 < p) : mX2_passHours N O p = some (-2, O) := by
  unfold mX2_passHours fX2_passHours_11
  by_cases w1 : p < 1
  · rw [if_pos w1]
  · rw [if_neg w1, if_neg (Int32.not_le.mpr (w.resolve_left w1))]
theorem x_pass_k {z : Nat} (hN : 1400 ≤ N) (h : St B A) (hb : B + 20000 < 2 ^ 30) (ho : O 0 = pcK A) (hz : 1 ≤ z) (hz2 : z ≤ 30) : mX2_passHours N O (nI z) = some (nI (hoursN z A 10 1 - A 10 1), oset O 0 (pcK (hoursN z A))) := by
  obtain ⟨hs, hc⟩ := St_hours z B A h
  have e2 := c2_hours (N := N) (z := z) (x := O 0 10 1) (O := O) hN (by omega) z N 0 B A (by omega) (by omega) h (by omega)
  rw [oset_self ho, ho, pcK_at (by decide), nsub hc] at e2
  unfold mX2_passHours
  rw [if_neg (show ¬ nI z < 1 from nI_nlt (a := z) (b := 1) (by omega) (by omega)), if_pos (show nI z ≤ 30 from nI_le (b := 30) (by omega) (by decide)), ho, pcK_at (by decide)]
  exact e2
end XC
/-! how a change comes out: well, out of range, refused -/
def CE (B : Nat) (A : AT) (O : OT) (qq : Option (Int32 × OT)) : Option (Option (Int32 × Int32)) → Prop
  | none => ∃ (n : Nat) (A' : AT) (O' : OT), qq = some (nI n, O') ∧ n < 2 ^ 30 ∧ St (B + 10000) A' ∧ O' 0 = pcK A' ∧ ∀ k, k ≠ 0 → O' k = O k
  | some none => ∃ r : Int32, (r = -1 ∨ r = -2) ∧ qq = some (r, O)
  | some (some (w, d)) => ∃ O' : OT, qq = some (-3, O') ∧ (∀ k, k ≠ 12 → O' k = O k) ∧ O' 12 = fset (fset (fset (O 12) 0 4 w) 0 5 d) 0 6 (O 12 0 3)
theorem CE_ok {B n : Nat} {A A' : AT} {O : OT} {qq : Option (Int32 × OT)} (e : qq = some (nI n, oset O 0 (pcK A'))) (hn : n < 2 ^ 30) (hs : St (B + 10000) A') : CE B A O qq none := by
  show ∃ (n : Nat) (A' : AT) (O' : OT), qq = some (nI n, O') ∧ n < 2 ^ 30 ∧ St (B + 10000) A' ∧ O' 0 = pcK A' ∧ ∀ k, k ≠ 0 → O' k = O k
  exact ⟨n, A', _, e, hn, hs, oset_eq _ _ _, fun k hk => oset_ne hk⟩
theorem CE_no {B : Nat} {A : AT} {O : OT} {qq : Option (Int32 × OT)} {r : Int32} (e : qq = some (r, O)) (hr : r = -1 ∨ r = -2) : CE B A O qq (some none) := by
  show ∃ r : Int32, (r = -1 ∨ r = -2) ∧ qq = some (r, O)
  exact ⟨r, hr, e⟩
theorem CE_r {N B : Nat} {A : AT} {O : OT} {qq : Option (Int32 × OT)} {w d : Int32} (e : qq = rfu N O w d) : CE B A O qq (some (some (w, d))) := by
  obtain ⟨O', o0, o1, o2⟩ := c2_refuse (N := N) (O := O) (w := w) (d := d)
  show ∃ O' : OT, qq = some (-3, O') ∧ (∀ k, k ≠ 12 → O' k = O k) ∧ O' 12 = fset (fset (fset (O 12) 0 4 w) 0 5 d) 0 6 (O 12 0 3)
  refine ⟨O', ?_, o1, o2⟩
  rw [e]
  show bdO (mX2_refuse N O w d) _ = _
  rw [o0, bdO_n]
theorem CH.toCE {B : Nat} {A : AT} {O : OT} {qq : Option (Int32 × OT)} (ho : O 0 = pcK A) (h : CH B A O qq) : ∃ oc, CE B A O qq oc := by
  obtain ⟨r, A', O', e, p0, po, hr⟩ := h
  rcases hr with ⟨⟨n, rfl, hn⟩, hs, c1⟩ | ⟨hr, rfl, c1⟩ | ⟨rfl, rfl, w, d, c1⟩
  · refine ⟨none, ?_⟩
    show ∃ (n : Nat) (A' : AT) (O' : OT), qq = some (nI n, O') ∧ n < 2 ^ 30 ∧ St (B + 10000) A' ∧ O' 0 = pcK A' ∧ ∀ k, k ≠ 0 → O' k = O k
    refine ⟨n, A', O', e, hn, hs, p0, fun k k0 => ?_⟩
    by_cases q0 : k = 12
    · rw [q0, c1]
    · exact po k k0 q0
  · have eO : O' = O := by
      funext k
      by_cases q0 : k = 0
      · rw [q0, p0, ho]
      · by_cases q1 : k = 12
        · rw [q1, c1]
        · exact po k q0 q1
    exact ⟨some none, CE_no (by rw [e, eO]) hr⟩
  · refine ⟨some (some (w, d)), ?_⟩
    show ∃ O' : OT, qq = some (-3, O') ∧ (∀ k, k ≠ 12 → O' k = O k) ∧ O' 12 = fset (fset (fset (O 12) 0 4 w) 0 5 d) 0 6 (O 12 0 3)
    refine ⟨O', e, fun k hk => ?_, c1⟩
    by_cases q0 : k = 0
    · rw [q0, p0, ho]
    · exact po k q0 hk
section KC
variable {N B : Nat} {A : AT} {L : List AT} {sv : Option AT} {O : OT} {f2 : OT → Option (Int32 × OT)}
theorem k_fail {r : Int32} (hr : r < 0) (h : KX B A L sv O) (e : f2 (oset O 1 (O 0)) = some (r, oset O 1 (O 0))) : ∃ O', chg N f2 O = some (r, O') ∧ KX B A L sv O' ∧ O' 12 = O 12 ∧ O' 13 = O 13 ∧ O' 14 = O 14 :=
  ⟨_, chg_neg hr e, KX_congr h (Nat.le_refl _) (oset_ne (by decide)) (fun k k1 _ => oset_ne (by omega)) (fun i _ => by rw [oset_ne (by decide)]), oset_ne (by decide), oset_ne (by decide), oset_ne (by decide)⟩
theorem k_ref {w d : Int32} (h : KX B A L sv O) (e : f2 (oset O 1 (O 0)) = rfu N (oset O 1 (O 0)) w d) : ∃ O', chg N f2 O = some (-3, O') ∧ KX B A L sv O' ∧ RE w d (-4) O' ∧ O' 13 = O 13 ∧ O' 14 = O 14 := by
  obtain ⟨O', o0, o1, o2⟩ := c2_refuse (N := N) (O := oset O 1 (O 0)) (w := w) (d := d)
  have n12 : oset O 1 (O 0) 12 = O 12 := oset_ne (by decide)
  refine ⟨O', chg_neg (by decide) ?_, KX_congr h (Nat.le_refl _) (by rw [o1 0 (by decide), oset_ne (by decide)]) (fun k k1 k2 => by rw [o1 k (by omega), oset_ne (by omega)]) (fun i hi => by rw [o2, n12, fset_eq, pk_un (by omega), fset_eq, pk_un (by omega), fset_eq, pk_un (by omega)]), ⟨?_, ?_, ?_⟩, by rw [o1 13 (by decide), oset_ne (by decide)], by rw [o1 14 (by decide), oset_ne (by decide)]⟩
  · rw [e]
    show bdO (mX2_refuse N (oset O 1 (O 0)) w d) _ = _
    rw [o0, bdO_n]
  · rw [o2, fset_eq, pk_un (by decide), fset_eq, pk_un (by decide), fset_eq, pk_us]
  · rw [o2, fset_eq, pk_un (by decide), fset_eq, pk_us]
  · rw [o2, fset_eq, pk_us, n12, h.2.2.2.2.2.2]
theorem k_ok {n : Nat} {A' : AT} {O2 : OT} (h : KX B A L sv O) (e : f2 (oset O 1 (O 0)) = some (nI n, O2)) (hn : n < 2 ^ 30) (hs : St (B + 10000) A') (p0 : O2 0 = pcK A') (po : ∀ k, k ≠ 0 → O2 k = oset O 1 (O 0) k) : ∃ O', chg N f2 O = some (nI n, O') ∧ KX (B + 10000) A' ((A :: L).take 8) sv O' ∧ O' 13 = O 13 ∧ O' 14 = O 14 := by
  have nk : ∀ k, k ≠ 1 → oset O 1 (O 0) k = O k := fun k hk => oset_ne hk
  have ok : ∀ k, k ≠ 0 → k ≠ 1 → O2 k = O k := fun k k0 k1 => by rw [po k k0, nk k k1]
  have hk : KX (B + 10000) A L sv (oset O2 0 (pcK A)) := KX_congr h (by omega) (by rw [oset_eq, h.now]) (fun k k1 k2 => by rw [oset_ne (by omega), ok k (by omega) (by omega)]) (fun i _ => by rw [oset_ne (by decide), ok 12 (by decide) (by decide)])
  have hk2 : KX (B + 10000) A' L sv O2 := by
    obtain ⟨g1, g2, g3, g4, ⟨l, r1, r2, r3, r4, r5⟩, g6, g7⟩ := hk
    rw [oset_ne (by decide)] at r3 r4 g6 g7
    refine ⟨hs, g2, fun X hX => ?_, p0, ⟨l, r1, r2, r3, r4, fun j X hX => ?_⟩, g6, g7⟩
    · have := g3 X hX
      rw [oset_ne (by decide)] at this
      exact this
    · have := r5 j X hX
      rw [oset_ne (by omega)] at this
      exact this
  obtain ⟨O3, g1, g2, g3, g4⟩ := k_fin (N := N) (A := A) (nI_pos' (n := n) (by omega)) hk2 (h.st.mono (by omega)) (by rw [po 1 (by decide), oset_eq, h.now])
  refine ⟨O3, ?_, g2, by rw [g3 13 (Or.inr (Nat.le_refl _)), ok 13 (by decide) (by decide)], by rw [g3 14 (Or.inr (by decide)), ok 14 (by decide) (by decide)]⟩
  unfold chg
  rw [inO_n, e, bdO_n, g1, bdO_n]
/-- what becomes of the state, and what the answer may be -/
def CP (P : Int32 → Prop) (B : Nat) (A : AT) (L : List AT) (sv : Option AT) (O : OT) (qq : Option (Int32 × OT)) : Prop := ∃ (r : Int32) (O' : OT), qq = some (r, O') ∧ P r ∧ O' 13 = O 13 ∧ O' 14 = O 14 ∧ ((∃ n A', r = nI n ∧ n < 2 ^ 30 ∧ KX (B + 10000) A' ((A :: L).take 8) sv O') ∨ (r < 0 ∧ KX (B + 10000) A L sv O'))
theorem CO.toCP {qq : Option (Int32 × OT)} (h : CO B A L sv O qq) : CP (fun _ => True) B A L sv O qq := by
  obtain ⟨r, O', e, h1, h2, h3⟩ := h
  exact ⟨r, O', e, True.intro, h1, h2, h3⟩
theorem k_CE {oc : Option (Option (Int32 × Int32))} (h : KX B A L sv O) (hoc : oc ≠ some none) (hc : CE B A (oset O 1 (O 0)) (f2 (oset O 1 (O 0))) oc) : CP (fun r => 0 ≤ r ∨ r = -3) B A L sv O (chg N f2 O) := by
  cases oc with
  | none =>
    obtain ⟨n, A', O2, e, hn, hs, p0, po⟩ : ∃ (n : Nat) (A' : AT) (O' : OT), f2 (oset O 1 (O 0)) = some (nI n, O') ∧ n < 2 ^ 30 ∧ St (B + 10000) A' ∧ O' 0 = pcK A' ∧ ∀ k, k ≠ 0 → O' k = oset O 1 (O 0) k := hc
    obtain ⟨O', h1, h2, h3, h4⟩ := k_ok (N := N) h e hn hs p0 po
    exact ⟨nI n, O', h1, Or.inl (nI_pos' (by omega)), h3, h4, Or.inl ⟨n, A', rfl, hn, h2⟩⟩
  | some o2 =>
    cases o2 with
    | none => exact absurd rfl hoc
    | some wd =>
      obtain ⟨w, d⟩ := wd
      obtain ⟨O', e, po, c1⟩ : ∃ O' : OT, f2 (oset O 1 (O 0)) = some (-3, O') ∧ (∀ k, k ≠ 12 → O' k = oset O 1 (O 0) k) ∧ O' 12 = fset (fset (fset (oset O 1 (O 0) 12) 0 4 w) 0 5 d) 0 6 (oset O 1 (O 0) 12 0 3) := hc
      have n12 : oset O 1 (O 0) 12 = O 12 := oset_ne (by decide)
      have hk : KX B A L sv O' := KX_congr h (Nat.le_refl _) (by rw [po 0 (by decide), oset_ne (by decide)]) (fun k k1 k2 => by rw [po k (by omega), oset_ne (by omega)]) (fun i hi => by rw [c1, n12, fset_eq, pk_un (by omega), fset_eq, pk_un (by omega), fset_eq, pk_un (by omega)])
      exact ⟨-3, O', chg_neg (by decide) e, Or.inr rfl, by rw [po 13 (by decide), oset_ne (by decide)], by rw [po 14 (by decide), oset_ne (by decide)], Or.inr ⟨by decide, KX_congr hk (by omega) rfl (fun _ _ _ => rfl) (fun _ _ => rfl)⟩⟩
end KC
/-! in range, a change goes well or is refused -/
theorem IN_r {N B : Nat} {A : AT} {O : OT} {qq : Option (Int32 × OT)} {w d : Int32} (e : qq = rfu N O w d) : ∃ oc, oc ≠ some none ∧ CE B A O qq oc := ⟨some (some (w, d)), fun h => (nomatch h), CE_r e⟩
section IN
variable {N B : Nat} {A : AT} {O : OT}
theorem in_dusk {c : Nat} (hN : 1400 ≤ N) (h : St B A) (hb : B + 20000 < 2 ^ 30) (ho : O 0 = pcK A) (hc : c < 5) : ∃ oc, oc ≠ some none ∧ CE B A O (mX2_bringDusk N O (nI c)) oc := by
  have hB := h.2.2.1
  have b3 := hB.b3 c
  have b2 := hB.b2 c
  by_cases h3 : A 3 c = 0
  · exact IN_r (x_dusk_z h hb ho hc h3)
  by_cases h2 : A 2 c = 1
  · exact IN_r (x_dusk_c h hb ho hc (by omega) h2)
  exact ⟨none, fun e => (nomatch e), CE_ok (x_dusk_k hN h hb ho hc (by omega) (by omega)) (by have := ask_v (c := c) (A := A); omega) ((St_ask h hc (by omega) (by omega)).mono (by omega))⟩
theorem in_write {c x : Nat} (h : St B A) (hb : B + 20000 < 2 ^ 30) (ho : O 0 = pcK A) (hc : c < 5) (hx : x < 4) : ∃ oc, oc ≠ some none ∧ CE B A O (mX2_writePage N O (nI c) (nI x)) oc := by
  have hB := h.2.2.1
  have b3 := hB.b3 c
  have b2 := hB.b2 c
  have b5 := hB.b5 c
  by_cases h3 : A 3 c = 0
  · exact IN_r (x_write_z h hb ho hc hx h3)
  by_cases h2 : A 2 c = 0
  · exact IN_r (x_write_c h hb ho hc hx (by omega) h2)
  by_cases h5 : A 5 c = 12
  · exact IN_r (x_write_f h hb ho hc hx (by omega) (by omega) h5)
  exact ⟨none, fun e => (nomatch e), CE_ok (x_write_k h hb ho hc hx (by omega) (by omega) (by omega)) (by omega) ((St_write h hc hx (by omega) (by omega)).mono (by omega))⟩
theorem in_march {c : Nat} (hN : 1400 ≤ N) (h : St B A) (hb : B + 20000 < 2 ^ 30) (ho : O 0 = pcK A) (hc : c < 5) : ∃ oc, oc ≠ some none ∧ CE B A O (mX2_sendCaptain N O (nI c)) oc := by
  have hB := h.2.2.1
  have b3 := hB.b3 c
  have b2 := hB.b2 c
  by_cases h3 : A 3 c = 0
  · exact IN_r (x_march_z h hb ho hc h3)
  by_cases h2 : A 2 c = 0
  · exact IN_r (x_march_c h hb ho hc (by omega) h2)
  have hs := St_go h hc (show A 2 c = 1 by omega)
  exact ⟨none, fun e => (nomatch e), CE_ok (x_march_k hN h hb ho hc (by omega) (by omega)) (by have := hs.2.2.1.b6 c; omega) (hs.mono (by omega))⟩
theorem in_road {a b v : Nat} (hN : 1400 ≤ N) (h : St B A) (hb : B + 20000 < 2 ^ 30) (ho : O 0 = pcK A) (ha : a < 5) (hb5 : b < 5) (hv : v < 2) : ∃ oc, oc ≠ some none ∧ CE B A O (mX2_turnRoad N O (nI a) (nI b) (nI v)) oc := by
  by_cases hab : a = b
  · subst hab
    exact IN_r (x_road_s ha hv)
  by_cases h9 : A 9 (a * 5 + b) = v
  · exact IN_r (x_road_v h hb ho ha hb5 hab hv h9)
  have hs := St_road h ha hb5 hab hv
  have hsm := sumN_le hs.2.2.1.b9 25
  exact ⟨none, fun e => (nomatch e), CE_ok (x_road_k hN h hb ho ha hb5 hab hv h9) (by omega) (hs.mono (by omega))⟩
theorem in_sleep {c v : Nat} (hN : 1400 ≤ N) (h : St B A) (hb : B + 20000 < 2 ^ 30) (ho : O 0 = pcK A) (hc : c < 5) (hv : v < 2) : ∃ oc, oc ≠ some none ∧ CE B A O (mX2_turnCamp N O (nI c) (nI v)) oc := by
  by_cases h3 : A 3 c = v
  · exact IN_r (x_sleep_v h hb ho hc hv h3)
  have hs := St_sleep h hc hv
  have hsm := sumN_le hs.2.2.1.b3 5
  exact ⟨none, fun e => (nomatch e), CE_ok (x_sleep_k hN h hb ho hc hv h3) (by omega) (hs.mono (by omega))⟩
theorem in_pass {z : Nat} (hN : 1400 ≤ N) (h : St B A) (hb : B + 20000 < 2 ^ 30) (ho : O 0 = pcK A) (hz : 1 ≤ z) (hz2 : z ≤ 30) : ∃ oc, oc ≠ some none ∧ CE B A O (mX2_passHours N O (nI z)) oc := by
  obtain ⟨hs, -⟩ := St_hours z B A h
  have hbb := hs.2.2.1.b10 1
  exact ⟨none, fun e => (nomatch e), CE_ok (x_pass_k hN h hb ho hz hz2) (by omega) (hs.mono (by omega))⟩
end IN
