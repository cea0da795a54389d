/-! ===== lines ===== -/
def LL (n : Nat) (K M : KT) : Prop := K 1 0 = nI n ∧ M 8 2 = nI n ∧ n ≤ 127 ∧ ∀ i, i < n → M 5 i = K 0 i ∧ ∃ t, 32 ≤ t ∧ t ≤ 126 ∧ K 0 i = nI t
def LF (M M' : KT) : Prop := (∀ j, j ≠ 5 → j ≠ 8 → M' j = M j) ∧ ∀ i, i ≠ 2 → M' 8 i = M 8 i
theorem LF.trans {A B C : KT} (h : LF A B) (g : LF B C) : LF A C := ⟨fun j j5 j8 => (g.1 j j5 j8).trans (h.1 j j5 j8), fun i hi => (g.2 i hi).trans (h.2 i hi)⟩
theorem LF.rfl {A : KT} : LF A A := ⟨fun _ _ _ => Eq.refl _, fun _ _ => Eq.refl _⟩
def cM (M : KT) (c : Nat) : KT := fset (fset M 8 2 (M 8 2 + 1)) 5 (M 8 2).toNatClampNeg (nI c)
theorem cM_n {n c : Nat} {M : KT} (h : M 8 2 = nI n) (hn : n < 200) : cM M c = fset (fset M 8 2 (nI (n + 1))) 5 n (nI c) := by
  unfold cM
  rw [h, nI_clamp (by omega), show nI n + 1 = nI (n + 1) from nadd n 1]
theorem r4_signs {N n c : Nat} {M : KT} (h : M 8 2 = nI n) (hn : n < 200) (hc : c < 65536) : mX3_signs N M (nI c) = some (0, cM M c) := by
  unfold mX3_signs
  rw [ptF_n, h, wrA_n hn (by decide), narc_n hc, cM_n h hn, show nI n + 1 = nI (n + 1) from nadd n 1]
theorem cM_LF {n c : Nat} {M : KT} (h : M 8 2 = nI n) (hn : n < 200) : LF M (cM M c) := by
  rw [cM_n h hn]
  exact ⟨fun j j5 j8 => by rw [fset_ne j5, fset_ne j8], fun i hi => by rw [fset_ne (by decide), fset_eq, pk_un hi]⟩
theorem cM_2 {n c : Nat} {M : KT} (h : M 8 2 = nI n) (hn : n < 200) : cM M c 8 2 = nI (n + 1) := by rw [cM_n h hn, fset_ne (by decide), fset_eq, pk_us]
theorem cM_5 {n c : Nat} {M : KT} (h : M 8 2 = nI n) (hn : n < 200) : cM M c 5 = upd (M 5) n (nI c) := by rw [cM_n h hn, fset_eq, fset_ne (by decide)]
theorem cK_1 {n c : Nat} {K : KT} (h : K 1 0 = nI n) : apS K (nI c) 1 0 = nI (n + 1) := by
  unfold apS
  rw [fset_eq, pk_us, h]
  exact nadd n 1
theorem cK_0 {n c : Nat} {K : KT} (h : K 1 0 = nI n) (hn : n < 200) : apS K (nI c) 0 = upd (K 0) n (nI c) := by
  unfold apS
  rw [fset_ne (show (0 : Nat) ≠ 1 by decide), fset_eq, h, nI_clamp (by omega)]
theorem c4_sign {n c : Nat} {K : KT} (h : K 1 0 = nI n) (hn : n < 127) (hc : c < 128) : s_cC K (nI c) = some (apS K (nI c)) := by
  unfold s_cC
  rw [h, if_pos ⟨⟨nI_pos' (by omega), nI_lt (b := 128) (by omega) (by decide)⟩, nI_pos' (by omega), nI_lt (b := 127) (by omega) (by decide)⟩]
theorem LL_c {n c : Nat} {K M : KT} (h : LL n K M) (hn : n < 127) (h1 : 32 ≤ c) (h2 : c ≤ 126) : LL (n + 1) (apS K (nI c)) (cM M c) := by
  obtain ⟨a1, a2, a3, a4⟩ := h
  refine ⟨cK_1 a1, cM_2 a2 (by omega), by omega, fun i hi => ?_⟩
  rw [cK_0 a1 (by omega), cM_5 a2 (by omega)]
  by_cases q : i = n
  · rw [q, pk_us, pk_us]
    exact ⟨rfl, c, h1, h2, rfl⟩
  · rw [pk_un q, pk_un q]
    exact a4 i (by omega)
/-! numbers -/
def iK (K : KT) (v : Nat) : KT := fset (rset K 0 (dput (K 0) ((K 1 0).toNatClampNeg + sb_dg v) v)) 1 0 (nI ((K 1 0).toNatClampNeg + sb_dg v))
def iM : Nat → KT → Nat → KT
  | 0, M, _ => M
  | d + 1, M, v => if v ≤ 9 then cM M (48 + v % 10) else cM (iM d M (v / 10)) (48 + v % 10)
theorem dg10 {v : Nat} (h : 10 ≤ v) (hv : v < 2 ^ 31) : sb_dg v = sb_dg (v / 10) + 1 := by
  unfold sb_dg
  (repeat' split) <;> omega
theorem c4_num {n v : Nat} {K : KT} (h : K 1 0 = nI n) (hv : v < 2 ^ 31) (hn : n + sb_dg v ≤ 127) : s_cI K (nI v) = some (iK K v) := by
  unfold s_cI iK
  rw [h, nI_clamp (by omega), nI_clamp hv, if_pos ⟨nI_pos' hv, nI_pos' (by omega), hn⟩]
theorem iK_1 {n v : Nat} {K : KT} (h : K 1 0 = nI n) (hn : n < 200) : iK K v 1 0 = nI (n + sb_dg v) := by
  unfold iK
  rw [fset_eq, pk_us, h, nI_clamp (by omega)]
theorem iK_0 {n v : Nat} {K : KT} (h : K 1 0 = nI n) (hn : n < 200) : iK K v 0 = dput (K 0) (n + sb_dg v) v := by
  unfold iK
  rw [fset_ne (by decide), rset_eq, h, nI_clamp (by omega)]
theorem iM_all : ∀ (d n v : Nat) (M : KT), 1 ≤ d → v < 10 ^ d → v < 2 ^ 31 → M 8 2 = nI n → n + sb_dg v ≤ 127 → iM d M v 8 2 = nI (n + sb_dg v) ∧ LF M (iM d M v) ∧ (∀ i, i < n → iM d M v 5 i = M 5 i) ∧ (∀ i, i < sb_dg v → iM d M v 5 (n + i) = nI (48 + v / 10 ^ (sb_dg v - 1 - i) % 10)) ∧ ∀ N, mX3_digitsOf N d M (nI v) = some (0, iM d M v) := by
  intro d
  induction d with
  | zero => intro n v M h0; exact absurd h0 (by decide)
  | succ d ih =>
    intro n v M _ hv hv2 h hn
    have hd := sb_dg_in v
    have hr : v % 10 < 10 := Nat.mod_lt _ (by decide)
    have last : ∀ (N n' : Nat) (M1 : KT), M1 8 2 = nI n' → n' < 127 → fX3_digitsOf_14 N M1 (nI v) = some (0, cM M1 (48 + v % 10)) := by
      intro N n' M1 h1 hn1
      unfold fX3_digitsOf_14
      rw [show (10 : Int32) = nI 10 from rfl, pk_rem hv2 (by decide) (by decide), show (48 : Int32) + nI (v % 10) = nI (48 + v % 10) from nadd 48 (v % 10), i2c_n _ (by omega), r4_signs h1 (by omega) (by omega), bdE_n]
    by_cases q : v ≤ 9
    · have e1 : iM (d + 1) M v = cM M (48 + v % 10) := if_pos q
      have ed : sb_dg v = 1 := dg_1 (by omega)
      rw [e1, ed]
      rw [ed] at hn
      refine ⟨cM_2 h (by omega), cM_LF h (by omega), fun i hi => by rw [cM_5 h (by omega), pk_un (by omega)], fun i hi => ?_, fun N => ?_⟩
      · rw [show i = 0 by omega, cM_5 h (by omega), Nat.add_zero, pk_us, show 1 - 1 - 0 = 0 from rfl, Nat.pow_zero, Nat.div_one]
      · unfold mX3_digitsOf
        rw [if_pos (show nI v ≤ 9 from nI_le (b := 9) q (by decide)), last N n M h (by omega)]
    · have e1 : iM (d + 1) M v = cM (iM d M (v / 10)) (48 + v % 10) := if_neg q
      have ed : sb_dg v = sb_dg (v / 10) + 1 := dg10 (by omega) hv2
      have hd0 : 1 ≤ d := by
        cases d with
        | zero => rw [Nat.pow_one] at hv; omega
        | succ d => omega
      rw [Nat.pow_succ] at hv
      obtain ⟨i1, i2, i3, i4, i5⟩ := ih n (v / 10) M hd0 (by omega) (by omega) h (by omega)
      rw [e1, ed]
      refine ⟨(cM_2 i1 (by omega)).trans (by rw [Nat.add_assoc]), i2.trans (cM_LF i1 (by omega)), fun i hi => by rw [cM_5 i1 (by omega), pk_un (by omega)]; exact i3 i hi, fun i hi => ?_, fun N => ?_⟩
      · rw [cM_5 i1 (by omega)]
        by_cases w : i = sb_dg (v / 10)
        · rw [w, pk_us, show sb_dg (v / 10) + 1 - 1 - sb_dg (v / 10) = 0 by omega, Nat.pow_zero, Nat.div_one]
        · rw [pk_un (by omega), i4 i (by omega), Nat.div_div_eq_div_mul, show 10 * 10 ^ (sb_dg (v / 10) - 1 - i) = 10 ^ (sb_dg (v / 10) + 1 - 1 - i) by rw [show sb_dg (v / 10) + 1 - 1 - i = sb_dg (v / 10) - 1 - i + 1 by omega, Nat.pow_succ, Nat.mul_comm]]
      · unfold mX3_digitsOf
        rw [if_neg (show ¬ nI v ≤ 9 from nI_ge (a := 9) (by omega) hv2), show nI v / 10 = nI (v / 10) from pk_div (d := 10) hv2 (by decide) (by decide), i5 N, bdE_n, last N _ _ i1 (by omega)]
theorem LL_i {n v : Nat} {K M : KT} (h : LL n K M) (hv : v < 10 ^ 9) (hn : n + 9 ≤ 127) : sb_dg v ≤ 9 ∧ LL (n + sb_dg v) (iK K v) (iM 12 M v) := by
  obtain ⟨a1, a2, a3, a4⟩ := h
  have hd9 : sb_dg v ≤ 9 := by
    unfold sb_dg
    (repeat' split) <;> omega
  obtain ⟨i1, i2, i3, i4, -⟩ := iM_all 12 n v M (by decide) (by omega) (by omega) a2 (by omega)
  refine ⟨hd9, iK_1 a1 (by omega), i1, by omega, fun i hi => ?_⟩
  rw [iK_0 a1 (by omega)]
  unfold dput
  by_cases q : i < n
  · rw [if_neg (by omega), i3 i q]
    exact a4 i q
  · have e := i4 (i - n) (by omega)
    rw [show n + (i - n) = i by omega] at e
    rw [if_pos (by omega), e, show n + sb_dg v - 1 - i = sb_dg v - 1 - (i - n) by omega]
    exact ⟨rfl, _, by omega, by omega, rfl⟩
theorem xo_0 {N c : Nat} {M : KT} {A : AT} (hm : M 0 = pcM A) (hc : c < 5) : mX3_of N M (nI c) 0 = some (nI (A 0 c)) := by
  rw [← rm_self hm]; exact x3_of0 hc
theorem xo_1 {N c : Nat} {M : KT} {A : AT} (hm : M 0 = pcM A) (hc : c < 5) : mX3_of N M (nI c) 1 = some (nI (A 1 c)) := by
  rw [← rm_self hm]; exact x3_of1 hc
theorem xo_2 {N c : Nat} {M : KT} {A : AT} (hm : M 0 = pcM A) (hc : c < 5) : mX3_of N M (nI c) 2 = some (nI (A 2 c)) := by
  rw [← rm_self hm]; exact x3_of2 hc
theorem xo_4 {N c : Nat} {M : KT} {A : AT} (hm : M 0 = pcM A) (hc : c < 5) : mX3_of N M (nI c) 4 = some (nI (A 4 c)) := by
  rw [← rm_self hm]; exact x3_of4 hc
theorem xo_5 {N c : Nat} {M : KT} {A : AT} (hm : M 0 = pcM A) (hc : c < 5) : mX3_of N M (nI c) 5 = some (nI (A 6 c)) := by
  rw [← rm_self hm]; exact x3_of5 hc
theorem xo_6 {N c : Nat} {M : KT} {A : AT} (hm : M 0 = pcM A) (hc : c < 5) : mX3_of N M (nI c) 6 = some (nI (A 5 c)) := by
  rw [← rm_self hm]; exact x3_of6 hc
theorem xo_aw {N c : Nat} {M : KT} {A : AT} (hm : M 0 = pcM A) (hc : c < 5) (h3 : A 3 c ≤ 1) : mX3_isAwake N M (nI c) = some (nI (bN (A 3 c = 1))) := by
  rw [← rm_self hm]; exact r0_isAwake hc h3
theorem xo_pT {N c p : Nat} {M : KT} {A : AT} (hm : M 0 = pcM A) (hc : c < 5) (hp : p < 12) : mX3_page N M (nI c) (nI p) 0 = some (nI (A 7 (c * 12 + p))) := by
  rw [← rm_self hm]; exact x3_pageT hc hp
theorem xo_pL {N c p : Nat} {M : KT} {A : AT} (hm : M 0 = pcM A) (hc : c < 5) (hp : p < 12) : mX3_page N M (nI c) (nI p) 1 = some (nI (A 8 (c * 12 + p))) := by
  rw [← rm_self hm]; exact x3_pageL hc hp
/-- one sign on both sides -/
theorem st_c {N n c : Nat} {K M : KT} (h : LL n K M) (hn : n < 127) (h1 : 32 ≤ c) (h2 : c ≤ 126) : ∃ K' M', s_cC K (nI c) = some K' ∧ mX3_signs N M (nI c) = some (0, M') ∧ LL (n + 1) K' M' ∧ LF M M' :=
  ⟨_, _, c4_sign h.1 hn (by omega), r4_signs h.2.1 (by omega) (by omega), LL_c h hn h1 h2, cM_LF h.2.1 (by omega)⟩
/-- one number on both sides -/
theorem st_i {N n v : Nat} {K M : KT} (h : LL n K M) (hv : v < 10 ^ 9) (hn : n + 9 ≤ 127) : ∃ d K' M', d ≤ 9 ∧ s_cI K (nI v) = some K' ∧ mX3_digitsOf N 12 M (nI v) = some (0, M') ∧ LL (n + d) K' M' ∧ LF M M' := by
  obtain ⟨d9, hL⟩ := LL_i h hv hn
  obtain ⟨-, i2, -, -, i5⟩ := iM_all 12 n v M (by decide) (by omega) (by omega) h.2.1 (by omega)
  exact ⟨sb_dg v, _, _, d9, c4_num h.1 (by omega) (by omega), i5 N, hL, i2⟩
theorem bdS_n {β : Type} {K : KT} {k : KT → Option β} : bdS (some K) k = k K := rfl
/-- both sides have a line of the same signs now -/
def LE2 (O : OT) (M : KT) (q2 : Option (Int32 × OT)) (q3 : Option (Int32 × KT)) : Prop := ∃ n K' M', n ≤ 127 ∧ q2 = some (nI n, oset O 14 K') ∧ q3 = some (nI n, M') ∧ LL n K' M' ∧ LF M M'
theorem LE2.of {O : OT} {M M1 : KT} {q2 : Option (Int32 × OT)} {q3 : Option (Int32 × KT)} (f : LF M M1) (h : LE2 O M1 q2 q3) : LE2 O M q2 q3 := by
  obtain ⟨n, K', M', h1, h2, h3, h4, h5⟩ := h
  exact ⟨n, K', M', h1, h2, h3, h4, f.trans h5⟩
theorem d_142 {N n c B : Nat} {A : AT} {O : OT} {K M : KT} (hA : St B A) (hb : B < 10 ^ 9) (ho : O 0 = pcK A) (hm : M 0 = pcM A) (hc : c < 5) (h : LL n K M) (hn : n + 10 ≤ 127) : LE2 O M (fX2_describe_142 N (oset O 14 K) (nI c)) (fX3_describe_101 N M (nI c)) := by
  obtain ⟨K1, M1, a1, a2, a3, a4⟩ := st_c (N := N) (c := 115) h (by omega) (by decide) (by decide)
  obtain ⟨d, K2, M2, b0, b1, b2, b3, b4⟩ := st_i (N := N) (v := A 4 c) a3 (by have := hA.2.2.1.b4 c; omega) (by omega)
  unfold fX2_describe_142 fX3_describe_101
  rw [oset_eq, show s_cC K 115 = _ from a1, bdS_n, inO_n, oset_same, oset_ne (show (0 : Nat) ≠ 14 by decide), ho, rdA_n hc (by decide), pcK_at (by decide), oset_eq, b1, bdS_n, inO_n, oset_same, oset_eq, show mX3_signs N M 115 = _ from a2, bdE_n, xo_4 (by rw [a4.1 0 (by decide) (by decide), hm]) hc, bdP_n, b2, bdE_n]
  unfold s_length
  rw [bdP_n, b3.1, b3.2.1]
  exact ⟨n + 1 + d, K2, M2, by omega, rfl, rfl, b3, a4.trans b4⟩
theorem d_71 {N n c B : Nat} {A : AT} {O : OT} {K M : KT} (hA : St B A) (hb : B < 10 ^ 9) (ho : O 0 = pcK A) (hm : M 0 = pcM A) (hc : c < 5) (h : LL n K M) (hn : n + 40 ≤ 127) : LE2 O M (fX2_describe_71 N (oset O 14 K) (nI c)) (fX3_describe_49 N M (nI c)) := by
  have hB := hA.2.2.1
  obtain ⟨K1, M1, a1, a2, a3, a4⟩ := st_c (N := N) (c := 58) h (by omega) (by decide) (by decide)
  obtain ⟨d, K2, M2, b0, b1, b2, b3, b4⟩ := st_i (N := N) (v := A 0 c) a3 (by have := hB.b0 c; omega) (by omega)
  obtain ⟨K3, M3, c1, c2, c3, c4⟩ := st_c (N := N) (c := 118) b3 (by omega) (by decide) (by decide)
  have f3 := (a4.trans b4).trans c4
  have m1 : M1 0 = pcM A := by rw [a4.1 0 (by decide) (by decide), hm]
  have m3 : M3 0 = pcM A := by rw [f3.1 0 (by decide) (by decide), hm]
  have h1 := hB.b1 c
  unfold fX2_describe_71 fX3_describe_49
  rw [oset_eq, show s_cC K 58 = _ from a1, bdS_n, inO_n, oset_same, oset_ne (show (0 : Nat) ≠ 14 by decide), ho, rdA_n hc (by decide), pcK_at (f := 0) (by decide), oset_eq, b1, bdS_n, inO_n, oset_same, oset_eq, show s_cC K2 118 = _ from c1, bdS_n, inO_n, oset_same, oset_ne (show (0 : Nat) ≠ 14 by decide), ho, rdA_n hc (by decide), pcK_v, ite_v (by omega), show mX3_signs N M 58 = _ from a2, bdE_n, xo_0 m1 hc, bdP_n, b2, bdE_n, show mX3_signs N M2 118 = _ from c2, bdE_n, xo_1 m3 hc, bdP_n, ite_z (by omega)]
  by_cases q : A 1 c = 0
  · obtain ⟨K4, M4, e1, e2, e3, e4⟩ := st_c (N := N) (c := 45) c3 (by omega) (by decide) (by decide)
    rw [if_pos q, if_pos q, oset_eq, show s_cC K3 45 = _ from e1, bdS_n, inO_n, oset_same, show mX3_signs N M3 45 = _ from e2, bdE_n]
    exact LE2.of (f3.trans e4) (d_142 hA hb ho (by rw [e4.1 0 (by decide) (by decide), m3]) hc e3 (by omega))
  · obtain ⟨d4, K4, M4, e0, e1, e2, e3, e4⟩ := st_i (N := N) (v := A 1 c - 1) c3 (by omega) (by omega)
    rw [if_neg q, if_neg q, rdA_n hc (by decide), pcK_v, pcV_n q, oset_eq, e1, bdS_n, inO_n, oset_same, bdP_n, show nI (A 1 c) - 1 = nI (A 1 c - 1) from nsub (b := 1) (by omega), e2, bdE_n]
    exact LE2.of (f3.trans e4) (d_142 hA hb ho (by rw [e4.1 0 (by decide) (by decide), m3]) hc e3 (by omega))
theorem d_48 {N n c B : Nat} {A : AT} {O : OT} {K M : KT} (hA : St B A) (hb : B < 10 ^ 9) (ho : O 0 = pcK A) (hm : M 0 = pcM A) (hc : c < 5) (h : LL n K M) (hn : n + 42 ≤ 127) : LE2 O M (fX2_describe_48 N (oset O 14 K) (nI c)) (fX3_describe_33 N M (nI c)) := by
  have hB := hA.2.2.1
  have h2 := hB.b2 c
  unfold fX2_describe_48 fX3_describe_33
  rw [oset_ne (show (0 : Nat) ≠ 14 by decide), ho, rdA_n hc (by decide), pcK_at (f := 2) (by decide), ite_o (by omega), xo_2 hm hc, bdP_n, ite_o (by omega)]
  by_cases q : A 2 c = 1
  · obtain ⟨K4, M4, e1, e2, e3, e4⟩ := st_c (N := N) (c := 67) h (by omega) (by decide) (by decide)
    rw [if_pos q, if_pos q, oset_eq, show s_cC K 67 = _ from e1, bdS_n, inO_n, oset_same, show mX3_signs N M 67 = _ from e2, bdE_n]
    exact LE2.of e4 (d_71 hA hb ho (by rw [e4.1 0 (by decide) (by decide), hm]) hc e3 (by omega))
  · rw [if_neg q, if_neg q]
    exact d_71 hA hb ho hm hc h (by omega)
/-- a line is begun -/
theorem LL_0 {n : Nat} {K M : KT} (h : K 1 0 = nI n) (hn : n < 2 ^ 31) : ∃ K', s_cL K 0 = some K' ∧ LL 0 K' (fset M 8 2 0) := by
  refine ⟨_, by unfold s_cL; rw [if_pos ⟨rfl, by rw [h]; exact nI_pos' hn⟩], ?_, ?_, by omega, fun i hi => absurd hi (by omega)⟩
  · rw [fset_eq, pk_us]; rfl
  · rw [fset_eq, pk_us]; rfl
theorem LF_0 {M : KT} : LF M (fset M 8 2 0) := ⟨fun j _ j8 => fset_ne j8, fun i hi => by rw [fset_eq, pk_un hi]⟩
theorem j_line {B : Nat} {A : AT} {O : OT} {M : KT} {q2 : Option (Int32 × OT)} {q3 : Option (Int32 × KT)} (hJ : JX B A O M) (h : LE2 O M q2 q3) : ∃ r O' M', q2 = some (r, O') ∧ q3 = some (r, M') ∧ J B O' M' := by
  obtain ⟨h1, h2, h3, h4, h5, h6, h7, h8⟩ := hJ
  obtain ⟨n, K', M', g1, g2, g3, ⟨l1, l2, l3, l4⟩, g5⟩ := h
  refine ⟨_, _, _, g2, g3, A, h1, by rw [oset_ne (by decide), h2], fun x _ => by rw [g5.1 0 (by decide) (by decide), h3], ?_, ?_, ?_, ?_, by rw [oset_ne (by decide)]; exact h8⟩
  · exact JQ_congr h4 (Nat.le_refl _) (fun k k1 k2 => oset_ne (by omega)) (fun i _ => by rw [oset_ne (by decide)]) (fun x _ => by rw [g5.1 3 (by decide) (by decide)]) (g5.1 4 (by decide) (by decide)) (fun i hi => g5.2 i (by omega))
  · exact JF_congr h5 (fun i _ _ => by rw [oset_ne (by decide)]) (fun i i1 i2 => g5.2 i (by omega))
  · exact JT_congr h6 (oset_ne (by decide)) (g5.1 6 (by decide) (by decide)) (g5.2 3 (by decide))
  · refine ⟨n, fun i => (K' 0 i).toNatClampNeg, by omega, ⟨by rw [oset_eq]; exact l1, l2⟩, fun i hi => ?_⟩
    obtain ⟨e1, t, t1, t2, t3⟩ := l4 i hi
    rw [oset_eq]
    show (32 ≤ (K' 0 i).toNatClampNeg ∧ (K' 0 i).toNatClampNeg ≤ 126) ∧ K' 0 i = nI (K' 0 i).toNatClampNeg ∧ M' 5 i = nI (K' 0 i).toNatClampNeg
    rw [e1, t3, nI_clamp (by omega)]
    exact ⟨⟨t1, t2⟩, rfl, rfl⟩
theorem j_describe {N B : Nat} {A : AT} {O : OT} {M : KT} (hb : B < 10 ^ 9) (hJ : JX B A O M) (p : Int32) : ∃ r O' M', mX2_describe N O p = some (r, O') ∧ mX3_describe N M p = some (r, M') ∧ J B O' M' := by
  have hJ0 := hJ.toJ
  have hh := hJ
  obtain ⟨h1, h2, h3, h4, h5, h6, ⟨n0, T0, t1, ⟨t2, t3⟩, t4⟩, h8⟩ := hh
  have hB := h1.2.2.1
  unfold mX2_describe mX3_describe
  rcases ix2 p (n := 5) (by decide) with w | ⟨c, hc, rfl⟩
  · rw [c2_noCamp_y w, r2_camp_y w, bdP_n, bdP_n, if_neg (show ¬ (1 : Int32) = 0 by decide), if_pos (show (0 : Int32) = 0 from rfl)]
    exact ⟨_, _, _, rfl, rfl, hJ0⟩
  obtain ⟨K0, a1, a2⟩ := LL_0 (M := M) t2 (by omega)
  obtain ⟨d, K1, M1, b0, b1, b2, b3, b4⟩ := st_i (N := N) (v := c) a2 (by omega) (by decide)
  have f1 : LF M M1 := LF_0.trans b4
  have m1 : M1 0 = pcM A := by rw [f1.1 0 (by decide) (by decide), h3]
  have h33 := hB.b3 c
  rw [c2_noCamp_n hc, bdP_n, if_pos (show (0 : Int32) = 0 from rfl), r2_camp_n hc, bdP_n, if_neg (show ¬ (1 : Int32) = 0 by decide), a1, bdS_n, inO_n, oset_eq, b1, bdS_n, inO_n, oset_same, oset_ne (show (0 : Nat) ≠ 14 by decide), h2, rdA_n hc (by decide), pcK_at (f := 3) (by decide), ite_z (by omega), ptF_n, b2, bdE_n, xo_aw m1 hc h33, bdP_n, ite_b0]
  refine j_line hJ ?_
  by_cases q : A 3 c = 1
  · rw [if_neg (by omega), if_pos q]
    exact LE2.of f1 (d_48 h1 hb h2 m1 hc b3 (by omega))
  · obtain ⟨K4, M4, e1, e2, e3, e4⟩ := st_c (N := N) (c := 122) b3 (by omega) (by decide) (by decide)
    rw [if_pos (by omega), if_neg q, oset_eq, show s_cC K1 122 = _ from e1, bdS_n, inO_n, oset_same, show mX3_signs N M1 122 = _ from e2, bdE_n]
    exact LE2.of (f1.trans e4) (d_48 h1 hb h2 (by rw [e4.1 0 (by decide) (by decide), m1]) hc e3 (by omega))
theorem q_sign {N : Nat} {O : OT} {M : KT} (h : JL O M) (p : Int32) : ∃ r, mX2_sign N O p = some r ∧ mX3_sign N M p = some r := by
  obtain ⟨n, T, t1, ⟨t2, t3⟩, t4⟩ := h
  unfold mX2_sign fX2_sign_15 mX3_sign fX3_sign_24 s_length
  rw [t3, r0_in, bdP_n, bdP_n]
  rcases ix2 p (n := n) (by omega) with w | ⟨j, hj, rfl⟩
  · rw [bN_f (off_pred (by omega) w), if_pos (show nI 0 = 0 from rfl)]
    refine ⟨-1, ?_, rfl⟩
    by_cases q : p < 0
    · rw [if_pos q]
    · rw [if_neg q, t2, if_neg (Int32.not_lt.mpr (w.resolve_left q))]
  · obtain ⟨⟨u1, u2⟩, u3, u4⟩ := t4 j hj
    rw [bN_t (on_pred (by omega) hj), if_neg (show ¬ nI 1 = 0 by decide), if_neg (nI_pos (by omega)), t2, if_pos (nI_lt hj (by omega)), s_at (by omega) t2 hj u3 (by omega), bdP_n, rdA_n (by omega) (by decide), u4]
    exact ⟨_, rfl, rfl⟩
/-! ===== accounts ===== -/
theorem r4_maxL {N f w : Nat} {M0 : KT} {A : AT} {loop : Nat → Int32 → Int32 → Option Int32} (hl : ∀ m x i, i < 5 → loop (m + 1) x (nI i) = loop m (if x < nI (A f i) then nI (A f i) else x) (nI (i + 1))) (h5 : ∀ m x, loop (m + 1) x (nI 5) = some x) (hlt : ∀ i, A f i < 2 ^ 30) : ∀ (k n i : Nat), k < n → i + k = 5 → loop n (nI (maxN (A f) i)) (nI i) = some (nI (maxN (A f) 5)) := by
  intro k
  induction k with
  | zero =>
    intro n i hn hi
    obtain ⟨m, rfl⟩ : ∃ m, n = m + 1 := ⟨n - 1, by omega⟩
    rw [show i = 5 by omega, h5]
  | succ k ih =>
    intro n i hn hi
    obtain ⟨m, rfl⟩ : ∃ m, n = m + 1 := ⟨n - 1, by omega⟩
    have hm : maxN (A f) i ≤ 2 ^ 30 := maxN_le (fun j => Nat.le_of_lt (hlt j)) i
    have h2 := hlt i
    rw [hl m _ i (by omega), imax_n (by omega) (by omega)]
    exact ih m (i + 1) (by omega) (by omega)
theorem r4_sumL {N : Nat} {M0 : KT} {A : AT} : ∀ (k n i : Nat), k < n → i + k = 5 → fX3_account_96 N (rm M0 A) n (nI (sumN (A 2) i)) (nI i) = some (nI (sumN (A 2) 5)) := by
  intro k
  induction k with
  | zero =>
    intro n i hn hi
    obtain ⟨m, rfl⟩ : ∃ m, n = m + 1 := ⟨n - 1, by omega⟩
    unfold fX3_account_96
    rw [show (5 : Int32) = nI 5 from rfl, ite_le (by omega) (by omega), if_pos (by omega), show i = 5 by omega]
  | succ k ih =>
    intro n i hn hi
    obtain ⟨m, rfl⟩ : ∃ m, n = m + 1 := ⟨n - 1, by omega⟩
    have e := ih m (i + 1) (by omega) (by omega)
    have e1 : sumN (A 2) (i + 1) = sumN (A 2) i + A 2 i := rfl
    unfold fX3_account_96
    rw [show (5 : Int32) = nI 5 from rfl, ite_le (by omega) (by omega), if_neg (by omega), show (2 : Int32) = nI 2 from rfl, x3_of2 (by omega), bdP_n, nadd, show nI i + 1 = nI (i + 1) from nadd i 1, ← e1]
    exact e
theorem q_account {N B : Nat} {A : AT} {O : OT} {M : KT} (hN : 1400 ≤ N) (hb : B + 20000 < 2 ^ 30) (hJ : JX B A O M) (p : Int32) : ∃ r, mX2_account N O p = some r ∧ mX3_account N M p = some r := by
  obtain ⟨h1, ho, hm, ⟨u, l, P, s, S0, a1, a2, a3, a4, a5, a6, a7, ⟨a8, a9, a10⟩, b1, b2, b3, b4⟩, h5, ⟨n0, T0, t1, ⟨t2, t3⟩, t4⟩, h7, h8⟩ := hJ
  obtain ⟨M0, rfl⟩ : ∃ M0, M = rm M0 A := ⟨M, (rm_self hm).symm⟩
  have hlt := h1.lt (by omega)
  have hl2 : Lt A := h1.ltA (by omega)
  have hB := h1.2.2.1
  unfold mX2_account mX3_account
  rw [ho]
  by_cases w0 : p = 0
  · rw [if_pos w0, if_pos w0, c2_greatestOf (g := A 0) (by omega) (by decide) (hlt 0) (fun i _ => pcK_at (by decide)), bdP_n]
    refine ⟨_, rfl, ?_⟩
    refine r4_maxL (N := N) (w := 0) (M0 := M0) (f := 0) (loop := fX3_account_70 N (rm M0 A)) ?_ ?_ (hlt 0) 5 N 0 (by omega) (by omega)
    · intro m x i hi
      conv => lhs; unfold fX3_account_70
      rw [show (5 : Int32) = nI 5 from rfl, ite_le (by omega) (by omega), if_neg (by omega), show (0 : Int32) = nI 0 from rfl, x3_of0 hi, bdP_n, show nI i + 1 = nI (i + 1) from nadd i 1]
    · intro m x
      unfold fX3_account_70
      rw [if_pos (by decide)]
  rw [if_neg w0, if_neg w0]
  by_cases w1 : p = 1
  · rw [if_pos w1, if_pos w1, c2_sumOf (g := A 2) (by omega) (by decide) (fun i _ => pcK_at (by decide)), bdP_n]
    exact ⟨_, rfl, r4_sumL 5 N 0 (by omega) (by omega)⟩
  rw [if_neg w1, if_neg w1]
  by_cases w2 : p = 2
  · rw [if_pos w2, if_pos w2, c2_sumOf (g := A 3) (by omega) (by decide) (fun i _ => pcK_at (by decide)), bdP_n, r2_awake (by omega) hB.b3, bdP_n]
    exact ⟨_, rfl, rfl⟩
  rw [if_neg w2, if_neg w2]
  by_cases w3 : p = 3
  · rw [if_pos w3, if_pos w3, c0_openRoads (by omega) hB.b9, bdP_n, r2_openRoads (by omega) hB.b9 h1.2.2.2, bdP_n]
    exact ⟨_, rfl, rfl⟩
  rw [if_neg w3, if_neg w3]
  have rd : ∀ i, i < 5 → fX3_account_128 N (rm M0 A) (nI (4 + i)) = some (nI (A 10 i)) := fun i hi => by
    unfold fX3_account_128
    rw [show nI (4 + i) - 4 = nI i by rw [show (4 : Int32) = nI 4 from rfl, nsub (by omega)]; congr 1; omega, rd_cnt (by omega)]
  by_cases w4 : p = 4
  · rw [if_pos w4, if_pos w4, w4, show fX3_account_128 N (rm M0 A) 4 = _ from rd 0 (by decide), pcK_at (by decide)]
    exact ⟨_, rfl, rfl⟩
  rw [if_neg w4, if_neg w4]
  by_cases w5 : p = 5
  · rw [if_pos w5, if_pos w5, w5, show fX3_account_128 N (rm M0 A) 5 = _ from rd 1 (by decide), pcK_at (by decide)]
    exact ⟨_, rfl, rfl⟩
  rw [if_neg w5, if_neg w5]
  by_cases w6 : p = 6
  · rw [if_pos w6, if_pos w6, w6, show fX3_account_128 N (rm M0 A) 6 = _ from rd 2 (by decide), pcK_at (by decide)]
    exact ⟨_, rfl, rfl⟩
  rw [if_neg w6, if_neg w6]
  by_cases w7 : p = 7
  · rw [if_pos w7, if_pos w7, w7, show fX3_account_128 N (rm M0 A) 7 = _ from rd 3 (by decide), pcK_at (by decide)]
    exact ⟨_, rfl, rfl⟩
  rw [if_neg w7, if_neg w7]
  by_cases w8 : p = 8
  · rw [if_pos w8, if_pos w8, w8, show fX3_account_128 N (rm M0 A) 8 = _ from rd 4 (by decide), pcK_at (by decide)]
    exact ⟨_, rfl, rfl⟩
  rw [if_neg w8, if_neg w8]
  by_cases w9 : p = 9
  · rw [if_pos w9, if_pos w9, c2_greatestOf (g := A 6) (by omega) (by decide) (hlt 6) (fun i _ => pcK_at (by decide)), bdP_n]
    refine ⟨_, rfl, ?_⟩
    refine r4_maxL (N := N) (w := 0) (M0 := M0) (f := 6) (loop := fX3_account_139 N (rm M0 A)) ?_ ?_ (hlt 6) 5 N 0 (by omega) (by omega)
    · intro m x i hi
      conv => lhs; unfold fX3_account_139
      rw [show (5 : Int32) = nI 5 from rfl, ite_le (by omega) (by omega), if_neg (by omega), x3_of5 hi, bdP_n, show nI i + 1 = nI (i + 1) from nadd i 1]
    · intro m x
      unfold fX3_account_139
      rw [if_pos (by decide)]
  rw [if_neg w9, if_neg w9]
  by_cases w10 : p = 10
  · rw [if_pos w10, if_pos w10, pcK_at (by decide), show (5 : Int32) = nI 5 from rfl, rd_cnt (by decide)]
    exact ⟨_, rfl, rfl⟩
  rw [if_neg w10, if_neg w10]
  by_cases w11 : p = 11
  · unfold s_length
    rw [if_pos w11, if_pos w11, bdP_n, t2, t3]
    exact ⟨_, rfl, rfl⟩
  rw [if_neg w11, if_neg w11]
  by_cases w12 : p = 12
  · rw [if_pos w12, if_pos w12, a10, b3]
    exact ⟨_, rfl, rfl⟩
  rw [if_neg w12, if_neg w12]
  exact ⟨_, rfl, rfl⟩
