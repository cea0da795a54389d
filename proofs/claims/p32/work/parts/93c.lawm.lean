def fL_asks_270 (N : Nat) (k45 : OT → Int64 → Int32 → Option (Int64 × OT)) (K : OT) (x1 : Int64) (x3 : Int32) : Option (Int64 × OT) := bdO (mX2_would N K x3) (fun v1 O2 => bdP (mX2_ranked N O2 x3) (fun v3 => bdP (mX2_letters N O2 (x3 - x3 / 4 * 4)) (fun v4 => k45 O2 ((((31 : Int64)) * ((((31 : Int64)) * ((((31 : Int64)) * x1) + v1.toInt64)) + v3.toInt64)) + v4.toInt64) (x3 + 1))))
def fL_asks_243 (N : Nat) (k45 : OT → Int64 → Int32 → Option (Int64 × OT)) : Nat → OT → Int64 → Int32 → Int32 → Int32 → Option (Int64 × OT)
  | 0, _, _, _, _, _ => none
  | n + 1, K, x1, x3, x4, x5 => (if x4 ≤ x5 then fL_asks_270 N k45 K x1 x3 else bdP (mX2_sign N K x5) (fun v6 => (fL_asks_243 N k45 n) K ((((31 : Int64)) * x1) + v6.toInt64) x3 x4 (x5 + 1)))
def fL_asks_233 (N : Nat) (k45 : OT → Int64 → Int32 → Option (Int64 × OT)) (K : OT) (x1 : Int64) (x3 : Int32) : Option (Int64 × OT) := bdO (mX2_show 13 K x3) (fun v7 O8 => fL_asks_243 N k45 N O8 x1 x3 v7 0)
def fL_asks_206 (N : Nat) (k45 : OT → Int64 → Int32 → Option (Int64 × OT)) : Nat → OT → Int64 → Int32 → Int32 → Int32 → Option (Int64 × OT)
  | 0, _, _, _, _, _ => none
  | n + 1, K, x1, x3, x4, x5 => (if x4 ≤ x5 then fL_asks_233 N k45 K x1 x3 else bdP (mX2_sign N K x5) (fun v10 => (fL_asks_206 N k45 n) K ((((31 : Int64)) * x1) + v10.toInt64) x3 x4 (x5 + 1)))
def fL_asks_196 (N : Nat) (k45 : OT → Int64 → Int32 → Option (Int64 × OT)) (K : OT) (x1 : Int64) (x3 : Int32) : Option (Int64 × OT) := bdO (mX2_describe N K x3) (fun v11 O12 => fL_asks_206 N k45 N O12 x1 x3 v11 0)
def fL_asks_143 (N : Nat) (k45 : OT → Int64 → Int32 → Option (Int64 × OT)) : Nat → OT → Int64 → Int32 → Int32 → Option (Int64 × OT)
  | 0, _, _, _, _ => none
  | n + 1, K, x1, x3, x4 => (if 5 ≤ x4 then fL_asks_196 N k45 K x1 x3 else bdP (mX2_reaches N K x3 x4) (fun v14 => bdP (mX2_matches N K x3 x4) (fun v15 => bdP (mX2_matchesAgain N K x3 x4) (fun v16 => (fL_asks_143 N k45 n) K ((((31 : Int64)) * ((((31 : Int64)) * ((((31 : Int64)) * x1) + v14.toInt64)) + v15.toInt64)) + v16.toInt64) x3 (x4 + 1)))))
def fL_asks_140 (N : Nat) (k45 : OT → Int64 → Int32 → Option (Int64 × OT)) (K : OT) (x1 : Int64) (x3 : Int32) : Option (Int64 × OT) := fL_asks_143 N k45 N K x1 x3 0
def fL_asks_84 (N : Nat) (k45 : OT → Int64 → Int32 → Option (Int64 × OT)) : Nat → OT → Int64 → Int32 → Int32 → Option (Int64 × OT)
  | 0, _, _, _, _ => none
  | n + 1, K, x1, x3, x4 => (if 13 ≤ x4 then fL_asks_140 N k45 K x1 x3 else bdP (mX2_pageOf N K x3 x4 0) (fun v18 => bdP (mX2_pageOf N K x3 x4 1) (fun v19 => bdP (mX2_holders N K x3 x4) (fun v20 => (fL_asks_84 N k45 n) K ((((31 : Int64)) * ((((31 : Int64)) * ((((31 : Int64)) * x1) + v18.toInt64)) + v19.toInt64)) + v20.toInt64) x3 (x4 + 1)))))
def fL_asks_81 (N : Nat) (k45 : OT → Int64 → Int32 → Option (Int64 × OT)) (K : OT) (x1 : Int64) (x3 : Int32) : Option (Int64 × OT) := fL_asks_84 N k45 N K x1 x3 0
def fL_asks_53 (N : Nat) (k45 : OT → Int64 → Int32 → Option (Int64 × OT)) : Nat → OT → Int64 → Int32 → Int32 → Option (Int64 × OT)
  | 0, _, _, _, _ => none
  | n + 1, K, x1, x3, x4 => (if 9 ≤ x4 then fL_asks_81 N k45 K x1 x3 else bdP (mX2_campOf N K x3 x4) (fun v22 => (fL_asks_53 N k45 n) K ((((31 : Int64)) * x1) + v22.toInt64) x3 (x4 + 1)))
def fL_asks_313 (N : Nat)  (K : OT) (x1 : Int64) : Option (Int64 × OT) := bdP (mX2_captain N K ) (fun v23 => bdO (mX2_captainIn N K ) (fun v24 O25 => some ((((31 : Int64)) * ((((31 : Int64)) * x1) + v23.toInt64)) + v24.toInt64, O25)))
def fL_asks_45 (N : Nat)  : Nat → OT → Int64 → Int32 → Option (Int64 × OT)
  | 0, _, _, _ => none
  | n + 1, K, x1, x3 => (if 5 ≤ x3 then fL_asks_313 N  K x1 else fL_asks_53 N (fL_asks_45 N  n) N K x1 x3 0)
def fL_asks_43 (N : Nat)  (K : OT) (x1 : Int64) : Option (Int64 × OT) := fL_asks_45 N  6 K x1 0
def fL_asks_18 (N : Nat)  : Nat → OT → Int64 → Int32 → Option (Int64 × OT)
  | 0, _, _, _ => none
  | n + 1, K, x1, x3 => (if 11 ≤ x3 then fL_asks_43 N  K x1 else bdP (mX2_account N K x3) (fun v28 => (fL_asks_18 N  n) K ((((31 : Int64)) * x1) + v28.toInt64) (x3 + 1)))
def mL_asks (N : Nat) (K : OT)  : Option (Int64 × OT) := bdP (mX2_share N K ) (fun v29 => bdP (mX2_isWell N K ) (fun v30 => fL_asks_18 N  N K ((((31 : Int64)) * v29.toInt64) + v30.toInt64) 0))
def rmL_asks : Room := { frames := 10, cells := 384, slots := 256 * (384), locals := 290 }
def wsL_asks_q : List Cond := .code yL_asks cL_asks 6 (some .long) :: wsL_law
theorem gqL_asks {a : List Cond} (h : GoodIn wsL_law a) : GoodIn wsL_asks_q a := gM_in h
set_option maxHeartbeats 4000000 in
set_option maxRecDepth 100000 in
theorem tL_asks {l : Launch} {dC : Nat → ClassId} {dI : Nat → Nat → Nat} {cI cB cP : ClassId} {ad : Nat → Nat → Nat} {Z : Nat → Nat} {base b : Nat} {adK adV : Nat → Nat} {R : va_W} {L : Nat} {xs : Nat → Int32} {N : Nat} {K : OT}  {rr : Int64} {KK : OT} (hf : mL_asks N K  = some (rr, KK)) (hCF : OF Z K) : Met l yL_asks wsL_asks_q rmL_asks (cLp (dC, dI) vwCl [(cI, .int), (cB, .byte), (cP, .object RX0)] base b L xs adK adV (outW cI cB cP ad Z K ++ R) [.ref (ad 0 0)]) (cBe (dC, dI) vwCl base (some (.long rr)) (fun ws => ∃ Z : Nat → Nat, ws = (outW cI cB cP ad Z KK ++ R) ∧ OF Z KK)) (384) (256 * (384)) (aB base) := by
  refine Met.ofW (cc := cL_asks) (maxL := 6) (ret := (some .long)) (by decide) rfl ?_
  intro p e s m args below meth c s₁ B hml hv
  obtain ⟨rfl, hP, hK, hD, hbs, hEL⟩ := hv
  have hx := B.exec
  have hb := B.bytes
  have hr := B.returns
  have hts := atoms_spec (ws := wsL_asks_q) B.pre
  have hown : s.vm.findClass RL = some m.cls := findClass_of_methodNamed B.named
  have hlocks := B.notSynchronized
  have hE := hEL.1
  have hcn : 0 + (384) ≤ 384 ∧ 0 + 256 * (384) ≤ 256 * (384) := by omega
  have t_270 : ∀ {z : Nat} {k45 : OT → Int64 → Int32 → Option (Int64 × OT)} (hk45 : ∀ {K : OT} {x1 : Int64} {x3 : Int32} {H : Heap} {locs : List Loc} {Z : Nat → Nat} {cells slots : Nat} {ls : Array Slot} (h : k45 K x1 x3 = some (rr, KK)) (hl : lv_has ls 6 [(0, .ref (ad 0 0)), (1, .long x1), (3, .int x3)]) (hP : va_P (dC, dI) vwCl (outW cI cB cP ad Z K ++ R) H) (hD : va_D (aB base) (outW cI cB cP ad Z K ++ R)) (hS : va_S (aB base) s.heap H locs) (hCF : OF Z K) (hcn : cells + (64 * z + 0) ≤ 384 ∧ slots + 256 * (64 * z + 0) ≤ 256 * (384)), W p l e (headSpec wsL_asks_q rmL_asks).room s m ([.ref (ad 0 0)] : List Value).toArray below meth c H locs cells slots (MQ below (cBe (dC, dI) vwCl base (some (.long rr)) (fun ws => ∃ Z : Nat → Nat, ws = (outW cI cB cP ad Z KK ++ R) ∧ OF Z KK)) ([.ref (ad 0 0)] : List Value).toArray s (384) (256 * (384)) (aB base)) (F0 m 45 ls [])), ∀ {K : OT} {x1 : Int64} {x3 : Int32} {H : Heap} {locs : List Loc} {Z : Nat → Nat} {cells slots : Nat} {ls : Array Slot} (h : fL_asks_270 N k45 K x1 x3 = some (rr, KK)) (hl : lv_has ls 6 [(0, .ref (ad 0 0)), (1, .long x1), (3, .int x3)]) (hP : va_P (dC, dI) vwCl (outW cI cB cP ad Z K ++ R) H) (hD : va_D (aB base) (outW cI cB cP ad Z K ++ R)) (hS : va_S (aB base) s.heap H locs) (hCF : OF Z K) (hcn : cells + (0 + (64 * z + 0)) ≤ 384 ∧ slots + 256 * (0 + (64 * z + 0)) ≤ 256 * (384)), W p l e (headSpec wsL_asks_q rmL_asks).room s m ([.ref (ad 0 0)] : List Value).toArray below meth c H locs cells slots (MQ below (cBe (dC, dI) vwCl base (some (.long rr)) (fun ws => ∃ Z : Nat → Nat, ws = (outW cI cB cP ad Z KK ++ R) ∧ OF Z KK)) ([.ref (ad 0 0)] : List Value).toArray s (384) (256 * (384)) (aB base)) (F0 m 270 ls []) := by
    intro z k45 hk45 K x1 x3 H locs Z cells slots ls h hl hP hD hS hCF hcn
    unfold fL_asks_270 at h
    refine lv_ldc2 (v := 31) hx hb hown (hts (.constantLong RL 68 31) (by decide +kernel)) dL_asks_270 ?_
    refine lv_ldc2 (v := 31) hx hb hown (hts (.constantLong RL 68 31) (by decide +kernel)) dL_asks_273 ?_
    refine lv_ldc2 (v := 31) hx hb hown (hts (.constantLong RL 68 31) (by decide +kernel)) dL_asks_276 ?_
    refine lv_lload_n hx hb dL_asks_279 rfl (lv_at hl 1 rfl) ?_
    refine lv_lmul hx hb dL_asks_280 ?_
    refine lv_aload_n hx hb dL_asks_281 rfl (lv_at hl 0 rfl) ?_
    refine lv_iload_n hx hb dL_asks_282 rfl (lv_at hl 2 rfl) ?_
    obtain ⟨v1, O2, hv1, h⟩ := bdO_some h
    refine call_BVE (As := [.int x3]) (rest := [.long (((31 : Int64)) * x1), .long ((31 : Int64)), .long ((31 : Int64))]) ⟨hx, hb, hml, hown, hts⟩ (tX2_would (l := l) (dC := dC) (dI := dI) (cI := cI) (cB := cB) (cP := cP) (ad := ad) (base := base) (R := R) hv1 hCF) (cwV 1 hts (gqL_asks gQ_X2_would) rfl rfl rfl (by decide +kernel) ⟨Nat.le_of_ble_eq_true rfl, Nat.le_of_ble_eq_true rfl⟩) hK hP hD hS (Nat.le_trans hbs hS.1) (fun U hU hW => Env_step rfl rfl hE hS hU hW) 0 rfl rfl (by rfl) hl.1 rfl (Nat.le_of_ble_eq_true rfl) dL_asks_283 ⟨by show _ ≤ 384; omega, by show _ ≤ 256 * (384); omega⟩ (fun H locs ws9 hW9 hP hD _ hS => ?_)
    obtain ⟨Z, rfl, hCF⟩ := hW9
    refine lv_i2l hx hb dL_asks_286 rfl ?_
    refine lv_ladd hx hb dL_asks_287 ?_
    refine lv_lmul hx hb dL_asks_288 ?_
    refine lv_aload_n hx hb dL_asks_289 rfl (lv_at hl 0 rfl) ?_
    refine lv_iload_n hx hb dL_asks_290 rfl (lv_at hl 2 rfl) ?_
    obtain ⟨v3, hv3, h⟩ := bdP_some h
    refine call_BVP (As := [.int x3]) (rest := [.long (((31 : Int64)) * ((((31 : Int64)) * x1) + v1.toInt64)), .long ((31 : Int64))]) ⟨hx, hb, hml, hown, hts⟩ (tX2_ranked (l := l) (dC := dC) (dI := dI) (cI := cI) (cB := cB) (cP := cP) (ad := ad) (base := base) (R := R) hv3 hCF) (cwV 1 hts (gqL_asks gQ_X2_ranked) rfl rfl rfl (by decide +kernel) ⟨Nat.le_of_ble_eq_true rfl, Nat.le_of_ble_eq_true rfl⟩) hK hP hD (Nat.le_trans hbs hS.1) (fun U hU hW => Env_step rfl rfl hE hS hU hW) 0 rfl rfl (by rfl) hl.1 rfl (Nat.le_of_ble_eq_true rfl) dL_asks_291 ⟨by show _ ≤ 384; omega, by show _ ≤ 256 * (384); omega⟩ ?_
    refine lv_i2l hx hb dL_asks_294 rfl ?_
    refine lv_ladd hx hb dL_asks_295 ?_
    refine lv_lmul hx hb dL_asks_296 ?_
    refine lv_aload_n hx hb dL_asks_297 rfl (lv_at hl 0 rfl) ?_
    refine lv_iload_n hx hb dL_asks_298 rfl (lv_at hl 2 rfl) ?_
    refine lv_iconst (v := 4) hx hb dL_asks_299 (by decide) ?_
    refine lv_irem hx hb dL_asks_300 (by decide) ?_
    obtain ⟨v4, hv4, h⟩ := bdP_some h
    refine call_BVP (As := [.int (x3 - x3 / 4 * 4)]) (rest := [.long (((31 : Int64)) * ((((31 : Int64)) * ((((31 : Int64)) * x1) + v1.toInt64)) + v3.toInt64))]) ⟨hx, hb, hml, hown, hts⟩ (tX2_letters (l := l) (dC := dC) (dI := dI) (cI := cI) (cB := cB) (cP := cP) (ad := ad) (base := base) (R := R) hv4 hCF) (cwV 1 hts (gqL_asks gQ_X2_letters) rfl rfl rfl (by decide +kernel) ⟨Nat.le_of_ble_eq_true rfl, Nat.le_of_ble_eq_true rfl⟩) hK hP hD (Nat.le_trans hbs hS.1) (fun U hU hW => Env_step rfl rfl hE hS hU hW) 0 rfl rfl (by rfl) hl.1 rfl (Nat.le_of_ble_eq_true rfl) dL_asks_301 ⟨by show _ ≤ 384; omega, by show _ ≤ 256 * (384); omega⟩ ?_
    refine lv_i2l hx hb dL_asks_304 rfl ?_
    refine lv_ladd hx hb dL_asks_305 ?_
    refine lv_lstore_n (lv' := [(1, .long ((((31 : Int64)) * ((((31 : Int64)) * ((((31 : Int64)) * x1) + v1.toInt64)) + v3.toInt64)) + v4.toInt64)), (0, .ref (ad 0 0)), (3, .int x3)]) hx hb dL_asks_306 rfl hl (by decide) rfl (fun ls hl => ?_)
    refine lv_iinc (v := x3 + 1) (lv' := [(3, .int (x3 + 1)), (1, .long ((((31 : Int64)) * ((((31 : Int64)) * ((((31 : Int64)) * x1) + v1.toInt64)) + v3.toInt64)) + v4.toInt64)), (0, .ref (ad 0 0))]) hx hb dL_asks_307 hl (k := 2) rfl rfl (by decide) rfl (fun ls hl => ?_)
    refine lv_goto (tgt := 45) hx hb dL_asks_310 (by decide) ?_
    exact hk45 h (lv_sub hl [2, 1, 0] rfl) hP hD hS hCF (by omega)
  have t_243 : ∀ {z : Nat} {k45 : OT → Int64 → Int32 → Option (Int64 × OT)} (hk45 : ∀ {K : OT} {x1 : Int64} {x3 : Int32} {H : Heap} {locs : List Loc} {Z : Nat → Nat} {cells slots : Nat} {ls : Array Slot} (h : k45 K x1 x3 = some (rr, KK)) (hl : lv_has ls 6 [(0, .ref (ad 0 0)), (1, .long x1), (3, .int x3)]) (hP : va_P (dC, dI) vwCl (outW cI cB cP ad Z K ++ R) H) (hD : va_D (aB base) (outW cI cB cP ad Z K ++ R)) (hS : va_S (aB base) s.heap H locs) (hCF : OF Z K) (hcn : cells + (64 * z + 0) ≤ 384 ∧ slots + 256 * (64 * z + 0) ≤ 256 * (384)), W p l e (headSpec wsL_asks_q rmL_asks).room s m ([.ref (ad 0 0)] : List Value).toArray below meth c H locs cells slots (MQ below (cBe (dC, dI) vwCl base (some (.long rr)) (fun ws => ∃ Z : Nat → Nat, ws = (outW cI cB cP ad Z KK ++ R) ∧ OF Z KK)) ([.ref (ad 0 0)] : List Value).toArray s (384) (256 * (384)) (aB base)) (F0 m 45 ls [])), ∀ {n : Nat}, ∀ {K : OT} {x1 : Int64} {x3 : Int32} {x4 : Int32} {x5 : Int32} {H : Heap} {locs : List Loc} {Z : Nat → Nat} {cells slots : Nat} {ls : Array Slot} (h : fL_asks_243 N k45 n K x1 x3 x4 x5 = some (rr, KK)) (hl : lv_has ls 6 [(0, .ref (ad 0 0)), (1, .long x1), (3, .int x3), (4, .int x4), (5, .int x5)]) (hP : va_P (dC, dI) vwCl (outW cI cB cP ad Z K ++ R) H) (hD : va_D (aB base) (outW cI cB cP ad Z K ++ R)) (hS : va_S (aB base) s.heap H locs) (hCF : OF Z K) (hcn : cells + (0 + (64 * z + 0)) ≤ 384 ∧ slots + 256 * (0 + (64 * z + 0)) ≤ 256 * (384)), W p l e (headSpec wsL_asks_q rmL_asks).room s m ([.ref (ad 0 0)] : List Value).toArray below meth c H locs cells slots (MQ below (cBe (dC, dI) vwCl base (some (.long rr)) (fun ws => ∃ Z : Nat → Nat, ws = (outW cI cB cP ad Z KK ++ R) ∧ OF Z KK)) ([.ref (ad 0 0)] : List Value).toArray s (384) (256 * (384)) (aB base)) (F0 m 243 ls []) := by
    intro z k45 hk45 n
    induction n with
    | zero =>
      intro K x1 x3 x4 x5 H locs Z cells slots ls h hl hP hD hS hCF hcn
      unfold fL_asks_243 at h
      cases h
    | succ n ih =>
      intro K x1 x3 x4 x5 H locs Z cells slots ls h hl hP hD hS hCF hcn
      unfold fL_asks_243 at h
      refine lv_iload hx hb dL_asks_243 (lv_at hl 4 rfl) ?_
      refine lv_iload hx hb dL_asks_245 (lv_at hl 3 rfl) ?_
      refine lv_icmp_ge (tgt := 270) hx hb dL_asks_247 (by decide) (fun c5 => ?_) (fun c5 => ?_)
      · replace h := if_p c5 h
        exact t_270 @hk45 h (lv_sub hl [0, 1, 2] rfl) hP hD hS hCF (by omega)
      · replace h := if_n c5 h
        refine lv_ldc2 (v := 31) hx hb hown (hts (.constantLong RL 68 31) (by decide +kernel)) dL_asks_250 ?_
        refine lv_lload_n hx hb dL_asks_253 rfl (lv_at hl 1 rfl) ?_
        refine lv_lmul hx hb dL_asks_254 ?_
        refine lv_aload_n hx hb dL_asks_255 rfl (lv_at hl 0 rfl) ?_
        refine lv_iload hx hb dL_asks_256 (lv_at hl 4 rfl) ?_
        obtain ⟨v6, hv6, h⟩ := bdP_some h
        refine call_BVP (As := [.int x5]) (rest := [.long (((31 : Int64)) * x1)]) ⟨hx, hb, hml, hown, hts⟩ (tX2_sign (l := l) (dC := dC) (dI := dI) (cI := cI) (cB := cB) (cP := cP) (ad := ad) (base := base) (R := R) hv6 hCF) (cwV 1 hts (gqL_asks gQ_X2_sign) rfl rfl rfl (by decide +kernel) ⟨Nat.le_of_ble_eq_true rfl, Nat.le_of_ble_eq_true rfl⟩) hK hP hD (Nat.le_trans hbs hS.1) (fun U hU hW => Env_step rfl rfl hE hS hU hW) 0 rfl rfl (by rfl) hl.1 rfl (Nat.le_of_ble_eq_true rfl) dL_asks_258 ⟨by show _ ≤ 384; omega, by show _ ≤ 256 * (384); omega⟩ ?_
        refine lv_i2l hx hb dL_asks_261 rfl ?_
        refine lv_ladd hx hb dL_asks_262 ?_
        refine lv_lstore_n (lv' := [(1, .long ((((31 : Int64)) * x1) + v6.toInt64)), (0, .ref (ad 0 0)), (3, .int x3), (4, .int x4), (5, .int x5)]) hx hb dL_asks_263 rfl hl (by decide) rfl (fun ls hl => ?_)
        refine lv_iinc (v := x5 + 1) (lv' := [(5, .int (x5 + 1)), (1, .long ((((31 : Int64)) * x1) + v6.toInt64)), (0, .ref (ad 0 0)), (3, .int x3), (4, .int x4)]) hx hb dL_asks_264 hl (k := 4) rfl rfl (by decide) rfl (fun ls hl => ?_)
        refine lv_goto (tgt := 243) hx hb dL_asks_267 (by decide) ?_
        exact ih h (lv_sub hl [2, 1, 3, 4, 0] rfl) hP hD hS hCF (by omega)
  have t_233 : ∀ {z : Nat} {k45 : OT → Int64 → Int32 → Option (Int64 × OT)} (hk45 : ∀ {K : OT} {x1 : Int64} {x3 : Int32} {H : Heap} {locs : List Loc} {Z : Nat → Nat} {cells slots : Nat} {ls : Array Slot} (h : k45 K x1 x3 = some (rr, KK)) (hl : lv_has ls 6 [(0, .ref (ad 0 0)), (1, .long x1), (3, .int x3)]) (hP : va_P (dC, dI) vwCl (outW cI cB cP ad Z K ++ R) H) (hD : va_D (aB base) (outW cI cB cP ad Z K ++ R)) (hS : va_S (aB base) s.heap H locs) (hCF : OF Z K) (hcn : cells + (64 * z + 0) ≤ 384 ∧ slots + 256 * (64 * z + 0) ≤ 256 * (384)), W p l e (headSpec wsL_asks_q rmL_asks).room s m ([.ref (ad 0 0)] : List Value).toArray below meth c H locs cells slots (MQ below (cBe (dC, dI) vwCl base (some (.long rr)) (fun ws => ∃ Z : Nat → Nat, ws = (outW cI cB cP ad Z KK ++ R) ∧ OF Z KK)) ([.ref (ad 0 0)] : List Value).toArray s (384) (256 * (384)) (aB base)) (F0 m 45 ls [])), ∀ {K : OT} {x1 : Int64} {x3 : Int32} {H : Heap} {locs : List Loc} {Z : Nat → Nat} {cells slots : Nat} {ls : Array Slot} (h : fL_asks_233 N k45 K x1 x3 = some (rr, KK)) (hl : lv_has ls 6 [(0, .ref (ad 0 0)), (1, .long x1), (3, .int x3)]) (hP : va_P (dC, dI) vwCl (outW cI cB cP ad Z K ++ R) H) (hD : va_D (aB base) (outW cI cB cP ad Z K ++ R)) (hS : va_S (aB base) s.heap H locs) (hCF : OF Z K) (hcn : cells + (54 + (64 * z + 0)) ≤ 384 ∧ slots + 256 * (54 + (64 * z + 0)) ≤ 256 * (384)), W p l e (headSpec wsL_asks_q rmL_asks).room s m ([.ref (ad 0 0)] : List Value).toArray below meth c H locs cells slots (MQ below (cBe (dC, dI) vwCl base (some (.long rr)) (fun ws => ∃ Z : Nat → Nat, ws = (outW cI cB cP ad Z KK ++ R) ∧ OF Z KK)) ([.ref (ad 0 0)] : List Value).toArray s (384) (256 * (384)) (aB base)) (F0 m 233 ls []) := by
    intro z k45 hk45 K x1 x3 H locs Z cells slots ls h hl hP hD hS hCF hcn
    unfold fL_asks_233 at h
    refine lv_aload_n hx hb dL_asks_233 rfl (lv_at hl 0 rfl) ?_
    refine lv_iload_n hx hb dL_asks_234 rfl (lv_at hl 2 rfl) ?_
    obtain ⟨v7, O8, hv7, h⟩ := bdO_some h
    refine call_BVE (As := [.int x3]) (rest := []) ⟨hx, hb, hml, hown, hts⟩ (tX2_show (l := l) (dC := dC) (dI := dI) (cI := cI) (cB := cB) (cP := cP) (ad := ad) (base := base) (R := R) hv7 hCF) (cwV 1 hts (gqL_asks gQ_X2_show) rfl rfl rfl (by decide +kernel) ⟨Nat.le_of_ble_eq_true rfl, Nat.le_of_ble_eq_true rfl⟩) hK hP hD hS (Nat.le_trans hbs hS.1) (fun U hU hW => Env_step rfl rfl hE hS hU hW) 0 rfl rfl (by rfl) hl.1 rfl (Nat.le_of_ble_eq_true rfl) dL_asks_235 ⟨by show _ ≤ 384; omega, by show _ ≤ 256 * (384); omega⟩ (fun H locs ws9 hW9 hP hD _ hS => ?_)
    obtain ⟨Z, rfl, hCF⟩ := hW9
    refine lv_istore (lv' := [(4, .int v7), (0, .ref (ad 0 0)), (1, .long x1), (3, .int x3)]) hx hb dL_asks_238 hl (by decide) rfl (fun ls hl => ?_)
    refine lv_iconst (v := 0) hx hb dL_asks_240 (by decide) ?_
    refine lv_istore (lv' := [(5, .int 0), (4, .int v7), (0, .ref (ad 0 0)), (1, .long x1), (3, .int x3)]) hx hb dL_asks_241 hl (by decide) rfl (fun ls hl => ?_)
    exact t_243 @hk45 h (lv_sub hl [2, 3, 4, 1, 0] rfl) hP hD hS hCF (by omega)
  have t_206 : ∀ {z : Nat} {k45 : OT → Int64 → Int32 → Option (Int64 × OT)} (hk45 : ∀ {K : OT} {x1 : Int64} {x3 : Int32} {H : Heap} {locs : List Loc} {Z : Nat → Nat} {cells slots : Nat} {ls : Array Slot} (h : k45 K x1 x3 = some (rr, KK)) (hl : lv_has ls 6 [(0, .ref (ad 0 0)), (1, .long x1), (3, .int x3)]) (hP : va_P (dC, dI) vwCl (outW cI cB cP ad Z K ++ R) H) (hD : va_D (aB base) (outW cI cB cP ad Z K ++ R)) (hS : va_S (aB base) s.heap H locs) (hCF : OF Z K) (hcn : cells + (64 * z + 0) ≤ 384 ∧ slots + 256 * (64 * z + 0) ≤ 256 * (384)), W p l e (headSpec wsL_asks_q rmL_asks).room s m ([.ref (ad 0 0)] : List Value).toArray below meth c H locs cells slots (MQ below (cBe (dC, dI) vwCl base (some (.long rr)) (fun ws => ∃ Z : Nat → Nat, ws = (outW cI cB cP ad Z KK ++ R) ∧ OF Z KK)) ([.ref (ad 0 0)] : List Value).toArray s (384) (256 * (384)) (aB base)) (F0 m 45 ls [])), ∀ {n : Nat}, ∀ {K : OT} {x1 : Int64} {x3 : Int32} {x4 : Int32} {x5 : Int32} {H : Heap} {locs : List Loc} {Z : Nat → Nat} {cells slots : Nat} {ls : Array Slot} (h : fL_asks_206 N k45 n K x1 x3 x4 x5 = some (rr, KK)) (hl : lv_has ls 6 [(0, .ref (ad 0 0)), (1, .long x1), (3, .int x3), (4, .int x4), (5, .int x5)]) (hP : va_P (dC, dI) vwCl (outW cI cB cP ad Z K ++ R) H) (hD : va_D (aB base) (outW cI cB cP ad Z K ++ R)) (hS : va_S (aB base) s.heap H locs) (hCF : OF Z K) (hcn : cells + (54 + (64 * z + 0)) ≤ 384 ∧ slots + 256 * (54 + (64 * z + 0)) ≤ 256 * (384)), W p l e (headSpec wsL_asks_q rmL_asks).room s m ([.ref (ad 0 0)] : List Value).toArray below meth c H locs cells slots (MQ below (cBe (dC, dI) vwCl base (some (.long rr)) (fun ws => ∃ Z : Nat → Nat, ws = (outW cI cB cP ad Z KK ++ R) ∧ OF Z KK)) ([.ref (ad 0 0)] : List Value).toArray s (384) (256 * (384)) (aB base)) (F0 m 206 ls []) := by
    intro z k45 hk45 n
    induction n with
    | zero =>
      intro K x1 x3 x4 x5 H locs Z cells slots ls h hl hP hD hS hCF hcn
      unfold fL_asks_206 at h
      cases h
    | succ n ih =>
      intro K x1 x3 x4 x5 H locs Z cells slots ls h hl hP hD hS hCF hcn
      unfold fL_asks_206 at h
      refine lv_iload hx hb dL_asks_206 (lv_at hl 4 rfl) ?_
      refine lv_iload hx hb dL_asks_208 (lv_at hl 3 rfl) ?_
      refine lv_icmp_ge (tgt := 233) hx hb dL_asks_210 (by decide) (fun c9 => ?_) (fun c9 => ?_)
      · replace h := if_p c9 h
        exact t_233 @hk45 h (lv_sub hl [0, 1, 2] rfl) hP hD hS hCF (by omega)
      · replace h := if_n c9 h
        refine lv_ldc2 (v := 31) hx hb hown (hts (.constantLong RL 68 31) (by decide +kernel)) dL_asks_213 ?_
        refine lv_lload_n hx hb dL_asks_216 rfl (lv_at hl 1 rfl) ?_
        refine lv_lmul hx hb dL_asks_217 ?_
        refine lv_aload_n hx hb dL_asks_218 rfl (lv_at hl 0 rfl) ?_
        refine lv_iload hx hb dL_asks_219 (lv_at hl 4 rfl) ?_
        obtain ⟨v10, hv10, h⟩ := bdP_some h
        refine call_BVP (As := [.int x5]) (rest := [.long (((31 : Int64)) * x1)]) ⟨hx, hb, hml, hown, hts⟩ (tX2_sign (l := l) (dC := dC) (dI := dI) (cI := cI) (cB := cB) (cP := cP) (ad := ad) (base := base) (R := R) hv10 hCF) (cwV 1 hts (gqL_asks gQ_X2_sign) rfl rfl rfl (by decide +kernel) ⟨Nat.le_of_ble_eq_true rfl, Nat.le_of_ble_eq_true rfl⟩) hK hP hD (Nat.le_trans hbs hS.1) (fun U hU hW => Env_step rfl rfl hE hS hU hW) 0 rfl rfl (by rfl) hl.1 rfl (Nat.le_of_ble_eq_true rfl) dL_asks_221 ⟨by show _ ≤ 384; omega, by show _ ≤ 256 * (384); omega⟩ ?_
        refine lv_i2l hx hb dL_asks_224 rfl ?_
        refine lv_ladd hx hb dL_asks_225 ?_
        refine lv_lstore_n (lv' := [(1, .long ((((31 : Int64)) * x1) + v10.toInt64)), (0, .ref (ad 0 0)), (3, .int x3), (4, .int x4), (5, .int x5)]) hx hb dL_asks_226 rfl hl (by decide) rfl (fun ls hl => ?_)
        refine lv_iinc (v := x5 + 1) (lv' := [(5, .int (x5 + 1)), (1, .long ((((31 : Int64)) * x1) + v10.toInt64)), (0, .ref (ad 0 0)), (3, .int x3), (4, .int x4)]) hx hb dL_asks_227 hl (k := 4) rfl rfl (by decide) rfl (fun ls hl => ?_)
        refine lv_goto (tgt := 206) hx hb dL_asks_230 (by decide) ?_
        exact ih h (lv_sub hl [2, 1, 3, 4, 0] rfl) hP hD hS hCF (by omega)
  have t_196 : ∀ {z : Nat} {k45 : OT → Int64 → Int32 → Option (Int64 × OT)} (hk45 : ∀ {K : OT} {x1 : Int64} {x3 : Int32} {H : Heap} {locs : List Loc} {Z : Nat → Nat} {cells slots : Nat} {ls : Array Slot} (h : k45 K x1 x3 = some (rr, KK)) (hl : lv_has ls 6 [(0, .ref (ad 0 0)), (1, .long x1), (3, .int x3)]) (hP : va_P (dC, dI) vwCl (outW cI cB cP ad Z K ++ R) H) (hD : va_D (aB base) (outW cI cB cP ad Z K ++ R)) (hS : va_S (aB base) s.heap H locs) (hCF : OF Z K) (hcn : cells + (64 * z + 0) ≤ 384 ∧ slots + 256 * (64 * z + 0) ≤ 256 * (384)), W p l e (headSpec wsL_asks_q rmL_asks).room s m ([.ref (ad 0 0)] : List Value).toArray below meth c H locs cells slots (MQ below (cBe (dC, dI) vwCl base (some (.long rr)) (fun ws => ∃ Z : Nat → Nat, ws = (outW cI cB cP ad Z KK ++ R) ∧ OF Z KK)) ([.ref (ad 0 0)] : List Value).toArray s (384) (256 * (384)) (aB base)) (F0 m 45 ls [])), ∀ {K : OT} {x1 : Int64} {x3 : Int32} {H : Heap} {locs : List Loc} {Z : Nat → Nat} {cells slots : Nat} {ls : Array Slot} (h : fL_asks_196 N k45 K x1 x3 = some (rr, KK)) (hl : lv_has ls 6 [(0, .ref (ad 0 0)), (1, .long x1), (3, .int x3)]) (hP : va_P (dC, dI) vwCl (outW cI cB cP ad Z K ++ R) H) (hD : va_D (aB base) (outW cI cB cP ad Z K ++ R)) (hS : va_S (aB base) s.heap H locs) (hCF : OF Z K) (hcn : cells + (64 + (64 * z + 0)) ≤ 384 ∧ slots + 256 * (64 + (64 * z + 0)) ≤ 256 * (384)), W p l e (headSpec wsL_asks_q rmL_asks).room s m ([.ref (ad 0 0)] : List Value).toArray below meth c H locs cells slots (MQ below (cBe (dC, dI) vwCl base (some (.long rr)) (fun ws => ∃ Z : Nat → Nat, ws = (outW cI cB cP ad Z KK ++ R) ∧ OF Z KK)) ([.ref (ad 0 0)] : List Value).toArray s (384) (256 * (384)) (aB base)) (F0 m 196 ls []) := by
    intro z k45 hk45 K x1 x3 H locs Z cells slots ls h hl hP hD hS hCF hcn
    unfold fL_asks_196 at h
    refine lv_aload_n hx hb dL_asks_196 rfl (lv_at hl 0 rfl) ?_
    refine lv_iload_n hx hb dL_asks_197 rfl (lv_at hl 2 rfl) ?_
    obtain ⟨v11, O12, hv11, h⟩ := bdO_some h
    refine call_BVE (As := [.int x3]) (rest := []) ⟨hx, hb, hml, hown, hts⟩ (tX2_describe (l := l) (dC := dC) (dI := dI) (cI := cI) (cB := cB) (cP := cP) (ad := ad) (base := base) (R := R) hv11 hCF) (cwV 1 hts (gqL_asks gQ_X2_describe) rfl rfl rfl (by decide +kernel) ⟨Nat.le_of_ble_eq_true rfl, Nat.le_of_ble_eq_true rfl⟩) hK hP hD hS (Nat.le_trans hbs hS.1) (fun U hU hW => Env_step rfl rfl hE hS hU hW) 0 rfl rfl (by rfl) hl.1 rfl (Nat.le_of_ble_eq_true rfl) dL_asks_198 ⟨by show _ ≤ 384; omega, by show _ ≤ 256 * (384); omega⟩ (fun H locs ws9 hW9 hP hD _ hS => ?_)
    obtain ⟨Z, rfl, hCF⟩ := hW9
    refine lv_istore (lv' := [(4, .int v11), (0, .ref (ad 0 0)), (1, .long x1), (3, .int x3)]) hx hb dL_asks_201 hl (by decide) rfl (fun ls hl => ?_)
    refine lv_iconst (v := 0) hx hb dL_asks_203 (by decide) ?_
    refine lv_istore (lv' := [(5, .int 0), (4, .int v11), (0, .ref (ad 0 0)), (1, .long x1), (3, .int x3)]) hx hb dL_asks_204 hl (by decide) rfl (fun ls hl => ?_)
    exact t_206 @hk45 h (lv_sub hl [2, 3, 4, 1, 0] rfl) hP hD hS hCF (by omega)
  have t_143 : ∀ {z : Nat} {k45 : OT → Int64 → Int32 → Option (Int64 × OT)} (hk45 : ∀ {K : OT} {x1 : Int64} {x3 : Int32} {H : Heap} {locs : List Loc} {Z : Nat → Nat} {cells slots : Nat} {ls : Array Slot} (h : k45 K x1 x3 = some (rr, KK)) (hl : lv_has ls 6 [(0, .ref (ad 0 0)), (1, .long x1), (3, .int x3)]) (hP : va_P (dC, dI) vwCl (outW cI cB cP ad Z K ++ R) H) (hD : va_D (aB base) (outW cI cB cP ad Z K ++ R)) (hS : va_S (aB base) s.heap H locs) (hCF : OF Z K) (hcn : cells + (64 * z + 0) ≤ 384 ∧ slots + 256 * (64 * z + 0) ≤ 256 * (384)), W p l e (headSpec wsL_asks_q rmL_asks).room s m ([.ref (ad 0 0)] : List Value).toArray below meth c H locs cells slots (MQ below (cBe (dC, dI) vwCl base (some (.long rr)) (fun ws => ∃ Z : Nat → Nat, ws = (outW cI cB cP ad Z KK ++ R) ∧ OF Z KK)) ([.ref (ad 0 0)] : List Value).toArray s (384) (256 * (384)) (aB base)) (F0 m 45 ls [])), ∀ {n : Nat}, ∀ {K : OT} {x1 : Int64} {x3 : Int32} {x4 : Int32} {H : Heap} {locs : List Loc} {Z : Nat → Nat} {cells slots : Nat} {ls : Array Slot} (h : fL_asks_143 N k45 n K x1 x3 x4 = some (rr, KK)) (hl : lv_has ls 6 [(0, .ref (ad 0 0)), (1, .long x1), (3, .int x3), (4, .int x4)]) (hP : va_P (dC, dI) vwCl (outW cI cB cP ad Z K ++ R) H) (hD : va_D (aB base) (outW cI cB cP ad Z K ++ R)) (hS : va_S (aB base) s.heap H locs) (hCF : OF Z K) (hcn : cells + (64 + (64 * z + 0)) ≤ 384 ∧ slots + 256 * (64 + (64 * z + 0)) ≤ 256 * (384)), W p l e (headSpec wsL_asks_q rmL_asks).room s m ([.ref (ad 0 0)] : List Value).toArray below meth c H locs cells slots (MQ below (cBe (dC, dI) vwCl base (some (.long rr)) (fun ws => ∃ Z : Nat → Nat, ws = (outW cI cB cP ad Z KK ++ R) ∧ OF Z KK)) ([.ref (ad 0 0)] : List Value).toArray s (384) (256 * (384)) (aB base)) (F0 m 143 ls []) := by
    intro z k45 hk45 n
    induction n with
    | zero =>
      intro K x1 x3 x4 H locs Z cells slots ls h hl hP hD hS hCF hcn
      unfold fL_asks_143 at h
      cases h
    | succ n ih =>
      intro K x1 x3 x4 H locs Z cells slots ls h hl hP hD hS hCF hcn
      unfold fL_asks_143 at h
      refine lv_iload hx hb dL_asks_143 (lv_at hl 3 rfl) ?_
      refine lv_iconst (v := 5) hx hb dL_asks_145 (by decide) ?_
      refine lv_icmp_ge (tgt := 196) hx hb dL_asks_146 (by decide) (fun c13 => ?_) (fun c13 => ?_)
      · replace h := if_p c13 h
        exact t_196 @hk45 h (lv_sub hl [0, 1, 2] rfl) hP hD hS hCF (by omega)
      · replace h := if_n c13 h
        refine lv_ldc2 (v := 31) hx hb hown (hts (.constantLong RL 68 31) (by decide +kernel)) dL_asks_149 ?_
        refine lv_ldc2 (v := 31) hx hb hown (hts (.constantLong RL 68 31) (by decide +kernel)) dL_asks_152 ?_
        refine lv_ldc2 (v := 31) hx hb hown (hts (.constantLong RL 68 31) (by decide +kernel)) dL_asks_155 ?_
        refine lv_lload_n hx hb dL_asks_158 rfl (lv_at hl 1 rfl) ?_
        refine lv_lmul hx hb dL_asks_159 ?_
        refine lv_aload_n hx hb dL_asks_160 rfl (lv_at hl 0 rfl) ?_
        refine lv_iload_n hx hb dL_asks_161 rfl (lv_at hl 2 rfl) ?_
        refine lv_iload hx hb dL_asks_162 (lv_at hl 3 rfl) ?_
        obtain ⟨v14, hv14, h⟩ := bdP_some h
        refine call_BVP (As := [.int x3, .int x4]) (rest := [.long (((31 : Int64)) * x1), .long ((31 : Int64)), .long ((31 : Int64))]) ⟨hx, hb, hml, hown, hts⟩ (tX2_reaches (l := l) (dC := dC) (dI := dI) (cI := cI) (cB := cB) (cP := cP) (ad := ad) (base := base) (R := R) hv14 hCF) (cwV 2 hts (gqL_asks gQ_X2_reaches) rfl rfl rfl (by decide +kernel) ⟨Nat.le_of_ble_eq_true rfl, Nat.le_of_ble_eq_true rfl⟩) hK hP hD (Nat.le_trans hbs hS.1) (fun U hU hW => Env_step rfl rfl hE hS hU hW) 0 rfl rfl (by rfl) hl.1 rfl (Nat.le_of_ble_eq_true rfl) dL_asks_164 ⟨by show _ ≤ 384; omega, by show _ ≤ 256 * (384); omega⟩ ?_
        refine lv_i2l hx hb dL_asks_167 rfl ?_
        refine lv_ladd hx hb dL_asks_168 ?_
        refine lv_lmul hx hb dL_asks_169 ?_
        refine lv_aload_n hx hb dL_asks_170 rfl (lv_at hl 0 rfl) ?_
        refine lv_iload_n hx hb dL_asks_171 rfl (lv_at hl 2 rfl) ?_
        refine lv_iload hx hb dL_asks_172 (lv_at hl 3 rfl) ?_
        obtain ⟨v15, hv15, h⟩ := bdP_some h
        refine call_BVP (As := [.int x3, .int x4]) (rest := [.long (((31 : Int64)) * ((((31 : Int64)) * x1) + v14.toInt64)), .long ((31 : Int64))]) ⟨hx, hb, hml, hown, hts⟩ (tX2_matches (l := l) (dC := dC) (dI := dI) (cI := cI) (cB := cB) (cP := cP) (ad := ad) (base := base) (R := R) hv15 hCF) (cwV 2 hts (gqL_asks gQ_X2_matches) rfl rfl rfl (by decide +kernel) ⟨Nat.le_of_ble_eq_true rfl, Nat.le_of_ble_eq_true rfl⟩) hK hP hD (Nat.le_trans hbs hS.1) (fun U hU hW => Env_step rfl rfl hE hS hU hW) 0 rfl rfl (by rfl) hl.1 rfl (Nat.le_of_ble_eq_true rfl) dL_asks_174 ⟨by show _ ≤ 384; omega, by show _ ≤ 256 * (384); omega⟩ ?_
        refine lv_i2l hx hb dL_asks_177 rfl ?_
        refine lv_ladd hx hb dL_asks_178 ?_
        refine lv_lmul hx hb dL_asks_179 ?_
        refine lv_aload_n hx hb dL_asks_180 rfl (lv_at hl 0 rfl) ?_
        refine lv_iload_n hx hb dL_asks_181 rfl (lv_at hl 2 rfl) ?_
        refine lv_iload hx hb dL_asks_182 (lv_at hl 3 rfl) ?_
        obtain ⟨v16, hv16, h⟩ := bdP_some h
        refine call_BVP (As := [.int x3, .int x4]) (rest := [.long (((31 : Int64)) * ((((31 : Int64)) * ((((31 : Int64)) * x1) + v14.toInt64)) + v15.toInt64))]) ⟨hx, hb, hml, hown, hts⟩ (tX2_matchesAgain (l := l) (dC := dC) (dI := dI) (cI := cI) (cB := cB) (cP := cP) (ad := ad) (base := base) (R := R) hv16 hCF) (cwV 2 hts (gqL_asks gQ_X2_matchesAgain) rfl rfl rfl (by decide +kernel) ⟨Nat.le_of_ble_eq_true rfl, Nat.le_of_ble_eq_true rfl⟩) hK hP hD (Nat.le_trans hbs hS.1) (fun U hU hW => Env_step rfl rfl hE hS hU hW) 0 rfl rfl (by rfl) hl.1 rfl (Nat.le_of_ble_eq_true rfl) dL_asks_184 ⟨by show _ ≤ 384; omega, by show _ ≤ 256 * (384); omega⟩ ?_
        refine lv_i2l hx hb dL_asks_187 rfl ?_
        refine lv_ladd hx hb dL_asks_188 ?_
        refine lv_lstore_n (lv' := [(1, .long ((((31 : Int64)) * ((((31 : Int64)) * ((((31 : Int64)) * x1) + v14.toInt64)) + v15.toInt64)) + v16.toInt64)), (0, .ref (ad 0 0)), (3, .int x3), (4, .int x4)]) hx hb dL_asks_189 rfl hl (by decide) rfl (fun ls hl => ?_)
        refine lv_iinc (v := x4 + 1) (lv' := [(4, .int (x4 + 1)), (1, .long ((((31 : Int64)) * ((((31 : Int64)) * ((((31 : Int64)) * x1) + v14.toInt64)) + v15.toInt64)) + v16.toInt64)), (0, .ref (ad 0 0)), (3, .int x3)]) hx hb dL_asks_190 hl (k := 3) rfl rfl (by decide) rfl (fun ls hl => ?_)
        refine lv_goto (tgt := 143) hx hb dL_asks_193 (by decide) ?_
        exact ih h (lv_sub hl [2, 1, 3, 0] rfl) hP hD hS hCF (by omega)
  have t_140 : ∀ {z : Nat} {k45 : OT → Int64 → Int32 → Option (Int64 × OT)} (hk45 : ∀ {K : OT} {x1 : Int64} {x3 : Int32} {H : Heap} {locs : List Loc} {Z : Nat → Nat} {cells slots : Nat} {ls : Array Slot} (h : k45 K x1 x3 = some (rr, KK)) (hl : lv_has ls 6 [(0, .ref (ad 0 0)), (1, .long x1), (3, .int x3)]) (hP : va_P (dC, dI) vwCl (outW cI cB cP ad Z K ++ R) H) (hD : va_D (aB base) (outW cI cB cP ad Z K ++ R)) (hS : va_S (aB base) s.heap H locs) (hCF : OF Z K) (hcn : cells + (64 * z + 0) ≤ 384 ∧ slots + 256 * (64 * z + 0) ≤ 256 * (384)), W p l e (headSpec wsL_asks_q rmL_asks).room s m ([.ref (ad 0 0)] : List Value).toArray below meth c H locs cells slots (MQ below (cBe (dC, dI) vwCl base (some (.long rr)) (fun ws => ∃ Z : Nat → Nat, ws = (outW cI cB cP ad Z KK ++ R) ∧ OF Z KK)) ([.ref (ad 0 0)] : List Value).toArray s (384) (256 * (384)) (aB base)) (F0 m 45 ls [])), ∀ {K : OT} {x1 : Int64} {x3 : Int32} {H : Heap} {locs : List Loc} {Z : Nat → Nat} {cells slots : Nat} {ls : Array Slot} (h : fL_asks_140 N k45 K x1 x3 = some (rr, KK)) (hl : lv_has ls 6 [(0, .ref (ad 0 0)), (1, .long x1), (3, .int x3)]) (hP : va_P (dC, dI) vwCl (outW cI cB cP ad Z K ++ R) H) (hD : va_D (aB base) (outW cI cB cP ad Z K ++ R)) (hS : va_S (aB base) s.heap H locs) (hCF : OF Z K) (hcn : cells + (64 + (64 * z + 0)) ≤ 384 ∧ slots + 256 * (64 + (64 * z + 0)) ≤ 256 * (384)), W p l e (headSpec wsL_asks_q rmL_asks).room s m ([.ref (ad 0 0)] : List Value).toArray below meth c H locs cells slots (MQ below (cBe (dC, dI) vwCl base (some (.long rr)) (fun ws => ∃ Z : Nat → Nat, ws = (outW cI cB cP ad Z KK ++ R) ∧ OF Z KK)) ([.ref (ad 0 0)] : List Value).toArray s (384) (256 * (384)) (aB base)) (F0 m 140 ls []) := by
    intro z k45 hk45 K x1 x3 H locs Z cells slots ls h hl hP hD hS hCF hcn
    unfold fL_asks_140 at h
    refine lv_iconst (v := 0) hx hb dL_asks_140 (by decide) ?_
    refine lv_istore (lv' := [(4, .int 0), (0, .ref (ad 0 0)), (1, .long x1), (3, .int x3)]) hx hb dL_asks_141 hl (by decide) rfl (fun ls hl => ?_)
    exact t_143 @hk45 h (lv_sub hl [1, 2, 3, 0] rfl) hP hD hS hCF (by omega)
  have t_84 : ∀ {z : Nat} {k45 : OT → Int64 → Int32 → Option (Int64 × OT)} (hk45 : ∀ {K : OT} {x1 : Int64} {x3 : Int32} {H : Heap} {locs : List Loc} {Z : Nat → Nat} {cells slots : Nat} {ls : Array Slot} (h : k45 K x1 x3 = some (rr, KK)) (hl : lv_has ls 6 [(0, .ref (ad 0 0)), (1, .long x1), (3, .int x3)]) (hP : va_P (dC, dI) vwCl (outW cI cB cP ad Z K ++ R) H) (hD : va_D (aB base) (outW cI cB cP ad Z K ++ R)) (hS : va_S (aB base) s.heap H locs) (hCF : OF Z K) (hcn : cells + (64 * z + 0) ≤ 384 ∧ slots + 256 * (64 * z + 0) ≤ 256 * (384)), W p l e (headSpec wsL_asks_q rmL_asks).room s m ([.ref (ad 0 0)] : List Value).toArray below meth c H locs cells slots (MQ below (cBe (dC, dI) vwCl base (some (.long rr)) (fun ws => ∃ Z : Nat → Nat, ws = (outW cI cB cP ad Z KK ++ R) ∧ OF Z KK)) ([.ref (ad 0 0)] : List Value).toArray s (384) (256 * (384)) (aB base)) (F0 m 45 ls [])), ∀ {n : Nat}, ∀ {K : OT} {x1 : Int64} {x3 : Int32} {x4 : Int32} {H : Heap} {locs : List Loc} {Z : Nat → Nat} {cells slots : Nat} {ls : Array Slot} (h : fL_asks_84 N k45 n K x1 x3 x4 = some (rr, KK)) (hl : lv_has ls 6 [(0, .ref (ad 0 0)), (1, .long x1), (3, .int x3), (4, .int x4)]) (hP : va_P (dC, dI) vwCl (outW cI cB cP ad Z K ++ R) H) (hD : va_D (aB base) (outW cI cB cP ad Z K ++ R)) (hS : va_S (aB base) s.heap H locs) (hCF : OF Z K) (hcn : cells + (64 + (64 * z + 0)) ≤ 384 ∧ slots + 256 * (64 + (64 * z + 0)) ≤ 256 * (384)), W p l e (headSpec wsL_asks_q rmL_asks).room s m ([.ref (ad 0 0)] : List Value).toArray below meth c H locs cells slots (MQ below (cBe (dC, dI) vwCl base (some (.long rr)) (fun ws => ∃ Z : Nat → Nat, ws = (outW cI cB cP ad Z KK ++ R) ∧ OF Z KK)) ([.ref (ad 0 0)] : List Value).toArray s (384) (256 * (384)) (aB base)) (F0 m 84 ls []) := by
    intro z k45 hk45 n
    induction n with
    | zero =>
      intro K x1 x3 x4 H locs Z cells slots ls h hl hP hD hS hCF hcn
      unfold fL_asks_84 at h
      cases h
    | succ n ih =>
      intro K x1 x3 x4 H locs Z cells slots ls h hl hP hD hS hCF hcn
      unfold fL_asks_84 at h
      refine lv_iload hx hb dL_asks_84 (lv_at hl 3 rfl) ?_
      refine lv_bipush (v := 13) hx hb dL_asks_86 (by decide) ?_
      refine lv_icmp_ge (tgt := 140) hx hb dL_asks_88 (by decide) (fun c17 => ?_) (fun c17 => ?_)
      · replace h := if_p c17 h
        exact t_140 @hk45 h (lv_sub hl [0, 1, 2] rfl) hP hD hS hCF (by omega)
      · replace h := if_n c17 h
        refine lv_ldc2 (v := 31) hx hb hown (hts (.constantLong RL 68 31) (by decide +kernel)) dL_asks_91 ?_
        refine lv_ldc2 (v := 31) hx hb hown (hts (.constantLong RL 68 31) (by decide +kernel)) dL_asks_94 ?_
        refine lv_ldc2 (v := 31) hx hb hown (hts (.constantLong RL 68 31) (by decide +kernel)) dL_asks_97 ?_
        refine lv_lload_n hx hb dL_asks_100 rfl (lv_at hl 1 rfl) ?_
        refine lv_lmul hx hb dL_asks_101 ?_
        refine lv_aload_n hx hb dL_asks_102 rfl (lv_at hl 0 rfl) ?_
        refine lv_iload_n hx hb dL_asks_103 rfl (lv_at hl 2 rfl) ?_
        refine lv_iload hx hb dL_asks_104 (lv_at hl 3 rfl) ?_
        refine lv_iconst (v := 0) hx hb dL_asks_106 (by decide) ?_
        obtain ⟨v18, hv18, h⟩ := bdP_some h
        refine call_BVP (As := [.int x3, .int x4, .int 0]) (rest := [.long (((31 : Int64)) * x1), .long ((31 : Int64)), .long ((31 : Int64))]) ⟨hx, hb, hml, hown, hts⟩ (tX2_pageOf (l := l) (dC := dC) (dI := dI) (cI := cI) (cB := cB) (cP := cP) (ad := ad) (base := base) (R := R) hv18 hCF) (cwV 3 hts (gqL_asks gQ_X2_pageOf) rfl rfl rfl (by decide +kernel) ⟨Nat.le_of_ble_eq_true rfl, Nat.le_of_ble_eq_true rfl⟩) hK hP hD (Nat.le_trans hbs hS.1) (fun U hU hW => Env_step rfl rfl hE hS hU hW) 0 rfl rfl (by rfl) hl.1 rfl (Nat.le_of_ble_eq_true rfl) dL_asks_107 ⟨by show _ ≤ 384; omega, by show _ ≤ 256 * (384); omega⟩ ?_
        refine lv_i2l hx hb dL_asks_110 rfl ?_
        refine lv_ladd hx hb dL_asks_111 ?_
        refine lv_lmul hx hb dL_asks_112 ?_
        refine lv_aload_n hx hb dL_asks_113 rfl (lv_at hl 0 rfl) ?_
        refine lv_iload_n hx hb dL_asks_114 rfl (lv_at hl 2 rfl) ?_
        refine lv_iload hx hb dL_asks_115 (lv_at hl 3 rfl) ?_
        refine lv_iconst (v := 1) hx hb dL_asks_117 (by decide) ?_
        obtain ⟨v19, hv19, h⟩ := bdP_some h
        refine call_BVP (As := [.int x3, .int x4, .int 1]) (rest := [.long (((31 : Int64)) * ((((31 : Int64)) * x1) + v18.toInt64)), .long ((31 : Int64))]) ⟨hx, hb, hml, hown, hts⟩ (tX2_pageOf (l := l) (dC := dC) (dI := dI) (cI := cI) (cB := cB) (cP := cP) (ad := ad) (base := base) (R := R) hv19 hCF) (cwV 3 hts (gqL_asks gQ_X2_pageOf) rfl rfl rfl (by decide +kernel) ⟨Nat.le_of_ble_eq_true rfl, Nat.le_of_ble_eq_true rfl⟩) hK hP hD (Nat.le_trans hbs hS.1) (fun U hU hW => Env_step rfl rfl hE hS hU hW) 0 rfl rfl (by rfl) hl.1 rfl (Nat.le_of_ble_eq_true rfl) dL_asks_118 ⟨by show _ ≤ 384; omega, by show _ ≤ 256 * (384); omega⟩ ?_
        refine lv_i2l hx hb dL_asks_121 rfl ?_
        refine lv_ladd hx hb dL_asks_122 ?_
        refine lv_lmul hx hb dL_asks_123 ?_
        refine lv_aload_n hx hb dL_asks_124 rfl (lv_at hl 0 rfl) ?_
        refine lv_iload_n hx hb dL_asks_125 rfl (lv_at hl 2 rfl) ?_
        refine lv_iload hx hb dL_asks_126 (lv_at hl 3 rfl) ?_
        obtain ⟨v20, hv20, h⟩ := bdP_some h
        refine call_BVP (As := [.int x3, .int x4]) (rest := [.long (((31 : Int64)) * ((((31 : Int64)) * ((((31 : Int64)) * x1) + v18.toInt64)) + v19.toInt64))]) ⟨hx, hb, hml, hown, hts⟩ (tX2_holders (l := l) (dC := dC) (dI := dI) (cI := cI) (cB := cB) (cP := cP) (ad := ad) (base := base) (R := R) hv20 hCF) (cwV 2 hts (gqL_asks gQ_X2_holders) rfl rfl rfl (by decide +kernel) ⟨Nat.le_of_ble_eq_true rfl, Nat.le_of_ble_eq_true rfl⟩) hK hP hD (Nat.le_trans hbs hS.1) (fun U hU hW => Env_step rfl rfl hE hS hU hW) 0 rfl rfl (by rfl) hl.1 rfl (Nat.le_of_ble_eq_true rfl) dL_asks_128 ⟨by show _ ≤ 384; omega, by show _ ≤ 256 * (384); omega⟩ ?_
        refine lv_i2l hx hb dL_asks_131 rfl ?_
        refine lv_ladd hx hb dL_asks_132 ?_
        refine lv_lstore_n (lv' := [(1, .long ((((31 : Int64)) * ((((31 : Int64)) * ((((31 : Int64)) * x1) + v18.toInt64)) + v19.toInt64)) + v20.toInt64)), (0, .ref (ad 0 0)), (3, .int x3), (4, .int x4)]) hx hb dL_asks_133 rfl hl (by decide) rfl (fun ls hl => ?_)
        refine lv_iinc (v := x4 + 1) (lv' := [(4, .int (x4 + 1)), (1, .long ((((31 : Int64)) * ((((31 : Int64)) * ((((31 : Int64)) * x1) + v18.toInt64)) + v19.toInt64)) + v20.toInt64)), (0, .ref (ad 0 0)), (3, .int x3)]) hx hb dL_asks_134 hl (k := 3) rfl rfl (by decide) rfl (fun ls hl => ?_)
        refine lv_goto (tgt := 84) hx hb dL_asks_137 (by decide) ?_
        exact ih h (lv_sub hl [2, 1, 3, 0] rfl) hP hD hS hCF (by omega)
  have t_81 : ∀ {z : Nat} {k45 : OT → Int64 → Int32 → Option (Int64 × OT)} (hk45 : ∀ {K : OT} {x1 : Int64} {x3 : Int32} {H : Heap} {locs : List Loc} {Z : Nat → Nat} {cells slots : Nat} {ls : Array Slot} (h : k45 K x1 x3 = some (rr, KK)) (hl : lv_has ls 6 [(0, .ref (ad 0 0)), (1, .long x1), (3, .int x3)]) (hP : va_P (dC, dI) vwCl (outW cI cB cP ad Z K ++ R) H) (hD : va_D (aB base) (outW cI cB cP ad Z K ++ R)) (hS : va_S (aB base) s.heap H locs) (hCF : OF Z K) (hcn : cells + (64 * z + 0) ≤ 384 ∧ slots + 256 * (64 * z + 0) ≤ 256 * (384)), W p l e (headSpec wsL_asks_q rmL_asks).room s m ([.ref (ad 0 0)] : List Value).toArray below meth c H locs cells slots (MQ below (cBe (dC, dI) vwCl base (some (.long rr)) (fun ws => ∃ Z : Nat → Nat, ws = (outW cI cB cP ad Z KK ++ R) ∧ OF Z KK)) ([.ref (ad 0 0)] : List Value).toArray s (384) (256 * (384)) (aB base)) (F0 m 45 ls [])), ∀ {K : OT} {x1 : Int64} {x3 : Int32} {H : Heap} {locs : List Loc} {Z : Nat → Nat} {cells slots : Nat} {ls : Array Slot} (h : fL_asks_81 N k45 K x1 x3 = some (rr, KK)) (hl : lv_has ls 6 [(0, .ref (ad 0 0)), (1, .long x1), (3, .int x3)]) (hP : va_P (dC, dI) vwCl (outW cI cB cP ad Z K ++ R) H) (hD : va_D (aB base) (outW cI cB cP ad Z K ++ R)) (hS : va_S (aB base) s.heap H locs) (hCF : OF Z K) (hcn : cells + (64 + (64 * z + 0)) ≤ 384 ∧ slots + 256 * (64 + (64 * z + 0)) ≤ 256 * (384)), W p l e (headSpec wsL_asks_q rmL_asks).room s m ([.ref (ad 0 0)] : List Value).toArray below meth c H locs cells slots (MQ below (cBe (dC, dI) vwCl base (some (.long rr)) (fun ws => ∃ Z : Nat → Nat, ws = (outW cI cB cP ad Z KK ++ R) ∧ OF Z KK)) ([.ref (ad 0 0)] : List Value).toArray s (384) (256 * (384)) (aB base)) (F0 m 81 ls []) := by
    intro z k45 hk45 K x1 x3 H locs Z cells slots ls h hl hP hD hS hCF hcn
    unfold fL_asks_81 at h
    refine lv_iconst (v := 0) hx hb dL_asks_81 (by decide) ?_
    refine lv_istore (lv' := [(4, .int 0), (0, .ref (ad 0 0)), (1, .long x1), (3, .int x3)]) hx hb dL_asks_82 hl (by decide) rfl (fun ls hl => ?_)
    exact t_84 @hk45 h (lv_sub hl [1, 2, 3, 0] rfl) hP hD hS hCF (by omega)
  have t_53 : ∀ {z : Nat} {k45 : OT → Int64 → Int32 → Option (Int64 × OT)} (hk45 : ∀ {K : OT} {x1 : Int64} {x3 : Int32} {H : Heap} {locs : List Loc} {Z : Nat → Nat} {cells slots : Nat} {ls : Array Slot} (h : k45 K x1 x3 = some (rr, KK)) (hl : lv_has ls 6 [(0, .ref (ad 0 0)), (1, .long x1), (3, .int x3)]) (hP : va_P (dC, dI) vwCl (outW cI cB cP ad Z K ++ R) H) (hD : va_D (aB base) (outW cI cB cP ad Z K ++ R)) (hS : va_S (aB base) s.heap H locs) (hCF : OF Z K) (hcn : cells + (64 * z + 0) ≤ 384 ∧ slots + 256 * (64 * z + 0) ≤ 256 * (384)), W p l e (headSpec wsL_asks_q rmL_asks).room s m ([.ref (ad 0 0)] : List Value).toArray below meth c H locs cells slots (MQ below (cBe (dC, dI) vwCl base (some (.long rr)) (fun ws => ∃ Z : Nat → Nat, ws = (outW cI cB cP ad Z KK ++ R) ∧ OF Z KK)) ([.ref (ad 0 0)] : List Value).toArray s (384) (256 * (384)) (aB base)) (F0 m 45 ls [])), ∀ {n : Nat}, ∀ {K : OT} {x1 : Int64} {x3 : Int32} {x4 : Int32} {H : Heap} {locs : List Loc} {Z : Nat → Nat} {cells slots : Nat} {ls : Array Slot} (h : fL_asks_53 N k45 n K x1 x3 x4 = some (rr, KK)) (hl : lv_has ls 6 [(0, .ref (ad 0 0)), (1, .long x1), (3, .int x3), (4, .int x4)]) (hP : va_P (dC, dI) vwCl (outW cI cB cP ad Z K ++ R) H) (hD : va_D (aB base) (outW cI cB cP ad Z K ++ R)) (hS : va_S (aB base) s.heap H locs) (hCF : OF Z K) (hcn : cells + (64 + (64 * z + 0)) ≤ 384 ∧ slots + 256 * (64 + (64 * z + 0)) ≤ 256 * (384)), W p l e (headSpec wsL_asks_q rmL_asks).room s m ([.ref (ad 0 0)] : List Value).toArray below meth c H locs cells slots (MQ below (cBe (dC, dI) vwCl base (some (.long rr)) (fun ws => ∃ Z : Nat → Nat, ws = (outW cI cB cP ad Z KK ++ R) ∧ OF Z KK)) ([.ref (ad 0 0)] : List Value).toArray s (384) (256 * (384)) (aB base)) (F0 m 53 ls []) := by
    intro z k45 hk45 n
    induction n with
    | zero =>
      intro K x1 x3 x4 H locs Z cells slots ls h hl hP hD hS hCF hcn
      unfold fL_asks_53 at h
      cases h
    | succ n ih =>
      intro K x1 x3 x4 H locs Z cells slots ls h hl hP hD hS hCF hcn
      unfold fL_asks_53 at h
      refine lv_iload hx hb dL_asks_53 (lv_at hl 3 rfl) ?_
      refine lv_bipush (v := 9) hx hb dL_asks_55 (by decide) ?_
      refine lv_icmp_ge (tgt := 81) hx hb dL_asks_57 (by decide) (fun c21 => ?_) (fun c21 => ?_)
      · replace h := if_p c21 h
        exact t_81 @hk45 h (lv_sub hl [0, 1, 2] rfl) hP hD hS hCF (by omega)
      · replace h := if_n c21 h
        refine lv_ldc2 (v := 31) hx hb hown (hts (.constantLong RL 68 31) (by decide +kernel)) dL_asks_60 ?_
        refine lv_lload_n hx hb dL_asks_63 rfl (lv_at hl 1 rfl) ?_
        refine lv_lmul hx hb dL_asks_64 ?_
        refine lv_aload_n hx hb dL_asks_65 rfl (lv_at hl 0 rfl) ?_
        refine lv_iload_n hx hb dL_asks_66 rfl (lv_at hl 2 rfl) ?_
        refine lv_iload hx hb dL_asks_67 (lv_at hl 3 rfl) ?_
        obtain ⟨v22, hv22, h⟩ := bdP_some h
        refine call_BVP (As := [.int x3, .int x4]) (rest := [.long (((31 : Int64)) * x1)]) ⟨hx, hb, hml, hown, hts⟩ (tX2_campOf (l := l) (dC := dC) (dI := dI) (cI := cI) (cB := cB) (cP := cP) (ad := ad) (base := base) (R := R) hv22 hCF) (cwV 2 hts (gqL_asks gQ_X2_campOf) rfl rfl rfl (by decide +kernel) ⟨Nat.le_of_ble_eq_true rfl, Nat.le_of_ble_eq_true rfl⟩) hK hP hD (Nat.le_trans hbs hS.1) (fun U hU hW => Env_step rfl rfl hE hS hU hW) 0 rfl rfl (by rfl) hl.1 rfl (Nat.le_of_ble_eq_true rfl) dL_asks_69 ⟨by show _ ≤ 384; omega, by show _ ≤ 256 * (384); omega⟩ ?_
        refine lv_i2l hx hb dL_asks_72 rfl ?_
        refine lv_ladd hx hb dL_asks_73 ?_
        refine lv_lstore_n (lv' := [(1, .long ((((31 : Int64)) * x1) + v22.toInt64)), (0, .ref (ad 0 0)), (3, .int x3), (4, .int x4)]) hx hb dL_asks_74 rfl hl (by decide) rfl (fun ls hl => ?_)
        refine lv_iinc (v := x4 + 1) (lv' := [(4, .int (x4 + 1)), (1, .long ((((31 : Int64)) * x1) + v22.toInt64)), (0, .ref (ad 0 0)), (3, .int x3)]) hx hb dL_asks_75 hl (k := 3) rfl rfl (by decide) rfl (fun ls hl => ?_)
        refine lv_goto (tgt := 53) hx hb dL_asks_78 (by decide) ?_
        exact ih h (lv_sub hl [2, 1, 3, 0] rfl) hP hD hS hCF (by omega)
  have t_313 : ∀ {K : OT} {x1 : Int64} {H : Heap} {locs : List Loc} {Z : Nat → Nat} {cells slots : Nat} {ls : Array Slot} (h : fL_asks_313 N  K x1 = some (rr, KK)) (hl : lv_has ls 6 [(0, .ref (ad 0 0)), (1, .long x1)]) (hP : va_P (dC, dI) vwCl (outW cI cB cP ad Z K ++ R) H) (hD : va_D (aB base) (outW cI cB cP ad Z K ++ R)) (hS : va_S (aB base) s.heap H locs) (hCF : OF Z K) (hcn : cells + (0) ≤ 384 ∧ slots + 256 * (0) ≤ 256 * (384)), W p l e (headSpec wsL_asks_q rmL_asks).room s m ([.ref (ad 0 0)] : List Value).toArray below meth c H locs cells slots (MQ below (cBe (dC, dI) vwCl base (some (.long rr)) (fun ws => ∃ Z : Nat → Nat, ws = (outW cI cB cP ad Z KK ++ R) ∧ OF Z KK)) ([.ref (ad 0 0)] : List Value).toArray s (384) (256 * (384)) (aB base)) (F0 m 313 ls []) := by
    intro  K x1 H locs Z cells slots ls h hl hP hD hS hCF hcn
    unfold fL_asks_313 at h
    refine lv_ldc2 (v := 31) hx hb hown (hts (.constantLong RL 68 31) (by decide +kernel)) dL_asks_313 ?_
    refine lv_ldc2 (v := 31) hx hb hown (hts (.constantLong RL 68 31) (by decide +kernel)) dL_asks_316 ?_
    refine lv_lload_n hx hb dL_asks_319 rfl (lv_at hl 1 rfl) ?_
    refine lv_lmul hx hb dL_asks_320 ?_
    refine lv_aload_n hx hb dL_asks_321 rfl (lv_at hl 0 rfl) ?_
    obtain ⟨v23, hv23, h⟩ := bdP_some h
    refine call_BVP (As := []) (rest := [.long (((31 : Int64)) * x1), .long ((31 : Int64))]) ⟨hx, hb, hml, hown, hts⟩ (tX2_captain (l := l) (dC := dC) (dI := dI) (cI := cI) (cB := cB) (cP := cP) (ad := ad) (base := base) (R := R) hv23 hCF) (cwV 0 hts (gqL_asks gQ_X2_captain) rfl rfl rfl (by decide +kernel) ⟨Nat.le_of_ble_eq_true rfl, Nat.le_of_ble_eq_true rfl⟩) hK hP hD (Nat.le_trans hbs hS.1) (fun U hU hW => Env_step rfl rfl hE hS hU hW) 0 rfl rfl (by rfl) hl.1 rfl (Nat.le_of_ble_eq_true rfl) dL_asks_322 ⟨by show _ ≤ 384; omega, by show _ ≤ 256 * (384); omega⟩ ?_
    refine lv_i2l hx hb dL_asks_325 rfl ?_
    refine lv_ladd hx hb dL_asks_326 ?_
    refine lv_lmul hx hb dL_asks_327 ?_
    refine lv_aload_n hx hb dL_asks_328 rfl (lv_at hl 0 rfl) ?_
    obtain ⟨v24, O25, hv24, h⟩ := bdO_some h
    refine call_BVE (As := []) (rest := [.long (((31 : Int64)) * ((((31 : Int64)) * x1) + v23.toInt64))]) ⟨hx, hb, hml, hown, hts⟩ (tX2_captainIn (l := l) (dC := dC) (dI := dI) (cI := cI) (cB := cB) (cP := cP) (ad := ad) (base := base) (R := R) hv24 hCF) (cwV 0 hts (gqL_asks gQ_X2_captainIn) rfl rfl rfl (by decide +kernel) ⟨Nat.le_of_ble_eq_true rfl, Nat.le_of_ble_eq_true rfl⟩) hK hP hD hS (Nat.le_trans hbs hS.1) (fun U hU hW => Env_step rfl rfl hE hS hU hW) 0 rfl rfl (by rfl) hl.1 rfl (Nat.le_of_ble_eq_true rfl) dL_asks_329 ⟨by show _ ≤ 384; omega, by show _ ≤ 256 * (384); omega⟩ (fun H locs ws9 hW9 hP hD _ hS => ?_)
    obtain ⟨Z, rfl, hCF⟩ := hW9
    refine lv_i2l hx hb dL_asks_332 rfl ?_
    refine lv_ladd hx hb dL_asks_333 ?_
    exact W_le (by omega) (by omega) (W.lret hx hb hr (fun t ht _ => retOl h hCF hP hD hS ht) hS.2.2 dL_asks_334)
  have t_45 : ∀ {n : Nat}, ∀ {K : OT} {x1 : Int64} {x3 : Int32} {H : Heap} {locs : List Loc} {Z : Nat → Nat} {cells slots : Nat} {ls : Array Slot} (h : fL_asks_45 N  n K x1 x3 = some (rr, KK)) (hl : lv_has ls 6 [(0, .ref (ad 0 0)), (1, .long x1), (3, .int x3)]) (hP : va_P (dC, dI) vwCl (outW cI cB cP ad Z K ++ R) H) (hD : va_D (aB base) (outW cI cB cP ad Z K ++ R)) (hS : va_S (aB base) s.heap H locs) (hCF : OF Z K) (hcn : cells + (64 * n + 0) ≤ 384 ∧ slots + 256 * (64 * n + 0) ≤ 256 * (384)), W p l e (headSpec wsL_asks_q rmL_asks).room s m ([.ref (ad 0 0)] : List Value).toArray below meth c H locs cells slots (MQ below (cBe (dC, dI) vwCl base (some (.long rr)) (fun ws => ∃ Z : Nat → Nat, ws = (outW cI cB cP ad Z KK ++ R) ∧ OF Z KK)) ([.ref (ad 0 0)] : List Value).toArray s (384) (256 * (384)) (aB base)) (F0 m 45 ls []) := by
    intro  n
    induction n with
    | zero =>
      intro K x1 x3 H locs Z cells slots ls h hl hP hD hS hCF hcn
      unfold fL_asks_45 at h
      cases h
    | succ n ih =>
      intro K x1 x3 H locs Z cells slots ls h hl hP hD hS hCF hcn
      unfold fL_asks_45 at h
      refine lv_iload_n hx hb dL_asks_45 rfl (lv_at hl 2 rfl) ?_
      refine lv_iconst (v := 5) hx hb dL_asks_46 (by decide) ?_
      refine lv_icmp_ge (tgt := 313) hx hb dL_asks_47 (by decide) (fun c26 => ?_) (fun c26 => ?_)
      · replace h := if_p c26 h
        exact t_313  h (lv_sub hl [0, 1] rfl) hP hD hS hCF (by omega)
      · replace h := if_n c26 h
        refine lv_iconst (v := 0) hx hb dL_asks_50 (by decide) ?_
        refine lv_istore (lv' := [(4, .int 0), (0, .ref (ad 0 0)), (1, .long x1), (3, .int x3)]) hx hb dL_asks_51 hl (by decide) rfl (fun ls hl => ?_)
        exact t_53 @ih h (lv_sub hl [1, 2, 3, 0] rfl) hP hD hS hCF (by omega)
  have t_43 : ∀ {K : OT} {x1 : Int64} {H : Heap} {locs : List Loc} {Z : Nat → Nat} {cells slots : Nat} {ls : Array Slot} (h : fL_asks_43 N  K x1 = some (rr, KK)) (hl : lv_has ls 6 [(0, .ref (ad 0 0)), (1, .long x1)]) (hP : va_P (dC, dI) vwCl (outW cI cB cP ad Z K ++ R) H) (hD : va_D (aB base) (outW cI cB cP ad Z K ++ R)) (hS : va_S (aB base) s.heap H locs) (hCF : OF Z K) (hcn : cells + (384) ≤ 384 ∧ slots + 256 * (384) ≤ 256 * (384)), W p l e (headSpec wsL_asks_q rmL_asks).room s m ([.ref (ad 0 0)] : List Value).toArray below meth c H locs cells slots (MQ below (cBe (dC, dI) vwCl base (some (.long rr)) (fun ws => ∃ Z : Nat → Nat, ws = (outW cI cB cP ad Z KK ++ R) ∧ OF Z KK)) ([.ref (ad 0 0)] : List Value).toArray s (384) (256 * (384)) (aB base)) (F0 m 43 ls []) := by
    intro  K x1 H locs Z cells slots ls h hl hP hD hS hCF hcn
    unfold fL_asks_43 at h
    refine lv_iconst (v := 0) hx hb dL_asks_43 (by decide) ?_
    refine lv_istore_n (lv' := [(3, .int 0), (0, .ref (ad 0 0)), (1, .long x1)]) hx hb dL_asks_44 rfl hl (by decide) rfl (fun ls hl => ?_)
    exact t_45  h (lv_sub hl [1, 2, 0] rfl) hP hD hS hCF (by omega)
  have t_18 : ∀ {n : Nat}, ∀ {K : OT} {x1 : Int64} {x3 : Int32} {H : Heap} {locs : List Loc} {Z : Nat → Nat} {cells slots : Nat} {ls : Array Slot} (h : fL_asks_18 N  n K x1 x3 = some (rr, KK)) (hl : lv_has ls 6 [(0, .ref (ad 0 0)), (1, .long x1), (3, .int x3)]) (hP : va_P (dC, dI) vwCl (outW cI cB cP ad Z K ++ R) H) (hD : va_D (aB base) (outW cI cB cP ad Z K ++ R)) (hS : va_S (aB base) s.heap H locs) (hCF : OF Z K) (hcn : cells + (384) ≤ 384 ∧ slots + 256 * (384) ≤ 256 * (384)), W p l e (headSpec wsL_asks_q rmL_asks).room s m ([.ref (ad 0 0)] : List Value).toArray below meth c H locs cells slots (MQ below (cBe (dC, dI) vwCl base (some (.long rr)) (fun ws => ∃ Z : Nat → Nat, ws = (outW cI cB cP ad Z KK ++ R) ∧ OF Z KK)) ([.ref (ad 0 0)] : List Value).toArray s (384) (256 * (384)) (aB base)) (F0 m 18 ls []) := by
    intro  n
    induction n with
    | zero =>
      intro K x1 x3 H locs Z cells slots ls h hl hP hD hS hCF hcn
      unfold fL_asks_18 at h
      cases h
    | succ n ih =>
      intro K x1 x3 H locs Z cells slots ls h hl hP hD hS hCF hcn
      unfold fL_asks_18 at h
      refine lv_iload_n hx hb dL_asks_18 rfl (lv_at hl 2 rfl) ?_
      refine lv_bipush (v := 11) hx hb dL_asks_19 (by decide) ?_
      refine lv_icmp_ge (tgt := 43) hx hb dL_asks_21 (by decide) (fun c27 => ?_) (fun c27 => ?_)
      · replace h := if_p c27 h
        exact t_43  h (lv_sub hl [0, 1] rfl) hP hD hS hCF (by omega)
      · replace h := if_n c27 h
        refine lv_ldc2 (v := 31) hx hb hown (hts (.constantLong RL 68 31) (by decide +kernel)) dL_asks_24 ?_
        refine lv_lload_n hx hb dL_asks_27 rfl (lv_at hl 1 rfl) ?_
        refine lv_lmul hx hb dL_asks_28 ?_
        refine lv_aload_n hx hb dL_asks_29 rfl (lv_at hl 0 rfl) ?_
        refine lv_iload_n hx hb dL_asks_30 rfl (lv_at hl 2 rfl) ?_
        obtain ⟨v28, hv28, h⟩ := bdP_some h
        refine call_BVP (As := [.int x3]) (rest := [.long (((31 : Int64)) * x1)]) ⟨hx, hb, hml, hown, hts⟩ (tX2_account (l := l) (dC := dC) (dI := dI) (cI := cI) (cB := cB) (cP := cP) (ad := ad) (base := base) (R := R) hv28 hCF) (cwV 1 hts (gqL_asks gQ_X2_account) rfl rfl rfl (by decide +kernel) ⟨Nat.le_of_ble_eq_true rfl, Nat.le_of_ble_eq_true rfl⟩) hK hP hD (Nat.le_trans hbs hS.1) (fun U hU hW => Env_step rfl rfl hE hS hU hW) 0 rfl rfl (by rfl) hl.1 rfl (Nat.le_of_ble_eq_true rfl) dL_asks_31 ⟨by show _ ≤ 384; omega, by show _ ≤ 256 * (384); omega⟩ ?_
        refine lv_i2l hx hb dL_asks_34 rfl ?_
        refine lv_ladd hx hb dL_asks_35 ?_
        refine lv_lstore_n (lv' := [(1, .long ((((31 : Int64)) * x1) + v28.toInt64)), (0, .ref (ad 0 0)), (3, .int x3)]) hx hb dL_asks_36 rfl hl (by decide) rfl (fun ls hl => ?_)
        refine lv_iinc (v := x3 + 1) (lv' := [(3, .int (x3 + 1)), (1, .long ((((31 : Int64)) * x1) + v28.toInt64)), (0, .ref (ad 0 0))]) hx hb dL_asks_37 hl (k := 2) rfl rfl (by decide) rfl (fun ls hl => ?_)
        refine lv_goto (tgt := 18) hx hb dL_asks_40 (by decide) ?_
        exact ih h (lv_sub hl [2, 1, 0] rfl) hP hD hS hCF (by omega)
  have hS : va_S (aB base) s.heap s.heap [] := va_S.rf
  have hl := lv_entry ([.ref (ad 0 0)]) (n := 6) (Nat.le_of_ble_eq_true rfl)
  rw [lg_entry_eq]
  generalize (lg_sl ([.ref (ad 0 0)]) ++ List.replicate (6 - (lg_sl ([.ref (ad 0 0)])).length) Slot.unset).toArray = ls at hl ⊢
  have hl : lv_has ls 6 [(0, .ref (ad 0 0))] := hl
  have h := hf
  unfold mL_asks at h
  refine lv_ldc2 (v := 31) hx hb hown (hts (.constantLong RL 68 31) (by decide +kernel)) dL_asks_0 ?_
  refine lv_aload_n hx hb dL_asks_3 rfl (lv_at hl 0 rfl) ?_
  obtain ⟨v29, hv29, h⟩ := bdP_some h
  refine call_BVP (As := []) (rest := [.long ((31 : Int64))]) ⟨hx, hb, hml, hown, hts⟩ (tX2_share (l := l) (dC := dC) (dI := dI) (cI := cI) (cB := cB) (cP := cP) (ad := ad) (base := base) (R := R) hv29) (cwV 0 hts (gqL_asks gQ_X2_share) rfl rfl rfl (by decide +kernel) ⟨Nat.le_of_ble_eq_true rfl, Nat.le_of_ble_eq_true rfl⟩) hK hP hD (Nat.le_trans hbs hS.1) (fun U hU hW => Env_step rfl rfl hE hS hU hW) 0 rfl rfl (by rfl) hl.1 rfl (Nat.le_of_ble_eq_true rfl) dL_asks_4 ⟨by show _ ≤ 384; omega, by show _ ≤ 256 * (384); omega⟩ ?_
  refine lv_i2l hx hb dL_asks_7 rfl ?_
  refine lv_lmul hx hb dL_asks_8 ?_
  refine lv_aload_n hx hb dL_asks_9 rfl (lv_at hl 0 rfl) ?_
  obtain ⟨v30, hv30, h⟩ := bdP_some h
  refine call_BVP (As := []) (rest := [.long (((31 : Int64)) * v29.toInt64)]) ⟨hx, hb, hml, hown, hts⟩ (tX2_isWell (l := l) (dC := dC) (dI := dI) (cI := cI) (cB := cB) (cP := cP) (ad := ad) (base := base) (R := R) hv30 hCF) (cwV 0 hts (gqL_asks gQ_X2_isWell) rfl rfl rfl (by decide +kernel) ⟨Nat.le_of_ble_eq_true rfl, Nat.le_of_ble_eq_true rfl⟩) hK hP hD (Nat.le_trans hbs hS.1) (fun U hU hW => Env_step rfl rfl hE hS hU hW) 0 rfl rfl (by rfl) hl.1 rfl (Nat.le_of_ble_eq_true rfl) dL_asks_10 ⟨by show _ ≤ 384; omega, by show _ ≤ 256 * (384); omega⟩ ?_
  refine lv_i2l hx hb dL_asks_13 rfl ?_
  refine lv_ladd hx hb dL_asks_14 ?_
  refine lv_lstore_n (lv' := [(1, .long ((((31 : Int64)) * v29.toInt64) + v30.toInt64)), (0, .ref (ad 0 0))]) hx hb dL_asks_15 rfl hl (by decide) rfl (fun ls hl => ?_)
  refine lv_iconst (v := 0) hx hb dL_asks_16 (by decide) ?_
  refine lv_istore_n (lv' := [(3, .int 0), (1, .long ((((31 : Int64)) * v29.toInt64) + v30.toInt64)), (0, .ref (ad 0 0))]) hx hb dL_asks_17 rfl hl (by decide) rfl (fun ls hl => ?_)
  exact t_18  h (lv_sub hl [2, 1, 0] rfl) hP hD hS hCF (by omega)
