def fL_reads_2 (N : Nat) (sn : Nat) (sf : Nat → Int32)  : Nat → OT → Int32 → Option (Int32 × OT)
  | 0, _, _ => none
  | n + 1, K, x2 => (if ((nI sn)) ≤ x2 then bdO (mX2_read N K ) (fun v3 O4 => some (v3, O4)) else rdA sf sn x2 (fun v5 => bdO (mX2_append N K (v5 &&& 255)) (fun v7 O8 => (if v7 = (x2 + 1) then (fL_reads_2 N sn sf  n) O8 (x2 + 1) else some ((-9999), O8)))))
def mL_reads (N : Nat) (sn : Nat) (sf : Nat → Int32) (K : OT)  : Option (Int32 × OT) := fL_reads_2 N sn sf  9 K 0
def rmL_reads : Room := { frames := 12, cells := 10, slots := 256 * (10), locals := 370 }
def wsL_reads_q : List Cond := .code yL_reads cL_reads 3 (some .int) :: wsL_law
theorem gqL_reads {a : List Cond} (h : GoodIn wsL_law a) : GoodIn wsL_reads_q a := gM_in h
set_option maxHeartbeats 4000000 in
set_option maxRecDepth 100000 in
theorem tL_reads {l : Launch} {dC : Nat → ClassId} {dI : Nat → Nat → Nat} {cI cB cP : ClassId} {ad : Nat → Nat → Nat} {Z : Nat → Nat} {base b : Nat} {adK adV : Nat → Nat} {R : va_W} {L : Nat} {xs : Nat → Int32} {sa : Nat} {N : Nat} {sn : Nat} {sf : Nat → Int32} {K : OT}  {rr : Int32} {KK : OT} (hf : mL_reads N sn sf K  = some (rr, KK)) (hCF : OF Z K) : Met l yL_reads wsL_reads_q rmL_reads (cLr (dC, dI) vwCl [(cI, .int), (cB, .byte), (cP, .object RX0)] base b L xs adK adV R sa sn sf (outW cI cB cP ad Z K ++ R) [.ref (ad 0 0), .ref sa]) (cBe (dC, dI) vwCl base (some (.int rr)) (fun ws => ∃ Z : Nat → Nat, ws = (outW cI cB cP ad Z KK ++ R) ∧ OF Z KK)) (10) (256 * (10)) (aB base) := by
  refine Met.ofW (cc := cL_reads) (maxL := 3) (ret := (some .int)) (by decide) rfl ?_
  intro p e s m args below meth c s₁ B hml hv
  obtain ⟨⟨rfl, hP, hK, hD, hbs, hEL⟩, hStr⟩ := hv
  have hx := B.exec
  have hb := B.bytes
  have hr := B.returns
  have hts := atoms_spec (ws := wsL_reads_q) B.pre
  have hown : s.vm.findClass RL = some m.cls := findClass_of_methodNamed B.named
  have hlocks := B.notSynchronized
  have hE := hEL.1
  have hcn : 0 + (10) ≤ 10 ∧ 0 + 256 * (10) ≤ 256 * (10) := by omega
  have t_2 : ∀ {n : Nat}, ∀ {K : OT} {x2 : Int32} {H : Heap} {locs : List Loc} {Z : Nat → Nat} {cells slots : Nat} {ls : Array Slot} (h : fL_reads_2 N sn sf  n K x2 = some (rr, KK)) (hl : lv_has ls 3 [(0, .ref (ad 0 0)), (1, .ref sa), (2, .int x2)]) (hP : va_P (dC, dI) vwCl (outW cI cB cP ad Z K ++ R) H) (hD : va_D (aB base) (outW cI cB cP ad Z K ++ R)) (hS : va_S (aB base) s.heap H locs) (hCF : OF Z K) (hcn : cells + (1 * n + 1) ≤ 10 ∧ slots + 256 * (1 * n + 1) ≤ 256 * (10)), W p l e (headSpec wsL_reads_q rmL_reads).room s m ([.ref (ad 0 0), .ref sa] : List Value).toArray below meth c H locs cells slots (MQ below (cBe (dC, dI) vwCl base (some (.int rr)) (fun ws => ∃ Z : Nat → Nat, ws = (outW cI cB cP ad Z KK ++ R) ∧ OF Z KK)) ([.ref (ad 0 0), .ref sa] : List Value).toArray s (10) (256 * (10)) (aB base)) (F0 m 2 ls []) := by
    intro  n
    induction n with
    | zero =>
      intro K x2 H locs Z cells slots ls h hl hP hD hS hCF hcn
      unfold fL_reads_2 at h
      cases h
    | succ n ih =>
      intro K x2 H locs Z cells slots ls h hl hP hD hS hCF hcn
      unfold fL_reads_2 at h
      refine lv_iload_n hx hb dL_reads_2 rfl (lv_at hl 2 rfl) ?_
      refine lv_aload_n hx hb dL_reads_3 rfl (lv_at hl 1 rfl) ?_
      refine call_JsP (As := []) (rest := [.int x2]) ⟨hx, hb, hml, hown, hts⟩ (tJ0_length_8abf5 (l := l) (base := base) (n := sn) (f := sf)) (cwV 0 hts (gqL_reads gQ_J0_length_8abf5) rfl rfl rfl (by decide +kernel) ⟨Nat.le_of_ble_eq_true rfl, Nat.le_of_ble_eq_true rfl⟩) (hStr H (P_app.mp hP).2 hS.2.1) (Nat.le_trans hbs hS.1) (fun U hU hW => Env_step rfl rfl hE hS hU hW) (by rfl) hl.1 rfl (Nat.le_of_ble_eq_true rfl) dL_reads_4 ⟨by show _ ≤ 10; omega, by show _ ≤ 256 * (10); omega⟩ ?_
      refine lv_icmp_ge (tgt := 35) hx hb dL_reads_7 (by decide) (fun c2 => ?_) (fun c2 => ?_)
      · replace h := if_p c2 h
        refine lv_aload_n hx hb dL_reads_35 rfl (lv_at hl 0 rfl) ?_
        obtain ⟨v3, O4, hv3, h⟩ := bdO_some h
        refine call_BVE (As := []) (rest := []) ⟨hx, hb, hml, hown, hts⟩ (tX2_read (l := l) (dC := dC) (dI := dI) (cI := cI) (cB := cB) (cP := cP) (ad := ad) (base := base) (R := R) hv3 hCF) (cwV 0 hts (gqL_reads gQ_X2_read) rfl rfl rfl (by decide +kernel) ⟨Nat.le_of_ble_eq_true rfl, Nat.le_of_ble_eq_true rfl⟩) hK hP hD hS (Nat.le_trans hbs hS.1) (fun U hU hW => Env_step rfl rfl hE hS hU hW) 0 rfl rfl (by rfl) hl.1 rfl (Nat.le_of_ble_eq_true rfl) dL_reads_36 ⟨by show _ ≤ 10; omega, by show _ ≤ 256 * (10); omega⟩ (fun H locs ws9 hW9 hP hD _ hS => ?_)
        obtain ⟨Z, rfl, hCF⟩ := hW9
        exact W_le (by omega) (by omega) (W.iret hx hb hr (fun t ht _ => retO h hCF hP hD hS ht) hS.2.2 dL_reads_39)
      · replace h := if_n c2 h
        refine lv_aload_n hx hb dL_reads_10 rfl (lv_at hl 0 rfl) ?_
        refine lv_aload_n hx hb dL_reads_11 rfl (lv_at hl 1 rfl) ?_
        refine lv_iload_n hx hb dL_reads_12 rfl (lv_at hl 2 rfl) ?_
        obtain ⟨hi6, v5, ev5, h⟩ := rdA_some h
        refine call_JsP (As := [.int x2]) (rest := [.ref (ad 0 0)]) ⟨hx, hb, hml, hown, hts⟩ (tJ0_charAt_5068e (l := l) (base := base) (n := sn) (f := sf) hi6) (cwV 1 hts (gqL_reads gQ_J0_charAt_5068e) rfl rfl rfl (by decide +kernel) ⟨Nat.le_of_ble_eq_true rfl, Nat.le_of_ble_eq_true rfl⟩) (hStr H (P_app.mp hP).2 hS.2.1) (Nat.le_trans hbs hS.1) (fun U hU hW => Env_step rfl rfl hE hS hU hW) (by rfl) hl.1 rfl (Nat.le_of_ble_eq_true rfl) dL_reads_13 ⟨by show _ ≤ 10; omega, by show _ ≤ 256 * (10); omega⟩ ?_
        rw [← ev5]
        obtain ⟨v7, O8, hv7, h⟩ := bdO_some h
        refine call_BVE (As := [.int (v5 &&& 255)]) (rest := []) ⟨hx, hb, hml, hown, hts⟩ (tX2_append (l := l) (dC := dC) (dI := dI) (cI := cI) (cB := cB) (cP := cP) (ad := ad) (base := base) (R := R) hv7 hCF) (cwV 1 hts (gqL_reads gQ_X2_append) rfl rfl rfl (by decide +kernel) ⟨Nat.le_of_ble_eq_true rfl, Nat.le_of_ble_eq_true rfl⟩) hK hP hD hS (Nat.le_trans hbs hS.1) (fun U hU hW => Env_step rfl rfl hE hS hU hW) 0 rfl rfl (by rfl) hl.1 rfl (Nat.le_of_ble_eq_true rfl) dL_reads_16 ⟨by show _ ≤ 10; omega, by show _ ≤ 256 * (10); omega⟩ (fun H locs ws9 hW9 hP hD _ hS => ?_)
        obtain ⟨Z, rfl, hCF⟩ := hW9
        refine lv_iload_n hx hb dL_reads_19 rfl (lv_at hl 2 rfl) ?_
        refine lv_iconst (v := 1) hx hb dL_reads_20 (by decide) ?_
        refine lv_iadd hx hb dL_reads_21 ?_
        refine lv_icmp_eq (tgt := 29) hx hb dL_reads_22 (by decide) (fun c9 => ?_) (fun c9 => ?_)
        · replace h := if_p c9 h
          refine lv_iinc (v := x2 + 1) (lv' := [(2, .int (x2 + 1)), (0, .ref (ad 0 0)), (1, .ref sa)]) hx hb dL_reads_29 hl (k := 2) rfl rfl (by decide) rfl (fun ls hl => ?_)
          refine lv_goto (tgt := 2) hx hb dL_reads_32 (by decide) ?_
          exact ih h (lv_sub hl [1, 2, 0] rfl) hP hD hS hCF (by omega)
        · replace h := if_n c9 h
          refine lv_sipush (v := (-9999)) hx hb dL_reads_25 (by decide) ?_
          exact W_le (by omega) (by omega) (W.iret hx hb hr (fun t ht _ => retO h hCF hP hD hS ht) hS.2.2 dL_reads_28)
  have hS : va_S (aB base) s.heap s.heap [] := va_S.rf
  have hl := lv_entry ([.ref (ad 0 0), .ref sa]) (n := 3) (Nat.le_of_ble_eq_true rfl)
  rw [lg_entry_eq]
  generalize (lg_sl ([.ref (ad 0 0), .ref sa]) ++ List.replicate (3 - (lg_sl ([.ref (ad 0 0), .ref sa])).length) Slot.unset).toArray = ls at hl ⊢
  have hl : lv_has ls 3 [(0, .ref (ad 0 0)), (1, .ref sa)] := hl
  have h := hf
  unfold mL_reads at h
  refine lv_iconst (v := 0) hx hb dL_reads_0 (by decide) ?_
  refine lv_istore_n (lv' := [(2, .int 0), (0, .ref (ad 0 0)), (1, .ref sa)]) hx hb dL_reads_1 rfl hl (by decide) rfl (fun ls hl => ?_)
  exact t_2  h (lv_sub hl [1, 2, 0] rfl) hP hD hS hCF (by omega)
def fL_makes_48 (N : Nat) (L : Nat) (xs : Nat → Int32) (k2 : OT → Int32 → Option (Int32 × OT)) (K : OT) (x2 : Int32) : Option (Int32 × OT) := k2 K (x2 + 1)
def fL_makes_2 (N : Nat) (L : Nat) (xs : Nat → Int32)  : Nat → OT → Int32 → Option (Int32 × OT)
  | 0, _, _ => none
  | n + 1, K, x2 => (if 26 ≤ x2 then some (1, K) else bdP (mL_at N L xs x2) (fun v2 => bdO (mL_happens N K ((v2 ^^^ (x2 * 7919)) ^^^ (ushr (v2 ^^^ (x2 * 7919)) 7))) (fun v3 O4 => (if 0 ≤ v3 then fL_makes_48 N L xs (fL_makes_2 N L xs  n) O4 x2 else (if v3 = ((-3)) then fL_makes_48 N L xs (fL_makes_2 N L xs  n) O4 x2 else some (0, O4))))))
def mL_makes (N : Nat) (L : Nat) (xs : Nat → Int32) (K : OT)  : Option (Int32 × OT) := fL_makes_2 N L xs  N K 0
def rmL_makes : Room := { frames := 8, cells := 0, slots := 0, locals := 215 }
def wsL_makes_q : List Cond := .code yL_makes cL_makes 5 (some .boolean) :: wsL_law
theorem gqL_makes {a : List Cond} (h : GoodIn wsL_law a) : GoodIn wsL_makes_q a := gM_in h
set_option maxHeartbeats 4000000 in
set_option maxRecDepth 100000 in
theorem tL_makes {l : Launch} {dC : Nat → ClassId} {dI : Nat → Nat → Nat} {cI cB cP : ClassId} {ad : Nat → Nat → Nat} {Z : Nat → Nat} {base b : Nat} {adK adV : Nat → Nat} {R : va_W} {N : Nat} {L : Nat} {xs : Nat → Int32} {K : OT}  {rr : Int32} {KK : OT} (hf : mL_makes N L xs K  = some (rr, KK)) (hCF : OF Z K) : Met l yL_makes wsL_makes_q rmL_makes (cLp (dC, dI) vwCl [(cI, .int), (cB, .byte), (cP, .object RX0)] base b L xs adK adV (outW cI cB cP ad Z K ++ R) [.ref (ad 0 0), .ref b]) (cBe (dC, dI) vwCl base (some (.int rr)) (fun ws => ∃ Z : Nat → Nat, ws = (outW cI cB cP ad Z KK ++ R) ∧ OF Z KK)) 0 0 (aB base) := by
  refine Met.ofW (cc := cL_makes) (maxL := 5) (ret := (some .boolean)) (by decide) rfl ?_
  intro p e s m args below meth c s₁ B hml hv
  obtain ⟨rfl, hP, hK, hD, hbs, hEL⟩ := hv
  have hx := B.exec
  have hb := B.bytes
  have hr := B.returns
  have hts := atoms_spec (ws := wsL_makes_q) B.pre
  have hown : s.vm.findClass RL = some m.cls := findClass_of_methodNamed B.named
  have hlocks := B.notSynchronized
  have hE := hEL.1
  have t_48 : ∀ {k2 : OT → Int32 → Option (Int32 × OT)} (hk2 : ∀ {K : OT} {x2 : Int32} {H : Heap} {locs : List Loc} {Z : Nat → Nat} {ls : Array Slot} (h : k2 K x2 = some (rr, KK)) (hl : lv_has ls 5 [(0, .ref (ad 0 0)), (1, .ref b), (2, .int x2)]) (hP : va_P (dC, dI) vwCl (outW cI cB cP ad Z K ++ R) H) (hD : va_D (aB base) (outW cI cB cP ad Z K ++ R)) (hS : va_S (aB base) s.heap H locs) (hCF : OF Z K), W p l e (headSpec wsL_makes_q rmL_makes).room s m ([.ref (ad 0 0), .ref b] : List Value).toArray below meth c H locs 0 0 (MQ below (cBe (dC, dI) vwCl base (some (.int rr)) (fun ws => ∃ Z : Nat → Nat, ws = (outW cI cB cP ad Z KK ++ R) ∧ OF Z KK)) ([.ref (ad 0 0), .ref b] : List Value).toArray s 0 0 (aB base)) (F0 m 2 ls [])), ∀ {K : OT} {x2 : Int32} {H : Heap} {locs : List Loc} {Z : Nat → Nat} {ls : Array Slot} (h : fL_makes_48 N L xs k2 K x2 = some (rr, KK)) (hl : lv_has ls 5 [(0, .ref (ad 0 0)), (1, .ref b), (2, .int x2)]) (hP : va_P (dC, dI) vwCl (outW cI cB cP ad Z K ++ R) H) (hD : va_D (aB base) (outW cI cB cP ad Z K ++ R)) (hS : va_S (aB base) s.heap H locs) (hCF : OF Z K), W p l e (headSpec wsL_makes_q rmL_makes).room s m ([.ref (ad 0 0), .ref b] : List Value).toArray below meth c H locs 0 0 (MQ below (cBe (dC, dI) vwCl base (some (.int rr)) (fun ws => ∃ Z : Nat → Nat, ws = (outW cI cB cP ad Z KK ++ R) ∧ OF Z KK)) ([.ref (ad 0 0), .ref b] : List Value).toArray s 0 0 (aB base)) (F0 m 48 ls []) := by
    intro k2 hk2 K x2 H locs Z ls h hl hP hD hS hCF
    unfold fL_makes_48 at h
    refine lv_iinc (v := x2 + 1) (lv' := [(2, .int (x2 + 1)), (0, .ref (ad 0 0)), (1, .ref b)]) hx hb dL_makes_48 hl (k := 2) rfl rfl (by decide) rfl (fun ls hl => ?_)
    refine lv_goto (tgt := 2) hx hb dL_makes_51 (by decide) ?_
    exact hk2 h (lv_sub hl [1, 2, 0] rfl) hP hD hS hCF
  have t_2 : ∀ {n : Nat}, ∀ {K : OT} {x2 : Int32} {H : Heap} {locs : List Loc} {Z : Nat → Nat} {ls : Array Slot} (h : fL_makes_2 N L xs  n K x2 = some (rr, KK)) (hl : lv_has ls 5 [(0, .ref (ad 0 0)), (1, .ref b), (2, .int x2)]) (hP : va_P (dC, dI) vwCl (outW cI cB cP ad Z K ++ R) H) (hD : va_D (aB base) (outW cI cB cP ad Z K ++ R)) (hS : va_S (aB base) s.heap H locs) (hCF : OF Z K), W p l e (headSpec wsL_makes_q rmL_makes).room s m ([.ref (ad 0 0), .ref b] : List Value).toArray below meth c H locs 0 0 (MQ below (cBe (dC, dI) vwCl base (some (.int rr)) (fun ws => ∃ Z : Nat → Nat, ws = (outW cI cB cP ad Z KK ++ R) ∧ OF Z KK)) ([.ref (ad 0 0), .ref b] : List Value).toArray s 0 0 (aB base)) (F0 m 2 ls []) := by
    intro  n
    induction n with
    | zero =>
      intro K x2 H locs Z ls h hl hP hD hS hCF
      unfold fL_makes_2 at h
      cases h
    | succ n ih =>
      intro K x2 H locs Z ls h hl hP hD hS hCF
      unfold fL_makes_2 at h
      refine lv_iload_n hx hb dL_makes_2 rfl (lv_at hl 2 rfl) ?_
      refine lv_bipush (v := 26) hx hb dL_makes_3 (by decide) ?_
      refine lv_icmp_ge (tgt := 54) hx hb dL_makes_5 (by decide) (fun c1 => ?_) (fun c1 => ?_)
      · replace h := if_p c1 h
        refine lv_iconst (v := 1) hx hb dL_makes_54 (by decide) ?_
        exact (W.zret hx hb hr (by decide) (fun t ht _ => retO h hCF hP hD hS ht) hS.2.2 dL_makes_55)
      · replace h := if_n c1 h
        refine lv_aload_n hx hb dL_makes_8 rfl (lv_at hl 1 rfl) ?_
        refine lv_iload_n hx hb dL_makes_9 rfl (lv_at hl 2 rfl) ?_
        obtain ⟨v2, hv2, h⟩ := bdP_some h
        refine call_LXP (As := [.ref b, .int x2]) (rest := []) ⟨hx, hb, hml, hown, hts⟩ (tL_at (l := l) hv2) (va_cwS 2 hts (gqL_makes gQ_L_at) rfl rfl rfl (by decide +kernel) ⟨Nat.le_of_ble_eq_true rfl, Nat.le_of_ble_eq_true rfl⟩) (fun U hU hW => (EnvL_step hEL hS hU hW).2.1.2) (by rfl) hl.1 rfl (Nat.le_of_ble_eq_true rfl) dL_makes_10 ⟨Nat.zero_le _, Nat.zero_le _⟩ ?_
        refine lv_iload_n hx hb dL_makes_13 rfl (lv_at hl 2 rfl) ?_
        refine lv_sipush (v := 7919) hx hb dL_makes_14 (by decide) ?_
        refine lv_imul hx hb dL_makes_17 ?_
        refine lv_ixor hx hb dL_makes_18 ?_
        refine lv_istore_n (lv' := [(3, .int (v2 ^^^ (x2 * 7919))), (0, .ref (ad 0 0)), (1, .ref b), (2, .int x2)]) hx hb dL_makes_19 rfl hl (by decide) rfl (fun ls hl => ?_)
        refine lv_iload_n hx hb dL_makes_20 rfl (lv_at hl 0 rfl) ?_
        refine lv_iload_n hx hb dL_makes_21 rfl (lv_at hl 0 rfl) ?_
        refine lv_bipush (v := 7) hx hb dL_makes_22 (by decide) ?_
        refine lv_iushr hx hb dL_makes_24 rfl ?_
        refine lv_ixor hx hb dL_makes_25 ?_
        refine lv_istore_n (lv' := [(3, .int ((v2 ^^^ (x2 * 7919)) ^^^ (ushr (v2 ^^^ (x2 * 7919)) 7))), (0, .ref (ad 0 0)), (1, .ref b), (2, .int x2)]) hx hb dL_makes_26 rfl hl (by decide) rfl (fun ls hl => ?_)
        refine lv_aload_n hx hb dL_makes_27 rfl (lv_at hl 1 rfl) ?_
        refine lv_iload_n hx hb dL_makes_28 rfl (lv_at hl 0 rfl) ?_
        obtain ⟨v3, O4, hv3, h⟩ := bdO_some h
        refine call_LSE (As := [.ref (ad 0 0), .int ((v2 ^^^ (x2 * 7919)) ^^^ (ushr (v2 ^^^ (x2 * 7919)) 7))]) (rest := []) ⟨hx, hb, hml, hown, hts⟩ (tL_happens (l := l) (dC := dC) (dI := dI) (cI := cI) (cB := cB) (cP := cP) (ad := ad) (base := base) (b := b) (L := L) (xs := xs) (adK := adK) (adV := adV) (R := R) hv3 hCF) (va_cwS 2 hts (gqL_makes gQ_L_happens) rfl rfl rfl (by decide +kernel) ⟨Nat.le_of_ble_eq_true rfl, Nat.le_of_ble_eq_true rfl⟩) hK hP hD hS (Nat.le_trans hbs hS.1) (fun U hU hW => EnvL_step hEL hS hU hW) (by rfl) hl.1 rfl (Nat.le_of_ble_eq_true rfl) dL_makes_29 ⟨Nat.zero_le _, Nat.zero_le _⟩ (fun H locs ws9 hW9 hP hD _ hS => ?_)
        obtain ⟨Z, rfl, hCF⟩ := hW9
        refine lv_istore (lv' := [(4, .int v3), (3, .int ((v2 ^^^ (x2 * 7919)) ^^^ (ushr (v2 ^^^ (x2 * 7919)) 7))), (0, .ref (ad 0 0)), (1, .ref b), (2, .int x2)]) hx hb dL_makes_32 hl (by decide) rfl (fun ls hl => ?_)
        refine lv_iload hx hb dL_makes_34 (lv_at hl 0 rfl) ?_
        refine lv_if_ge (tgt := 48) hx hb dL_makes_36 (by decide) (fun c5 => ?_) (fun c5 => ?_)
        · replace h := if_p c5 h
          exact t_48 @ih h (lv_sub hl [2, 3, 4] rfl) hP hD hS hCF
        · replace h := if_n c5 h
          refine lv_iload hx hb dL_makes_39 (lv_at hl 0 rfl) ?_
          refine lv_bipush (v := (-3)) hx hb dL_makes_41 (by decide) ?_
          refine lv_icmp_eq (tgt := 48) hx hb dL_makes_43 (by decide) (fun c6 => ?_) (fun c6 => ?_)
          · replace h := if_p c6 h
            exact t_48 @ih h (lv_sub hl [2, 3, 4] rfl) hP hD hS hCF
          · replace h := if_n c6 h
            refine lv_iconst (v := 0) hx hb dL_makes_46 (by decide) ?_
            exact (W.zret hx hb hr (by decide) (fun t ht _ => retO h hCF hP hD hS ht) hS.2.2 dL_makes_47)
  have hS : va_S (aB base) s.heap s.heap [] := va_S.rf
  have hl := lv_entry ([.ref (ad 0 0), .ref b]) (n := 5) (Nat.le_of_ble_eq_true rfl)
  rw [lg_entry_eq]
  generalize (lg_sl ([.ref (ad 0 0), .ref b]) ++ List.replicate (5 - (lg_sl ([.ref (ad 0 0), .ref b])).length) Slot.unset).toArray = ls at hl ⊢
  have hl : lv_has ls 5 [(0, .ref (ad 0 0)), (1, .ref b)] := hl
  have h := hf
  unfold mL_makes at h
  refine lv_iconst (v := 0) hx hb dL_makes_0 (by decide) ?_
  refine lv_istore_n (lv' := [(2, .int 0), (0, .ref (ad 0 0)), (1, .ref b)]) hx hb dL_makes_1 rfl hl (by decide) rfl (fun ls hl => ?_)
  exact t_2  h (lv_sub hl [1, 2, 0] rfl) hP hD hS hCF
