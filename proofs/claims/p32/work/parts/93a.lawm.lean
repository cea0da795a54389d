def fL_is_32 (N : Nat) (K : OT)  (y0 : Int32) : Option Int32 := gd (y0 = 0 ∨ y0 = 1) (some y0)
def fL_is_31 (N : Nat) (K : OT)   : Option Int32 := fL_is_32 N K  0
def mL_is (N : Nat) (K : OT) (p1 : Int32) (p2 : Int32) (p3 : Int32) : Option Int32 := bdP (mX2_refusal N K 0) (fun v1 => (if v1 = p1 then bdP (mX2_refusal N K 1) (fun v3 => (if v3 = p2 then bdP (mX2_refusal N K 2) (fun v5 => (if v5 = p3 then fL_is_32 N K  1 else fL_is_31 N K  )) else fL_is_31 N K  )) else fL_is_31 N K  ))
def rmL_is : Room := { frames := 2, cells := 0, slots := 0, locals := 70 }
def wsL_is_q : List Cond := .code yL_is cL_is 4 (some .boolean) :: wsL_law
theorem gqL_is {a : List Cond} (h : GoodIn wsL_law a) : GoodIn wsL_is_q a := gM_in h
set_option maxHeartbeats 4000000 in
set_option maxRecDepth 100000 in
theorem tL_is {l : Launch} {dC : Nat → ClassId} {dI : Nat → Nat → Nat} {cI cB cP : ClassId} {ad : Nat → Nat → Nat} {Z : Nat → Nat} {base b : Nat} {adK adV : Nat → Nat} {R : va_W} {L : Nat} {xs : Nat → Int32} {N : Nat} {K : OT} {p1 : Int32} {p2 : Int32} {p3 : Int32} {rr : Int32} (hf : mL_is N K p1 p2 p3 = some rr) (hCF : OF Z K) : Met l yL_is wsL_is_q rmL_is (cLp (dC, dI) vwCl [(cI, .int), (cB, .byte), (cP, .object RX0)] base b L xs adK adV (outW cI cB cP ad Z K ++ R) [.ref (ad 0 0), .int p1, .int p2, .int p3]) (cQp rr) 0 0 (fun _ => False) := by
  refine Met.ofW (cc := cL_is) (maxL := 4) (ret := (some .boolean)) (by decide) rfl ?_
  intro p e s m args below meth c s₁ B hml hv
  obtain ⟨rfl, hP, hK, hD, hbs, hEL⟩ := hv
  have hx := B.exec
  have hb := B.bytes
  have hr := B.returns
  have hts := atoms_spec (ws := wsL_is_q) B.pre
  have hown : s.vm.findClass RL = some m.cls := findClass_of_methodNamed B.named
  have hlocks := B.notSynchronized
  have hE := hEL.1
  have hEU : ∀ U : State, U.heap = s.heap → s.WarmedH U.vm → EnvB base U := fun U hU hW => Env_step rfl rfl hE va_S.rf hU hW
  have t_32 : ∀ {y0 : Int32} {ls : Array Slot} (h : fL_is_32 N K  y0 = some rr) (hl : lv_has ls 4 []), W p l e (headSpec wsL_is_q rmL_is).room s m ([.ref (ad 0 0), .int p1, .int p2, .int p3] : List Value).toArray below meth c s.heap [] 0 0 (MQ below (cQp rr) ([.ref (ad 0 0), .int p1, .int p2, .int p3] : List Value).toArray s 0 0 (fun _ => False)) (F0 m 32 ls [.int y0]) := by
    intro  y0 ls h hl
    unfold fL_is_32 at h
    obtain ⟨hz, h⟩ := gd_some h
    exact W.zret hx hb hr (zb_ok hz) (fun t ht _ => retP h ht) (fun _ h9 => absurd h9 List.not_mem_nil) dL_is_32
  have t_31 : ∀  {ls : Array Slot} (h : fL_is_31 N K   = some rr) (hl : lv_has ls 4 []), W p l e (headSpec wsL_is_q rmL_is).room s m ([.ref (ad 0 0), .int p1, .int p2, .int p3] : List Value).toArray below meth c s.heap [] 0 0 (MQ below (cQp rr) ([.ref (ad 0 0), .int p1, .int p2, .int p3] : List Value).toArray s 0 0 (fun _ => False)) (F0 m 31 ls []) := by
    intro   ls h hl
    unfold fL_is_31 at h
    refine lv_iconst (v := 0) hx hb dL_is_31 (by decide) ?_
    exact t_32  h (lv_sub hl [] rfl)
  have hl := lv_entry ([.ref (ad 0 0), .int p1, .int p2, .int p3]) (n := 4) (Nat.le_of_ble_eq_true rfl)
  rw [lg_entry_eq]
  generalize (lg_sl ([.ref (ad 0 0), .int p1, .int p2, .int p3]) ++ List.replicate (4 - (lg_sl ([.ref (ad 0 0), .int p1, .int p2, .int p3])).length) Slot.unset).toArray = ls at hl ⊢
  have hl : lv_has ls 4 [(0, .ref (ad 0 0)), (1, .int p1), (2, .int p2), (3, .int p3)] := hl
  have h := hf
  unfold mL_is at h
  refine lv_aload_n hx hb dL_is_0 rfl (lv_at hl 0 rfl) ?_
  refine lv_iconst (v := 0) hx hb dL_is_1 (by decide) ?_
  obtain ⟨v1, hv1, h⟩ := bdP_some h
  refine call_BVP (As := [.int 0]) (rest := []) ⟨hx, hb, hml, hown, hts⟩ (tX2_refusal (l := l) (dC := dC) (dI := dI) (cI := cI) (cB := cB) (cP := cP) (ad := ad) (base := base) (R := R) hv1 hCF) (cwV 1 hts (gqL_is gQ_X2_refusal) rfl rfl rfl (by decide +kernel) ⟨Nat.le_of_ble_eq_true rfl, Nat.le_of_ble_eq_true rfl⟩) hK hP hD hbs hEU 0 rfl rfl (by rfl) hl.1 rfl (Nat.le_of_ble_eq_true rfl) dL_is_2 ⟨Nat.zero_le _, Nat.zero_le _⟩ ?_
  refine lv_iload_n hx hb dL_is_5 rfl (lv_at hl 1 rfl) ?_
  refine lv_icmp_ne (tgt := 31) hx hb dL_is_6 (by decide) (fun c2 => ?_) (fun c2 => ?_)
  · replace h := if_n c2 h
    exact t_31  h (lv_sub hl [] rfl)
  · replace h := if_p c2 h
    refine lv_aload_n hx hb dL_is_9 rfl (lv_at hl 0 rfl) ?_
    refine lv_iconst (v := 1) hx hb dL_is_10 (by decide) ?_
    obtain ⟨v3, hv3, h⟩ := bdP_some h
    refine call_BVP (As := [.int 1]) (rest := []) ⟨hx, hb, hml, hown, hts⟩ (tX2_refusal (l := l) (dC := dC) (dI := dI) (cI := cI) (cB := cB) (cP := cP) (ad := ad) (base := base) (R := R) hv3 hCF) (cwV 1 hts (gqL_is gQ_X2_refusal) rfl rfl rfl (by decide +kernel) ⟨Nat.le_of_ble_eq_true rfl, Nat.le_of_ble_eq_true rfl⟩) hK hP hD hbs hEU 0 rfl rfl (by rfl) hl.1 rfl (Nat.le_of_ble_eq_true rfl) dL_is_11 ⟨Nat.zero_le _, Nat.zero_le _⟩ ?_
    refine lv_iload_n hx hb dL_is_14 rfl (lv_at hl 2 rfl) ?_
    refine lv_icmp_ne (tgt := 31) hx hb dL_is_15 (by decide) (fun c4 => ?_) (fun c4 => ?_)
    · replace h := if_n c4 h
      exact t_31  h (lv_sub hl [] rfl)
    · replace h := if_p c4 h
      refine lv_aload_n hx hb dL_is_18 rfl (lv_at hl 0 rfl) ?_
      refine lv_iconst (v := 2) hx hb dL_is_19 (by decide) ?_
      obtain ⟨v5, hv5, h⟩ := bdP_some h
      refine call_BVP (As := [.int 2]) (rest := []) ⟨hx, hb, hml, hown, hts⟩ (tX2_refusal (l := l) (dC := dC) (dI := dI) (cI := cI) (cB := cB) (cP := cP) (ad := ad) (base := base) (R := R) hv5 hCF) (cwV 1 hts (gqL_is gQ_X2_refusal) rfl rfl rfl (by decide +kernel) ⟨Nat.le_of_ble_eq_true rfl, Nat.le_of_ble_eq_true rfl⟩) hK hP hD hbs hEU 0 rfl rfl (by rfl) hl.1 rfl (Nat.le_of_ble_eq_true rfl) dL_is_20 ⟨Nat.zero_le _, Nat.zero_le _⟩ ?_
      refine lv_iload_n hx hb dL_is_23 rfl (lv_at hl 3 rfl) ?_
      refine lv_icmp_ne (tgt := 31) hx hb dL_is_24 (by decide) (fun c6 => ?_) (fun c6 => ?_)
      · replace h := if_n c6 h
        exact t_31  h (lv_sub hl [] rfl)
      · replace h := if_p c6 h
        refine lv_iconst (v := 1) hx hb dL_is_27 (by decide) ?_
        refine lv_goto (tgt := 32) hx hb dL_is_28 (by decide) ?_
        exact t_32  h (lv_sub hl [] rfl)
def fL_happens_96 (N : Nat)  (K : OT) (x2 : Int32) : Option (Int32 × OT) := bdO (mX2_dusk N K x2) (fun v1 O2 => some (v1, O2))
def fL_happens_118 (N : Nat)  (K : OT) (x1 : Int32) (y1 : Int32) : Option (Int32 × OT) := bdP (mL_some N (x1 >>> (8 &&& 31)) 4) (fun v3 => bdO (mX2_write N K y1 v3) (fun v4 O5 => some (v4, O5)))
def fL_happens_102 (N : Nat)  (K : OT) (x1 : Int32) (x2 : Int32) : Option (Int32 × OT) := bdP (mX2_captain N K ) (fun v6 => (if 0 ≤ v6 then bdP (mX2_captain N K ) (fun v8 => fL_happens_118 N  K x1 v8) else fL_happens_118 N  K x1 x2))
def fL_happens_156 (N : Nat)  (K : OT) (y1 : Int32) : Option (Int32 × OT) := bdO (mX2_march N K y1) (fun v9 O10 => some (v9, O10))
def fL_happens_148 (N : Nat)  (K : OT) (x2 : Int32) : Option (Int32 × OT) := fL_happens_156 N  K x2
def fL_happens_130 (N : Nat)  (K : OT) (x1 : Int32) (x2 : Int32) : Option (Int32 × OT) := bdP (mX2_captain N K ) (fun v11 => (if v11 < 0 then fL_happens_148 N  K x2 else (if ((x1 >>> (9 &&& 31)) &&& 7) = 0 then fL_happens_148 N  K x2 else bdP (mX2_captain N K ) (fun v14 => fL_happens_156 N  K v14))))
def fL_happens_160 (N : Nat)  (K : OT) (x1 : Int32) (x2 : Int32) : Option (Int32 × OT) := bdP (mL_some N (x1 >>> (8 &&& 31)) 5) (fun v15 => bdO (mX2_road N K x2 v15 ((x1 >>> (11 &&& 31)) &&& 1)) (fun v16 O17 => some (v16, O17)))
def fL_happens_196 (N : Nat)  (K : OT) (y1 : Int32) (y2 : Int32) : Option (Int32 × OT) := bdO (mX2_sleep N K y1 y2) (fun v18 O19 => some (v18, O19))
def fL_happens_180 (N : Nat)  (K : OT) (x1 : Int32) (x2 : Int32) : Option (Int32 × OT) := (if ((x1 >>> (8 &&& 31)) &&& 3) = 0 then fL_happens_196 N  K x2 0 else fL_happens_196 N  K x2 1)
def mL_happens (N : Nat) (K : OT) (p1 : Int32) : Option (Int32 × OT) := bdP (mL_some N (p1 >>> (5 &&& 31)) 5) (fun v21 => bdP (mL_some N p1 20) (fun v22 => (if v22 = 0 then fL_happens_96 N  K v21 else (if v22 = 1 then fL_happens_96 N  K v21 else (if v22 = 2 then fL_happens_96 N  K v21 else (if v22 = 3 then fL_happens_102 N  K p1 v21 else (if v22 = 4 then fL_happens_102 N  K p1 v21 else (if v22 = 5 then fL_happens_102 N  K p1 v21 else (if v22 = 6 then fL_happens_102 N  K p1 v21 else (if v22 = 7 then fL_happens_102 N  K p1 v21 else (if v22 = 8 then fL_happens_102 N  K p1 v21 else (if v22 = 9 then fL_happens_130 N  K p1 v21 else (if v22 = 10 then fL_happens_130 N  K p1 v21 else (if v22 = 11 then fL_happens_130 N  K p1 v21 else (if v22 = 12 then fL_happens_160 N  K p1 v21 else (if v22 = 13 then fL_happens_160 N  K p1 v21 else (if v22 = 14 then fL_happens_160 N  K p1 v21 else (if v22 = 15 then fL_happens_180 N  K p1 v21 else (if v22 = 16 then fL_happens_180 N  K p1 v21 else bdP (mL_some N (p1 >>> (8 &&& 31)) 8) (fun v40 => bdO (mX2_pass N K (1 + v40)) (fun v41 O42 => some (v41, O42))))))))))))))))))))))
def rmL_happens : Room := { frames := 7, cells := 0, slots := 0, locals := 185 }
def wsL_happens_q : List Cond := .code yL_happens cL_happens 3 (some .int) :: wsL_law
theorem gqL_happens {a : List Cond} (h : GoodIn wsL_law a) : GoodIn wsL_happens_q a := gM_in h
set_option maxHeartbeats 4000000 in
set_option maxRecDepth 100000 in
theorem tL_happens {l : Launch} {dC : Nat → ClassId} {dI : Nat → Nat → Nat} {cI cB cP : ClassId} {ad : Nat → Nat → Nat} {Z : Nat → Nat} {base b : Nat} {adK adV : Nat → Nat} {R : va_W} {L : Nat} {xs : Nat → Int32} {N : Nat} {K : OT} {p1 : Int32} {rr : Int32} {KK : OT} (hf : mL_happens N K p1 = some (rr, KK)) (hCF : OF Z K) : Met l yL_happens wsL_happens_q rmL_happens (cLp (dC, dI) vwCl [(cI, .int), (cB, .byte), (cP, .object RX0)] base b L xs adK adV (outW cI cB cP ad Z K ++ R) [.ref (ad 0 0), .int p1]) (cBe (dC, dI) vwCl base (some (.int rr)) (fun ws => ∃ Z : Nat → Nat, ws = (outW cI cB cP ad Z KK ++ R) ∧ OF Z KK)) 0 0 (aB base) := by
  refine Met.ofW (cc := cL_happens) (maxL := 3) (ret := (some .int)) (by decide) rfl ?_
  intro p e s m args below meth c s₁ B hml hv
  obtain ⟨rfl, hP, hK, hD, hbs, hEL⟩ := hv
  have hx := B.exec
  have hb := B.bytes
  have hr := B.returns
  have hts := atoms_spec (ws := wsL_happens_q) B.pre
  have hown : s.vm.findClass RL = some m.cls := findClass_of_methodNamed B.named
  have hlocks := B.notSynchronized
  have hE := hEL.1
  have t_96 : ∀ {K : OT} {x2 : Int32} {H : Heap} {locs : List Loc} {Z : Nat → Nat} {ls : Array Slot} (h : fL_happens_96 N  K x2 = some (rr, KK)) (hl : lv_has ls 3 [(0, .ref (ad 0 0)), (2, .int x2)]) (hP : va_P (dC, dI) vwCl (outW cI cB cP ad Z K ++ R) H) (hD : va_D (aB base) (outW cI cB cP ad Z K ++ R)) (hS : va_S (aB base) s.heap H locs) (hCF : OF Z K), W p l e (headSpec wsL_happens_q rmL_happens).room s m ([.ref (ad 0 0), .int p1] : List Value).toArray below meth c H locs 0 0 (MQ below (cBe (dC, dI) vwCl base (some (.int rr)) (fun ws => ∃ Z : Nat → Nat, ws = (outW cI cB cP ad Z KK ++ R) ∧ OF Z KK)) ([.ref (ad 0 0), .int p1] : List Value).toArray s 0 0 (aB base)) (F0 m 96 ls []) := by
    intro  K x2 H locs Z ls h hl hP hD hS hCF
    unfold fL_happens_96 at h
    refine lv_aload_n hx hb dL_happens_96 rfl (lv_at hl 0 rfl) ?_
    refine lv_iload_n hx hb dL_happens_97 rfl (lv_at hl 1 rfl) ?_
    obtain ⟨v1, O2, hv1, h⟩ := bdO_some h
    refine call_BVE (As := [.int x2]) (rest := []) ⟨hx, hb, hml, hown, hts⟩ (tX2_dusk (l := l) (dC := dC) (dI := dI) (cI := cI) (cB := cB) (cP := cP) (ad := ad) (base := base) (R := R) hv1 hCF) (cwV 1 hts (gqL_happens gQ_X2_dusk) rfl rfl rfl (by decide +kernel) ⟨Nat.le_of_ble_eq_true rfl, Nat.le_of_ble_eq_true rfl⟩) hK hP hD hS (Nat.le_trans hbs hS.1) (fun U hU hW => Env_step rfl rfl hE hS hU hW) 0 rfl rfl (by rfl) hl.1 rfl (Nat.le_of_ble_eq_true rfl) dL_happens_98 ⟨Nat.zero_le _, Nat.zero_le _⟩ (fun H locs ws9 hW9 hP hD _ hS => ?_)
    obtain ⟨Z, rfl, hCF⟩ := hW9
    exact (W.iret hx hb hr (fun t ht _ => retO h hCF hP hD hS ht) hS.2.2 dL_happens_101)
  have t_118 : ∀ {K : OT} {x1 : Int32} {y1 : Int32} {H : Heap} {locs : List Loc} {Z : Nat → Nat} {ls : Array Slot} (h : fL_happens_118 N  K x1 y1 = some (rr, KK)) (hl : lv_has ls 3 [(1, .int x1)]) (hP : va_P (dC, dI) vwCl (outW cI cB cP ad Z K ++ R) H) (hD : va_D (aB base) (outW cI cB cP ad Z K ++ R)) (hS : va_S (aB base) s.heap H locs) (hCF : OF Z K), W p l e (headSpec wsL_happens_q rmL_happens).room s m ([.ref (ad 0 0), .int p1] : List Value).toArray below meth c H locs 0 0 (MQ below (cBe (dC, dI) vwCl base (some (.int rr)) (fun ws => ∃ Z : Nat → Nat, ws = (outW cI cB cP ad Z KK ++ R) ∧ OF Z KK)) ([.ref (ad 0 0), .int p1] : List Value).toArray s 0 0 (aB base)) (F0 m 118 ls [.int y1, .ref (ad 0 0)]) := by
    intro  K x1 y1 H locs Z ls h hl hP hD hS hCF
    unfold fL_happens_118 at h
    refine lv_iload_n hx hb dL_happens_118 rfl (lv_at hl 0 rfl) ?_
    refine lv_bipush (v := 8) hx hb dL_happens_119 (by decide) ?_
    refine lv_ishr hx hb dL_happens_121 ?_
    refine lv_iconst (v := 4) hx hb dL_happens_122 (by decide) ?_
    obtain ⟨v3, hv3, h⟩ := bdP_some h
    refine call_SP (As := [.int (x1 >>> (8 &&& 31)), .int 4]) (rest := [.int y1, .ref (ad 0 0)]) ⟨hx, hb, hml, hown, hts⟩ (tL_some (l := l) hv3) (va_cwS 2 hts (gqL_happens gQ_L_some) rfl rfl rfl (by decide +kernel) ⟨Nat.le_of_ble_eq_true rfl, Nat.le_of_ble_eq_true rfl⟩) (by rfl) hl.1 rfl (Nat.le_of_ble_eq_true rfl) dL_happens_123 ⟨Nat.zero_le _, Nat.zero_le _⟩ ?_
    obtain ⟨v4, O5, hv4, h⟩ := bdO_some h
    refine call_BVE (As := [.int y1, .int v3]) (rest := []) ⟨hx, hb, hml, hown, hts⟩ (tX2_write (l := l) (dC := dC) (dI := dI) (cI := cI) (cB := cB) (cP := cP) (ad := ad) (base := base) (R := R) hv4 hCF) (cwV 2 hts (gqL_happens gQ_X2_write) rfl rfl rfl (by decide +kernel) ⟨Nat.le_of_ble_eq_true rfl, Nat.le_of_ble_eq_true rfl⟩) hK hP hD hS (Nat.le_trans hbs hS.1) (fun U hU hW => Env_step rfl rfl hE hS hU hW) 0 rfl rfl (by rfl) hl.1 rfl (Nat.le_of_ble_eq_true rfl) dL_happens_126 ⟨Nat.zero_le _, Nat.zero_le _⟩ (fun H locs ws9 hW9 hP hD _ hS => ?_)
    obtain ⟨Z, rfl, hCF⟩ := hW9
    exact (W.iret hx hb hr (fun t ht _ => retO h hCF hP hD hS ht) hS.2.2 dL_happens_129)
  have t_102 : ∀ {K : OT} {x1 : Int32} {x2 : Int32} {H : Heap} {locs : List Loc} {Z : Nat → Nat} {ls : Array Slot} (h : fL_happens_102 N  K x1 x2 = some (rr, KK)) (hl : lv_has ls 3 [(0, .ref (ad 0 0)), (1, .int x1), (2, .int x2)]) (hP : va_P (dC, dI) vwCl (outW cI cB cP ad Z K ++ R) H) (hD : va_D (aB base) (outW cI cB cP ad Z K ++ R)) (hS : va_S (aB base) s.heap H locs) (hCF : OF Z K), W p l e (headSpec wsL_happens_q rmL_happens).room s m ([.ref (ad 0 0), .int p1] : List Value).toArray below meth c H locs 0 0 (MQ below (cBe (dC, dI) vwCl base (some (.int rr)) (fun ws => ∃ Z : Nat → Nat, ws = (outW cI cB cP ad Z KK ++ R) ∧ OF Z KK)) ([.ref (ad 0 0), .int p1] : List Value).toArray s 0 0 (aB base)) (F0 m 102 ls []) := by
    intro  K x1 x2 H locs Z ls h hl hP hD hS hCF
    unfold fL_happens_102 at h
    refine lv_aload_n hx hb dL_happens_102 rfl (lv_at hl 0 rfl) ?_
    refine lv_aload_n hx hb dL_happens_103 rfl (lv_at hl 0 rfl) ?_
    obtain ⟨v6, hv6, h⟩ := bdP_some h
    refine call_BVP (As := []) (rest := [.ref (ad 0 0)]) ⟨hx, hb, hml, hown, hts⟩ (tX2_captain (l := l) (dC := dC) (dI := dI) (cI := cI) (cB := cB) (cP := cP) (ad := ad) (base := base) (R := R) hv6 hCF) (cwV 0 hts (gqL_happens gQ_X2_captain) rfl rfl rfl (by decide +kernel) ⟨Nat.le_of_ble_eq_true rfl, Nat.le_of_ble_eq_true rfl⟩) hK hP hD (Nat.le_trans hbs hS.1) (fun U hU hW => Env_step rfl rfl hE hS hU hW) 0 rfl rfl (by rfl) hl.1 rfl (Nat.le_of_ble_eq_true rfl) dL_happens_104 ⟨Nat.zero_le _, Nat.zero_le _⟩ ?_
    refine lv_if_ge (tgt := 114) hx hb dL_happens_107 (by decide) (fun c7 => ?_) (fun c7 => ?_)
    · replace h := if_p c7 h
      refine lv_aload_n hx hb dL_happens_114 rfl (lv_at hl 0 rfl) ?_
      obtain ⟨v8, hv8, h⟩ := bdP_some h
      refine call_BVP (As := []) (rest := [.ref (ad 0 0)]) ⟨hx, hb, hml, hown, hts⟩ (tX2_captain (l := l) (dC := dC) (dI := dI) (cI := cI) (cB := cB) (cP := cP) (ad := ad) (base := base) (R := R) hv8 hCF) (cwV 0 hts (gqL_happens gQ_X2_captain) rfl rfl rfl (by decide +kernel) ⟨Nat.le_of_ble_eq_true rfl, Nat.le_of_ble_eq_true rfl⟩) hK hP hD (Nat.le_trans hbs hS.1) (fun U hU hW => Env_step rfl rfl hE hS hU hW) 0 rfl rfl (by rfl) hl.1 rfl (Nat.le_of_ble_eq_true rfl) dL_happens_115 ⟨Nat.zero_le _, Nat.zero_le _⟩ ?_
      exact t_118  h (lv_sub hl [1] rfl) hP hD hS hCF
    · replace h := if_n c7 h
      refine lv_iload_n hx hb dL_happens_110 rfl (lv_at hl 2 rfl) ?_
      refine lv_goto (tgt := 118) hx hb dL_happens_111 (by decide) ?_
      exact t_118  h (lv_sub hl [1] rfl) hP hD hS hCF
  have t_156 : ∀ {K : OT} {y1 : Int32} {H : Heap} {locs : List Loc} {Z : Nat → Nat} {ls : Array Slot} (h : fL_happens_156 N  K y1 = some (rr, KK)) (hl : lv_has ls 3 []) (hP : va_P (dC, dI) vwCl (outW cI cB cP ad Z K ++ R) H) (hD : va_D (aB base) (outW cI cB cP ad Z K ++ R)) (hS : va_S (aB base) s.heap H locs) (hCF : OF Z K), W p l e (headSpec wsL_happens_q rmL_happens).room s m ([.ref (ad 0 0), .int p1] : List Value).toArray below meth c H locs 0 0 (MQ below (cBe (dC, dI) vwCl base (some (.int rr)) (fun ws => ∃ Z : Nat → Nat, ws = (outW cI cB cP ad Z KK ++ R) ∧ OF Z KK)) ([.ref (ad 0 0), .int p1] : List Value).toArray s 0 0 (aB base)) (F0 m 156 ls [.int y1, .ref (ad 0 0)]) := by
    intro  K y1 H locs Z ls h hl hP hD hS hCF
    unfold fL_happens_156 at h
    obtain ⟨v9, O10, hv9, h⟩ := bdO_some h
    refine call_BVE (As := [.int y1]) (rest := []) ⟨hx, hb, hml, hown, hts⟩ (tX2_march (l := l) (dC := dC) (dI := dI) (cI := cI) (cB := cB) (cP := cP) (ad := ad) (base := base) (R := R) hv9 hCF) (cwV 1 hts (gqL_happens gQ_X2_march) rfl rfl rfl (by decide +kernel) ⟨Nat.le_of_ble_eq_true rfl, Nat.le_of_ble_eq_true rfl⟩) hK hP hD hS (Nat.le_trans hbs hS.1) (fun U hU hW => Env_step rfl rfl hE hS hU hW) 0 rfl rfl (by rfl) hl.1 rfl (Nat.le_of_ble_eq_true rfl) dL_happens_156 ⟨Nat.zero_le _, Nat.zero_le _⟩ (fun H locs ws9 hW9 hP hD _ hS => ?_)
    obtain ⟨Z, rfl, hCF⟩ := hW9
    exact (W.iret hx hb hr (fun t ht _ => retO h hCF hP hD hS ht) hS.2.2 dL_happens_159)
  have t_148 : ∀ {K : OT} {x2 : Int32} {H : Heap} {locs : List Loc} {Z : Nat → Nat} {ls : Array Slot} (h : fL_happens_148 N  K x2 = some (rr, KK)) (hl : lv_has ls 3 [(2, .int x2)]) (hP : va_P (dC, dI) vwCl (outW cI cB cP ad Z K ++ R) H) (hD : va_D (aB base) (outW cI cB cP ad Z K ++ R)) (hS : va_S (aB base) s.heap H locs) (hCF : OF Z K), W p l e (headSpec wsL_happens_q rmL_happens).room s m ([.ref (ad 0 0), .int p1] : List Value).toArray below meth c H locs 0 0 (MQ below (cBe (dC, dI) vwCl base (some (.int rr)) (fun ws => ∃ Z : Nat → Nat, ws = (outW cI cB cP ad Z KK ++ R) ∧ OF Z KK)) ([.ref (ad 0 0), .int p1] : List Value).toArray s 0 0 (aB base)) (F0 m 148 ls [.ref (ad 0 0)]) := by
    intro  K x2 H locs Z ls h hl hP hD hS hCF
    unfold fL_happens_148 at h
    refine lv_iload_n hx hb dL_happens_148 rfl (lv_at hl 0 rfl) ?_
    refine lv_goto (tgt := 156) hx hb dL_happens_149 (by decide) ?_
    exact t_156  h (lv_sub hl [] rfl) hP hD hS hCF
  have t_130 : ∀ {K : OT} {x1 : Int32} {x2 : Int32} {H : Heap} {locs : List Loc} {Z : Nat → Nat} {ls : Array Slot} (h : fL_happens_130 N  K x1 x2 = some (rr, KK)) (hl : lv_has ls 3 [(0, .ref (ad 0 0)), (1, .int x1), (2, .int x2)]) (hP : va_P (dC, dI) vwCl (outW cI cB cP ad Z K ++ R) H) (hD : va_D (aB base) (outW cI cB cP ad Z K ++ R)) (hS : va_S (aB base) s.heap H locs) (hCF : OF Z K), W p l e (headSpec wsL_happens_q rmL_happens).room s m ([.ref (ad 0 0), .int p1] : List Value).toArray below meth c H locs 0 0 (MQ below (cBe (dC, dI) vwCl base (some (.int rr)) (fun ws => ∃ Z : Nat → Nat, ws = (outW cI cB cP ad Z KK ++ R) ∧ OF Z KK)) ([.ref (ad 0 0), .int p1] : List Value).toArray s 0 0 (aB base)) (F0 m 130 ls []) := by
    intro  K x1 x2 H locs Z ls h hl hP hD hS hCF
    unfold fL_happens_130 at h
    refine lv_aload_n hx hb dL_happens_130 rfl (lv_at hl 0 rfl) ?_
    refine lv_aload_n hx hb dL_happens_131 rfl (lv_at hl 0 rfl) ?_
    obtain ⟨v11, hv11, h⟩ := bdP_some h
    refine call_BVP (As := []) (rest := [.ref (ad 0 0)]) ⟨hx, hb, hml, hown, hts⟩ (tX2_captain (l := l) (dC := dC) (dI := dI) (cI := cI) (cB := cB) (cP := cP) (ad := ad) (base := base) (R := R) hv11 hCF) (cwV 0 hts (gqL_happens gQ_X2_captain) rfl rfl rfl (by decide +kernel) ⟨Nat.le_of_ble_eq_true rfl, Nat.le_of_ble_eq_true rfl⟩) hK hP hD (Nat.le_trans hbs hS.1) (fun U hU hW => Env_step rfl rfl hE hS hU hW) 0 rfl rfl (by rfl) hl.1 rfl (Nat.le_of_ble_eq_true rfl) dL_happens_132 ⟨Nat.zero_le _, Nat.zero_le _⟩ ?_
    refine lv_if_lt (tgt := 148) hx hb dL_happens_135 (by decide) (fun c12 => ?_) (fun c12 => ?_)
    · replace h := if_p c12 h
      exact t_148  h (lv_sub hl [2] rfl) hP hD hS hCF
    · replace h := if_n c12 h
      refine lv_iload_n hx hb dL_happens_138 rfl (lv_at hl 1 rfl) ?_
      refine lv_bipush (v := 9) hx hb dL_happens_139 (by decide) ?_
      refine lv_ishr hx hb dL_happens_141 ?_
      refine lv_bipush (v := 7) hx hb dL_happens_142 (by decide) ?_
      refine lv_iand hx hb dL_happens_144 ?_
      refine lv_if_ne (tgt := 152) hx hb dL_happens_145 (by decide) (fun c13 => ?_) (fun c13 => ?_)
      · replace h := if_n c13 h
        refine lv_aload_n hx hb dL_happens_152 rfl (lv_at hl 0 rfl) ?_
        obtain ⟨v14, hv14, h⟩ := bdP_some h
        refine call_BVP (As := []) (rest := [.ref (ad 0 0)]) ⟨hx, hb, hml, hown, hts⟩ (tX2_captain (l := l) (dC := dC) (dI := dI) (cI := cI) (cB := cB) (cP := cP) (ad := ad) (base := base) (R := R) hv14 hCF) (cwV 0 hts (gqL_happens gQ_X2_captain) rfl rfl rfl (by decide +kernel) ⟨Nat.le_of_ble_eq_true rfl, Nat.le_of_ble_eq_true rfl⟩) hK hP hD (Nat.le_trans hbs hS.1) (fun U hU hW => Env_step rfl rfl hE hS hU hW) 0 rfl rfl (by rfl) hl.1 rfl (Nat.le_of_ble_eq_true rfl) dL_happens_153 ⟨Nat.zero_le _, Nat.zero_le _⟩ ?_
        exact t_156  h (lv_sub hl [] rfl) hP hD hS hCF
      · replace h := if_p c13 h
        exact t_148  h (lv_sub hl [2] rfl) hP hD hS hCF
  have t_160 : ∀ {K : OT} {x1 : Int32} {x2 : Int32} {H : Heap} {locs : List Loc} {Z : Nat → Nat} {ls : Array Slot} (h : fL_happens_160 N  K x1 x2 = some (rr, KK)) (hl : lv_has ls 3 [(0, .ref (ad 0 0)), (1, .int x1), (2, .int x2)]) (hP : va_P (dC, dI) vwCl (outW cI cB cP ad Z K ++ R) H) (hD : va_D (aB base) (outW cI cB cP ad Z K ++ R)) (hS : va_S (aB base) s.heap H locs) (hCF : OF Z K), W p l e (headSpec wsL_happens_q rmL_happens).room s m ([.ref (ad 0 0), .int p1] : List Value).toArray below meth c H locs 0 0 (MQ below (cBe (dC, dI) vwCl base (some (.int rr)) (fun ws => ∃ Z : Nat → Nat, ws = (outW cI cB cP ad Z KK ++ R) ∧ OF Z KK)) ([.ref (ad 0 0), .int p1] : List Value).toArray s 0 0 (aB base)) (F0 m 160 ls []) := by
    intro  K x1 x2 H locs Z ls h hl hP hD hS hCF
    unfold fL_happens_160 at h
    refine lv_aload_n hx hb dL_happens_160 rfl (lv_at hl 0 rfl) ?_
    refine lv_iload_n hx hb dL_happens_161 rfl (lv_at hl 2 rfl) ?_
    refine lv_iload_n hx hb dL_happens_162 rfl (lv_at hl 1 rfl) ?_
    refine lv_bipush (v := 8) hx hb dL_happens_163 (by decide) ?_
    refine lv_ishr hx hb dL_happens_165 ?_
    refine lv_iconst (v := 5) hx hb dL_happens_166 (by decide) ?_
    obtain ⟨v15, hv15, h⟩ := bdP_some h
    refine call_SP (As := [.int (x1 >>> (8 &&& 31)), .int 5]) (rest := [.int x2, .ref (ad 0 0)]) ⟨hx, hb, hml, hown, hts⟩ (tL_some (l := l) hv15) (va_cwS 2 hts (gqL_happens gQ_L_some) rfl rfl rfl (by decide +kernel) ⟨Nat.le_of_ble_eq_true rfl, Nat.le_of_ble_eq_true rfl⟩) (by rfl) hl.1 rfl (Nat.le_of_ble_eq_true rfl) dL_happens_167 ⟨Nat.zero_le _, Nat.zero_le _⟩ ?_
    refine lv_iload_n hx hb dL_happens_170 rfl (lv_at hl 1 rfl) ?_
    refine lv_bipush (v := 11) hx hb dL_happens_171 (by decide) ?_
    refine lv_ishr hx hb dL_happens_173 ?_
    refine lv_iconst (v := 1) hx hb dL_happens_174 (by decide) ?_
    refine lv_iand hx hb dL_happens_175 ?_
    obtain ⟨v16, O17, hv16, h⟩ := bdO_some h
    refine call_BVE (As := [.int x2, .int v15, .int ((x1 >>> (11 &&& 31)) &&& 1)]) (rest := []) ⟨hx, hb, hml, hown, hts⟩ (tX2_road (l := l) (dC := dC) (dI := dI) (cI := cI) (cB := cB) (cP := cP) (ad := ad) (base := base) (R := R) hv16 hCF) (cwV 3 hts (gqL_happens gQ_X2_road) rfl rfl rfl (by decide +kernel) ⟨Nat.le_of_ble_eq_true rfl, Nat.le_of_ble_eq_true rfl⟩) hK hP hD hS (Nat.le_trans hbs hS.1) (fun U hU hW => Env_step rfl rfl hE hS hU hW) 0 rfl rfl (by rfl) hl.1 rfl (Nat.le_of_ble_eq_true rfl) dL_happens_176 ⟨Nat.zero_le _, Nat.zero_le _⟩ (fun H locs ws9 hW9 hP hD _ hS => ?_)
    obtain ⟨Z, rfl, hCF⟩ := hW9
    exact (W.iret hx hb hr (fun t ht _ => retO h hCF hP hD hS ht) hS.2.2 dL_happens_179)
  have t_196 : ∀ {K : OT} {y1 : Int32} {y2 : Int32} {H : Heap} {locs : List Loc} {Z : Nat → Nat} {ls : Array Slot} (h : fL_happens_196 N  K y1 y2 = some (rr, KK)) (hl : lv_has ls 3 []) (hP : va_P (dC, dI) vwCl (outW cI cB cP ad Z K ++ R) H) (hD : va_D (aB base) (outW cI cB cP ad Z K ++ R)) (hS : va_S (aB base) s.heap H locs) (hCF : OF Z K), W p l e (headSpec wsL_happens_q rmL_happens).room s m ([.ref (ad 0 0), .int p1] : List Value).toArray below meth c H locs 0 0 (MQ below (cBe (dC, dI) vwCl base (some (.int rr)) (fun ws => ∃ Z : Nat → Nat, ws = (outW cI cB cP ad Z KK ++ R) ∧ OF Z KK)) ([.ref (ad 0 0), .int p1] : List Value).toArray s 0 0 (aB base)) (F0 m 196 ls [.int y2, .int y1, .ref (ad 0 0)]) := by
    intro  K y1 y2 H locs Z ls h hl hP hD hS hCF
    unfold fL_happens_196 at h
    obtain ⟨v18, O19, hv18, h⟩ := bdO_some h
    refine call_BVE (As := [.int y1, .int y2]) (rest := []) ⟨hx, hb, hml, hown, hts⟩ (tX2_sleep (l := l) (dC := dC) (dI := dI) (cI := cI) (cB := cB) (cP := cP) (ad := ad) (base := base) (R := R) hv18 hCF) (cwV 2 hts (gqL_happens gQ_X2_sleep) rfl rfl rfl (by decide +kernel) ⟨Nat.le_of_ble_eq_true rfl, Nat.le_of_ble_eq_true rfl⟩) hK hP hD hS (Nat.le_trans hbs hS.1) (fun U hU hW => Env_step rfl rfl hE hS hU hW) 0 rfl rfl (by rfl) hl.1 rfl (Nat.le_of_ble_eq_true rfl) dL_happens_196 ⟨Nat.zero_le _, Nat.zero_le _⟩ (fun H locs ws9 hW9 hP hD _ hS => ?_)
    obtain ⟨Z, rfl, hCF⟩ := hW9
    exact (W.iret hx hb hr (fun t ht _ => retO h hCF hP hD hS ht) hS.2.2 dL_happens_199)
  have t_180 : ∀ {K : OT} {x1 : Int32} {x2 : Int32} {H : Heap} {locs : List Loc} {Z : Nat → Nat} {ls : Array Slot} (h : fL_happens_180 N  K x1 x2 = some (rr, KK)) (hl : lv_has ls 3 [(0, .ref (ad 0 0)), (1, .int x1), (2, .int x2)]) (hP : va_P (dC, dI) vwCl (outW cI cB cP ad Z K ++ R) H) (hD : va_D (aB base) (outW cI cB cP ad Z K ++ R)) (hS : va_S (aB base) s.heap H locs) (hCF : OF Z K), W p l e (headSpec wsL_happens_q rmL_happens).room s m ([.ref (ad 0 0), .int p1] : List Value).toArray below meth c H locs 0 0 (MQ below (cBe (dC, dI) vwCl base (some (.int rr)) (fun ws => ∃ Z : Nat → Nat, ws = (outW cI cB cP ad Z KK ++ R) ∧ OF Z KK)) ([.ref (ad 0 0), .int p1] : List Value).toArray s 0 0 (aB base)) (F0 m 180 ls []) := by
    intro  K x1 x2 H locs Z ls h hl hP hD hS hCF
    unfold fL_happens_180 at h
    refine lv_aload_n hx hb dL_happens_180 rfl (lv_at hl 0 rfl) ?_
    refine lv_iload_n hx hb dL_happens_181 rfl (lv_at hl 2 rfl) ?_
    refine lv_iload_n hx hb dL_happens_182 rfl (lv_at hl 1 rfl) ?_
    refine lv_bipush (v := 8) hx hb dL_happens_183 (by decide) ?_
    refine lv_ishr hx hb dL_happens_185 ?_
    refine lv_iconst (v := 3) hx hb dL_happens_186 (by decide) ?_
    refine lv_iand hx hb dL_happens_187 ?_
    refine lv_if_ne (tgt := 195) hx hb dL_happens_188 (by decide) (fun c20 => ?_) (fun c20 => ?_)
    · replace h := if_n c20 h
      refine lv_iconst (v := 1) hx hb dL_happens_195 (by decide) ?_
      exact t_196  h (lv_sub hl [] rfl) hP hD hS hCF
    · replace h := if_p c20 h
      refine lv_iconst (v := 0) hx hb dL_happens_191 (by decide) ?_
      refine lv_goto (tgt := 196) hx hb dL_happens_192 (by decide) ?_
      exact t_196  h (lv_sub hl [] rfl) hP hD hS hCF
  have hS : va_S (aB base) s.heap s.heap [] := va_S.rf
  have hl := lv_entry ([.ref (ad 0 0), .int p1]) (n := 3) (Nat.le_of_ble_eq_true rfl)
  rw [lg_entry_eq]
  generalize (lg_sl ([.ref (ad 0 0), .int p1]) ++ List.replicate (3 - (lg_sl ([.ref (ad 0 0), .int p1])).length) Slot.unset).toArray = ls at hl ⊢
  have hl : lv_has ls 3 [(0, .ref (ad 0 0)), (1, .int p1)] := hl
  have h := hf
  unfold mL_happens at h
  refine lv_iload_n hx hb dL_happens_0 rfl (lv_at hl 1 rfl) ?_
  refine lv_iconst (v := 5) hx hb dL_happens_1 (by decide) ?_
  refine lv_ishr hx hb dL_happens_2 ?_
  refine lv_iconst (v := 5) hx hb dL_happens_3 (by decide) ?_
  obtain ⟨v21, hv21, h⟩ := bdP_some h
  refine call_SP (As := [.int (p1 >>> (5 &&& 31)), .int 5]) (rest := []) ⟨hx, hb, hml, hown, hts⟩ (tL_some (l := l) hv21) (va_cwS 2 hts (gqL_happens gQ_L_some) rfl rfl rfl (by decide +kernel) ⟨Nat.le_of_ble_eq_true rfl, Nat.le_of_ble_eq_true rfl⟩) (by rfl) hl.1 rfl (Nat.le_of_ble_eq_true rfl) dL_happens_4 ⟨Nat.zero_le _, Nat.zero_le _⟩ ?_
  refine lv_istore_n (lv' := [(2, .int v21), (0, .ref (ad 0 0)), (1, .int p1)]) hx hb dL_happens_7 rfl hl (by decide) rfl (fun ls hl => ?_)
  refine lv_iload_n hx hb dL_happens_8 rfl (lv_at hl 2 rfl) ?_
  refine lv_bipush (v := 20) hx hb dL_happens_9 (by decide) ?_
  obtain ⟨v22, hv22, h⟩ := bdP_some h
  refine call_SP (As := [.int p1, .int 20]) (rest := []) ⟨hx, hb, hml, hown, hts⟩ (tL_some (l := l) hv22) (va_cwS 2 hts (gqL_happens gQ_L_some) rfl rfl rfl (by decide +kernel) ⟨Nat.le_of_ble_eq_true rfl, Nat.le_of_ble_eq_true rfl⟩) (by rfl) hl.1 rfl (Nat.le_of_ble_eq_true rfl) dL_happens_11 ⟨Nat.zero_le _, Nat.zero_le _⟩ ?_
  by_cases c23 : v22 = 0
  · replace h := if_p c23 h
    refine lv_tableIn (tgt := 96) hx hb dL_happens_14 (by rw [c23]; decide) (by rw [c23]; decide) (by rw [c23]; rfl) (by decide) ?_
    exact t_96  h (lv_sub hl [1, 0] rfl) hP hD hS hCF
  · replace h := if_n c23 h
    by_cases c24 : v22 = 1
    · replace h := if_p c24 h
      refine lv_tableIn (tgt := 96) hx hb dL_happens_14 (by rw [c24]; decide) (by rw [c24]; decide) (by rw [c24]; rfl) (by decide) ?_
      exact t_96  h (lv_sub hl [1, 0] rfl) hP hD hS hCF
    · replace h := if_n c24 h
      by_cases c25 : v22 = 2
      · replace h := if_p c25 h
        refine lv_tableIn (tgt := 96) hx hb dL_happens_14 (by rw [c25]; decide) (by rw [c25]; decide) (by rw [c25]; rfl) (by decide) ?_
        exact t_96  h (lv_sub hl [1, 0] rfl) hP hD hS hCF
      · replace h := if_n c25 h
        by_cases c26 : v22 = 3
        · replace h := if_p c26 h
          refine lv_tableIn (tgt := 102) hx hb dL_happens_14 (by rw [c26]; decide) (by rw [c26]; decide) (by rw [c26]; rfl) (by decide) ?_
          exact t_102  h (lv_sub hl [1, 2, 0] rfl) hP hD hS hCF
        · replace h := if_n c26 h
          by_cases c27 : v22 = 4
          · replace h := if_p c27 h
            refine lv_tableIn (tgt := 102) hx hb dL_happens_14 (by rw [c27]; decide) (by rw [c27]; decide) (by rw [c27]; rfl) (by decide) ?_
            exact t_102  h (lv_sub hl [1, 2, 0] rfl) hP hD hS hCF
          · replace h := if_n c27 h
            by_cases c28 : v22 = 5
            · replace h := if_p c28 h
              refine lv_tableIn (tgt := 102) hx hb dL_happens_14 (by rw [c28]; decide) (by rw [c28]; decide) (by rw [c28]; rfl) (by decide) ?_
              exact t_102  h (lv_sub hl [1, 2, 0] rfl) hP hD hS hCF
            · replace h := if_n c28 h
              by_cases c29 : v22 = 6
              · replace h := if_p c29 h
                refine lv_tableIn (tgt := 102) hx hb dL_happens_14 (by rw [c29]; decide) (by rw [c29]; decide) (by rw [c29]; rfl) (by decide) ?_
                exact t_102  h (lv_sub hl [1, 2, 0] rfl) hP hD hS hCF
              · replace h := if_n c29 h
                by_cases c30 : v22 = 7
                · replace h := if_p c30 h
                  refine lv_tableIn (tgt := 102) hx hb dL_happens_14 (by rw [c30]; decide) (by rw [c30]; decide) (by rw [c30]; rfl) (by decide) ?_
                  exact t_102  h (lv_sub hl [1, 2, 0] rfl) hP hD hS hCF
                · replace h := if_n c30 h
                  by_cases c31 : v22 = 8
                  · replace h := if_p c31 h
                    refine lv_tableIn (tgt := 102) hx hb dL_happens_14 (by rw [c31]; decide) (by rw [c31]; decide) (by rw [c31]; rfl) (by decide) ?_
                    exact t_102  h (lv_sub hl [1, 2, 0] rfl) hP hD hS hCF
                  · replace h := if_n c31 h
                    by_cases c32 : v22 = 9
                    · replace h := if_p c32 h
                      refine lv_tableIn (tgt := 130) hx hb dL_happens_14 (by rw [c32]; decide) (by rw [c32]; decide) (by rw [c32]; rfl) (by decide) ?_
                      exact t_130  h (lv_sub hl [1, 2, 0] rfl) hP hD hS hCF
                    · replace h := if_n c32 h
                      by_cases c33 : v22 = 10
                      · replace h := if_p c33 h
                        refine lv_tableIn (tgt := 130) hx hb dL_happens_14 (by rw [c33]; decide) (by rw [c33]; decide) (by rw [c33]; rfl) (by decide) ?_
                        exact t_130  h (lv_sub hl [1, 2, 0] rfl) hP hD hS hCF
                      · replace h := if_n c33 h
                        by_cases c34 : v22 = 11
                        · replace h := if_p c34 h
                          refine lv_tableIn (tgt := 130) hx hb dL_happens_14 (by rw [c34]; decide) (by rw [c34]; decide) (by rw [c34]; rfl) (by decide) ?_
                          exact t_130  h (lv_sub hl [1, 2, 0] rfl) hP hD hS hCF
                        · replace h := if_n c34 h
                          by_cases c35 : v22 = 12
                          · replace h := if_p c35 h
                            refine lv_tableIn (tgt := 160) hx hb dL_happens_14 (by rw [c35]; decide) (by rw [c35]; decide) (by rw [c35]; rfl) (by decide) ?_
                            exact t_160  h (lv_sub hl [1, 2, 0] rfl) hP hD hS hCF
                          · replace h := if_n c35 h
                            by_cases c36 : v22 = 13
                            · replace h := if_p c36 h
                              refine lv_tableIn (tgt := 160) hx hb dL_happens_14 (by rw [c36]; decide) (by rw [c36]; decide) (by rw [c36]; rfl) (by decide) ?_
                              exact t_160  h (lv_sub hl [1, 2, 0] rfl) hP hD hS hCF
                            · replace h := if_n c36 h
                              by_cases c37 : v22 = 14
                              · replace h := if_p c37 h
                                refine lv_tableIn (tgt := 160) hx hb dL_happens_14 (by rw [c37]; decide) (by rw [c37]; decide) (by rw [c37]; rfl) (by decide) ?_
                                exact t_160  h (lv_sub hl [1, 2, 0] rfl) hP hD hS hCF
                              · replace h := if_n c37 h
                                by_cases c38 : v22 = 15
                                · replace h := if_p c38 h
                                  refine lv_tableIn (tgt := 180) hx hb dL_happens_14 (by rw [c38]; decide) (by rw [c38]; decide) (by rw [c38]; rfl) (by decide) ?_
                                  exact t_180  h (lv_sub hl [1, 2, 0] rfl) hP hD hS hCF
                                · replace h := if_n c38 h
                                  by_cases c39 : v22 = 16
                                  · replace h := if_p c39 h
                                    refine lv_tableIn (tgt := 180) hx hb dL_happens_14 (by rw [c39]; decide) (by rw [c39]; decide) (by rw [c39]; rfl) (by decide) ?_
                                    exact t_180  h (lv_sub hl [1, 2, 0] rfl) hP hD hS hCF
                                  · replace h := if_n c39 h
                                    -- default
                                    have qc23 := i32_ne c23; rw [show (0 : Int32).toInt = 0 from by decide] at qc23
                                    have qc24 := i32_ne c24; rw [show (1 : Int32).toInt = 1 from by decide] at qc24
                                    have qc25 := i32_ne c25; rw [show (2 : Int32).toInt = 2 from by decide] at qc25
                                    have qc26 := i32_ne c26; rw [show (3 : Int32).toInt = 3 from by decide] at qc26
                                    have qc27 := i32_ne c27; rw [show (4 : Int32).toInt = 4 from by decide] at qc27
                                    have qc28 := i32_ne c28; rw [show (5 : Int32).toInt = 5 from by decide] at qc28
                                    have qc29 := i32_ne c29; rw [show (6 : Int32).toInt = 6 from by decide] at qc29
                                    have qc30 := i32_ne c30; rw [show (7 : Int32).toInt = 7 from by decide] at qc30
                                    have qc31 := i32_ne c31; rw [show (8 : Int32).toInt = 8 from by decide] at qc31
                                    have qc32 := i32_ne c32; rw [show (9 : Int32).toInt = 9 from by decide] at qc32
                                    have qc33 := i32_ne c33; rw [show (10 : Int32).toInt = 10 from by decide] at qc33
                                    have qc34 := i32_ne c34; rw [show (11 : Int32).toInt = 11 from by decide] at qc34
                                    have qc35 := i32_ne c35; rw [show (12 : Int32).toInt = 12 from by decide] at qc35
                                    have qc36 := i32_ne c36; rw [show (13 : Int32).toInt = 13 from by decide] at qc36
                                    have qc37 := i32_ne c37; rw [show (14 : Int32).toInt = 14 from by decide] at qc37
                                    have qc38 := i32_ne c38; rw [show (15 : Int32).toInt = 15 from by decide] at qc38
                                    have qc39 := i32_ne c39; rw [show (16 : Int32).toInt = 16 from by decide] at qc39
                                    refine lv_tableOut (tgt := 200) hx hb dL_happens_14 (by omega) (by decide) ?_
                                    refine lv_aload_n hx hb dL_happens_200 rfl (lv_at hl 1 rfl) ?_
                                    refine lv_iconst (v := 1) hx hb dL_happens_201 (by decide) ?_
                                    refine lv_iload_n hx hb dL_happens_202 rfl (lv_at hl 2 rfl) ?_
                                    refine lv_bipush (v := 8) hx hb dL_happens_203 (by decide) ?_
                                    refine lv_ishr hx hb dL_happens_205 ?_
                                    refine lv_bipush (v := 8) hx hb dL_happens_206 (by decide) ?_
                                    obtain ⟨v40, hv40, h⟩ := bdP_some h
                                    refine call_SP (As := [.int (p1 >>> (8 &&& 31)), .int 8]) (rest := [.int 1, .ref (ad 0 0)]) ⟨hx, hb, hml, hown, hts⟩ (tL_some (l := l) hv40) (va_cwS 2 hts (gqL_happens gQ_L_some) rfl rfl rfl (by decide +kernel) ⟨Nat.le_of_ble_eq_true rfl, Nat.le_of_ble_eq_true rfl⟩) (by rfl) hl.1 rfl (Nat.le_of_ble_eq_true rfl) dL_happens_208 ⟨Nat.zero_le _, Nat.zero_le _⟩ ?_
                                    refine lv_iadd hx hb dL_happens_211 ?_
                                    obtain ⟨v41, O42, hv41, h⟩ := bdO_some h
                                    refine call_BVE (As := [.int (1 + v40)]) (rest := []) ⟨hx, hb, hml, hown, hts⟩ (tX2_pass (l := l) (dC := dC) (dI := dI) (cI := cI) (cB := cB) (cP := cP) (ad := ad) (base := base) (R := R) hv41 hCF) (cwV 1 hts (gqL_happens gQ_X2_pass) rfl rfl rfl (by decide +kernel) ⟨Nat.le_of_ble_eq_true rfl, Nat.le_of_ble_eq_true rfl⟩) hK hP hD hS (Nat.le_trans hbs hS.1) (fun U hU hW => Env_step rfl rfl hE hS hU hW) 0 rfl rfl (by rfl) hl.1 rfl (Nat.le_of_ble_eq_true rfl) dL_happens_212 ⟨Nat.zero_le _, Nat.zero_le _⟩ (fun H locs ws9 hW9 hP hD _ hS => ?_)
                                    obtain ⟨Z, rfl, hCF⟩ := hW9
                                    exact (W.iret hx hb hr (fun t ht _ => retO h hCF hP hD hS ht) hS.2.2 dL_happens_215)
