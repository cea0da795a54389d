def fL_changes_64 (N : Nat)  (K : OT) (y0 : Int32) : Option (Int32 × OT) := gd (y0 = 0 ∨ y0 = 1) (some (y0, K))
def fL_changes_102 (N : Nat)  (K : OT) (y0 : Int32) : Option (Int32 × OT) := gd (y0 = 0 ∨ y0 = 1) (some (y0, K))
def fL_changes_131 (N : Nat)  (K : OT) (y0 : Int32) : Option (Int32 × OT) := gd (y0 = 0 ∨ y0 = 1) (some (y0, K))
def fL_changes_152 (N : Nat)  (K : OT) (y0 : Int32) : Option (Int32 × OT) := gd (y0 = 0 ∨ y0 = 1) (some (y0, K))
def fL_changes_229 (N : Nat)  (K : OT) (y0 : Int32) : Option (Int32 × OT) := gd (y0 = 0 ∨ y0 = 1) (some (y0, K))
def fL_changes_153 (N : Nat)  (K : OT) (x1 : Int32) : Option (Int32 × OT) := (if ((x1 >>> (6 &&& 31)) &&& 1) = 0 then bdP (mL_some N (x1 >>> (4 &&& 31)) 6) (fun v6 => toN v6 (fun x9 => bdO (mL_reads N ((lLen.getD 0 0) + sb_dg x9) ((lS 0 x9)) K ) (fun v7 O8 => (if v7 < 0 then fL_changes_229 N  O8 0 else fL_changes_229 N  O8 1)))) else bdP (mL_some N (x1 >>> (4 &&& 31)) 32) (fun v2 => toN v2 (fun x9 => bdO (mL_reads N ((lLen.getD 1 0) + sb_dg x9) ((lS 1 x9)) K ) (fun v3 O4 => (if v3 < 0 then fL_changes_229 N  O4 0 else fL_changes_229 N  O4 1)))))
def fL_changes_245 (N : Nat)  (K : OT) (y0 : Int32) : Option (Int32 × OT) := gd (y0 = 0 ∨ y0 = 1) (some (y0, K))
def mL_changes (N : Nat) (K : OT) (p1 : Int32) : Option (Int32 × OT) := bdP (mL_some N p1 12) (fun v10 => (if v10 = 0 then bdP (mL_some N (p1 >>> (4 &&& 31)) 6) (fun v12 => bdO (mX2_dusk N K v12) (fun v13 O14 => (if v13 < 0 then fL_changes_64 N  O14 0 else fL_changes_64 N  O14 1))) else (if v10 = 1 then bdP (mL_some N (p1 >>> (4 &&& 31)) 6) (fun v17 => bdP (mL_some N (p1 >>> (7 &&& 31)) 6) (fun v18 => bdP (mL_some N (p1 >>> (9 &&& 31)) 3) (fun v19 => bdO (mX2_road N K v17 v18 v19) (fun v20 O21 => (if v20 < 0 then fL_changes_102 N  O21 0 else fL_changes_102 N  O21 1))))) else (if v10 = 2 then bdP (mL_some N (p1 >>> (4 &&& 31)) 6) (fun v24 => bdP (mL_some N (p1 >>> (7 &&& 31)) 3) (fun v25 => bdO (mX2_sleep N K v24 v25) (fun v26 O27 => (if v26 < 0 then fL_changes_131 N  O27 0 else fL_changes_131 N  O27 1)))) else (if v10 = 3 then bdP (mL_some N (p1 >>> (4 &&& 31)) 33) (fun v30 => bdO (mX2_pass N K v30) (fun v31 O32 => (if v31 < 0 then fL_changes_152 N  O32 0 else fL_changes_152 N  O32 1))) else (if v10 = 4 then fL_changes_153 N  K p1 else (if v10 = 5 then fL_changes_153 N  K p1 else bdO (mL_happens N K (p1 >>> (4 &&& 31))) (fun v36 O37 => (if v36 < 0 then fL_changes_245 N  O37 0 else fL_changes_245 N  O37 1)))))))))
def rmL_changes : Room := { frames := 13, cells := 20, slots := 256 * (20), locals := 400 }
def wsL_changes_q : List Cond := .code yL_changes cL_changes 2 (some .boolean) :: wsL_law
theorem gqL_changes {a : List Cond} (h : GoodIn wsL_law a) : GoodIn wsL_changes_q a := gM_in h
set_option maxHeartbeats 4000000 in
set_option maxRecDepth 100000 in
theorem tL_changes {l : Launch} {dC : Nat → ClassId} {dI : Nat → Nat → Nat} {cI cB cP : ClassId} {ad : Nat → Nat → Nat} {Z : Nat → Nat} {base b : Nat} {adK adV : Nat → Nat} {R : va_W} {L : Nat} {xs : Nat → Int32} {N : Nat} {K : OT} {p1 : Int32} {rr : Int32} {KK : OT} (hf : mL_changes N K p1 = some (rr, KK)) (hCF : OF Z K) : Met l yL_changes wsL_changes_q rmL_changes (cLp (dC, dI) vwCl [(cI, .int), (cB, .byte), (cP, .object RX0)] base b L xs adK adV (outW cI cB cP ad Z K ++ R) [.ref (ad 0 0), .int p1]) (cBe (dC, dI) vwCl base (some (.int rr)) (fun ws => ∃ Z : Nat → Nat, ws = (outW cI cB cP ad Z KK ++ R) ∧ OF Z KK)) (20) (256 * (20)) (aB base) := by
  refine Met.ofW (cc := cL_changes) (maxL := 2) (ret := (some .boolean)) (by decide) rfl ?_
  intro p e s m args below meth c s₁ B hml hv
  obtain ⟨rfl, hP, hK, hD, hbs, hEL⟩ := hv
  have hx := B.exec
  have hb := B.bytes
  have hr := B.returns
  have hts := atoms_spec (ws := wsL_changes_q) B.pre
  have hown : s.vm.findClass RL = some m.cls := findClass_of_methodNamed B.named
  have hlocks := B.notSynchronized
  have hE := hEL.1
  have hcn : 0 + (20) ≤ 20 ∧ 0 + 256 * (20) ≤ 256 * (20) := by omega
  have hKB : va_K (dC, dI) vwCl [(cB, .byte)] s := K_tys (fun x hx => by simp only [List.mem_cons, List.not_mem_nil, or_false] at hx ⊢; simp [hx]) hK
  have hwJ4 : ∀ w ∈ u_ws RJ4 TJ4 4, w ∈ wsL_changes_q := fun w h => List.mem_cons_of_mem _ (inlJ4 w h)
  have hwJ0 : ∀ w ∈ u_ws RJ0 TJ0 4, w ∈ wsL_changes_q := fun w h => List.mem_cons_of_mem _ (inlJ0 w h)
  have t_64 : ∀ {K : OT} {y0 : Int32} {H : Heap} {locs : List Loc} {Z : Nat → Nat} {cells slots : Nat} {ls : Array Slot} (h : fL_changes_64 N  K y0 = some (rr, KK)) (hl : lv_has ls 2 []) (hP : va_P (dC, dI) vwCl (outW cI cB cP ad Z K ++ R) H) (hD : va_D (aB base) (outW cI cB cP ad Z K ++ R)) (hS : va_S (aB base) s.heap H locs) (hCF : OF Z K) (hcn : cells + (0) ≤ 20 ∧ slots + 256 * (0) ≤ 256 * (20)), W p l e (headSpec wsL_changes_q rmL_changes).room s m ([.ref (ad 0 0), .int p1] : List Value).toArray below meth c H locs cells slots (MQ below (cBe (dC, dI) vwCl base (some (.int rr)) (fun ws => ∃ Z : Nat → Nat, ws = (outW cI cB cP ad Z KK ++ R) ∧ OF Z KK)) ([.ref (ad 0 0), .int p1] : List Value).toArray s (20) (256 * (20)) (aB base)) (F0 m 64 ls [.int y0]) := by
    intro  K y0 H locs Z cells slots ls h hl hP hD hS hCF hcn
    unfold fL_changes_64 at h
    obtain ⟨hz, h⟩ := gd_some h
    exact W_le (by omega) (by omega) (W.zret hx hb hr (zb_ok hz) (fun t ht _ => retO h hCF hP hD hS ht) hS.2.2 dL_changes_64)
  have t_102 : ∀ {K : OT} {y0 : Int32} {H : Heap} {locs : List Loc} {Z : Nat → Nat} {cells slots : Nat} {ls : Array Slot} (h : fL_changes_102 N  K y0 = some (rr, KK)) (hl : lv_has ls 2 []) (hP : va_P (dC, dI) vwCl (outW cI cB cP ad Z K ++ R) H) (hD : va_D (aB base) (outW cI cB cP ad Z K ++ R)) (hS : va_S (aB base) s.heap H locs) (hCF : OF Z K) (hcn : cells + (0) ≤ 20 ∧ slots + 256 * (0) ≤ 256 * (20)), W p l e (headSpec wsL_changes_q rmL_changes).room s m ([.ref (ad 0 0), .int p1] : List Value).toArray below meth c H locs cells slots (MQ below (cBe (dC, dI) vwCl base (some (.int rr)) (fun ws => ∃ Z : Nat → Nat, ws = (outW cI cB cP ad Z KK ++ R) ∧ OF Z KK)) ([.ref (ad 0 0), .int p1] : List Value).toArray s (20) (256 * (20)) (aB base)) (F0 m 102 ls [.int y0]) := by
    intro  K y0 H locs Z cells slots ls h hl hP hD hS hCF hcn
    unfold fL_changes_102 at h
    obtain ⟨hz, h⟩ := gd_some h
    exact W_le (by omega) (by omega) (W.zret hx hb hr (zb_ok hz) (fun t ht _ => retO h hCF hP hD hS ht) hS.2.2 dL_changes_102)
  have t_131 : ∀ {K : OT} {y0 : Int32} {H : Heap} {locs : List Loc} {Z : Nat → Nat} {cells slots : Nat} {ls : Array Slot} (h : fL_changes_131 N  K y0 = some (rr, KK)) (hl : lv_has ls 2 []) (hP : va_P (dC, dI) vwCl (outW cI cB cP ad Z K ++ R) H) (hD : va_D (aB base) (outW cI cB cP ad Z K ++ R)) (hS : va_S (aB base) s.heap H locs) (hCF : OF Z K) (hcn : cells + (0) ≤ 20 ∧ slots + 256 * (0) ≤ 256 * (20)), W p l e (headSpec wsL_changes_q rmL_changes).room s m ([.ref (ad 0 0), .int p1] : List Value).toArray below meth c H locs cells slots (MQ below (cBe (dC, dI) vwCl base (some (.int rr)) (fun ws => ∃ Z : Nat → Nat, ws = (outW cI cB cP ad Z KK ++ R) ∧ OF Z KK)) ([.ref (ad 0 0), .int p1] : List Value).toArray s (20) (256 * (20)) (aB base)) (F0 m 131 ls [.int y0]) := by
    intro  K y0 H locs Z cells slots ls h hl hP hD hS hCF hcn
    unfold fL_changes_131 at h
    obtain ⟨hz, h⟩ := gd_some h
    exact W_le (by omega) (by omega) (W.zret hx hb hr (zb_ok hz) (fun t ht _ => retO h hCF hP hD hS ht) hS.2.2 dL_changes_131)
  have t_152 : ∀ {K : OT} {y0 : Int32} {H : Heap} {locs : List Loc} {Z : Nat → Nat} {cells slots : Nat} {ls : Array Slot} (h : fL_changes_152 N  K y0 = some (rr, KK)) (hl : lv_has ls 2 []) (hP : va_P (dC, dI) vwCl (outW cI cB cP ad Z K ++ R) H) (hD : va_D (aB base) (outW cI cB cP ad Z K ++ R)) (hS : va_S (aB base) s.heap H locs) (hCF : OF Z K) (hcn : cells + (0) ≤ 20 ∧ slots + 256 * (0) ≤ 256 * (20)), W p l e (headSpec wsL_changes_q rmL_changes).room s m ([.ref (ad 0 0), .int p1] : List Value).toArray below meth c H locs cells slots (MQ below (cBe (dC, dI) vwCl base (some (.int rr)) (fun ws => ∃ Z : Nat → Nat, ws = (outW cI cB cP ad Z KK ++ R) ∧ OF Z KK)) ([.ref (ad 0 0), .int p1] : List Value).toArray s (20) (256 * (20)) (aB base)) (F0 m 152 ls [.int y0]) := by
    intro  K y0 H locs Z cells slots ls h hl hP hD hS hCF hcn
    unfold fL_changes_152 at h
    obtain ⟨hz, h⟩ := gd_some h
    exact W_le (by omega) (by omega) (W.zret hx hb hr (zb_ok hz) (fun t ht _ => retO h hCF hP hD hS ht) hS.2.2 dL_changes_152)
  have t_229 : ∀ {K : OT} {y0 : Int32} {H : Heap} {locs : List Loc} {Z : Nat → Nat} {cells slots : Nat} {ls : Array Slot} (h : fL_changes_229 N  K y0 = some (rr, KK)) (hl : lv_has ls 2 []) (hP : va_P (dC, dI) vwCl (outW cI cB cP ad Z K ++ R) H) (hD : va_D (aB base) (outW cI cB cP ad Z K ++ R)) (hS : va_S (aB base) s.heap H locs) (hCF : OF Z K) (hcn : cells + (0) ≤ 20 ∧ slots + 256 * (0) ≤ 256 * (20)), W p l e (headSpec wsL_changes_q rmL_changes).room s m ([.ref (ad 0 0), .int p1] : List Value).toArray below meth c H locs cells slots (MQ below (cBe (dC, dI) vwCl base (some (.int rr)) (fun ws => ∃ Z : Nat → Nat, ws = (outW cI cB cP ad Z KK ++ R) ∧ OF Z KK)) ([.ref (ad 0 0), .int p1] : List Value).toArray s (20) (256 * (20)) (aB base)) (F0 m 229 ls [.int y0]) := by
    intro  K y0 H locs Z cells slots ls h hl hP hD hS hCF hcn
    unfold fL_changes_229 at h
    obtain ⟨hz, h⟩ := gd_some h
    exact W_le (by omega) (by omega) (W.zret hx hb hr (zb_ok hz) (fun t ht _ => retO h hCF hP hD hS ht) hS.2.2 dL_changes_229)
  have t_153 : ∀ {K : OT} {x1 : Int32} {H : Heap} {locs : List Loc} {Z : Nat → Nat} {cells slots : Nat} {ls : Array Slot} (h : fL_changes_153 N  K x1 = some (rr, KK)) (hl : lv_has ls 2 [(0, .ref (ad 0 0)), (1, .int x1)]) (hP : va_P (dC, dI) vwCl (outW cI cB cP ad Z K ++ R) H) (hD : va_D (aB base) (outW cI cB cP ad Z K ++ R)) (hS : va_S (aB base) s.heap H locs) (hCF : OF Z K) (hcn : cells + (15) ≤ 20 ∧ slots + 256 * (15) ≤ 256 * (20)), W p l e (headSpec wsL_changes_q rmL_changes).room s m ([.ref (ad 0 0), .int p1] : List Value).toArray below meth c H locs cells slots (MQ below (cBe (dC, dI) vwCl base (some (.int rr)) (fun ws => ∃ Z : Nat → Nat, ws = (outW cI cB cP ad Z KK ++ R) ∧ OF Z KK)) ([.ref (ad 0 0), .int p1] : List Value).toArray s (20) (256 * (20)) (aB base)) (F0 m 153 ls []) := by
    intro  K x1 H locs Z cells slots ls h hl hP hD hS hCF hcn
    unfold fL_changes_153 at h
    refine lv_aload_n hx hb dL_changes_153 rfl (lv_at hl 0 rfl) ?_
    refine lv_iload_n hx hb dL_changes_154 rfl (lv_at hl 1 rfl) ?_
    refine lv_bipush (v := 6) hx hb dL_changes_155 (by decide) ?_
    refine lv_ishr hx hb dL_changes_157 ?_
    refine lv_iconst (v := 1) hx hb dL_changes_158 (by decide) ?_
    refine lv_iand hx hb dL_changes_159 ?_
    refine lv_if_ne (tgt := 192) hx hb dL_changes_160 (by decide) (fun c1 => ?_) (fun c1 => ?_)
    · replace h := if_n c1 h
      refine va_new (ci := 0) (fs := [.null, .int 0, .int 0, .int 0]) (C := RJ4) (T := TJ4) (N := 4) hx hb hts hwJ4 tyJ4 tyJ4_ok hown (hts (.classLink RL 115 RJ4) (by decide +kernel)) (hts (.instantiable RJ4 4) (by decide +kernel)) (hts (.initialized RJ4) (by decide +kernel)) hK hP hD hS (fun z hz => Nat.le_trans hbs hz) rfl dfJ4 (by show _ ≤ 20; omega) (by show _ ≤ 256 * (20); omega) dL_changes_192 (fun bo H hP hD hS => ?_)
      have hP : va_P (dC, dI) vwCl ((bo, .inr (0, [.null, .int 0, .int 0, .int 0])) :: (outW cI cB cP ad Z K ++ R)) H := P_perm (List.perm_append_singleton _ _) hP
      have hD : va_D (aB base) ((bo, .inr (0, [.null, .int 0, .int 0, .int 0])) :: (outW cI cB cP ad Z K ++ R)) := D_perm (List.perm_append_singleton _ _) hD
      refine lv_dup hx hb dL_changes_195 rfl ?_
      refine call_IBE (As := []) (rest := [.ref bo, .ref (ad 0 0)]) ⟨hx, hb, hml, hown, hts⟩ (tJ4_init_da8c8 (l := l) (dC := dC) (dI := dI) (cB := cB) (ob := bo) (base := base) (R := (outW cI cB cP ad Z K ++ R))) (cwI 0 hts (gqL_changes gQ_J4_init_da8c8) rfl rfl rfl (hts (.initialized RJ4) (by decide +kernel)) (hts (.methodLink RL 117 yJ4_init_da8c8) (by decide +kernel)) (hts (.instanceMethod yJ4_init_da8c8) (by decide +kernel)) rfl (by decide +kernel) ⟨Nat.le_of_ble_eq_true rfl, Nat.le_of_ble_eq_true rfl⟩) hKB hP hD hS (Nat.le_trans hbs hS.1) (fun U hU hW => Env_step rfl rfl hE hS hU hW) (by rfl) hl.1 rfl (Nat.le_of_ble_eq_true rfl) dL_changes_196 ⟨by show _ ≤ 20; omega, by show _ ≤ 256 * (20); omega⟩ (fun H locs ws9 hW9 hP hD _ hS => ?_)
      obtain ⟨b9, rfl⟩ := hW9
      refine va_ldcS hx hb hown (hEL.2.2.2 1 (by decide)) dL_changes_199 ?_
      refine call_BsRE (As := [.ref (adK 1)]) (rest := [.ref (ad 0 0)]) ⟨hx, hb, hml, hown, hts⟩ (tJ4_appendS (l := l) (dC := dC) (dI := dI) (cB := cB) (ob := bo) (sb := b9) (mm := 16) (a := adK 1) (base := base) (n := lLen.getD 1 0) (w := 0) (K := K00) (R := (outW cI cB cP ad Z K ++ R)) (f := lF 1) rfl (by decide) (by decide) (lF_fit 1 (by decide))) (cwV 1 hts (gqL_changes gQ_J4_append_15ec4) rfl rfl rfl (by decide +kernel) ⟨Nat.le_of_ble_eq_true rfl, Nat.le_of_ble_eq_true rfl⟩) hKB hP hD hS (Nat.le_trans hbs hS.1) (fun U hU hW => Env_step rfl rfl hE hS hU hW) (StrB_lit hEL hS (k := 1) (by decide)) 0 rfl rfl (by rfl) hl.1 rfl (Nat.le_of_ble_eq_true rfl) dL_changes_201 ⟨by show _ ≤ 20; omega, by show _ ≤ 256 * (20); omega⟩ (fun H locs ws9 hW9 hP hD _ hS => ?_)
      subst hW9
      refine lv_iload_n hx hb dL_changes_204 rfl (lv_at hl 1 rfl) ?_
      refine lv_iconst (v := 4) hx hb dL_changes_205 (by decide) ?_
      refine lv_ishr hx hb dL_changes_206 ?_
      refine lv_bipush (v := 32) hx hb dL_changes_207 (by decide) ?_
      obtain ⟨v2, hv2, h⟩ := bdP_some h
      refine call_SP (As := [.int (x1 >>> (4 &&& 31)), .int 32]) (rest := [.ref bo, .ref (ad 0 0)]) ⟨hx, hb, hml, hown, hts⟩ (tL_some (l := l) hv2) (va_cwS 2 hts (gqL_changes gQ_L_some) rfl rfl rfl (by decide +kernel) ⟨Nat.le_of_ble_eq_true rfl, Nat.le_of_ble_eq_true rfl⟩) (by rfl) hl.1 rfl (Nat.le_of_ble_eq_true rfl) dL_changes_209 ⟨by show _ ≤ 20; omega, by show _ ≤ 256 * (20); omega⟩ ?_
      obtain ⟨x9, hx9, ex9, h9⟩ := toN_some h
      clear h
      subst ex9
      have h := h9
      have hd9 := dg_le2 hx9
      have hn9 : (lLen.getD 1 0) ≤ 6 := by decide
      refine call_BVE (As := [.int (nI x9)]) (rest := [.ref (ad 0 0)]) ⟨hx, hb, hml, hown, hts⟩ (tI4_le (l := l) (dC := dC) (dI := dI) (cB := cB) (ob := bo) (sb := b9) (mm := 16) (base := base) (n := (lLen.getD 1 0)) (x := x9) (R := (outW cI cB cP ad Z K ++ R)) (K := (lK 1)) (by omega) (lK_1 1) (by omega) (lK_CF 1 (by decide))) (cwV 1 hts (gqL_changes gQ_J4_append_bf812) rfl rfl rfl (by decide +kernel) ⟨Nat.le_of_ble_eq_true rfl, Nat.le_of_ble_eq_true rfl⟩) hKB hP hD hS (Nat.le_trans hbs hS.1) (fun U hU hW => Env_step rfl rfl hE hS hU hW) 0 rfl rfl (by rfl) hl.1 rfl (Nat.le_of_ble_eq_true rfl) dL_changes_212 ⟨by show _ ≤ 20; omega, by show _ ≤ 256 * (20); omega⟩ (fun H locs ws9 hW9 hP hD _ hS => ?_)
      subst hW9
      refine call_VNs (As := []) (rest := [.ref (ad 0 0)]) ⟨hx, hb, hml, hown, hts⟩ (tJ4_toString (l := l) (dC := dC) (dI := dI) (cB := cB) (ob := bo) (sb := b9) (mm := 16) (base := base) (q := ((lLen.getD 1 0) + sb_dg x9)) (R := (outW cI cB cP ad Z K ++ R)) (K := (apI (lK 1) (lLen.getD 1 0) x9)) (apI_1 _ _ _) (by omega) (apI_CF (lK_CF 1 (by decide)) (by omega))) (cwV 0 hts (gqL_changes gQ_J4_toString_0e30d) rfl rfl rfl (by decide +kernel) ⟨Nat.le_of_ble_eq_true rfl, Nat.le_of_ble_eq_true rfl⟩) hKB hP hD hS (Nat.le_trans hbs hS.1) (fun U hU hW => Env_step rfl rfl hE hS hU hW) 0 rfl rfl (by rfl) hl.1 rfl (Nat.le_of_ble_eq_true rfl) dL_changes_215 ⟨by show _ ≤ 20; omega, by show _ ≤ 256 * (20); omega⟩ (fun H locs sa9 sv9 hP hD hS => ?_)
      have hP : va_P (dC, dI) vwCl (outW cI cB cP ad Z K ++ (((sa9, .inr (4, [.ref sv9, .int 0, .int 0, .int 0])) :: (sv9, .inl (cB, ((lLen.getD 1 0) + sb_dg x9), .inl (lS 1 x9))) :: sbW cB bo b9 16 (apI (lK 1) (lLen.getD 1 0) x9)) ++ R)) H := P_perm (w_pull ((sa9, .inr (4, [.ref sv9, .int 0, .int 0, .int 0])) :: (sv9, .inl (cB, ((lLen.getD 1 0) + sb_dg x9), .inl (lS 1 x9))) :: sbW cB bo b9 16 (apI (lK 1) (lLen.getD 1 0) x9)) (outW cI cB cP ad Z K) R) hP
      have hD : va_D (aB base) (outW cI cB cP ad Z K ++ (((sa9, .inr (4, [.ref sv9, .int 0, .int 0, .int 0])) :: (sv9, .inl (cB, ((lLen.getD 1 0) + sb_dg x9), .inl (lS 1 x9))) :: sbW cB bo b9 16 (apI (lK 1) (lLen.getD 1 0) x9)) ++ R)) := D_perm (w_pull ((sa9, .inr (4, [.ref sv9, .int 0, .int 0, .int 0])) :: (sv9, .inl (cB, ((lLen.getD 1 0) + sb_dg x9), .inl (lS 1 x9))) :: sbW cB bo b9 16 (apI (lK 1) (lLen.getD 1 0) x9)) (outW cI cB cP ad Z K) R) hD
      obtain ⟨v3, O4, hv3, h⟩ := bdO_some h
      refine call_LRE (As := [.ref (ad 0 0), .ref sa9]) (rest := []) ⟨hx, hb, hml, hown, hts⟩ (tL_reads (l := l) (dC := dC) (dI := dI) (cI := cI) (cB := cB) (cP := cP) (ad := ad) (base := base) (b := b) (L := L) (xs := xs) (adK := adK) (adV := adV) (R := ((sa9, .inr (4, [.ref sv9, .int 0, .int 0, .int 0])) :: (sv9, .inl (cB, ((lLen.getD 1 0) + sb_dg x9), .inl (lS 1 x9))) :: sbW cB bo b9 16 (apI (lK 1) (lLen.getD 1 0) x9)) ++ R) (sa := sa9) hv3 hCF) (va_cwS 2 hts (gqL_changes gQ_L_reads) rfl rfl rfl (by decide +kernel) ⟨Nat.le_of_ble_eq_true rfl, Nat.le_of_ble_eq_true rfl⟩) hK hP hD hS (Nat.le_trans hbs hS.1) (fun U hU hW => EnvL_step hEL hS hU hW) (fun U hU hW H2 h2 _ => (StrF_of (tys := [(cB, .byte)]) hts hwJ0 hKB h2 0 rfl (by omega)).moved hW.alike) (by rfl) hl.1 rfl (Nat.le_of_ble_eq_true rfl) dL_changes_218 ⟨by show _ ≤ 20; omega, by show _ ≤ 256 * (20); omega⟩ (fun H locs ws9 hW9 hP hD _ hS => ?_)
      obtain ⟨Z, rfl, hCF⟩ := hW9
      have hP := P_drop hP
      have hD := D_drop hD
      refine lv_if_lt (tgt := 228) hx hb dL_changes_221 (by decide) (fun c5 => ?_) (fun c5 => ?_)
      · replace h := if_p c5 h
        refine lv_iconst (v := 0) hx hb dL_changes_228 (by decide) ?_
        exact t_229  h (lv_sub hl [] rfl) hP hD hS hCF (by omega)
      · replace h := if_n c5 h
        refine lv_iconst (v := 1) hx hb dL_changes_224 (by decide) ?_
        refine lv_goto (tgt := 229) hx hb dL_changes_225 (by decide) ?_
        exact t_229  h (lv_sub hl [] rfl) hP hD hS hCF (by omega)
    · replace h := if_p c1 h
      refine va_new (ci := 0) (fs := [.null, .int 0, .int 0, .int 0]) (C := RJ4) (T := TJ4) (N := 4) hx hb hts hwJ4 tyJ4 tyJ4_ok hown (hts (.classLink RL 115 RJ4) (by decide +kernel)) (hts (.instantiable RJ4 4) (by decide +kernel)) (hts (.initialized RJ4) (by decide +kernel)) hK hP hD hS (fun z hz => Nat.le_trans hbs hz) rfl dfJ4 (by show _ ≤ 20; omega) (by show _ ≤ 256 * (20); omega) dL_changes_163 (fun bo H hP hD hS => ?_)
      have hP : va_P (dC, dI) vwCl ((bo, .inr (0, [.null, .int 0, .int 0, .int 0])) :: (outW cI cB cP ad Z K ++ R)) H := P_perm (List.perm_append_singleton _ _) hP
      have hD : va_D (aB base) ((bo, .inr (0, [.null, .int 0, .int 0, .int 0])) :: (outW cI cB cP ad Z K ++ R)) := D_perm (List.perm_append_singleton _ _) hD
      refine lv_dup hx hb dL_changes_166 rfl ?_
      refine call_IBE (As := []) (rest := [.ref bo, .ref (ad 0 0)]) ⟨hx, hb, hml, hown, hts⟩ (tJ4_init_da8c8 (l := l) (dC := dC) (dI := dI) (cB := cB) (ob := bo) (base := base) (R := (outW cI cB cP ad Z K ++ R))) (cwI 0 hts (gqL_changes gQ_J4_init_da8c8) rfl rfl rfl (hts (.initialized RJ4) (by decide +kernel)) (hts (.methodLink RL 117 yJ4_init_da8c8) (by decide +kernel)) (hts (.instanceMethod yJ4_init_da8c8) (by decide +kernel)) rfl (by decide +kernel) ⟨Nat.le_of_ble_eq_true rfl, Nat.le_of_ble_eq_true rfl⟩) hKB hP hD hS (Nat.le_trans hbs hS.1) (fun U hU hW => Env_step rfl rfl hE hS hU hW) (by rfl) hl.1 rfl (Nat.le_of_ble_eq_true rfl) dL_changes_167 ⟨by show _ ≤ 20; omega, by show _ ≤ 256 * (20); omega⟩ (fun H locs ws9 hW9 hP hD _ hS => ?_)
      obtain ⟨b9, rfl⟩ := hW9
      refine va_ldcS hx hb hown (hEL.2.2.2 0 (by decide)) dL_changes_170 ?_
      refine call_BsRE (As := [.ref (adK 0)]) (rest := [.ref (ad 0 0)]) ⟨hx, hb, hml, hown, hts⟩ (tJ4_appendS (l := l) (dC := dC) (dI := dI) (cB := cB) (ob := bo) (sb := b9) (mm := 16) (a := adK 0) (base := base) (n := lLen.getD 0 0) (w := 0) (K := K00) (R := (outW cI cB cP ad Z K ++ R)) (f := lF 0) rfl (by decide) (by decide) (lF_fit 0 (by decide))) (cwV 1 hts (gqL_changes gQ_J4_append_15ec4) rfl rfl rfl (by decide +kernel) ⟨Nat.le_of_ble_eq_true rfl, Nat.le_of_ble_eq_true rfl⟩) hKB hP hD hS (Nat.le_trans hbs hS.1) (fun U hU hW => Env_step rfl rfl hE hS hU hW) (StrB_lit hEL hS (k := 0) (by decide)) 0 rfl rfl (by rfl) hl.1 rfl (Nat.le_of_ble_eq_true rfl) dL_changes_172 ⟨by show _ ≤ 20; omega, by show _ ≤ 256 * (20); omega⟩ (fun H locs ws9 hW9 hP hD _ hS => ?_)
      subst hW9
      refine lv_iload_n hx hb dL_changes_175 rfl (lv_at hl 1 rfl) ?_
      refine lv_iconst (v := 4) hx hb dL_changes_176 (by decide) ?_
      refine lv_ishr hx hb dL_changes_177 ?_
      refine lv_bipush (v := 6) hx hb dL_changes_178 (by decide) ?_
      obtain ⟨v6, hv6, h⟩ := bdP_some h
      refine call_SP (As := [.int (x1 >>> (4 &&& 31)), .int 6]) (rest := [.ref bo, .ref (ad 0 0)]) ⟨hx, hb, hml, hown, hts⟩ (tL_some (l := l) hv6) (va_cwS 2 hts (gqL_changes gQ_L_some) rfl rfl rfl (by decide +kernel) ⟨Nat.le_of_ble_eq_true rfl, Nat.le_of_ble_eq_true rfl⟩) (by rfl) hl.1 rfl (Nat.le_of_ble_eq_true rfl) dL_changes_180 ⟨by show _ ≤ 20; omega, by show _ ≤ 256 * (20); omega⟩ ?_
      obtain ⟨x9, hx9, ex9, h9⟩ := toN_some h
      clear h
      subst ex9
      have h := h9
      have hd9 := dg_le2 hx9
      have hn9 : (lLen.getD 0 0) ≤ 6 := by decide
      refine call_BVE (As := [.int (nI x9)]) (rest := [.ref (ad 0 0)]) ⟨hx, hb, hml, hown, hts⟩ (tI4_le (l := l) (dC := dC) (dI := dI) (cB := cB) (ob := bo) (sb := b9) (mm := 16) (base := base) (n := (lLen.getD 0 0)) (x := x9) (R := (outW cI cB cP ad Z K ++ R)) (K := (lK 0)) (by omega) (lK_1 0) (by omega) (lK_CF 0 (by decide))) (cwV 1 hts (gqL_changes gQ_J4_append_bf812) rfl rfl rfl (by decide +kernel) ⟨Nat.le_of_ble_eq_true rfl, Nat.le_of_ble_eq_true rfl⟩) hKB hP hD hS (Nat.le_trans hbs hS.1) (fun U hU hW => Env_step rfl rfl hE hS hU hW) 0 rfl rfl (by rfl) hl.1 rfl (Nat.le_of_ble_eq_true rfl) dL_changes_183 ⟨by show _ ≤ 20; omega, by show _ ≤ 256 * (20); omega⟩ (fun H locs ws9 hW9 hP hD _ hS => ?_)
      subst hW9
      refine call_VNs (As := []) (rest := [.ref (ad 0 0)]) ⟨hx, hb, hml, hown, hts⟩ (tJ4_toString (l := l) (dC := dC) (dI := dI) (cB := cB) (ob := bo) (sb := b9) (mm := 16) (base := base) (q := ((lLen.getD 0 0) + sb_dg x9)) (R := (outW cI cB cP ad Z K ++ R)) (K := (apI (lK 0) (lLen.getD 0 0) x9)) (apI_1 _ _ _) (by omega) (apI_CF (lK_CF 0 (by decide)) (by omega))) (cwV 0 hts (gqL_changes gQ_J4_toString_0e30d) rfl rfl rfl (by decide +kernel) ⟨Nat.le_of_ble_eq_true rfl, Nat.le_of_ble_eq_true rfl⟩) hKB hP hD hS (Nat.le_trans hbs hS.1) (fun U hU hW => Env_step rfl rfl hE hS hU hW) 0 rfl rfl (by rfl) hl.1 rfl (Nat.le_of_ble_eq_true rfl) dL_changes_186 ⟨by show _ ≤ 20; omega, by show _ ≤ 256 * (20); omega⟩ (fun H locs sa9 sv9 hP hD hS => ?_)
      have hP : va_P (dC, dI) vwCl (outW cI cB cP ad Z K ++ (((sa9, .inr (4, [.ref sv9, .int 0, .int 0, .int 0])) :: (sv9, .inl (cB, ((lLen.getD 0 0) + sb_dg x9), .inl (lS 0 x9))) :: sbW cB bo b9 16 (apI (lK 0) (lLen.getD 0 0) x9)) ++ R)) H := P_perm (w_pull ((sa9, .inr (4, [.ref sv9, .int 0, .int 0, .int 0])) :: (sv9, .inl (cB, ((lLen.getD 0 0) + sb_dg x9), .inl (lS 0 x9))) :: sbW cB bo b9 16 (apI (lK 0) (lLen.getD 0 0) x9)) (outW cI cB cP ad Z K) R) hP
      have hD : va_D (aB base) (outW cI cB cP ad Z K ++ (((sa9, .inr (4, [.ref sv9, .int 0, .int 0, .int 0])) :: (sv9, .inl (cB, ((lLen.getD 0 0) + sb_dg x9), .inl (lS 0 x9))) :: sbW cB bo b9 16 (apI (lK 0) (lLen.getD 0 0) x9)) ++ R)) := D_perm (w_pull ((sa9, .inr (4, [.ref sv9, .int 0, .int 0, .int 0])) :: (sv9, .inl (cB, ((lLen.getD 0 0) + sb_dg x9), .inl (lS 0 x9))) :: sbW cB bo b9 16 (apI (lK 0) (lLen.getD 0 0) x9)) (outW cI cB cP ad Z K) R) hD
      refine lv_goto (tgt := 218) hx hb dL_changes_189 (by decide) ?_
      obtain ⟨v7, O8, hv7, h⟩ := bdO_some h
      refine call_LRE (As := [.ref (ad 0 0), .ref sa9]) (rest := []) ⟨hx, hb, hml, hown, hts⟩ (tL_reads (l := l) (dC := dC) (dI := dI) (cI := cI) (cB := cB) (cP := cP) (ad := ad) (base := base) (b := b) (L := L) (xs := xs) (adK := adK) (adV := adV) (R := ((sa9, .inr (4, [.ref sv9, .int 0, .int 0, .int 0])) :: (sv9, .inl (cB, ((lLen.getD 0 0) + sb_dg x9), .inl (lS 0 x9))) :: sbW cB bo b9 16 (apI (lK 0) (lLen.getD 0 0) x9)) ++ R) (sa := sa9) hv7 hCF) (va_cwS 2 hts (gqL_changes gQ_L_reads) rfl rfl rfl (by decide +kernel) ⟨Nat.le_of_ble_eq_true rfl, Nat.le_of_ble_eq_true rfl⟩) hK hP hD hS (Nat.le_trans hbs hS.1) (fun U hU hW => EnvL_step hEL hS hU hW) (fun U hU hW H2 h2 _ => (StrF_of (tys := [(cB, .byte)]) hts hwJ0 hKB h2 0 rfl (by omega)).moved hW.alike) (by rfl) hl.1 rfl (Nat.le_of_ble_eq_true rfl) dL_changes_218 ⟨by show _ ≤ 20; omega, by show _ ≤ 256 * (20); omega⟩ (fun H locs ws9 hW9 hP hD _ hS => ?_)
      obtain ⟨Z, rfl, hCF⟩ := hW9
      have hP := P_drop hP
      have hD := D_drop hD
      refine lv_if_lt (tgt := 228) hx hb dL_changes_221 (by decide) (fun c9 => ?_) (fun c9 => ?_)
      · replace h := if_p c9 h
        refine lv_iconst (v := 0) hx hb dL_changes_228 (by decide) ?_
        exact t_229  h (lv_sub hl [] rfl) hP hD hS hCF (by omega)
      · replace h := if_n c9 h
        refine lv_iconst (v := 1) hx hb dL_changes_224 (by decide) ?_
        refine lv_goto (tgt := 229) hx hb dL_changes_225 (by decide) ?_
        exact t_229  h (lv_sub hl [] rfl) hP hD hS hCF (by omega)
  have t_245 : ∀ {K : OT} {y0 : Int32} {H : Heap} {locs : List Loc} {Z : Nat → Nat} {cells slots : Nat} {ls : Array Slot} (h : fL_changes_245 N  K y0 = some (rr, KK)) (hl : lv_has ls 2 []) (hP : va_P (dC, dI) vwCl (outW cI cB cP ad Z K ++ R) H) (hD : va_D (aB base) (outW cI cB cP ad Z K ++ R)) (hS : va_S (aB base) s.heap H locs) (hCF : OF Z K) (hcn : cells + (0) ≤ 20 ∧ slots + 256 * (0) ≤ 256 * (20)), W p l e (headSpec wsL_changes_q rmL_changes).room s m ([.ref (ad 0 0), .int p1] : List Value).toArray below meth c H locs cells slots (MQ below (cBe (dC, dI) vwCl base (some (.int rr)) (fun ws => ∃ Z : Nat → Nat, ws = (outW cI cB cP ad Z KK ++ R) ∧ OF Z KK)) ([.ref (ad 0 0), .int p1] : List Value).toArray s (20) (256 * (20)) (aB base)) (F0 m 245 ls [.int y0]) := by
    intro  K y0 H locs Z cells slots ls h hl hP hD hS hCF hcn
    unfold fL_changes_245 at h
    obtain ⟨hz, h⟩ := gd_some h
    exact W_le (by omega) (by omega) (W.zret hx hb hr (zb_ok hz) (fun t ht _ => retO h hCF hP hD hS ht) hS.2.2 dL_changes_245)
  have hS : va_S (aB base) s.heap s.heap [] := va_S.rf
  have hl := lv_entry ([.ref (ad 0 0), .int p1]) (n := 2) (Nat.le_of_ble_eq_true rfl)
  rw [lg_entry_eq]
  generalize (lg_sl ([.ref (ad 0 0), .int p1]) ++ List.replicate (2 - (lg_sl ([.ref (ad 0 0), .int p1])).length) Slot.unset).toArray = ls at hl ⊢
  have hl : lv_has ls 2 [(0, .ref (ad 0 0)), (1, .int p1)] := hl
  have h := hf
  unfold mL_changes at h
  refine lv_iload_n hx hb dL_changes_0 rfl (lv_at hl 1 rfl) ?_
  refine lv_bipush (v := 12) hx hb dL_changes_1 (by decide) ?_
  obtain ⟨v10, hv10, h⟩ := bdP_some h
  refine call_SP (As := [.int p1, .int 12]) (rest := []) ⟨hx, hb, hml, hown, hts⟩ (tL_some (l := l) hv10) (va_cwS 2 hts (gqL_changes gQ_L_some) rfl rfl rfl (by decide +kernel) ⟨Nat.le_of_ble_eq_true rfl, Nat.le_of_ble_eq_true rfl⟩) (by rfl) hl.1 rfl (Nat.le_of_ble_eq_true rfl) dL_changes_3 ⟨by show _ ≤ 20; omega, by show _ ≤ 256 * (20); omega⟩ ?_
  by_cases c11 : v10 = 0
  · replace h := if_p c11 h
    refine lv_tableIn (tgt := 44) hx hb dL_changes_6 (by rw [c11]; decide) (by rw [c11]; decide) (by rw [c11]; rfl) (by decide) ?_
    refine lv_aload_n hx hb dL_changes_44 rfl (lv_at hl 0 rfl) ?_
    refine lv_iload_n hx hb dL_changes_45 rfl (lv_at hl 1 rfl) ?_
    refine lv_iconst (v := 4) hx hb dL_changes_46 (by decide) ?_
    refine lv_ishr hx hb dL_changes_47 ?_
    refine lv_bipush (v := 6) hx hb dL_changes_48 (by decide) ?_
    obtain ⟨v12, hv12, h⟩ := bdP_some h
    refine call_SP (As := [.int (p1 >>> (4 &&& 31)), .int 6]) (rest := [.ref (ad 0 0)]) ⟨hx, hb, hml, hown, hts⟩ (tL_some (l := l) hv12) (va_cwS 2 hts (gqL_changes gQ_L_some) rfl rfl rfl (by decide +kernel) ⟨Nat.le_of_ble_eq_true rfl, Nat.le_of_ble_eq_true rfl⟩) (by rfl) hl.1 rfl (Nat.le_of_ble_eq_true rfl) dL_changes_50 ⟨by show _ ≤ 20; omega, by show _ ≤ 256 * (20); omega⟩ ?_
    obtain ⟨v13, O14, hv13, h⟩ := bdO_some h
    refine call_BVE (As := [.int v12]) (rest := []) ⟨hx, hb, hml, hown, hts⟩ (tX2_dusk (l := l) (dC := dC) (dI := dI) (cI := cI) (cB := cB) (cP := cP) (ad := ad) (base := base) (R := R) hv13 hCF) (cwV 1 hts (gqL_changes gQ_X2_dusk) rfl rfl rfl (by decide +kernel) ⟨Nat.le_of_ble_eq_true rfl, Nat.le_of_ble_eq_true rfl⟩) hK hP hD hS (Nat.le_trans hbs hS.1) (fun U hU hW => Env_step rfl rfl hE hS hU hW) 0 rfl rfl (by rfl) hl.1 rfl (Nat.le_of_ble_eq_true rfl) dL_changes_53 ⟨by show _ ≤ 20; omega, by show _ ≤ 256 * (20); omega⟩ (fun H locs ws9 hW9 hP hD _ hS => ?_)
    obtain ⟨Z, rfl, hCF⟩ := hW9
    refine lv_if_lt (tgt := 63) hx hb dL_changes_56 (by decide) (fun c15 => ?_) (fun c15 => ?_)
    · replace h := if_p c15 h
      refine lv_iconst (v := 0) hx hb dL_changes_63 (by decide) ?_
      exact t_64  h (lv_sub hl [] rfl) hP hD hS hCF (by omega)
    · replace h := if_n c15 h
      refine lv_iconst (v := 1) hx hb dL_changes_59 (by decide) ?_
      refine lv_goto (tgt := 64) hx hb dL_changes_60 (by decide) ?_
      exact t_64  h (lv_sub hl [] rfl) hP hD hS hCF (by omega)
  · replace h := if_n c11 h
    by_cases c16 : v10 = 1
    · replace h := if_p c16 h
      refine lv_tableIn (tgt := 65) hx hb dL_changes_6 (by rw [c16]; decide) (by rw [c16]; decide) (by rw [c16]; rfl) (by decide) ?_
      refine lv_aload_n hx hb dL_changes_65 rfl (lv_at hl 0 rfl) ?_
      refine lv_iload_n hx hb dL_changes_66 rfl (lv_at hl 1 rfl) ?_
      refine lv_iconst (v := 4) hx hb dL_changes_67 (by decide) ?_
      refine lv_ishr hx hb dL_changes_68 ?_
      refine lv_bipush (v := 6) hx hb dL_changes_69 (by decide) ?_
      obtain ⟨v17, hv17, h⟩ := bdP_some h
      refine call_SP (As := [.int (p1 >>> (4 &&& 31)), .int 6]) (rest := [.ref (ad 0 0)]) ⟨hx, hb, hml, hown, hts⟩ (tL_some (l := l) hv17) (va_cwS 2 hts (gqL_changes gQ_L_some) rfl rfl rfl (by decide +kernel) ⟨Nat.le_of_ble_eq_true rfl, Nat.le_of_ble_eq_true rfl⟩) (by rfl) hl.1 rfl (Nat.le_of_ble_eq_true rfl) dL_changes_71 ⟨by show _ ≤ 20; omega, by show _ ≤ 256 * (20); omega⟩ ?_
      refine lv_iload_n hx hb dL_changes_74 rfl (lv_at hl 1 rfl) ?_
      refine lv_bipush (v := 7) hx hb dL_changes_75 (by decide) ?_
      refine lv_ishr hx hb dL_changes_77 ?_
      refine lv_bipush (v := 6) hx hb dL_changes_78 (by decide) ?_
      obtain ⟨v18, hv18, h⟩ := bdP_some h
      refine call_SP (As := [.int (p1 >>> (7 &&& 31)), .int 6]) (rest := [.int v17, .ref (ad 0 0)]) ⟨hx, hb, hml, hown, hts⟩ (tL_some (l := l) hv18) (va_cwS 2 hts (gqL_changes gQ_L_some) rfl rfl rfl (by decide +kernel) ⟨Nat.le_of_ble_eq_true rfl, Nat.le_of_ble_eq_true rfl⟩) (by rfl) hl.1 rfl (Nat.le_of_ble_eq_true rfl) dL_changes_80 ⟨by show _ ≤ 20; omega, by show _ ≤ 256 * (20); omega⟩ ?_
      refine lv_iload_n hx hb dL_changes_83 rfl (lv_at hl 1 rfl) ?_
      refine lv_bipush (v := 9) hx hb dL_changes_84 (by decide) ?_
      refine lv_ishr hx hb dL_changes_86 ?_
      refine lv_iconst (v := 3) hx hb dL_changes_87 (by decide) ?_
      obtain ⟨v19, hv19, h⟩ := bdP_some h
      refine call_SP (As := [.int (p1 >>> (9 &&& 31)), .int 3]) (rest := [.int v18, .int v17, .ref (ad 0 0)]) ⟨hx, hb, hml, hown, hts⟩ (tL_some (l := l) hv19) (va_cwS 2 hts (gqL_changes gQ_L_some) rfl rfl rfl (by decide +kernel) ⟨Nat.le_of_ble_eq_true rfl, Nat.le_of_ble_eq_true rfl⟩) (by rfl) hl.1 rfl (Nat.le_of_ble_eq_true rfl) dL_changes_88 ⟨by show _ ≤ 20; omega, by show _ ≤ 256 * (20); omega⟩ ?_
      obtain ⟨v20, O21, hv20, h⟩ := bdO_some h
      refine call_BVE (As := [.int v17, .int v18, .int v19]) (rest := []) ⟨hx, hb, hml, hown, hts⟩ (tX2_road (l := l) (dC := dC) (dI := dI) (cI := cI) (cB := cB) (cP := cP) (ad := ad) (base := base) (R := R) hv20 hCF) (cwV 3 hts (gqL_changes gQ_X2_road) rfl rfl rfl (by decide +kernel) ⟨Nat.le_of_ble_eq_true rfl, Nat.le_of_ble_eq_true rfl⟩) hK hP hD hS (Nat.le_trans hbs hS.1) (fun U hU hW => Env_step rfl rfl hE hS hU hW) 0 rfl rfl (by rfl) hl.1 rfl (Nat.le_of_ble_eq_true rfl) dL_changes_91 ⟨by show _ ≤ 20; omega, by show _ ≤ 256 * (20); omega⟩ (fun H locs ws9 hW9 hP hD _ hS => ?_)
      obtain ⟨Z, rfl, hCF⟩ := hW9
      refine lv_if_lt (tgt := 101) hx hb dL_changes_94 (by decide) (fun c22 => ?_) (fun c22 => ?_)
      · replace h := if_p c22 h
        refine lv_iconst (v := 0) hx hb dL_changes_101 (by decide) ?_
        exact t_102  h (lv_sub hl [] rfl) hP hD hS hCF (by omega)
      · replace h := if_n c22 h
        refine lv_iconst (v := 1) hx hb dL_changes_97 (by decide) ?_
        refine lv_goto (tgt := 102) hx hb dL_changes_98 (by decide) ?_
        exact t_102  h (lv_sub hl [] rfl) hP hD hS hCF (by omega)
    · replace h := if_n c16 h
      by_cases c23 : v10 = 2
      · replace h := if_p c23 h
        refine lv_tableIn (tgt := 103) hx hb dL_changes_6 (by rw [c23]; decide) (by rw [c23]; decide) (by rw [c23]; rfl) (by decide) ?_
        refine lv_aload_n hx hb dL_changes_103 rfl (lv_at hl 0 rfl) ?_
        refine lv_iload_n hx hb dL_changes_104 rfl (lv_at hl 1 rfl) ?_
        refine lv_iconst (v := 4) hx hb dL_changes_105 (by decide) ?_
        refine lv_ishr hx hb dL_changes_106 ?_
        refine lv_bipush (v := 6) hx hb dL_changes_107 (by decide) ?_
        obtain ⟨v24, hv24, h⟩ := bdP_some h
        refine call_SP (As := [.int (p1 >>> (4 &&& 31)), .int 6]) (rest := [.ref (ad 0 0)]) ⟨hx, hb, hml, hown, hts⟩ (tL_some (l := l) hv24) (va_cwS 2 hts (gqL_changes gQ_L_some) rfl rfl rfl (by decide +kernel) ⟨Nat.le_of_ble_eq_true rfl, Nat.le_of_ble_eq_true rfl⟩) (by rfl) hl.1 rfl (Nat.le_of_ble_eq_true rfl) dL_changes_109 ⟨by show _ ≤ 20; omega, by show _ ≤ 256 * (20); omega⟩ ?_
        refine lv_iload_n hx hb dL_changes_112 rfl (lv_at hl 1 rfl) ?_
        refine lv_bipush (v := 7) hx hb dL_changes_113 (by decide) ?_
        refine lv_ishr hx hb dL_changes_115 ?_
        refine lv_iconst (v := 3) hx hb dL_changes_116 (by decide) ?_
        obtain ⟨v25, hv25, h⟩ := bdP_some h
        refine call_SP (As := [.int (p1 >>> (7 &&& 31)), .int 3]) (rest := [.int v24, .ref (ad 0 0)]) ⟨hx, hb, hml, hown, hts⟩ (tL_some (l := l) hv25) (va_cwS 2 hts (gqL_changes gQ_L_some) rfl rfl rfl (by decide +kernel) ⟨Nat.le_of_ble_eq_true rfl, Nat.le_of_ble_eq_true rfl⟩) (by rfl) hl.1 rfl (Nat.le_of_ble_eq_true rfl) dL_changes_117 ⟨by show _ ≤ 20; omega, by show _ ≤ 256 * (20); omega⟩ ?_
        obtain ⟨v26, O27, hv26, h⟩ := bdO_some h
        refine call_BVE (As := [.int v24, .int v25]) (rest := []) ⟨hx, hb, hml, hown, hts⟩ (tX2_sleep (l := l) (dC := dC) (dI := dI) (cI := cI) (cB := cB) (cP := cP) (ad := ad) (base := base) (R := R) hv26 hCF) (cwV 2 hts (gqL_changes gQ_X2_sleep) rfl rfl rfl (by decide +kernel) ⟨Nat.le_of_ble_eq_true rfl, Nat.le_of_ble_eq_true rfl⟩) hK hP hD hS (Nat.le_trans hbs hS.1) (fun U hU hW => Env_step rfl rfl hE hS hU hW) 0 rfl rfl (by rfl) hl.1 rfl (Nat.le_of_ble_eq_true rfl) dL_changes_120 ⟨by show _ ≤ 20; omega, by show _ ≤ 256 * (20); omega⟩ (fun H locs ws9 hW9 hP hD _ hS => ?_)
        obtain ⟨Z, rfl, hCF⟩ := hW9
        refine lv_if_lt (tgt := 130) hx hb dL_changes_123 (by decide) (fun c28 => ?_) (fun c28 => ?_)
        · replace h := if_p c28 h
          refine lv_iconst (v := 0) hx hb dL_changes_130 (by decide) ?_
          exact t_131  h (lv_sub hl [] rfl) hP hD hS hCF (by omega)
        · replace h := if_n c28 h
          refine lv_iconst (v := 1) hx hb dL_changes_126 (by decide) ?_
          refine lv_goto (tgt := 131) hx hb dL_changes_127 (by decide) ?_
          exact t_131  h (lv_sub hl [] rfl) hP hD hS hCF (by omega)
      · replace h := if_n c23 h
        by_cases c29 : v10 = 3
        · replace h := if_p c29 h
          refine lv_tableIn (tgt := 132) hx hb dL_changes_6 (by rw [c29]; decide) (by rw [c29]; decide) (by rw [c29]; rfl) (by decide) ?_
          refine lv_aload_n hx hb dL_changes_132 rfl (lv_at hl 0 rfl) ?_
          refine lv_iload_n hx hb dL_changes_133 rfl (lv_at hl 1 rfl) ?_
          refine lv_iconst (v := 4) hx hb dL_changes_134 (by decide) ?_
          refine lv_ishr hx hb dL_changes_135 ?_
          refine lv_bipush (v := 33) hx hb dL_changes_136 (by decide) ?_
          obtain ⟨v30, hv30, h⟩ := bdP_some h
          refine call_SP (As := [.int (p1 >>> (4 &&& 31)), .int 33]) (rest := [.ref (ad 0 0)]) ⟨hx, hb, hml, hown, hts⟩ (tL_some (l := l) hv30) (va_cwS 2 hts (gqL_changes gQ_L_some) rfl rfl rfl (by decide +kernel) ⟨Nat.le_of_ble_eq_true rfl, Nat.le_of_ble_eq_true rfl⟩) (by rfl) hl.1 rfl (Nat.le_of_ble_eq_true rfl) dL_changes_138 ⟨by show _ ≤ 20; omega, by show _ ≤ 256 * (20); omega⟩ ?_
          obtain ⟨v31, O32, hv31, h⟩ := bdO_some h
          refine call_BVE (As := [.int v30]) (rest := []) ⟨hx, hb, hml, hown, hts⟩ (tX2_pass (l := l) (dC := dC) (dI := dI) (cI := cI) (cB := cB) (cP := cP) (ad := ad) (base := base) (R := R) hv31 hCF) (cwV 1 hts (gqL_changes gQ_X2_pass) rfl rfl rfl (by decide +kernel) ⟨Nat.le_of_ble_eq_true rfl, Nat.le_of_ble_eq_true rfl⟩) hK hP hD hS (Nat.le_trans hbs hS.1) (fun U hU hW => Env_step rfl rfl hE hS hU hW) 0 rfl rfl (by rfl) hl.1 rfl (Nat.le_of_ble_eq_true rfl) dL_changes_141 ⟨by show _ ≤ 20; omega, by show _ ≤ 256 * (20); omega⟩ (fun H locs ws9 hW9 hP hD _ hS => ?_)
          obtain ⟨Z, rfl, hCF⟩ := hW9
          refine lv_if_lt (tgt := 151) hx hb dL_changes_144 (by decide) (fun c33 => ?_) (fun c33 => ?_)
          · replace h := if_p c33 h
            refine lv_iconst (v := 0) hx hb dL_changes_151 (by decide) ?_
            exact t_152  h (lv_sub hl [] rfl) hP hD hS hCF (by omega)
          · replace h := if_n c33 h
            refine lv_iconst (v := 1) hx hb dL_changes_147 (by decide) ?_
            refine lv_goto (tgt := 152) hx hb dL_changes_148 (by decide) ?_
            exact t_152  h (lv_sub hl [] rfl) hP hD hS hCF (by omega)
        · replace h := if_n c29 h
          by_cases c34 : v10 = 4
          · replace h := if_p c34 h
            refine lv_tableIn (tgt := 153) hx hb dL_changes_6 (by rw [c34]; decide) (by rw [c34]; decide) (by rw [c34]; rfl) (by decide) ?_
            exact t_153  h (lv_sub hl [0, 1] rfl) hP hD hS hCF (by omega)
          · replace h := if_n c34 h
            by_cases c35 : v10 = 5
            · replace h := if_p c35 h
              refine lv_tableIn (tgt := 153) hx hb dL_changes_6 (by rw [c35]; decide) (by rw [c35]; decide) (by rw [c35]; rfl) (by decide) ?_
              exact t_153  h (lv_sub hl [0, 1] rfl) hP hD hS hCF (by omega)
            · replace h := if_n c35 h
              -- default
              have qc11 := i32_ne c11; rw [show (0 : Int32).toInt = 0 from by decide] at qc11
              have qc16 := i32_ne c16; rw [show (1 : Int32).toInt = 1 from by decide] at qc16
              have qc23 := i32_ne c23; rw [show (2 : Int32).toInt = 2 from by decide] at qc23
              have qc29 := i32_ne c29; rw [show (3 : Int32).toInt = 3 from by decide] at qc29
              have qc34 := i32_ne c34; rw [show (4 : Int32).toInt = 4 from by decide] at qc34
              have qc35 := i32_ne c35; rw [show (5 : Int32).toInt = 5 from by decide] at qc35
              refine lv_tableOut (tgt := 230) hx hb dL_changes_6 (by omega) (by decide) ?_
              refine lv_aload_n hx hb dL_changes_230 rfl (lv_at hl 0 rfl) ?_
              refine lv_iload_n hx hb dL_changes_231 rfl (lv_at hl 1 rfl) ?_
              refine lv_iconst (v := 4) hx hb dL_changes_232 (by decide) ?_
              refine lv_ishr hx hb dL_changes_233 ?_
              obtain ⟨v36, O37, hv36, h⟩ := bdO_some h
              refine call_LSE (As := [.ref (ad 0 0), .int (p1 >>> (4 &&& 31))]) (rest := []) ⟨hx, hb, hml, hown, hts⟩ (tL_happens (l := l) (dC := dC) (dI := dI) (cI := cI) (cB := cB) (cP := cP) (ad := ad) (base := base) (b := b) (L := L) (xs := xs) (adK := adK) (adV := adV) (R := R) hv36 hCF) (va_cwS 2 hts (gqL_changes gQ_L_happens) rfl rfl rfl (by decide +kernel) ⟨Nat.le_of_ble_eq_true rfl, Nat.le_of_ble_eq_true rfl⟩) hK hP hD hS (Nat.le_trans hbs hS.1) (fun U hU hW => EnvL_step hEL hS hU hW) (by rfl) hl.1 rfl (Nat.le_of_ble_eq_true rfl) dL_changes_234 ⟨by show _ ≤ 20; omega, by show _ ≤ 256 * (20); omega⟩ (fun H locs ws9 hW9 hP hD _ hS => ?_)
              obtain ⟨Z, rfl, hCF⟩ := hW9
              refine lv_if_lt (tgt := 244) hx hb dL_changes_237 (by decide) (fun c38 => ?_) (fun c38 => ?_)
              · replace h := if_p c38 h
                refine lv_iconst (v := 0) hx hb dL_changes_244 (by decide) ?_
                exact t_245  h (lv_sub hl [] rfl) hP hD hS hCF (by omega)
              · replace h := if_n c38 h
                refine lv_iconst (v := 1) hx hb dL_changes_240 (by decide) ?_
                refine lv_goto (tgt := 245) hx hb dL_changes_241 (by decide) ?_
                exact t_245  h (lv_sub hl [] rfl) hP hD hS hCF (by omega)
