/-! ===== the outer class: writes, calls, parts of its world ===== -/
theorem K_tys {D : va_G} {cl : List vw_C} {t1 t2 : List (ClassId × FieldType)} {U : State} (h : ∀ x ∈ t2, x ∈ t1) (hK : va_K D cl t1 U) : va_K D cl t2 U := by
  refine ⟨hK.1, fun k q hk => ?_⟩
  obtain ⟨i, hi⟩ := List.getElem?_of_mem (h q (List.mem_of_getElem? hk))
  exact hK.2 i q hi
theorem MQ_le {below : List Frame} {Qc : Array Value → State → Outcome → State → Prop} {a : Array Value} {s : State} {c n c2 n2 : Nat} {free : Addr → Prop} (h1 : c ≤ c2) (h2 : n ≤ n2) {t : State} (h : MQ below Qc a s c n free t) : MQ below Qc a s c2 n2 free t := by
  obtain ⟨o, q1, q2, q3, L, ⟨r1, r2, r3, r4, r5, r6, r7, r8⟩, q5⟩ := h
  exact ⟨o, q1, q2, q3, L, ⟨r1, r2, r3, r4, Nat.le_trans r5 (Nat.add_le_add_left h1 _), r6, Nat.le_trans r7 h2, r8⟩, q5⟩
theorem W_le {p : Program} {l : Launch} {e : Env} {R : Room} {s : State} {m : MethodId} {args : Array Value} {below : List Frame} {meth : Method} {c : Code} {H : Heap} {locs : List Loc} {cells slots c2 n2 : Nat} {Qc : Array Value → State → Outcome → State → Prop} {free : Addr → Prop} {g : JFrame} (h1 : cells ≤ c2) (h2 : slots ≤ n2) (h : W p l e R s m args below meth c H locs cells slots (MQ below Qc args s cells slots free) g) : W p l e R s m args below meth c H locs cells slots (MQ below Qc args s c2 n2 free) g := by
  intro T hT X
  obtain ⟨t, a, b⟩ := h T hT X
  exact ⟨t, a, MQ_le h1 h2 b⟩
def inO {α β : Type} (x : α) (k : α → Option β) : Option β := k x
theorem inO_some {α β : Type} {x : α} {k : α → Option β} {r : β} (h : inO x k = some r) : ∃ y, y = x ∧ k y = some r := ⟨_, rfl, h⟩
def rdP {β : Type} (i : Int32) (k : Nat → Option β) : Option β := if i < 0 ∨ 8 ≤ i.toNatClampNeg then none else k i.toNatClampNeg
theorem rdP_some {β : Type} {i : Int32} {k : Nat → Option β} {x : β} (h : rdP i k = some x) : ∃ n, n = i.toNatClampNeg ∧ n < 8 ∧ vp_in i 8 ∧ k n = some x := by
  unfold rdP at h
  by_cases hc : i < 0 ∨ 8 ≤ i.toNatClampNeg
  · rw [if_pos hc] at h; cases h
  · rw [if_neg hc] at h
    exact ⟨_, rfl, by omega, hc, h⟩
def bdO {β : Type} (q : Option (Int32 × OT)) (k : Int32 → OT → Option β) : Option β := match q with
  | none => none
  | some (r, K1) => k r K1
theorem bdO_some {β : Type} {q : Option (Int32 × OT)} {k : Int32 → OT → Option β} {x : β} (h : bdO q k = some x) : ∃ r K1, q = some (r, K1) ∧ k r K1 = some x := by
  cases q with
  | none => cases h
  | some w => exact ⟨w.1, w.2, rfl, h⟩
def bdS {β : Type} (q : Option KT) (k : KT → Option β) : Option β := match q with
  | none => none
  | some K1 => k K1
theorem bdS_some {β : Type} {q : Option KT} {k : KT → Option β} {x : β} (h : bdS q k = some x) : ∃ K1, q = some K1 ∧ k K1 = some x := by
  cases q with
  | none => cases h
  | some w => exact ⟨w, rfl, h⟩
def OF (Z : Nat → Nat) (O : OT) : Prop := CF (Z 1) (O 13) ∧ CF (Z 3) (O 14)
theorem OF_set {Z : Nat → Nat} {O : OT} {j : Nat} {K : KT} (h : OF Z O) (hj : j < 13) : OF Z (oset O j K) := by
  unfold OF
  rw [oset_ne (show (13 : Nat) ≠ j by omega), oset_ne (show (14 : Nat) ≠ j by omega)]
  exact h
theorem OF_cmd {Z : Nat → Nat} {O : OT} {K : KT} (h : OF Z O) (hK : CF (Z 1) K) : OF Z (oset O 13 K) := by
  unfold OF
  rw [oset_eq, oset_ne (show (14 : Nat) ≠ 13 by decide)]
  exact ⟨hK, h.2⟩
theorem cavs_ne {cI : ClassId} {ad : Nat → Nat → Nat} {O : OT} {j : Nat} {K : KT} (hj : 12 ≤ j) : cavs cI ad (oset O j K) = cavs cI ad O := fm_congr fun x hx => by
  simp only [List.mem_cons, List.not_mem_nil, or_false] at hx
  unfold cvJ
  rw [oset_ne (i := x) (j := j) (by omega)]
theorem out_scal {cI cB cP : ClassId} {ad : Nat → Nat → Nat} {Z : Nat → Nat} {O : OT} {R : va_W} {K : KT} : outW cI cB cP ad Z (oset O 12 K) ++ R = (ad 0 0, .inr (3, [.ref (ad 1 0), .ref (ad 2 0), .ref (ad 3 0), .ref (ad 4 0), .int (K 0 0), .ref (ad 0 1), .int (K 0 1), .int (K 0 2), .ref (ad 0 2), .ref (ad 0 4), .int (K 0 3), .int (K 0 4), .int (K 0 5), .int (K 0 6)])) :: (outT cI cB cP ad Z O ++ R) := by
  have n13 : oset O 12 K 13 = O 13 := oset_ne (by decide)
  have n14 : oset O 12 K 14 = O 14 := oset_ne (by decide)
  unfold outW outT
  rw [cavs_ne (by decide), n13, n14, oset_eq]
  rfl
def o_rest (cI : ClassId) (ad : Nat → Nat → Nat) (O : OT) : va_W := [1, 2, 3, 4, 5, 6, 7, 8, 9, 10, 11].flatMap (cvJ cI ad O)
theorem out_now {cI cB cP : ClassId} {ad : Nat → Nat → Nat} {Z : Nat → Nat} {O : OT} {R : va_W} {K : KT} : outW cI cB cP ad Z (oset O 0 K) ++ R = (ad 0 0, .inr (3, [.ref (ad 1 0), .ref (ad 2 0), .ref (ad 3 0), .ref (ad 4 0), .int ((O 12) 0 0), .ref (ad 0 1), .int ((O 12) 0 1), .int ((O 12) 0 2), .ref (ad 0 2), .ref (ad 0 4), .int ((O 12) 0 3), .int ((O 12) 0 4), .int ((O 12) 0 5), .int ((O 12) 0 6)])) :: (ad 0 1, .inl (cP, 8, .inr (.inr (.inr (.inr (fun i => some (ad (5 + i) 0))))))) :: (cmW cB (ad 0 2) (ad 0 3) (Z 0) (Z 1) (O 13) ++ (sbW cB (ad 0 4) (Z 2) (Z 3) (O 14) ++ (cvW cI (ad (1 + 0) 0) (fun f => ad (1 + 0) (1 + f)) K ++ (o_rest cI ad O ++ R)))) := by
  have n12 : oset O 0 K 12 = O 12 := oset_ne (by decide)
  have n13 : oset O 0 K 13 = O 13 := oset_ne (by decide)
  have n14 : oset O 0 K 14 = O 14 := oset_ne (by decide)
  have hr : [1, 2, 3, 4, 5, 6, 7, 8, 9, 10, 11].flatMap (cvJ cI ad (oset O 0 K)) = o_rest cI ad O := fm_congr fun x hx => by
    simp only [List.mem_cons, List.not_mem_nil, or_false] at hx
    unfold cvJ
    rw [oset_ne (i := x) (j := 0) (by omega)]
  have h0 : cvJ cI ad (oset O 0 K) 0 = cvW cI (ad (1 + 0) 0) (fun f => ad (1 + 0) (1 + f)) K := by
    unfold cvJ
    rw [oset_eq]
  unfold outW outT cavs
  rw [List.flatMap_cons, hr, h0, n12, n13, n14]
  simp only [List.cons_append, List.append_assoc]
/-- the line's builder alone -/
def o_xL (cI cB cP : ClassId) (ad : Nat → Nat → Nat) (Z : Nat → Nat) (O : OT) (R : va_W) : va_W := (ad 0 0, .inr (3, [.ref (ad 1 0), .ref (ad 2 0), .ref (ad 3 0), .ref (ad 4 0), .int ((O 12) 0 0), .ref (ad 0 1), .int ((O 12) 0 1), .int ((O 12) 0 2), .ref (ad 0 2), .ref (ad 0 4), .int ((O 12) 0 3), .int ((O 12) 0 4), .int ((O 12) 0 5), .int ((O 12) 0 6)])) :: (ad 0 1, .inl (cP, 8, .inr (.inr (.inr (.inr (fun i => some (ad (5 + i) 0))))))) :: (cmW cB (ad 0 2) (ad 0 3) (Z 0) (Z 1) (O 13) ++ (cavs cI ad O ++ R))
theorem o_pL (cI cB cP : ClassId) (ad : Nat → Nat → Nat) (Z : Nat → Nat) (O : OT) (R : va_W) : (outW cI cB cP ad Z O ++ R).Perm (sbW cB (ad 0 4) (Z 2) (Z 3) (O 14) ++ o_xL cI cB cP ad Z O R) := by
  have e : outW cI cB cP ad Z O ++ R = ((ad 0 0, .inr (3, [.ref (ad 1 0), .ref (ad 2 0), .ref (ad 3 0), .ref (ad 4 0), .int ((O 12) 0 0), .ref (ad 0 1), .int ((O 12) 0 1), .int ((O 12) 0 2), .ref (ad 0 2), .ref (ad 0 4), .int ((O 12) 0 3), .int ((O 12) 0 4), .int ((O 12) 0 5), .int ((O 12) 0 6)])) :: (ad 0 1, .inl (cP, 8, .inr (.inr (.inr (.inr (fun i => some (ad (5 + i) 0))))))) :: cmW cB (ad 0 2) (ad 0 3) (Z 0) (Z 1) (O 13)) ++ (sbW cB (ad 0 4) (Z 2) (Z 3) (O 14) ++ (cavs cI ad O ++ R)) := by
    unfold outW outT
    simp only [List.cons_append, List.append_assoc]
  rw [e]
  refine (w_pull _ _ _).trans (List.Perm.of_eq ?_)
  unfold o_xL
  simp only [List.cons_append, List.append_assoc]
/-- the commands alone -/
def o_xC (cI cB cP : ClassId) (ad : Nat → Nat → Nat) (Z : Nat → Nat) (O : OT) (R : va_W) : va_W := (ad 0 0, .inr (3, [.ref (ad 1 0), .ref (ad 2 0), .ref (ad 3 0), .ref (ad 4 0), .int ((O 12) 0 0), .ref (ad 0 1), .int ((O 12) 0 1), .int ((O 12) 0 2), .ref (ad 0 2), .ref (ad 0 4), .int ((O 12) 0 3), .int ((O 12) 0 4), .int ((O 12) 0 5), .int ((O 12) 0 6)])) :: (ad 0 1, .inl (cP, 8, .inr (.inr (.inr (.inr (fun i => some (ad (5 + i) 0))))))) :: (sbW cB (ad 0 4) (Z 2) (Z 3) (O 14) ++ (cavs cI ad O ++ R))
theorem o_pC (cI cB cP : ClassId) (ad : Nat → Nat → Nat) (Z : Nat → Nat) (O : OT) (R : va_W) : (outW cI cB cP ad Z O ++ R).Perm (cmW cB (ad 0 2) (ad 0 3) (Z 0) (Z 1) (O 13) ++ o_xC cI cB cP ad Z O R) := by
  have e : outW cI cB cP ad Z O ++ R = [(ad 0 0, .inr (3, [.ref (ad 1 0), .ref (ad 2 0), .ref (ad 3 0), .ref (ad 4 0), .int ((O 12) 0 0), .ref (ad 0 1), .int ((O 12) 0 1), .int ((O 12) 0 2), .ref (ad 0 2), .ref (ad 0 4), .int ((O 12) 0 3), .int ((O 12) 0 4), .int ((O 12) 0 5), .int ((O 12) 0 6)])), (ad 0 1, .inl (cP, 8, .inr (.inr (.inr (.inr (fun i => some (ad (5 + i) 0)))))))] ++ (cmW cB (ad 0 2) (ad 0 3) (Z 0) (Z 1) (O 13) ++ (sbW cB (ad 0 4) (Z 2) (Z 3) (O 14) ++ (cavs cI ad O ++ R))) := by
    unfold outW outT
    simp only [List.cons_append, List.append_assoc, List.nil_append]
  rw [e]
  refine (w_pull _ _ _).trans (List.Perm.of_eq ?_)
  unfold o_xC
  simp only [List.cons_append, List.append_assoc, List.nil_append]
theorem o_bC (cI cB cP : ClassId) (ad : Nat → Nat → Nat) (Z : Nat → Nat) (O : OT) (R : va_W) (K : KT) : (cmW cB (ad 0 2) (ad 0 3) (Z 0) (Z 1) K ++ o_xC cI cB cP ad Z O R).Perm (outW cI cB cP ad Z (oset O 13 K) ++ R) := by
  have h := (o_pC cI cB cP ad Z (oset O 13 K) R).symm
  have e : o_xC cI cB cP ad Z (oset O 13 K) R = o_xC cI cB cP ad Z O R := by
    unfold o_xC
    rw [cavs_ne (by decide), oset_ne (show (12 : Nat) ≠ 13 by decide), oset_ne (show (14 : Nat) ≠ 13 by decide)]
  rw [e, oset_eq] at h
  exact h
/-- the text's builder alone -/
def o_xT (cI cB cP : ClassId) (ad : Nat → Nat → Nat) (Z : Nat → Nat) (O : OT) (R : va_W) : va_W := (ad 0 2, .inr (2, [.ref (ad 0 3), .int (O 13 1 2), .int (O 13 1 3), .int (O 13 1 4), .int (O 13 1 5), .int (O 13 1 6)])) :: o_xC cI cB cP ad Z O R
theorem o_pT (cI cB cP : ClassId) (ad : Nat → Nat → Nat) (Z : Nat → Nat) (O : OT) (R : va_W) : (outW cI cB cP ad Z O ++ R).Perm (sbW cB (ad 0 3) (Z 0) (Z 1) (O 13) ++ o_xT cI cB cP ad Z O R) := by
  refine (o_pC cI cB cP ad Z O R).trans ?_
  unfold cmW o_xT
  rw [List.cons_append]
  exact List.perm_middle.symm
def z_up (Z : Nat → Nat) (i b m : Nat) : Nat → Nat := fun j => if j = i then b else if j = i + 1 then m else Z j
theorem o_bL {D : va_G} {cl : List vw_C} {base b m : Nat} {H : Heap} {cI cB cP : ClassId} {ad : Nat → Nat → Nat} {Z : Nat → Nat} {O : OT} {R : va_W} {K : KT} (hP : va_P D cl (sbW cB (ad 0 4) b m K ++ o_xL cI cB cP ad Z O R) H) (hD : va_D (aB base) (sbW cB (ad 0 4) b m K ++ o_xL cI cB cP ad Z O R)) (hCF : OF Z O) (hC : CF m K) : ∃ Z2 : Nat → Nat, va_P D cl (outW cI cB cP ad Z2 (oset O 14 K) ++ R) H ∧ va_D (aB base) (outW cI cB cP ad Z2 (oset O 14 K) ++ R) ∧ OF Z2 (oset O 14 K) := by
  have h := (o_pL cI cB cP ad (z_up Z 2 b m) (oset O 14 K) R).symm
  have e : o_xL cI cB cP ad (z_up Z 2 b m) (oset O 14 K) R = o_xL cI cB cP ad Z O R := by
    unfold o_xL
    rw [cavs_ne (by decide), oset_ne (show (12 : Nat) ≠ 14 by decide), oset_ne (show (13 : Nat) ≠ 14 by decide)]
    rfl
  rw [e, oset_eq] at h
  refine ⟨z_up Z 2 b m, P_perm h hP, D_perm h hD, ?_⟩
  unfold OF
  rw [oset_eq, oset_ne (show (13 : Nat) ≠ 14 by decide)]
  exact ⟨hCF.1, hC⟩
theorem o_bT {D : va_G} {cl : List vw_C} {base b m : Nat} {H : Heap} {cI cB cP : ClassId} {ad : Nat → Nat → Nat} {Z : Nat → Nat} {O : OT} {R : va_W} {K : KT} (hP : va_P D cl (sbW cB (ad 0 3) b m K ++ o_xT cI cB cP ad Z O R) H) (hD : va_D (aB base) (sbW cB (ad 0 3) b m K ++ o_xT cI cB cP ad Z O R)) (hCF : OF Z O) (hC : CF m K) (hk : ∀ i, 2 ≤ i → K 1 i = O 13 1 i) : ∃ Z2 : Nat → Nat, va_P D cl (outW cI cB cP ad Z2 (oset O 13 K) ++ R) H ∧ va_D (aB base) (outW cI cB cP ad Z2 (oset O 13 K) ++ R) ∧ OF Z2 (oset O 13 K) := by
  have h := (o_pT cI cB cP ad (z_up Z 0 b m) (oset O 13 K) R).symm
  have e : o_xT cI cB cP ad (z_up Z 0 b m) (oset O 13 K) R = o_xT cI cB cP ad Z O R := by
    unfold o_xT o_xC
    rw [cavs_ne (by decide), oset_eq, oset_ne (show (12 : Nat) ≠ 13 by decide), oset_ne (show (14 : Nat) ≠ 13 by decide), hk 2 (by decide), hk 3 (by decide), hk 4 (by decide), hk 5 (by decide), hk 6 (by decide)]
    rfl
  rw [e, oset_eq] at h
  refine ⟨z_up Z 0 b m, P_perm h hP, D_perm h hD, ?_⟩
  unfold OF
  rw [oset_eq, oset_ne (show (14 : Nat) ≠ 13 by decide)]
  exact ⟨hC, hCF.2⟩
theorem retO {D : va_G} {cl : List vw_C} {base : Nat} {cI cB cP : ClassId} {ad : Nat → Nat → Nat} {Z : Nat → Nat} {R : va_W} {e r : Int32} {O1 O2 : OT} {st t : State} {H : Heap} {locs : List Loc} {a : Array Value} (h : some (e, O1) = some (r, O2)) (hCF : OF Z O1) (hP : va_P D cl (outW cI cB cP ad Z O1 ++ R) H) (hD : va_D (aB base) (outW cI cB cP ad Z O1 ++ R)) (hS : va_S (aB base) st.heap H locs) (ht : t.heap = H) : cBe D cl base (some (.int r)) (fun ws => ∃ Z : Nat → Nat, ws = (outW cI cB cP ad Z O2 ++ R) ∧ OF Z O2) a st (.returned (some (.int e))) t := by
  cases h
  exact retB rfl ⟨Z, rfl, hCF⟩ hP hD hS ht
theorem retOv {D : va_G} {cl : List vw_C} {base : Nat} {cI cB cP : ClassId} {ad : Nat → Nat → Nat} {Z : Nat → Nat} {R : va_W} {e r : Int32} {O1 O2 : OT} {st t : State} {H : Heap} {locs : List Loc} {a : Array Value} (h : some (e, O1) = some (r, O2)) (hCF : OF Z O1) (hP : va_P D cl (outW cI cB cP ad Z O1 ++ R) H) (hD : va_D (aB base) (outW cI cB cP ad Z O1 ++ R)) (hS : va_S (aB base) st.heap H locs) (ht : t.heap = H) : cBe D cl base none (fun ws => ∃ Z : Nat → Nat, ws = (outW cI cB cP ad Z O2 ++ R) ∧ OF Z O2) a st (.returned none) t := by
  cases h
  exact retB rfl ⟨Z, rfl, hCF⟩ hP hD hS ht
section KO
variable {p : Program} {l : Launch} {e : Env} {R : Room} {s : State} {m : MethodId} {args : Array Value} {below : List Frame} {meth : Method} {c : Code} {H : Heap} {locs : List Loc} {cells slots : Nat} {Q : State → Prop}
variable {pc : Nat} {ls : Array Slot} {rest st0 : List Value} {D : va_G} {cl : List vw_C} {tys : List (ClassId × FieldType)}
theorem k_past {cc : ByteArray} {cI cB cP : ClassId} {ad : Nat → Nat → Nat} {Z : Nat → Nat} {O : OT} {Rr : va_W} (hexec : p.tables.exec = Jvm.exec) (hb : c.code = cc) (hK : va_K D cl tys s) (hP : va_P D cl (outW cI cB cP ad Z O ++ Rr) H) (t0 : Nat) {C : String} (ht : tys[t0]? = some (cP, .object C)) {i : Int32} {n : Nat} (hn : n = i.toNatClampNeg) (hin : vp_in i 8) (hdg : decode cc pc = .ok (.aaload, 1))
    (kk : W p l e R s m args below meth c H locs cells slots Q (F0 m (pc + 1) ls (.ref (ad (1 + (4 + n)) 0) :: rest))) : W p l e R s m args below meth c H locs cells slots Q (F0 m pc ls (.int i :: .ref (ad 0 1) :: rest)) := by
  subst hn
  refine va_aldq hexec hb hK hP 1 t0 (f := fun i => some (ad (5 + i) 0)) rfl ht hin hdg ?_
  show W p l e R s m args below meth c H locs cells slots Q (F0 m (pc + 1) ls (.ref (ad (5 + i.toNatClampNeg) 0) :: rest))
  rw [show 5 + i.toNatClampNeg = 1 + (4 + i.toNatClampNeg) from by omega]
  exact kk
variable {y : MethodName} {bytes cc : ByteArray} {maxL nL n index : Nat} {ret : Option FieldType} {ws : List Cond} {rm : Room} {Ts : List Cond} {own C : String} {b : Addr} {As : List Value} {wsC : va_W} {r : Int32}
theorem call_VPn (S : CallFix p m c cc nL s args Ts own) (hM : Met l y ws rm (cPn (.methodLinkNest RX0 108 yX2_sumOf "CaravanLogs") D cl tys wsC (.ref b :: As)) (cQp r) 0 0 (fun _ => False)) (cw : CallW R s args own C index y bytes maxL ret ws rm 0 0 n) (hK : va_K D cl tys s) (hP : va_P D cl wsC H) (hN : ∀ U : State, U.heap = H → s.WarmedH U.vm → va_Nw (.methodLinkNest RX0 108 yX2_sumOf "CaravanLogs") U) (q0 : Nat) {ci : Nat} {fs : List Value} {T : u_T} {N : Nat} (hc : cl[ci]? = some (C, T, N)) (he : wsC[q0]? = some (b, .inr (ci, fs)))
    (hn : As.length = n) (hsz : ls.size = nL) (hst : st0 = As.reverse ++ .ref b :: rest) (hW : (rest.map fun v => v.category).sum ≤ 8) (hdg : decode cc pc = .ok (.invokevirtual index, 3)) (hcs : cells ≤ R.cells ∧ slots ≤ R.slots)
    (kk : W p l e R s m args below meth c H locs cells slots Q (F0 m (pc + 3) ls (.int r :: rest))) : W p l e R s m args below meth c H locs cells slots Q (F0 m pc ls st0) :=
  cl_pure (va_runV (As := As) (rest := rest) S hM cw ⟨fun a U g mk q => ⟨cP_blind _ _ _ _ _ a U g mk q.1, va_Nw.same rfl rfl q.2⟩, va_recv hK hP hc he, fun U hU hWm => ⟨⟨rfl, by rw [hU]; exact hP, va_K.moved hWm.alike hK⟩, hN U hU hWm⟩⟩ rfl hn hsz hst (lv_room hW) hdg hcs) kk
end KO
/-! ===== a builder: a sign more, a number more, cut to nothing ===== -/
def apS (K : KT) (v : Int32) : KT := fset (fset K 0 (K 1 0).toNatClampNeg v) 1 0 (K 1 0 + 1)
/-- a sign that fits in a byte; room below 256 -/
def s_apC (K : KT) (v : Int32) : Option KT := if (0 ≤ v ∧ v < 128) ∧ (0 ≤ K 1 0 ∧ K 1 0 < 200) ∧ K 1 1 = 0 then some (apS K v) else none
def s_setL (K : KT) (v : Int32) : Option KT := if v = 0 ∧ K 1 1 = 0 then some (fset K 1 0 0) else none
theorem s_apC_keep {K K1 : KT} {v : Int32} (h : s_apC K v = some K1) : ∀ i, 2 ≤ i → K1 1 i = K 1 i := by
  intro i hi
  unfold s_apC at h
  split at h
  · cases h
    unfold apS
    rw [fset_eq]
    unfold upd
    rw [if_neg (by omega)]
    exact congrFun (fset_ne (by decide)) i
  · cases h
theorem s_setL_keep {K K1 : KT} {v : Int32} (h : s_setL K v = some K1) : ∀ i, 2 ≤ i → K1 1 i = K 1 i := by
  intro i hi
  unfold s_setL at h
  split at h
  · cases h
    rw [fset_eq]
    unfold upd
    rw [if_neg (by omega)]
  · cases h
