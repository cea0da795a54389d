abbrev vwCl : List vw_C := [(RJ4, TJ4, 4), (RX0, TX0, 16), (RX1, TX1, 6), (RX2, TX2, 14), (RJ0, TJ0, 4)]
/-! ===== the walk's own base: mirror functions' steps, contracts of methods without new cells, calls ===== -/
abbrev KT : Type := Nat → Nat → Int32
/-- a table of rows, one place written -/
def fset (K : KT) (f i : Nat) (v : Int32) : KT := fun g => cond (Nat.beq g f) (upd (K f) i v) (K g)
theorem fset_eq (K : KT) (f i : Nat) (v : Int32) : fset K f i v f = upd (K f) i v := by
  unfold fset
  rw [show Nat.beq f f = true from Nat.beq_refl f]
  rfl
theorem fset_ne {K : KT} {f i g : Nat} {v : Int32} (h : g ≠ f) : fset K f i v g = K g := by
  unfold fset
  cases hb : Nat.beq g f with
  | true => exact absurd (Nat.eq_of_beq_eq_true hb) h
  | false => rfl
def rdA {β : Type} (f : Nat → Int32) (n : Nat) (i : Int32) (k : Int32 → Option β) : Option β := if i < 0 ∨ n ≤ i.toNatClampNeg then none else k (f i.toNatClampNeg)
theorem rdA_some {β : Type} {f : Nat → Int32} {n : Nat} {i : Int32} {k : Int32 → Option β} {x : β} (h : rdA f n i k = some x) : vp_in i n ∧ ∃ v, v = f i.toNatClampNeg ∧ k v = some x := by
  unfold rdA at h
  by_cases c : i < 0 ∨ n ≤ i.toNatClampNeg
  · rw [if_pos c] at h; cases h
  · rw [if_neg c] at h; exact ⟨c, _, rfl, h⟩
def wrA {β : Type} (K : KT) (f n : Nat) (i v : Int32) (k : KT → Option β) : Option β := if i < 0 ∨ n ≤ i.toNatClampNeg then none else k (fset K f i.toNatClampNeg v)
theorem wrA_some {β : Type} {K : KT} {f n : Nat} {i v : Int32} {k : KT → Option β} {x : β} (h : wrA K f n i v k = some x) : vp_in i n ∧ ∃ K1, K1 = fset K f i.toNatClampNeg v ∧ k K1 = some x := by
  unfold wrA at h
  by_cases c : i < 0 ∨ n ≤ i.toNatClampNeg
  · rw [if_pos c] at h; cases h
  · rw [if_neg c] at h; exact ⟨c, _, rfl, h⟩
def ptF {β : Type} (K : KT) (f i : Nat) (v : Int32) (k : KT → Option β) : Option β := k (fset K f i v)
theorem ptF_some {β : Type} {K : KT} {f i : Nat} {v : Int32} {k : KT → Option β} {x : β} (h : ptF K f i v k = some x) : ∃ K1, K1 = fset K f i v ∧ k K1 = some x := ⟨_, rfl, h⟩
def bdP {β : Type} (q : Option Int32) (k : Int32 → Option β) : Option β := match q with
  | none => none
  | some r => k r
theorem bdP_some {β : Type} {q : Option Int32} {k : Int32 → Option β} {x : β} (h : bdP q k = some x) : ∃ r, q = some r ∧ k r = some x := by
  cases q with
  | none => cases h
  | some r => exact ⟨r, rfl, h⟩
def bdE {β : Type} (q : Option (Int32 × KT)) (k : Int32 → KT → Option β) : Option β := match q with
  | none => none
  | some (r, K) => k r K
theorem bdE_some {β : Type} {q : Option (Int32 × KT)} {k : Int32 → KT → Option β} {x : β} (h : bdE q k = some x) : ∃ r K1, q = some (r, K1) ∧ k r K1 = some x := by
  cases q with
  | none => cases h
  | some r => exact ⟨r.1, r.2, rfl, h⟩
def gd {β : Type} (c : Prop) [Decidable c] (k : Option β) : Option β := if c then k else none
theorem gd_some {β : Type} {c : Prop} [Decidable c] {k : Option β} {x : β} (h : gd c k = some x) : c ∧ k = some x := by
  unfold gd at h
  by_cases d : c
  · rw [if_pos d] at h; exact ⟨d, h⟩
  · rw [if_neg d] at h; cases h
theorem if_p {β : Type} {c : Prop} [Decidable c] {a b : Option β} {x : β} (hc : c) (h : (if c then a else b) = some x) : a = some x := by rwa [if_pos hc] at h
theorem if_n {β : Type} {c : Prop} [Decidable c] {a b : Option β} {x : β} (hc : ¬ c) (h : (if c then a else b) = some x) : b = some x := by rwa [if_neg hc] at h
theorem zb_ok {v : Int32} (h : v = 0 ∨ v = 1) : narrow .boolean (.int v) = .int v := by
  rcases h with rfl | rfl <;> decide
abbrev chr (x : Int32) : Prop := 0 ≤ x ∧ x ≤ 65535
theorem chr_q {x : Int32} (h : chr x) : ∃ j : Nat, j < 65536 ∧ x = nI j := by
  obtain ⟨j, hj, rfl⟩ := nI_of (x := x) (fun h2 => by
    have h3 := h.1
    rw [Int32.le_iff_toInt_le] at h3; rw [Int32.lt_iff_toInt_lt] at h2; omega)
  refine ⟨j, ?_, rfl⟩
  have h2 : nI j ≤ nI 65535 := h.2
  have := (nI_leI hj (by decide)).mp h2
  omega
theorem chr_n {x : Int32} (h : chr x) : narrow .char (.int x) = .int x := by
  obtain ⟨j, hj, rfl⟩ := chr_q h
  exact (pk_charN hj).1
theorem chr_f {x : Int32} (h : chr x) : fits .char (.int x) = true := by
  obtain ⟨j, hj, rfl⟩ := chr_q h
  exact (pk_charN hj).2
theorem i32_ne {x y : Int32} (h : ¬ x = y) : x.toInt ≠ y.toInt := fun e => h (Int32.toInt_inj.mp e)
/-- a table of rows, one row written -/
def rset (K : KT) (f : Nat) (g : Nat → Int32) : KT := fun j => cond (Nat.beq j f) g (K j)
def i2c (x : Int32) : Int32 := (x.toUInt32 % 65536).toInt32
/-- the cells at these addresses, no others -/
def aL (L : List Nat) : Nat → Prop := fun q => q ∈ L
def cP (D : va_G) (cl : List vw_C) (tys : List (ClassId × FieldType)) (ws : va_W) (av : List Value) : Array Value → State → Prop := fun v U => v = av.toArray ∧ va_P D cl ws U.heap ∧ va_K D cl tys U
def cPe (D : va_G) (cl : List vw_C) (tys : List (ClassId × FieldType)) (L : List Nat) (ws : va_W) (av : List Value) : Array Value → State → Prop := fun v U => v = av.toArray ∧ va_P D cl ws U.heap ∧ va_K D cl tys U ∧ va_D (aL L) ws
/-- with one word about a nest mate's link beside -/
def cPn (w : Cond) (D : va_G) (cl : List vw_C) (tys : List (ClassId × FieldType)) (ws : va_W) (av : List Value) : Array Value → State → Prop := fun v U => cP D cl tys ws av v U ∧ va_Nw w U
def cS (av : List Value) : Array Value → State → Prop := fun v _ => v = av.toArray
def cQp (r : Int32) : Array Value → State → Outcome → State → Prop := fun _ st oc t => oc = .returned (some (.int r)) ∧ t.heap = st.heap
def cE (D : va_G) (cl : List vw_C) (L : List Nat) (r : Int32) (ws : va_W) : Array Value → State → Outcome → State → Prop := fun _ st oc t => oc = .returned (some (.int r)) ∧ va_P D cl ws t.heap ∧ va_D (aL L) ws ∧ va_F (aL L) st t
def cEv (D : va_G) (cl : List vw_C) (L : List Nat) (ws : va_W) : Array Value → State → Outcome → State → Prop := fun _ st oc t => oc = .returned none ∧ va_P D cl ws t.heap ∧ va_D (aL L) ws ∧ va_F (aL L) st t
theorem cP_blind (D : va_G) (cl : List vw_C) (tys : List (ClassId × FieldType)) (ws : va_W) (av : List Value) : FrameBlind (cP D cl tys ws av) := fun a U g mk q => ⟨q.1, q.2.1, va_K.moved (u := U) (U := U.calling g mk a) (Vm.Alike.refl U.vm) q.2.2⟩
theorem cPe_blind (D : va_G) (cl : List vw_C) (tys : List (ClassId × FieldType)) (L : List Nat) (ws : va_W) (av : List Value) : FrameBlind (cPe D cl tys L ws av) := fun a U g mk q => ⟨q.1, q.2.1, va_K.moved (u := U) (U := U.calling g mk a) (Vm.Alike.refl U.vm) q.2.2.1, q.2.2.2⟩
theorem cS_blind (av : List Value) : FrameBlind (cS av) := fun _ _ _ _ q => q
theorem retP {e r : Int32} {st t : State} {a : Array Value} (h : some e = some r) (ht : t.heap = st.heap) : cQp r a st (.returned (some (.int e))) t := ⟨by rw [Option.some.inj h], ht⟩
theorem retE {D : va_G} {cl : List vw_C} {L : List Nat} {w : KT → va_W} {e r : Int32} {K1 K2 : KT} {st t : State} {H : Heap} {locs : List Loc} {a : Array Value} (h : some (e, K1) = some (r, K2)) (hP : va_P D cl (w K1) H) (hD : va_D (aL L) (w K1)) (hS : va_S (aL L) st.heap H locs) (ht : t.heap = H) : cE D cl L r (w K2) a st (.returned (some (.int e))) t := by
  cases h
  exact ⟨rfl, by rw [ht]; exact hP, hD, hS.F ht⟩
theorem retEv {D : va_G} {cl : List vw_C} {L : List Nat} {w : KT → va_W} {e r : Int32} {K1 K2 : KT} {st t : State} {H : Heap} {locs : List Loc} {a : Array Value} (h : some (e, K1) = some (r, K2)) (hP : va_P D cl (w K1) H) (hD : va_D (aL L) (w K1)) (hS : va_S (aL L) st.heap H locs) (ht : t.heap = H) : cEv D cl L (w K2) a st (.returned none) t := by
  cases h
  exact ⟨rfl, by rw [ht]; exact hP, hD, hS.F ht⟩
section KP
variable {p : Program} {l : Launch} {e : Env} {R : Room} {s : State} {m : MethodId} {args : Array Value} {below : List Frame} {meth : Method} {c : Code} {H : Heap} {locs : List Loc} {cells slots : Nat} {Q : State → Prop}
variable {pc : Nat} {ls : Array Slot} {rest st0 : List Value} {a : Array Value} {A0 : Nat → Prop} {H0 : Heap}
theorem cl_pure {r : Int32} (hr : va_Run p l e R s m args below meth c H locs cells slots 0 0 (F0 m pc ls st0) rest (cQp r a) (fun _ => False)) (kk : W p l e R s m args below meth c H locs cells slots Q (F0 m (pc + 3) ls (.int r :: rest))) : W p l e R s m args below meth c H locs cells slots Q (F0 m pc ls st0) := by
  intro T hT X
  obtain ⟨v, st₀, t, T', L, h0, X', hL, e1, e2, ⟨hv, ht⟩, st⟩ := hr T hT X
  cases hv
  have hL0 : L = [] := List.eq_nil_iff_forall_not_mem.mpr (fun q hq => hL q hq)
  subst hL0
  rw [List.append_nil] at X'
  obtain ⟨t2, a1, b1⟩ := kk T' (by rw [e1, ht, h0]) X'
  exact ⟨t2, st t2 a1, b1⟩
theorem cl_eff {D : va_G} {cl : List vw_C} {L : List Nat} {ws : va_W} {r : Int32} (hr : va_Run p l e R s m args below meth c H locs cells slots 0 0 (F0 m pc ls st0) rest (cE D cl L r ws a) (aL L)) (hS : va_S A0 H0 H locs) (hA : ∀ q, aL L q → A0 q)
    (kk : ∀ (H1 : Heap) (locs1 : List Loc), va_P D cl ws H1 → va_D (aL L) ws → H.size ≤ H1.size ∧ (∀ q : Nat, q < H.size → ¬ aL L q → H1[q]? = H[q]?) → va_S A0 H0 H1 locs1 → W p l e R s m args below meth c H1 locs1 cells slots Q (F0 m (pc + 3) ls (.int r :: rest))) : W p l e R s m args below meth c H locs cells slots Q (F0 m pc ls st0) := by
  intro T hT X
  obtain ⟨v, st₀, t, T', L1, h0, X', hL, e1, e2, ⟨hv, hp, hd, hz, hk⟩, st⟩ := hr T hT X
  cases hv
  rw [h0] at hz hk
  obtain ⟨t2, a1, b1⟩ := kk T'.heap (locs ++ L1) (by rw [e1]; exact hp) hd ⟨by rw [e1]; exact hz, fun q h1 h2 => by rw [e1]; exact hk q h1 h2⟩
    ⟨Nat.le_trans hS.1 (by rw [e1]; exact hz), fun q h1 h2 => by rw [e1, hk q (Nat.lt_of_lt_of_le h1 hS.1) (fun z => h2 (hA q z))]; exact hS.2.1 q h1 h2, fun q hq => by
      rcases List.mem_append.mp hq with h | h
      · exact hS.2.2 q h
      · exact hA _ (hL q h)⟩ T' rfl X'
  exact ⟨t2, st t2 a1, b1⟩
theorem cl_effv {D : va_G} {cl : List vw_C} {L : List Nat} {ws : va_W} (hr : va_Run p l e R s m args below meth c H locs cells slots 0 0 (F0 m pc ls st0) rest (cEv D cl L ws a) (aL L)) (hS : va_S A0 H0 H locs) (hA : ∀ q, aL L q → A0 q)
    (kk : ∀ (H1 : Heap) (locs1 : List Loc), va_P D cl ws H1 → va_D (aL L) ws → H.size ≤ H1.size ∧ (∀ q : Nat, q < H.size → ¬ aL L q → H1[q]? = H[q]?) → va_S A0 H0 H1 locs1 → W p l e R s m args below meth c H1 locs1 cells slots Q (F0 m (pc + 3) ls rest)) : W p l e R s m args below meth c H locs cells slots Q (F0 m pc ls st0) := by
  intro T hT X
  obtain ⟨v, st₀, t, T', L1, h0, X', hL, e1, e2, ⟨hv, hp, hd, hz, hk⟩, st⟩ := hr T hT X
  cases hv
  rw [h0] at hz hk
  obtain ⟨t2, a1, b1⟩ := kk T'.heap (locs ++ L1) (by rw [e1]; exact hp) hd ⟨by rw [e1]; exact hz, fun q h1 h2 => by rw [e1]; exact hk q h1 h2⟩
    ⟨Nat.le_trans hS.1 (by rw [e1]; exact hz), fun q h1 h2 => by rw [e1, hk q (Nat.lt_of_lt_of_le h1 hS.1) (fun z => h2 (hA q z))]; exact hS.2.1 q h1 h2, fun q hq => by
      rcases List.mem_append.mp hq with h | h
      · exact hS.2.2 q h
      · exact hA _ (hL q h)⟩ T' rfl X'
  exact ⟨t2, st t2 a1, b1⟩
variable {y : MethodName} {bytes cc : ByteArray} {maxL nL n index : Nat} {ret : Option FieldType} {ws : List Cond} {rm : Room} {Ts : List Cond} {own C : String} {b : Addr} {As : List Value} {D : va_G} {cl : List vw_C} {tys : List (ClassId × FieldType)} {wsC : va_W} {r : Int32} {L : List Nat} {ws1 : va_W}
/-- a call of a method that changes nothing -/
theorem call_VP (S : CallFix p m c cc nL s args Ts own) (hM : Met l y ws rm (cP D cl tys wsC (.ref b :: As)) (cQp r) 0 0 (fun _ => False)) (cw : CallW R s args own C index y bytes maxL ret ws rm 0 0 n) (hK : va_K D cl tys s) (hP : va_P D cl wsC H) (q0 : Nat) {ci : Nat} {fs : List Value} {T : u_T} {N : Nat} (hc : cl[ci]? = some (C, T, N)) (he : wsC[q0]? = some (b, .inr (ci, fs)))
    (hn : As.length = n) (hsz : ls.size = nL) (hst : st0 = As.reverse ++ .ref b :: rest) (hW : (rest.map fun v => v.category).sum ≤ 8) (hdg : decode cc pc = .ok (.invokevirtual index, 3)) (hcs : cells ≤ R.cells ∧ slots ≤ R.slots)
    (kk : W p l e R s m args below meth c H locs cells slots Q (F0 m (pc + 3) ls (.int r :: rest))) : W p l e R s m args below meth c H locs cells slots Q (F0 m pc ls st0) :=
  cl_pure (va_runV (As := As) (rest := rest) S hM cw ⟨cP_blind _ _ _ _ _, va_recv hK hP hc he, fun U hU hWm => ⟨rfl, by rw [hU]; exact hP, va_K.moved hWm.alike hK⟩⟩ rfl hn hsz hst (lv_room hW) hdg hcs) kk
theorem call_SP (S : CallFix p m c cc nL s args Ts own) (hM : Met l y ws rm (cS As) (cQp r) 0 0 (fun _ => False)) (cw : CallB R s args own index y bytes maxL ret ws rm 0 0 n ∧ (Cond.static y).before args s = true)
    (hn : As.length = n) (hsz : ls.size = nL) (hst : st0 = As.reverse ++ rest) (hW : (rest.map fun v => v.category).sum ≤ 8) (hdg : decode cc pc = .ok (.invokestatic index, 3)) (hcs : cells ≤ R.cells ∧ slots ≤ R.slots)
    (kk : W p l e R s m args below meth c H locs cells slots Q (F0 m (pc + 3) ls (.int r :: rest))) : W p l e R s m args below meth c H locs cells slots Q (F0 m pc ls st0) :=
  cl_pure (va_runS (As := As) (rest := rest) S hM cw ⟨cS_blind _, fun U hU hWm => rfl⟩ rfl hn hsz hst (lv_room hW) hdg hcs) kk
theorem call_VE (S : CallFix p m c cc nL s args Ts own) (hM : Met l y ws rm (cPe D cl tys L wsC (.ref b :: As)) (cE D cl L r ws1) 0 0 (aL L)) (cw : CallW R s args own C index y bytes maxL ret ws rm 0 0 n) (hK : va_K D cl tys s) (hP : va_P D cl wsC H) (hD : va_D (aL L) wsC) (hS : va_S A0 H0 H locs) (hA : ∀ q, aL L q → A0 q) (q0 : Nat) {ci : Nat} {fs : List Value} {T : u_T} {N : Nat} (hc : cl[ci]? = some (C, T, N)) (he : wsC[q0]? = some (b, .inr (ci, fs)))
    (hn : As.length = n) (hsz : ls.size = nL) (hst : st0 = As.reverse ++ .ref b :: rest) (hW : (rest.map fun v => v.category).sum ≤ 8) (hdg : decode cc pc = .ok (.invokevirtual index, 3)) (hcs : cells ≤ R.cells ∧ slots ≤ R.slots)
    (kk : ∀ (H1 : Heap) (locs1 : List Loc), va_P D cl ws1 H1 → va_D (aL L) ws1 → H.size ≤ H1.size ∧ (∀ q : Nat, q < H.size → ¬ aL L q → H1[q]? = H[q]?) → va_S A0 H0 H1 locs1 → W p l e R s m args below meth c H1 locs1 cells slots Q (F0 m (pc + 3) ls (.int r :: rest))) : W p l e R s m args below meth c H locs cells slots Q (F0 m pc ls st0) :=
  cl_eff (va_runV (As := As) (rest := rest) S hM cw ⟨cPe_blind _ _ _ _ _ _, va_recv hK hP hc he, fun U hU hWm => ⟨rfl, by rw [hU]; exact hP, va_K.moved hWm.alike hK, hD⟩⟩ rfl hn hsz hst (lv_room hW) hdg hcs) hS hA kk
theorem call_VEv (S : CallFix p m c cc nL s args Ts own) (hM : Met l y ws rm (cPe D cl tys L wsC (.ref b :: As)) (cEv D cl L ws1) 0 0 (aL L)) (cw : CallW R s args own C index y bytes maxL ret ws rm 0 0 n) (hK : va_K D cl tys s) (hP : va_P D cl wsC H) (hD : va_D (aL L) wsC) (hS : va_S A0 H0 H locs) (hA : ∀ q, aL L q → A0 q) (q0 : Nat) {ci : Nat} {fs : List Value} {T : u_T} {N : Nat} (hc : cl[ci]? = some (C, T, N)) (he : wsC[q0]? = some (b, .inr (ci, fs)))
    (hn : As.length = n) (hsz : ls.size = nL) (hst : st0 = As.reverse ++ .ref b :: rest) (hW : (rest.map fun v => v.category).sum ≤ 8) (hdg : decode cc pc = .ok (.invokevirtual index, 3)) (hcs : cells ≤ R.cells ∧ slots ≤ R.slots)
    (kk : ∀ (H1 : Heap) (locs1 : List Loc), va_P D cl ws1 H1 → va_D (aL L) ws1 → H.size ≤ H1.size ∧ (∀ q : Nat, q < H.size → ¬ aL L q → H1[q]? = H[q]?) → va_S A0 H0 H1 locs1 → W p l e R s m args below meth c H1 locs1 cells slots Q (F0 m (pc + 3) ls rest)) : W p l e R s m args below meth c H locs cells slots Q (F0 m pc ls st0) :=
  cl_effv (va_runV (As := As) (rest := rest) S hM cw ⟨cPe_blind _ _ _ _ _ _, va_recv hK hP hc he, fun U hU hWm => ⟨rfl, by rw [hU]; exact hP, va_K.moved hWm.alike hK, hD⟩⟩ rfl hn hsz hst (lv_room hW) hdg hcs) hS hA kk
/-- a call of a static method that reads one row -/
theorem call_SPa (S : CallFix p m c cc nL s args Ts own) (hM : Met l y ws rm (cP D cl tys wsC As) (cQp r) 0 0 (fun _ => False)) (cw : CallB R s args own index y bytes maxL ret ws rm 0 0 n ∧ (Cond.static y).before args s = true) (hK : va_K D cl tys s) (hP : va_P D cl wsC H)
    (hn : As.length = n) (hsz : ls.size = nL) (hst : st0 = As.reverse ++ rest) (hW : (rest.map fun v => v.category).sum ≤ 8) (hdg : decode cc pc = .ok (.invokestatic index, 3)) (hcs : cells ≤ R.cells ∧ slots ≤ R.slots)
    (kk : W p l e R s m args below meth c H locs cells slots Q (F0 m (pc + 3) ls (.int r :: rest))) : W p l e R s m args below meth c H locs cells slots Q (F0 m pc ls st0) :=
  cl_pure (va_runS (As := As) (rest := rest) S hM cw ⟨cP_blind _ _ _ _ _, fun U hU hWm => ⟨rfl, by rw [hU]; exact hP, va_K.moved hWm.alike hK⟩⟩ rfl hn hsz hst (lv_room hW) hdg hcs) kk
theorem call_SPaN {host : String} (S : CallFix p m c cc nL s args Ts own) (hM : Met l y ws rm (cP D cl tys wsC As) (cQp r) 0 0 (fun _ => False)) (cw : va_CN R s args own index y host bytes maxL ret ws rm 0 0 n ∧ (Cond.static y).before args s = true ∧ True) (hK : va_K D cl tys s) (hP : va_P D cl wsC H)
    (hn : As.length = n) (hsz : ls.size = nL) (hst : st0 = As.reverse ++ rest) (hW : (rest.map fun v => v.category).sum ≤ 8) (hdg : decode cc pc = .ok (.invokestatic index, 3)) (hcs : cells ≤ R.cells ∧ slots ≤ R.slots)
    (kk : W p l e R s m args below meth c H locs cells slots Q (F0 m (pc + 3) ls (.int r :: rest))) : W p l e R s m args below meth c H locs cells slots Q (F0 m pc ls st0) :=
  cl_pure (va_runSN (As := As) (rest := rest) S hM cw ⟨cP_blind _ _ _ _ _, fun U hU hWm => ⟨rfl, by rw [hU]; exact hP, va_K.moved hWm.alike hK⟩⟩ rfl hn hsz hst (lv_room hW) hdg hcs) kk
/-- an int array's element, named -/
theorem k_iald {ws : va_W} {a : Nat} (hexec : p.tables.exec = Jvm.exec) (hb : c.code = cc) (hK : va_K D cl tys s) (hP : va_P D cl ws H) (q0 t0 : Nat) {cA : ClassId} {n : Nat} {f : Nat → Int32} (ha : ws[q0]? = some (a, .inl (cA, n, .inl f))) (ht : tys[t0]? = some (cA, .int)) {i v : Int32} (hin : vp_in i n) (hv : v = f i.toNatClampNeg) (hdg : decode cc pc = .ok (.iaload, 1))
    (kk : W p l e R s m args below meth c H locs cells slots Q (F0 m (pc + 1) ls (.int v :: rest))) : W p l e R s m args below meth c H locs cells slots Q (F0 m pc ls (.int i :: .ref a :: rest)) := by
  subst hv
  exact va_iald hexec hb hK hP q0 t0 ha ht hin hdg kk
theorem k_cald {ws : va_W} {a : Nat} (hexec : p.tables.exec = Jvm.exec) (hb : c.code = cc) (hK : va_K D cl tys s) (hP : va_P D cl ws H) (q0 t0 : Nat) {cA : ClassId} {n : Nat} {f : Nat → Int32} (ha : ws[q0]? = some (a, .inl (cA, n, .inl f))) (ht : tys[t0]? = some (cA, .char)) {i v : Int32} (hin : vp_in i n) (hv : v = f i.toNatClampNeg) (hdg : decode cc pc = .ok (.caload, 1))
    (kk : W p l e R s m args below meth c H locs cells slots Q (F0 m (pc + 1) ls (.int v :: rest))) : W p l e R s m args below meth c H locs cells slots Q (F0 m pc ls (.int i :: .ref a :: rest)) := by
  subst hv
  exact va_cald hexec hb hK hP q0 t0 ha ht hin hdg kk
end KP
/-- a Caravan: its object and its ten rows -/
def cvL (h : Nat) (q : Nat → Nat) : List Nat := [h, q 0, q 1, q 2, q 3, q 4, q 5, q 6, q 7, q 8, q 9]
def cvW (cI : ClassId) (h : Nat) (q : Nat → Nat) (K : KT) : va_W := [(h, .inr (1, [.ref (q 0), .ref (q 1), .ref (q 2), .ref (q 3), .ref (q 4), .ref (q 5), .ref (q 6), .ref (q 7), .ref (q 8), .ref (q 9), .int (K 10 0), .int (K 10 1), .int (K 10 2), .int (K 10 3), .int (K 10 4), .int (K 10 5)])),
  (q 0, .inl (cI, 5, .inl (K 0))), (q 1, .inl (cI, 5, .inl (K 1))), (q 2, .inl (cI, 5, .inl (K 2))), (q 3, .inl (cI, 5, .inl (K 3))), (q 4, .inl (cI, 5, .inl (K 4))), (q 5, .inl (cI, 5, .inl (K 5))), (q 6, .inl (cI, 5, .inl (K 6))), (q 7, .inl (cI, 60, .inl (K 7))), (q 8, .inl (cI, 60, .inl (K 8))), (q 9, .inl (cI, 25, .inl (K 9)))]
