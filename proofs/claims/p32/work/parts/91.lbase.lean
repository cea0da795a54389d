/-! ===== what the law's methods stand on ===== -/
def ushr (x y : Int32) : Int32 := (x.toUInt32 >>> (y.toUInt32 &&& Int32.toUInt32 31)).toInt32
def bdL {β : Type} (q : Option (Int64 × OT)) (k : Int64 → OT → Option β) : Option β := match q with
  | none => none
  | some (r, K) => k r K
theorem bdL_some {β : Type} {q : Option (Int64 × OT)} {k : Int64 → OT → Option β} {x : β} (h : bdL q k = some x) : ∃ r K1, q = some (r, K1) ∧ k r K1 = some x := by
  cases q with
  | none => cases h
  | some r => exact ⟨r.1, r.2, rfl, h⟩
def nA : Nat → Prop := fun _ => False
def lLen : List Nat := [4, 6, 1, 7, 8, 8]
def lByt : List (List Int32) := [[112, 50, 59, 100], [114, 49, 50, 45, 59, 112], [113], [112, 49, 59, 114, 50, 50, 43], [112, 49, 59, 112, 50, 59, 100, 55], [112, 49, 59, 112, 49, 59, 112, 48]]
def lF (k : Nat) : Nat → Int32 := fun j => (lByt.getD k []).getD j 0
def lIx : Nat → Nat := fun i => [118, 130, 144, 146, 148, 150].getD i 0
def lTx : Nat → String := fun i => ["p2;d", "r12-;p", "q", "p1;r22+", "p1;p2;d7", "p1;p1;p0"].getD i ""
def StrF (a n : Nat) (f : Nat → Int32) (U : State) (H : Heap) : Prop := n < 65536 ∧ ∃ v, va_O "java/lang/String" a nA U H ∧ va_OF "java/lang/String" "coder" "B" (.int 0) a nA U H ∧ va_OF "java/lang/String" "value" "[B" (.ref v) a nA U H ∧ va_T .byte v n (fun j => .int (f j)) nA U H
theorem StrF.moved {a n : Nat} {f : Nat → Int32} {u U : State} {H : Heap} (hvm : u.vm.Alike U.vm) (h : StrF a n f u H) : StrF a n f U H := by
  obtain ⟨h0, v, h1, h2, h3, h4⟩ := h
  exact ⟨h0, v, h1.moved hvm, h2.moved hvm, h3.moved hvm, h4.moved hvm⟩
def EnvL (base b L : Nat) (xs : Nat → Int32) (adK adV : Nat → Nat) (U : State) : Prop := EnvB base U ∧ (b < base ∧ va_X b L xs U U.heap) ∧ vk_S 6 lLen lByt adK adV (aB base) U U.heap ∧ ∀ i, i < 6 → vk_R RL (lIx i) (lTx i) (adK i) U
theorem X_step {b L base : Nat} {xs : Nat → Int32} {s U : State} {H : Heap} {locs : List Loc} (hX : va_X b L xs s s.heap) (hb : b < base) (hS : va_S (aB base) s.heap H locs) (hU : U.heap = H) (hA : s.vm.Alike U.vm) : va_X b L xs U U.heap := by
  obtain ⟨scr, h1, h2, h3, h4, h5⟩ := hX
  refine ⟨scr, ?_, State.isArrayOf_alike hA h2, h3, h4, h5⟩
  rw [hU, hS.2.1 b (Array.getElem?_eq_some_iff.mp h1).1 (Nat.not_le.mpr hb)]
  exact h1
theorem EnvL_step {base b L : Nat} {xs : Nat → Int32} {adK adV : Nat → Nat} {s U : State} {H : Heap} {locs : List Loc} (hE : EnvL base b L xs adK adV s) (hS : va_S (aB base) s.heap H locs) (hU : U.heap = H) (hW : s.WarmedH U.vm) : EnvL base b L xs adK adV U := by
  obtain ⟨e1, ⟨e2, e3⟩, e4, e5⟩ := hE
  refine ⟨Env_step rfl rfl e1 hS hU hW, ⟨e2, X_step e3 e2 hS hU hW.alike⟩, ?_, fun i hi => (e5 i hi).warm hW⟩
  rw [hU]
  exact (e4.moved hW.alike).kept hS.2.1
def cLp (D : va_G) (cl : List vw_C) (tys : List (ClassId × FieldType)) (base b L : Nat) (xs : Nat → Int32) (adK adV : Nat → Nat) (ws : va_W) (av : List Value) : Array Value → State → Prop := fun v U => v = av.toArray ∧ va_P D cl ws U.heap ∧ va_K D cl tys U ∧ va_D (aB base) ws ∧ base ≤ U.heap.size ∧ EnvL base b L xs adK adV U
theorem EnvL_calling {base b L : Nat} {xs : Nat → Int32} {adK adV : Nat → Nat} {u U : State} (hv : U.vm = u.vm) (hh : U.heap = u.heap) (hB : EnvB base U) (h : EnvL base b L xs adK adV u) : EnvL base b L xs adK adV U := by
  obtain ⟨-, ⟨e2, e3⟩, e4, e5⟩ := h
  have hA : u.vm.Alike U.vm := by rw [hv]; exact Vm.Alike.refl u.vm
  obtain ⟨scr, h1, h2, h3, h4, h5⟩ := e3
  refine ⟨hB, ⟨e2, scr, by rw [hh]; exact h1, State.isArrayOf_alike hA h2, h3, h4, h5⟩, ?_, fun i hi => vk_R.same hv (e5 i hi)⟩
  rw [hh]
  exact e4.moved hA
theorem cLp_blind (D : va_G) (cl : List vw_C) (tys : List (ClassId × FieldType)) (base b L : Nat) (xs : Nat → Int32) (adK adV : Nat → Nat) (ws : va_W) (av : List Value) : FrameBlind (cLp D cl tys base b L xs adK adV ws av) := fun a U g mk q => ⟨q.1, q.2.1, va_K.moved (u := U) (U := U.calling g mk a) (Vm.Alike.refl U.vm) q.2.2.1, q.2.2.2.1, q.2.2.2.2.1, EnvL_calling (u := U) (U := U.calling g mk a) rfl rfl q.2.2.2.2.2.1 q.2.2.2.2.2⟩
def cLr (D : va_G) (cl : List vw_C) (tys : List (ClassId × FieldType)) (base b L : Nat) (xs : Nat → Int32) (adK adV : Nat → Nat) (R : va_W) (sa sn : Nat) (sf : Nat → Int32) (ws : va_W) (av : List Value) : Array Value → State → Prop := fun v U => cLp D cl tys base b L xs adK adV ws av v U ∧ ∀ H : Heap, va_P D cl R H → (∀ q : Nat, q < U.heap.size → ¬ aB base q → H[q]? = U.heap[q]?) → StrF sa sn sf U H
theorem cLr_blind (D : va_G) (cl : List vw_C) (tys : List (ClassId × FieldType)) (base b L : Nat) (xs : Nat → Int32) (adK adV : Nat → Nat) (R : va_W) (sa sn : Nat) (sf : Nat → Int32) (ws : va_W) (av : List Value) : FrameBlind (cLr D cl tys base b L xs adK adV R sa sn sf ws av) := fun a U g mk q => ⟨cLp_blind D cl tys base b L xs adK adV ws av a U g mk q.1, fun H h1 h2 => StrF.moved (u := U) (U := U.calling g mk a) (Vm.Alike.refl U.vm) (q.2 H h1 h2)⟩
/-- a method that only reads the script -/
def cXs (b L : Nat) (xs : Nat → Int32) (av : List Value) : Array Value → State → Prop := fun v U => v = av.toArray ∧ va_X b L xs U U.heap
theorem cXs_blind (b L : Nat) (xs : Nat → Int32) (av : List Value) : FrameBlind (cXs b L xs av) := fun _ _ _ _ q => q
/-- a method of String that only reads it -/
def cJs (base a n : Nat) (f : Nat → Int32) (av : List Value) : Array Value → State → Prop := fun w U => w = av.toArray ∧ StrF a n f U U.heap ∧ base ≤ U.heap.size ∧ EnvB base U
theorem cJs_blind (base a n : Nat) (f : Nat → Int32) (av : List Value) : FrameBlind (cJs base a n f av) := fun z U g mk q => ⟨q.1, StrF.moved (u := U) (U := U.calling g mk z) (Vm.Alike.refl U.vm) q.2.1, q.2.2⟩
def cJv (base v n : Nat) (f : Nat → Int32) (av : List Value) : Array Value → State → Prop := fun w U => w = av.toArray ∧ va_T .byte v n (fun j => .int (f j)) nA U U.heap ∧ base ≤ U.heap.size ∧ EnvB base U
theorem cJv_blind (base v n : Nat) (f : Nat → Int32) (av : List Value) : FrameBlind (cJv base v n f av) := fun z U g mk q => ⟨q.1, va_T.moved (u := U) (U := U.calling g mk z) (Vm.Alike.refl U.vm) q.2.1, q.2.2⟩
section KL
variable {p : Program} {l : Launch} {e : Env} {R : Room} {s : State} {m : MethodId} {args : Array Value} {below : List Frame} {meth : Method} {c : Code} {H : Heap} {locs : List Loc} {cells slots : Nat} {Q : State → Prop}
variable {pc : Nat} {ls : Array Slot} {rest st0 : List Value} {H0 : Heap} {mc ms base : Nat}
variable {y : MethodName} {bytes cc : ByteArray} {maxL nL n index : Nat} {ret : Option FieldType} {ws : List Cond} {rm : Room} {Ts : List Cond} {own : String} {As : List Value} {D : va_G} {cl : List vw_C} {tys : List (ClassId × FieldType)} {wsC : va_W} {r : Int32} {o : Option Value} {Wp : va_W → Prop} {b L : Nat} {xs : Nat → Int32} {adK adV : Nat → Nat}
theorem preL (hK : va_K D cl tys s) (hP : va_P D cl wsC H) (hD : va_D (aB base) wsC) (hbs : base ≤ H.size) (hEU : ∀ U : State, U.heap = H → s.WarmedH U.vm → EnvL base b L xs adK adV U) (av : List Value) : ∀ U : State, U.heap = H → s.WarmedH U.vm → cLp D cl tys base b L xs adK adV wsC av av.toArray U := fun U hU hW => ⟨rfl, by rw [hU]; exact hP, va_K.moved hW.alike hK, hD, by rw [hU]; exact hbs, hEU U hU hW⟩
theorem call_LSE (S : CallFix p m c cc nL s args Ts own) (hM : Met l y ws rm (cLp D cl tys base b L xs adK adV wsC As) (cBe D cl base o Wp) mc ms (aB base)) (cw : CallB R s args own index y bytes maxL ret ws rm mc ms n ∧ (Cond.static y).before args s = true) (hK : va_K D cl tys s) (hP : va_P D cl wsC H) (hD : va_D (aB base) wsC) (hS : va_S (aB base) H0 H locs) (hbs : base ≤ H.size) (hEU : ∀ U : State, U.heap = H → s.WarmedH U.vm → EnvL base b L xs adK adV U)
    (hn : As.length = n) (hsz : ls.size = nL) (hst : st0 = As.reverse ++ rest) (hW : (rest.map fun v => v.category).sum ≤ 8) (hdg : decode cc pc = .ok (.invokestatic index, 3)) (hcs : cells + mc ≤ R.cells ∧ slots + ms ≤ R.slots)
    (kk : ∀ (H1 : Heap) (locs1 : List Loc) (ws1 : va_W), Wp ws1 → va_P D cl ws1 H1 → va_D (aB base) ws1 → H.size ≤ H1.size → va_S (aB base) H0 H1 locs1 → W p l e R s m args below meth c H1 locs1 (cells + mc) (slots + ms) Q (F0 m (pc + 3) ls (o.toList ++ rest))) : W p l e R s m args below meth c H locs cells slots Q (F0 m pc ls st0) :=
  cl_big (va_runS (As := As) (rest := rest) S hM cw ⟨cLp_blind _ _ _ _ _ _ _ _ _ _ _, preL hK hP hD hbs hEU _⟩ rfl hn hsz hst (lv_room hW) hdg hcs) hS kk
theorem call_LRE {Rw : va_W} {sa sn : Nat} {sf : Nat → Int32} (S : CallFix p m c cc nL s args Ts own) (hM : Met l y ws rm (cLr D cl tys base b L xs adK adV Rw sa sn sf wsC As) (cBe D cl base o Wp) mc ms (aB base)) (cw : CallB R s args own index y bytes maxL ret ws rm mc ms n ∧ (Cond.static y).before args s = true) (hK : va_K D cl tys s) (hP : va_P D cl wsC H) (hD : va_D (aB base) wsC) (hS : va_S (aB base) H0 H locs) (hbs : base ≤ H.size) (hEU : ∀ U : State, U.heap = H → s.WarmedH U.vm → EnvL base b L xs adK adV U) (hSt : ∀ U : State, U.heap = H → s.WarmedH U.vm → ∀ H2 : Heap, va_P D cl Rw H2 → (∀ q : Nat, q < U.heap.size → ¬ aB base q → H2[q]? = U.heap[q]?) → StrF sa sn sf U H2)
    (hn : As.length = n) (hsz : ls.size = nL) (hst : st0 = As.reverse ++ rest) (hW : (rest.map fun v => v.category).sum ≤ 8) (hdg : decode cc pc = .ok (.invokestatic index, 3)) (hcs : cells + mc ≤ R.cells ∧ slots + ms ≤ R.slots)
    (kk : ∀ (H1 : Heap) (locs1 : List Loc) (ws1 : va_W), Wp ws1 → va_P D cl ws1 H1 → va_D (aB base) ws1 → H.size ≤ H1.size → va_S (aB base) H0 H1 locs1 → W p l e R s m args below meth c H1 locs1 (cells + mc) (slots + ms) Q (F0 m (pc + 3) ls (o.toList ++ rest))) : W p l e R s m args below meth c H locs cells slots Q (F0 m pc ls st0) :=
  cl_big (va_runS (As := As) (rest := rest) S hM cw ⟨cLr_blind _ _ _ _ _ _ _ _ _ _ _ _ _ _ _, fun U hU hW => ⟨preL hK hP hD hbs hEU _ U hU hW, hSt U hU hW⟩⟩ rfl hn hsz hst (lv_room hW) hdg hcs) hS kk
theorem call_LSP (S : CallFix p m c cc nL s args Ts own) (hM : Met l y ws rm (cLp D cl tys base b L xs adK adV wsC As) (cQp r) 0 0 (fun _ => False)) (cw : CallB R s args own index y bytes maxL ret ws rm 0 0 n ∧ (Cond.static y).before args s = true) (hK : va_K D cl tys s) (hP : va_P D cl wsC H) (hD : va_D (aB base) wsC) (hbs : base ≤ H.size) (hEU : ∀ U : State, U.heap = H → s.WarmedH U.vm → EnvL base b L xs adK adV U)
    (hn : As.length = n) (hsz : ls.size = nL) (hst : st0 = As.reverse ++ rest) (hW : (rest.map fun v => v.category).sum ≤ 8) (hdg : decode cc pc = .ok (.invokestatic index, 3)) (hcs : cells ≤ R.cells ∧ slots ≤ R.slots)
    (kk : W p l e R s m args below meth c H locs cells slots Q (F0 m (pc + 3) ls (.int r :: rest))) : W p l e R s m args below meth c H locs cells slots Q (F0 m pc ls st0) :=
  cl_pure (va_runS (As := As) (rest := rest) S hM cw ⟨cLp_blind _ _ _ _ _ _ _ _ _ _ _, preL hK hP hD hbs hEU _⟩ rfl hn hsz hst (lv_room hW) hdg hcs) kk
theorem call_LXP (S : CallFix p m c cc nL s args Ts own) (hM : Met l y ws rm (cXs b L xs As) (cQp r) 0 0 (fun _ => False)) (cw : CallB R s args own index y bytes maxL ret ws rm 0 0 n ∧ (Cond.static y).before args s = true) (hX : ∀ U : State, U.heap = H → s.WarmedH U.vm → va_X b L xs U U.heap)
    (hn : As.length = n) (hsz : ls.size = nL) (hst : st0 = As.reverse ++ rest) (hW : (rest.map fun v => v.category).sum ≤ 8) (hdg : decode cc pc = .ok (.invokestatic index, 3)) (hcs : cells ≤ R.cells ∧ slots ≤ R.slots)
    (kk : W p l e R s m args below meth c H locs cells slots Q (F0 m (pc + 3) ls (.int r :: rest))) : W p l e R s m args below meth c H locs cells slots Q (F0 m pc ls st0) :=
  cl_pure (va_runS (As := As) (rest := rest) S hM cw ⟨cXs_blind _ _ _ _, fun U hU hWm => ⟨rfl, hX U hU hWm⟩⟩ rfl hn hsz hst (lv_room hW) hdg hcs) kk
theorem call_JvP {v k : Nat} {f : Nat → Int32} (S : CallFix p m c cc nL s args Ts own) (hM : Met l y ws rm (cJv base v k f As) (cQp r) 0 0 (fun _ => False)) (cw : CallB R s args own index y bytes maxL ret ws rm 0 0 n ∧ (Cond.static y).before args s = true) (hT : va_T .byte v k (fun j => .int (f j)) nA s H) (hbs : base ≤ H.size) (hEU : ∀ U : State, U.heap = H → s.WarmedH U.vm → EnvB base U)
    (hn : As.length = n) (hsz : ls.size = nL) (hst : st0 = As.reverse ++ rest) (hW : (rest.map fun v => v.category).sum ≤ 8) (hdg : decode cc pc = .ok (.invokestatic index, 3)) (hcs : cells ≤ R.cells ∧ slots ≤ R.slots)
    (kk : W p l e R s m args below meth c H locs cells slots Q (F0 m (pc + 3) ls (.int r :: rest))) : W p l e R s m args below meth c H locs cells slots Q (F0 m pc ls st0) :=
  cl_pure (va_runS (As := As) (rest := rest) S hM cw ⟨cJv_blind _ _ _ _ _, fun U hU hWm => ⟨rfl, by rw [hU]; exact hT.moved hWm.alike, by rw [hU]; exact hbs, hEU U hU hWm⟩⟩ rfl hn hsz hst (lv_room hW) hdg hcs) kk
theorem call_JsP {a k : Nat} {f : Nat → Int32} (S : CallFix p m c cc nL s args Ts own) (hM : Met l y ws rm (cJs base a k f (.ref a :: As)) (cQp r) 0 0 (fun _ => False)) (cw : CallW R s args own RJ0 index y bytes maxL ret ws rm 0 0 n) (hF : StrF a k f s H) (hbs : base ≤ H.size) (hEU : ∀ U : State, U.heap = H → s.WarmedH U.vm → EnvB base U)
    (hn : As.length = n) (hsz : ls.size = nL) (hst : st0 = As.reverse ++ .ref a :: rest) (hW : (rest.map fun v => v.category).sum ≤ 8) (hdg : decode cc pc = .ok (.invokevirtual index, 3)) (hcs : cells ≤ R.cells ∧ slots ≤ R.slots)
    (kk : W p l e R s m args below meth c H locs cells slots Q (F0 m (pc + 3) ls (.int r :: rest))) : W p l e R s m args below meth c H locs cells slots Q (F0 m pc ls st0) := by
  have hrec : ∃ cell : Cell, H[a]? = some cell ∧ cell.vm.isStatics = false ∧ s.vm.findClass RJ0 = some cell.cls := by
    obtain ⟨-, v, ⟨cell, h1, h2, h3, -⟩, -⟩ := hF
    exact ⟨cell, h1, h2, h3⟩
  exact cl_pure (va_runV (As := As) (rest := rest) S hM cw ⟨cJs_blind _ _ _ _ _, hrec, fun U hU hWm => ⟨rfl, by rw [hU]; exact hF.moved hWm.alike, by rw [hU]; exact hbs, hEU U hU hWm⟩⟩ rfl hn hsz hst (lv_room hW) hdg hcs) kk
theorem k_getX (hexec : p.tables.exec = Jvm.exec) (hb : c.code = cc) {fo fn fd ref : String} {w : Value} {a : Nat} (hF : va_OF fo fn fd w a nA s H) (hown : s.vm.findClass own = some m.cls) (hlink : (Cond.fieldLink own index ref fn fd).before args s = true) (hsame : ∀ x, s.fieldFound? fo fn fd = some x → s.fieldFound? ref fn fd = some x) (hdg : decode cc pc = .ok (.getfield index, 3))
    (kk : W p l e R s m args below meth c H locs cells slots Q (F0 m (pc + 3) ls (w :: rest))) : W p l e R s m args below meth c H locs cells slots Q (F0 m pc ls (.ref a :: rest)) := by
  obtain ⟨cf, k, fi, f, cell, h1, h2, h3, h4, h5, h6⟩ := hF
  exact W.getf hexec hb hown hlink (hsame _ h1) h2 h3 h4 (v := w) h5 rfl rfl hdg kk
end KL
theorem StrF_lit {D : va_G} {cl : List vw_C} {R : va_W} {base b L : Nat} {xs : Nat → Int32} {adK adV : Nat → Nat} {s : State} {H : Heap} {locs : List Loc} (hE : EnvL base b L xs adK adV s) (hS : va_S (aB base) s.heap H locs) {k : Nat} (hk : k < 6) : ∀ U : State, U.heap = H → s.WarmedH U.vm → ∀ H2 : Heap, va_P D cl R H2 → (∀ q : Nat, q < U.heap.size → ¬ aB base q → H2[q]? = U.heap[q]?) → StrF (adK k) (lLen.getD k 0) (lF k) U H2 := by
  intro U hU hW H2 _ hq
  obtain ⟨-, -, e4, -⟩ := EnvL_step hE hS hU hW
  obtain ⟨h1, h2, h3, h4⟩ := (e4.kept hq).1 k hk
  have hA : ∀ q, nA q → aB base q := fun q h => h.elim
  have hl : ∀ k, k < 6 → lLen.getD k 0 < 65536 := by decide
  exact ⟨hl k hk, adV k, h1.narrow hA, h2.narrow hA, h3.narrow hA, h4.narrow hA⟩
theorem retOl {D : va_G} {cl : List vw_C} {base : Nat} {cI cB cP : ClassId} {ad : Nat → Nat → Nat} {Z : Nat → Nat} {R : va_W} {e r : Int64} {O1 O2 : OT} {st t : State} {H : Heap} {locs : List Loc} {a : Array Value} (h : some (e, O1) = some (r, O2)) (hCF : OF Z O1) (hP : va_P D cl (outW cI cB cP ad Z O1 ++ R) H) (hD : va_D (aB base) (outW cI cB cP ad Z O1 ++ R)) (hS : va_S (aB base) st.heap H locs) (ht : t.heap = H) : cBe D cl base (some (.long r)) (fun ws => ∃ Z : Nat → Nat, ws = (outW cI cB cP ad Z O2 ++ R) ∧ OF Z O2) a st (.returned (some (.long e))) t := by
  cases h
  exact retB rfl ⟨Z, rfl, hCF⟩ hP hD hS ht
/-! the two helpers of the law -/
def mL_some (N : Nat) (v n : Int32) : Option Int32 := if n = 0 then none else if 0 ≤ v - v / n * n then some (v - v / n * n) else some (v - v / n * n + n)
def rmL_some : Room := { frames := 1, cells := 0, slots := 0, locals := 40 }
def wsL_some_q : List Cond := .code yL_some cL_some 3 (some .int) :: wsL_law
theorem tL_some {l : Launch} {N : Nat} {v n rr : Int32} (hf : mL_some N v n = some rr) : Met l yL_some wsL_some_q rmL_some (cS [.int v, .int n]) (cQp rr) 0 0 (fun _ => False) := by
  refine Met.ofW (cc := cL_some) (maxL := 3) (ret := (some .int)) (by decide) rfl ?_
  intro p e s m args below meth c s₁ B hml hv
  obtain rfl : args = ([.int v, .int n] : List Value).toArray := hv
  have hx := B.exec
  have hb := B.bytes
  have hr := B.returns
  have hl := lv_entry ([.int v, .int n]) (n := 3) (Nat.le_of_ble_eq_true rfl)
  rw [lg_entry_eq]
  generalize (lg_sl ([.int v, .int n]) ++ List.replicate (3 - (lg_sl ([.int v, .int n])).length) Slot.unset).toArray = ls at hl ⊢
  have hl : lv_has ls 3 [(0, .int v), (1, .int n)] := hl
  have h := hf
  unfold mL_some at h
  by_cases hn : n = 0
  · rw [if_pos hn] at h; cases h
  rw [if_neg hn] at h
  refine lv_iload_n hx hb dL_some_0 rfl (lv_at hl 0 rfl) ?_
  refine lv_iload_n hx hb dL_some_1 rfl (lv_at hl 1 rfl) ?_
  refine lv_irem hx hb dL_some_2 hn ?_
  refine lv_istore_n (lv' := [(2, .int (v - v / n * n)), (0, .int v), (1, .int n)]) hx hb dL_some_3 rfl hl (by decide) rfl (fun ls hl => ?_)
  refine lv_iload_n hx hb dL_some_4 rfl (lv_at hl 0 rfl) ?_
  refine lv_if_ge (tgt := 14) hx hb dL_some_5 (by decide) (fun c1 => ?_) (fun c1 => ?_)
  · rw [if_pos c1] at h
    refine lv_iload_n hx hb dL_some_14 rfl (lv_at hl 0 rfl) ?_
    exact W.iret hx hb hr (fun t ht _ => retP h ht) (fun _ h9 => absurd h9 List.not_mem_nil) dL_some_15
  · rw [if_neg c1] at h
    refine lv_iload_n hx hb dL_some_8 rfl (lv_at hl 0 rfl) ?_
    refine lv_iload_n hx hb dL_some_9 rfl (lv_at hl 2 rfl) ?_
    refine lv_iadd hx hb dL_some_10 ?_
    refine lv_goto (tgt := 15) hx hb dL_some_11 (by decide) ?_
    exact W.iret hx hb hr (fun t ht _ => retP h ht) (fun _ h9 => absurd h9 List.not_mem_nil) dL_some_15
def mL_at (N L : Nat) (xs : Nat → Int32) (k : Int32) : Option Int32 := if Int32.ofNat L ≤ k then some 0 else rdA xs L k (fun v => some v)
def rmL_at : Room := { frames := 1, cells := 0, slots := 0, locals := 40 }
def wsL_at_q : List Cond := .code yL_at cL_at 2 (some .int) :: wsL_law
theorem tL_at {l : Launch} {N b L : Nat} {xs : Nat → Int32} {k rr : Int32} (hf : mL_at N L xs k = some rr) : Met l yL_at wsL_at_q rmL_at (cXs b L xs [.ref b, .int k]) (cQp rr) 0 0 (fun _ => False) := by
  refine Met.ofW (cc := cL_at) (maxL := 2) (ret := (some .int)) (by decide) rfl ?_
  intro p e s m args below meth c s₁ B hml hv
  obtain ⟨rfl, hX⟩ := hv
  have hx := B.exec
  have hb := B.bytes
  have hr := B.returns
  have hbl : b < s.heap.size := by
    obtain ⟨scr, h1, -⟩ := hX
    exact (Array.getElem?_eq_some_iff.mp h1).1
  have hS : va_S nA s.heap s.heap [] := va_S.rf
  have hl := lv_entry ([.ref b, .int k]) (n := 2) (Nat.le_of_ble_eq_true rfl)
  rw [lg_entry_eq]
  generalize (lg_sl ([.ref b, .int k]) ++ List.replicate (2 - (lg_sl ([.ref b, .int k])).length) Slot.unset).toArray = ls at hl ⊢
  have hl : lv_has ls 2 [(0, .ref b), (1, .int k)] := hl
  have h := hf
  unfold mL_at at h
  refine lv_iload_n hx hb dL_at_0 rfl (lv_at hl 1 rfl) ?_
  refine lv_aload_n hx hb dL_at_1 rfl (lv_at hl 0 rfl) ?_
  refine va_slen hx hb hX hbl (fun z => z) hS dL_at_2 ?_
  refine lv_icmp_ge (tgt := 12) hx hb dL_at_3 (by decide) (fun c1 => ?_) (fun c1 => ?_)
  · rw [if_pos c1] at h
    refine lv_iconst (v := 0) hx hb dL_at_12 (by decide) ?_
    exact W.iret hx hb hr (fun t ht _ => retP h ht) (fun _ h9 => absurd h9 List.not_mem_nil) dL_at_13
  · rw [if_neg c1] at h
    obtain ⟨hi, v, ev, h⟩ := rdA_some h
    refine lv_aload_n hx hb dL_at_6 rfl (lv_at hl 0 rfl) ?_
    refine lv_iload_n hx hb dL_at_7 rfl (lv_at hl 1 rfl) ?_
    refine va_sld hx hb hX hbl (fun z => z) hS hi dL_at_8 ?_
    refine lv_goto (tgt := 13) hx hb dL_at_9 (by decide) ?_
    exact W.iret hx hb hr (fun t ht _ => retP (by rw [← ev]; exact h) ht) (fun _ h9 => absurd h9 List.not_mem_nil) dL_at_13
