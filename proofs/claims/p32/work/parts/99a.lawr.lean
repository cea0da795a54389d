/-! ===== the law, walked: its pieces ===== -/
def LFX (p : Program) (s : State) (m : MethodId) (meth : Method) (c : Code) (N b L : Nat) (xs : Nat → Int32) (dC : Nat → ClassId) (dI : Nat → Nat → Nat) (cI cB cP : ClassId) (adK adV : Nat → Nat) : Prop := (p.tables.exec = Jvm.exec) ∧ (c.code = code) ∧ (meth.sig.returnType = ret) ∧ (c.maxLocals = 11) ∧ (s.vm.findClass RL = some m.cls) ∧ (∀ w ∈ wsL_law, w.before #[Value.ref b] s = true) ∧ (meth.locks = false) ∧ (va_K (dC, dI) vwCl [(cI, .int), (cB, .byte), (cP, .object RX0)] s) ∧ (va_AO RX0 s) ∧ (EnvL s.heap.size b L xs adK adV s)
section LWR
variable {p : Program} {e : Env} {s : State} {m : MethodId} {below : List Frame} {meth : Method} {c : Code} {l : Launch} {N b L : Nat} {xs : Nat → Int32} {dC : Nat → ClassId} {dI : Nat → Nat → Nat} {cI cB cP : ClassId} {adK adV : Nat → Nat}
set_option maxHeartbeats 16000000 in
set_option maxRecDepth 100000 in
theorem lw_t_41 (hF : LFX p s m meth c N b L xs dC dI cI cB cP adK adV) : ∀ {K : OT}  {H : Heap} {locs : List Loc} {Z : Nat → Nat} {cells slots : Nat} {ad : Nat → Nat → Nat} {R : va_W} {ls : Array Slot} (h : fL_law_41 N L xs  K  = some 1) (hl : lv_has ls 11 []) (hP : va_P (dC, dI) vwCl (outW cI cB cP ad Z K ++ R) H) (hD : va_D (aB s.heap.size) (outW cI cB cP ad Z K ++ R)) (hS : va_S (aB s.heap.size) s.heap H locs) (hCF : OF Z K) (hcn : cells + (0) ≤ 600000 ∧ slots + 256 * (0) ≤ 7302250), W p l e room_1 s m #[Value.ref b] below meth c H locs cells slots (lw_Z below #[Value.ref b] s) (F0 m 41 ls []) := by
  obtain ⟨hx, hb, hr, hml, hown, hts, hlocks, hK, hAO, hEL⟩ := id hF
  have hE := hEL.1
  have hA : ∀ z : Nat, s.heap.size ≤ z → aB s.heap.size z := fun z hz => hz
  intro  K H locs Z cells slots ad R ls h hl hP hD hS hCF hcn
  unfold fL_law_41 at h
  refine lv_iconst (v := 0) hx hb dL_law_41 (by decide) ?_
  exact absurd (Option.some.inj h) (by decide)
set_option maxHeartbeats 16000000 in
set_option maxRecDepth 100000 in
theorem lw_t_142 (hF : LFX p s m meth c N b L xs dC dI cI cB cP adK adV) : ∀ {K : OT}  {H : Heap} {locs : List Loc} {Z : Nat → Nat} {cells slots : Nat} {ad : Nat → Nat → Nat} {R : va_W} {ls : Array Slot} (h : fL_law_142 N L xs  K  = some 1) (hl : lv_has ls 11 []) (hP : va_P (dC, dI) vwCl (outW cI cB cP ad Z K ++ R) H) (hD : va_D (aB s.heap.size) (outW cI cB cP ad Z K ++ R)) (hS : va_S (aB s.heap.size) s.heap H locs) (hCF : OF Z K) (hcn : cells + (0) ≤ 600000 ∧ slots + 256 * (0) ≤ 7302250), W p l e room_1 s m #[Value.ref b] below meth c H locs cells slots (lw_Z below #[Value.ref b] s) (F0 m 142 ls []) := by
  obtain ⟨hx, hb, hr, hml, hown, hts, hlocks, hK, hAO, hEL⟩ := id hF
  have hE := hEL.1
  have hA : ∀ z : Nat, s.heap.size ≤ z → aB s.heap.size z := fun z hz => hz
  intro  K H locs Z cells slots ad R ls h hl hP hD hS hCF hcn
  unfold fL_law_142 at h
  refine lv_iconst (v := 0) hx hb dL_law_142 (by decide) ?_
  exact absurd (Option.some.inj h) (by decide)
set_option maxHeartbeats 16000000 in
set_option maxRecDepth 100000 in
theorem lw_t_220 (hF : LFX p s m meth c N b L xs dC dI cI cB cP adK adV) : ∀ {K : OT}  {H : Heap} {locs : List Loc} {Z : Nat → Nat} {cells slots : Nat} {ad : Nat → Nat → Nat} {R : va_W} {ls : Array Slot} (h : fL_law_220 N L xs  K  = some 1) (hl : lv_has ls 11 []) (hP : va_P (dC, dI) vwCl (outW cI cB cP ad Z K ++ R) H) (hD : va_D (aB s.heap.size) (outW cI cB cP ad Z K ++ R)) (hS : va_S (aB s.heap.size) s.heap H locs) (hCF : OF Z K) (hcn : cells + (0) ≤ 600000 ∧ slots + 256 * (0) ≤ 7302250), W p l e room_1 s m #[Value.ref b] below meth c H locs cells slots (lw_Z below #[Value.ref b] s) (F0 m 220 ls []) := by
  obtain ⟨hx, hb, hr, hml, hown, hts, hlocks, hK, hAO, hEL⟩ := id hF
  have hE := hEL.1
  have hA : ∀ z : Nat, s.heap.size ≤ z → aB s.heap.size z := fun z hz => hz
  intro  K H locs Z cells slots ad R ls h hl hP hD hS hCF hcn
  unfold fL_law_220 at h
  refine lv_iconst (v := 0) hx hb dL_law_220 (by decide) ?_
  exact absurd (Option.some.inj h) (by decide)
set_option maxHeartbeats 16000000 in
set_option maxRecDepth 100000 in
theorem lw_t_314 (hF : LFX p s m meth c N b L xs dC dI cI cB cP adK adV) : ∀ {K : OT}  {H : Heap} {locs : List Loc} {Z : Nat → Nat} {cells slots : Nat} {ad : Nat → Nat → Nat} {R : va_W} {ls : Array Slot} (h : fL_law_314 N L xs  K  = some 1) (hl : lv_has ls 11 []) (hP : va_P (dC, dI) vwCl (outW cI cB cP ad Z K ++ R) H) (hD : va_D (aB s.heap.size) (outW cI cB cP ad Z K ++ R)) (hS : va_S (aB s.heap.size) s.heap H locs) (hCF : OF Z K) (hcn : cells + (0) ≤ 600000 ∧ slots + 256 * (0) ≤ 7302250), W p l e room_1 s m #[Value.ref b] below meth c H locs cells slots (lw_Z below #[Value.ref b] s) (F0 m 314 ls []) := by
  obtain ⟨hx, hb, hr, hml, hown, hts, hlocks, hK, hAO, hEL⟩ := id hF
  have hE := hEL.1
  have hA : ∀ z : Nat, s.heap.size ≤ z → aB s.heap.size z := fun z hz => hz
  intro  K H locs Z cells slots ad R ls h hl hP hD hS hCF hcn
  unfold fL_law_314 at h
  refine lv_iconst (v := 0) hx hb dL_law_314 (by decide) ?_
  exact absurd (Option.some.inj h) (by decide)
set_option maxHeartbeats 16000000 in
set_option maxRecDepth 100000 in
theorem lw_t_429 (hF : LFX p s m meth c N b L xs dC dI cI cB cP adK adV) : ∀ {K : OT}  {H : Heap} {locs : List Loc} {Z : Nat → Nat} {cells slots : Nat} {ad : Nat → Nat → Nat} {R : va_W} {ls : Array Slot} (h : fL_law_429 N L xs  K  = some 1) (hl : lv_has ls 11 []) (hP : va_P (dC, dI) vwCl (outW cI cB cP ad Z K ++ R) H) (hD : va_D (aB s.heap.size) (outW cI cB cP ad Z K ++ R)) (hS : va_S (aB s.heap.size) s.heap H locs) (hCF : OF Z K) (hcn : cells + (0) ≤ 600000 ∧ slots + 256 * (0) ≤ 7302250), W p l e room_1 s m #[Value.ref b] below meth c H locs cells slots (lw_Z below #[Value.ref b] s) (F0 m 429 ls []) := by
  obtain ⟨hx, hb, hr, hml, hown, hts, hlocks, hK, hAO, hEL⟩ := id hF
  have hE := hEL.1
  have hA : ∀ z : Nat, s.heap.size ≤ z → aB s.heap.size z := fun z hz => hz
  intro  K H locs Z cells slots ad R ls h hl hP hD hS hCF hcn
  unfold fL_law_429 at h
  refine lv_iconst (v := 0) hx hb dL_law_429 (by decide) ?_
  exact absurd (Option.some.inj h) (by decide)
set_option maxHeartbeats 16000000 in
set_option maxRecDepth 100000 in
theorem lw_t_465 (hF : LFX p s m meth c N b L xs dC dI cI cB cP adK adV) : ∀ {K : OT}  {H : Heap} {locs : List Loc} {Z : Nat → Nat} {cells slots : Nat} {ad : Nat → Nat → Nat} {R : va_W} {ls : Array Slot} (h : fL_law_465 N L xs  K  = some 1) (hl : lv_has ls 11 []) (hP : va_P (dC, dI) vwCl (outW cI cB cP ad Z K ++ R) H) (hD : va_D (aB s.heap.size) (outW cI cB cP ad Z K ++ R)) (hS : va_S (aB s.heap.size) s.heap H locs) (hCF : OF Z K) (hcn : cells + (0) ≤ 600000 ∧ slots + 256 * (0) ≤ 7302250), W p l e room_1 s m #[Value.ref b] below meth c H locs cells slots (lw_Z below #[Value.ref b] s) (F0 m 465 ls []) := by
  obtain ⟨hx, hb, hr, hml, hown, hts, hlocks, hK, hAO, hEL⟩ := id hF
  have hE := hEL.1
  have hA : ∀ z : Nat, s.heap.size ≤ z → aB s.heap.size z := fun z hz => hz
  intro  K H locs Z cells slots ad R ls h hl hP hD hS hCF hcn
  unfold fL_law_465 at h
  refine lv_iconst (v := 0) hx hb dL_law_465 (by decide) ?_
  exact absurd (Option.some.inj h) (by decide)
set_option maxHeartbeats 16000000 in
set_option maxRecDepth 100000 in
theorem lw_t_506 (hF : LFX p s m meth c N b L xs dC dI cI cB cP adK adV) : ∀ {K : OT}  {H : Heap} {locs : List Loc} {Z : Nat → Nat} {cells slots : Nat} {ad : Nat → Nat → Nat} {R : va_W} {ls : Array Slot} (h : fL_law_506 N L xs  K  = some 1) (hl : lv_has ls 11 []) (hP : va_P (dC, dI) vwCl (outW cI cB cP ad Z K ++ R) H) (hD : va_D (aB s.heap.size) (outW cI cB cP ad Z K ++ R)) (hS : va_S (aB s.heap.size) s.heap H locs) (hCF : OF Z K) (hcn : cells + (0) ≤ 600000 ∧ slots + 256 * (0) ≤ 7302250), W p l e room_1 s m #[Value.ref b] below meth c H locs cells slots (lw_Z below #[Value.ref b] s) (F0 m 506 ls []) := by
  obtain ⟨hx, hb, hr, hml, hown, hts, hlocks, hK, hAO, hEL⟩ := id hF
  have hE := hEL.1
  have hA : ∀ z : Nat, s.heap.size ≤ z → aB s.heap.size z := fun z hz => hz
  intro  K H locs Z cells slots ad R ls h hl hP hD hS hCF hcn
  unfold fL_law_506 at h
  refine lv_iconst (v := 0) hx hb dL_law_506 (by decide) ?_
  exact absurd (Option.some.inj h) (by decide)
set_option maxHeartbeats 16000000 in
set_option maxRecDepth 100000 in
theorem lw_t_534 (hF : LFX p s m meth c N b L xs dC dI cI cB cP adK adV) : ∀ {K : OT}  {H : Heap} {locs : List Loc} {Z : Nat → Nat} {cells slots : Nat} {ad : Nat → Nat → Nat} {R : va_W} {ls : Array Slot} (h : fL_law_534 N L xs  K  = some 1) (hl : lv_has ls 11 []) (hP : va_P (dC, dI) vwCl (outW cI cB cP ad Z K ++ R) H) (hD : va_D (aB s.heap.size) (outW cI cB cP ad Z K ++ R)) (hS : va_S (aB s.heap.size) s.heap H locs) (hCF : OF Z K) (hcn : cells + (0) ≤ 600000 ∧ slots + 256 * (0) ≤ 7302250), W p l e room_1 s m #[Value.ref b] below meth c H locs cells slots (lw_Z below #[Value.ref b] s) (F0 m 534 ls []) := by
  obtain ⟨hx, hb, hr, hml, hown, hts, hlocks, hK, hAO, hEL⟩ := id hF
  have hE := hEL.1
  have hA : ∀ z : Nat, s.heap.size ≤ z → aB s.heap.size z := fun z hz => hz
  intro  K H locs Z cells slots ad R ls h hl hP hD hS hCF hcn
  unfold fL_law_534 at h
  refine lv_iconst (v := 0) hx hb dL_law_534 (by decide) ?_
  exact absurd (Option.some.inj h) (by decide)
set_option maxHeartbeats 16000000 in
set_option maxRecDepth 100000 in
theorem lw_t_609 (hF : LFX p s m meth c N b L xs dC dI cI cB cP adK adV) : ∀ {z : Nat} {k548 : OT → (Nat → Int64) → Int64 → Int32 → Int32 → Int32 → Option Int32} (hk548 : ∀ {K : OT} {F : Nat → Int64} {x3 : Int64} {x5 : Int32} {x7 : Int32} {x8 : Int32} {H : Heap} {locs : List Loc} {Z : Nat → Nat} {cells slots : Nat} {ad : Nat → Nat → Nat} {R : va_W} {wa : Nat} {cL : ClassId} {ls : Array Slot} (h : k548 K F x3 x5 x7 x8 = some 1) (hl : lv_has ls 11 [(0, .ref b), (2, .ref (ad 0 0)), (3, .long x3), (5, .int x5), (6, .ref wa), (7, .int x7), (8, .int x8)]) (hP : va_P (dC, dI) vwCl (outW cI cB cP ad Z K ++ ((wa, .inl (cL, 11, .inr (.inl F))) :: R)) H) (hD : va_D (aB s.heap.size) (outW cI cB cP ad Z K ++ ((wa, .inl (cL, 11, .inr (.inl F))) :: R))) (hS : va_S (aB s.heap.size) s.heap H locs) (hCF : OF Z K) (hKL : va_K (dC, dI) vwCl [(cI, .int), (cB, .byte), (cP, .object RX0), (cL, .long)] s) (hcn : cells + (788 * z + 4224) ≤ 600000 ∧ slots + 256 * (788 * z + 4224) ≤ 7302250), W p l e room_1 s m #[Value.ref b] below meth c H locs cells slots (lw_Z below #[Value.ref b] s) (F0 m 548 ls [])), ∀ {K : OT} {F : Nat → Int64} {x3 : Int64} {x5 : Int32} {x7 : Int32} {x8 : Int32} {H : Heap} {locs : List Loc} {Z : Nat → Nat} {cells slots : Nat} {ad : Nat → Nat → Nat} {R : va_W} {wa : Nat} {cL : ClassId} {ls : Array Slot} (h : fL_law_609 N L xs k548 K F x3 x5 x7 x8 = some 1) (hl : lv_has ls 11 [(0, .ref b), (2, .ref (ad 0 0)), (3, .long x3), (5, .int x5), (6, .ref wa), (7, .int x7), (8, .int x8)]) (hP : va_P (dC, dI) vwCl (outW cI cB cP ad Z K ++ ((wa, .inl (cL, 11, .inr (.inl F))) :: R)) H) (hD : va_D (aB s.heap.size) (outW cI cB cP ad Z K ++ ((wa, .inl (cL, 11, .inr (.inl F))) :: R))) (hS : va_S (aB s.heap.size) s.heap H locs) (hCF : OF Z K) (hKL : va_K (dC, dI) vwCl [(cI, .int), (cB, .byte), (cP, .object RX0), (cL, .long)] s) (hcn : cells + (0 + (788 * z + 4224)) ≤ 600000 ∧ slots + 256 * (0 + (788 * z + 4224)) ≤ 7302250), W p l e room_1 s m #[Value.ref b] below meth c H locs cells slots (lw_Z below #[Value.ref b] s) (F0 m 609 ls []) := by
  obtain ⟨hx, hb, hr, hml, hown, hts, hlocks, hK, hAO, hEL⟩ := id hF
  have hE := hEL.1
  have hA : ∀ z : Nat, s.heap.size ≤ z → aB s.heap.size z := fun z hz => hz
  intro z k548 hk548 K F x3 x5 x7 x8 H locs Z cells slots ad R wa cL ls h hl hP hD hS hCF hKL hcn
  unfold fL_law_609 at h
  refine lv_iinc (v := x8 + 1) (lv' := [(8, .int (x8 + 1)), (0, .ref b), (2, .ref (ad 0 0)), (3, .long x3), (5, .int x5), (6, .ref wa), (7, .int x7)]) hx hb dL_law_609 hl (k := 6) rfl rfl (by decide) rfl (fun ls hl => ?_)
  refine lv_goto (tgt := 548) hx hb dL_law_612 (by decide) ?_
  exact hk548 h (lv_sub hl [1, 2, 3, 4, 5, 6, 0] rfl) hP hD hS hCF hKL (by omega)
set_option maxHeartbeats 16000000 in
set_option maxRecDepth 100000 in
theorem lw_t_676 (hF : LFX p s m meth c N b L xs dC dI cI cB cP adK adV) : ∀ {K : OT} {F : Nat → Int64}  {H : Heap} {locs : List Loc} {Z : Nat → Nat} {cells slots : Nat} {ad : Nat → Nat → Nat} {R : va_W} {wa : Nat} {cL : ClassId} {ls : Array Slot} (h : fL_law_676 N L xs  K F  = some 1) (hl : lv_has ls 11 []) (hP : va_P (dC, dI) vwCl (outW cI cB cP ad Z K ++ ((wa, .inl (cL, 11, .inr (.inl F))) :: R)) H) (hD : va_D (aB s.heap.size) (outW cI cB cP ad Z K ++ ((wa, .inl (cL, 11, .inr (.inl F))) :: R))) (hS : va_S (aB s.heap.size) s.heap H locs) (hCF : OF Z K) (hKL : va_K (dC, dI) vwCl [(cI, .int), (cB, .byte), (cP, .object RX0), (cL, .long)] s) (hcn : cells + (0) ≤ 600000 ∧ slots + 256 * (0) ≤ 7302250), W p l e room_1 s m #[Value.ref b] below meth c H locs cells slots (lw_Z below #[Value.ref b] s) (F0 m 676 ls []) := by
  obtain ⟨hx, hb, hr, hml, hown, hts, hlocks, hK, hAO, hEL⟩ := id hF
  have hE := hEL.1
  have hA : ∀ z : Nat, s.heap.size ≤ z → aB s.heap.size z := fun z hz => hz
  intro  K F H locs Z cells slots ad R wa cL ls h hl hP hD hS hCF hKL hcn
  unfold fL_law_676 at h
  refine lv_iconst (v := 0) hx hb dL_law_676 (by decide) ?_
  exact absurd (Option.some.inj h) (by decide)
set_option maxHeartbeats 16000000 in
set_option maxRecDepth 100000 in
theorem lw_t_734 (hF : LFX p s m meth c N b L xs dC dI cI cB cP adK adV) : ∀ {K : OT} {F : Nat → Int64} {y0 : Int32} {H : Heap} {locs : List Loc} {Z : Nat → Nat} {cells slots : Nat} {ad : Nat → Nat → Nat} {R : va_W} {wa : Nat} {cL : ClassId} {ls : Array Slot} (h : fL_law_734 N L xs  K F y0 = some 1) (hl : lv_has ls 11 []) (hP : va_P (dC, dI) vwCl (outW cI cB cP ad Z K ++ ((wa, .inl (cL, 11, .inr (.inl F))) :: R)) H) (hD : va_D (aB s.heap.size) (outW cI cB cP ad Z K ++ ((wa, .inl (cL, 11, .inr (.inl F))) :: R))) (hS : va_S (aB s.heap.size) s.heap H locs) (hCF : OF Z K) (hKL : va_K (dC, dI) vwCl [(cI, .int), (cB, .byte), (cP, .object RX0), (cL, .long)] s) (hcn : cells + (0) ≤ 600000 ∧ slots + 256 * (0) ≤ 7302250), W p l e room_1 s m #[Value.ref b] below meth c H locs cells slots (lw_Z below #[Value.ref b] s) (F0 m 734 ls [.int y0]) := by
  obtain ⟨hx, hb, hr, hml, hown, hts, hlocks, hK, hAO, hEL⟩ := id hF
  have hE := hEL.1
  have hA : ∀ z : Nat, s.heap.size ≤ z → aB s.heap.size z := fun z hz => hz
  intro  K F y0 H locs Z cells slots ad R wa cL ls h hl hP hD hS hCF hKL hcn
  unfold fL_law_734 at h
  obtain rfl : y0 = 1 := Option.some.inj h
  refine W.widen (k := 600000) (n := 7302250) (by omega) (by omega) ?_
  refine va_forget (fun z hz => hS.2.2 z hz) ?_
  exact W.base (lw_ret (Drawn.sameBut.refl s.drawn lw_cs) hx hb hr hlocks dL_law_734)
set_option maxHeartbeats 16000000 in
set_option maxRecDepth 100000 in
theorem lw_t_733 (hF : LFX p s m meth c N b L xs dC dI cI cB cP adK adV) : ∀ {K : OT} {F : Nat → Int64}  {H : Heap} {locs : List Loc} {Z : Nat → Nat} {cells slots : Nat} {ad : Nat → Nat → Nat} {R : va_W} {wa : Nat} {cL : ClassId} {ls : Array Slot} (h : fL_law_733 N L xs  K F  = some 1) (hl : lv_has ls 11 []) (hP : va_P (dC, dI) vwCl (outW cI cB cP ad Z K ++ ((wa, .inl (cL, 11, .inr (.inl F))) :: R)) H) (hD : va_D (aB s.heap.size) (outW cI cB cP ad Z K ++ ((wa, .inl (cL, 11, .inr (.inl F))) :: R))) (hS : va_S (aB s.heap.size) s.heap H locs) (hCF : OF Z K) (hKL : va_K (dC, dI) vwCl [(cI, .int), (cB, .byte), (cP, .object RX0), (cL, .long)] s) (hcn : cells + (0) ≤ 600000 ∧ slots + 256 * (0) ≤ 7302250), W p l e room_1 s m #[Value.ref b] below meth c H locs cells slots (lw_Z below #[Value.ref b] s) (F0 m 733 ls []) := by
  obtain ⟨hx, hb, hr, hml, hown, hts, hlocks, hK, hAO, hEL⟩ := id hF
  have hE := hEL.1
  have hA : ∀ z : Nat, s.heap.size ≤ z → aB s.heap.size z := fun z hz => hz
  intro  K F H locs Z cells slots ad R wa cL ls h hl hP hD hS hCF hKL hcn
  unfold fL_law_733 at h
  refine lv_iconst (v := 0) hx hb dL_law_733 (by decide) ?_
  exact lw_t_734 hF  h (lv_sub hl [] rfl) hP hD hS hCF hKL (by omega)
set_option maxHeartbeats 16000000 in
set_option maxRecDepth 100000 in
theorem lw_t_684 (hF : LFX p s m meth c N b L xs dC dI cI cB cP adK adV) : ∀ {K : OT} {F : Nat → Int64} {x3 : Int64} {x5 : Int32} {H : Heap} {locs : List Loc} {Z : Nat → Nat} {cells slots : Nat} {ad : Nat → Nat → Nat} {R : va_W} {wa : Nat} {cL : ClassId} {ls : Array Slot} (h : fL_law_684 N L xs  K F x3 x5 = some 1) (hl : lv_has ls 11 [(2, .ref (ad 0 0)), (3, .long x3), (5, .int x5)]) (hP : va_P (dC, dI) vwCl (outW cI cB cP ad Z K ++ ((wa, .inl (cL, 11, .inr (.inl F))) :: R)) H) (hD : va_D (aB s.heap.size) (outW cI cB cP ad Z K ++ ((wa, .inl (cL, 11, .inr (.inl F))) :: R))) (hS : va_S (aB s.heap.size) s.heap H locs) (hCF : OF Z K) (hKL : va_K (dC, dI) vwCl [(cI, .int), (cB, .byte), (cP, .object RX0), (cL, .long)] s) (hcn : cells + (768) ≤ 600000 ∧ slots + 256 * (768) ≤ 7302250), W p l e room_1 s m #[Value.ref b] below meth c H locs cells slots (lw_Z below #[Value.ref b] s) (F0 m 684 ls []) := by
  obtain ⟨hx, hb, hr, hml, hown, hts, hlocks, hK, hAO, hEL⟩ := id hF
  have hE := hEL.1
  have hA : ∀ z : Nat, s.heap.size ≤ z → aB s.heap.size z := fun z hz => hz
  intro  K F x3 x5 H locs Z cells slots ad R wa cL ls h hl hP hD hS hCF hKL hcn
  unfold fL_law_684 at h
  refine lv_aload_n hx hb dL_law_684 rfl (lv_at hl 0 rfl) ?_
  obtain ⟨v1, O2, hv1, h⟩ := bdO_some h
  refine call_BVE (As := []) (rest := []) ⟨hx, hb, hml, hown, hts⟩ (tX2_restore (l := l) (dC := dC) (dI := dI) (cI := cI) (cB := cB) (cP := cP) (ad := ad) (base := s.heap.size) (R := ((wa, .inl (cL, 11, .inr (.inl F))) :: R)) hv1 hCF) (cwV 0 hts gQ_X2_restore rfl rfl rfl (by decide +kernel) ⟨Nat.le_of_ble_eq_true rfl, Nat.le_of_ble_eq_true rfl⟩) hK hP hD hS hS.1 (fun U hU hW => Env_step rfl rfl hE hS hU hW) 0 rfl rfl (by rfl) hl.1 rfl (Nat.le_of_ble_eq_true rfl) dL_law_685 ⟨by show _ ≤ 600000; omega, by show _ ≤ 7302250; omega⟩ (fun H locs ws9 hW9 hP hD _ hS => ?_)
  obtain ⟨Z, rfl, hCF⟩ := hW9
  refine lv_iload hx hb dL_law_688 (lv_at hl 2 rfl) ?_
  refine lv_icmp_ne (tgt := 733) hx hb dL_law_690 (by decide) (fun c3 => ?_) (fun c3 => ?_)
  · replace h := if_n c3 h
    exact lw_t_733 hF  h (lv_sub hl [] rfl) hP hD hS hCF hKL (by omega)
  · replace h := if_p c3 h
    refine lv_aload_n hx hb dL_law_693 rfl (lv_at hl 0 rfl) ?_
    obtain ⟨v4, O5, hv4, h⟩ := bdO_some h
    refine call_BVE (As := []) (rest := []) ⟨hx, hb, hml, hown, hts⟩ (tX2_undo (l := l) (dC := dC) (dI := dI) (cI := cI) (cB := cB) (cP := cP) (ad := ad) (base := s.heap.size) (R := ((wa, .inl (cL, 11, .inr (.inl F))) :: R)) hv4 hCF) (cwV 0 hts gQ_X2_undo rfl rfl rfl (by decide +kernel) ⟨Nat.le_of_ble_eq_true rfl, Nat.le_of_ble_eq_true rfl⟩) hK hP hD hS hS.1 (fun U hU hW => Env_step rfl rfl hE hS hU hW) 0 rfl rfl (by rfl) hl.1 rfl (Nat.le_of_ble_eq_true rfl) dL_law_694 ⟨by show _ ≤ 600000; omega, by show _ ≤ 7302250; omega⟩ (fun H locs ws9 hW9 hP hD _ hS => ?_)
    obtain ⟨Z, rfl, hCF⟩ := hW9
    refine lv_bipush (v := (-4)) hx hb dL_law_697 (by decide) ?_
    refine lv_icmp_ne (tgt := 733) hx hb dL_law_699 (by decide) (fun c6 => ?_) (fun c6 => ?_)
    · replace h := if_n c6 h
      exact lw_t_733 hF  h (lv_sub hl [] rfl) hP hD hS hCF hKL (by omega)
    · replace h := if_p c6 h
      refine lv_aload_n hx hb dL_law_702 rfl (lv_at hl 0 rfl) ?_
      obtain ⟨v7, O8, hv7, h⟩ := bdL_some h
      refine call_LSE (As := [.ref (ad 0 0)]) (rest := []) ⟨hx, hb, hml, hown, hts⟩ (tL_asks (l := l) (dC := dC) (dI := dI) (cI := cI) (cB := cB) (cP := cP) (ad := ad) (base := s.heap.size) (b := b) (L := L) (xs := xs) (adK := adK) (adV := adV) (R := ((wa, .inl (cL, 11, .inr (.inl F))) :: R)) hv7 hCF) (va_cwS 1 hts gQ_L_asks rfl rfl rfl (by decide +kernel) ⟨Nat.le_of_ble_eq_true rfl, Nat.le_of_ble_eq_true rfl⟩) hK hP hD hS hS.1 (fun U hU hW => EnvL_step hEL hS hU hW) (by rfl) hl.1 rfl (Nat.le_of_ble_eq_true rfl) dL_law_703 ⟨by show _ ≤ 600000; omega, by show _ ≤ 7302250; omega⟩ (fun H locs ws9 hW9 hP hD _ hS => ?_)
      obtain ⟨Z, rfl, hCF⟩ := hW9
      refine lv_lload_n hx hb dL_law_706 rfl (lv_at hl 1 rfl) ?_
      refine W.lcmp hx hb dL_law_707 ?_
      refine lv_if_ne (tgt := 733) hx hb dL_law_708 (by decide) (fun c9 => ?_) (fun c9 => ?_)
      · replace h := if_n c9 h
        exact lw_t_733 hF  h (lv_sub hl [] rfl) hP hD hS hCF hKL (by omega)
      · replace h := if_p c9 h
        refine lv_aload_n hx hb dL_law_711 rfl (lv_at hl 0 rfl) ?_
        obtain ⟨v10, O11, hv10, h⟩ := bdO_some h
        refine call_BVE (As := []) (rest := []) ⟨hx, hb, hml, hown, hts⟩ (tX2_restore (l := l) (dC := dC) (dI := dI) (cI := cI) (cB := cB) (cP := cP) (ad := ad) (base := s.heap.size) (R := ((wa, .inl (cL, 11, .inr (.inl F))) :: R)) hv10 hCF) (cwV 0 hts gQ_X2_restore rfl rfl rfl (by decide +kernel) ⟨Nat.le_of_ble_eq_true rfl, Nat.le_of_ble_eq_true rfl⟩) hK hP hD hS hS.1 (fun U hU hW => Env_step rfl rfl hE hS hU hW) 0 rfl rfl (by rfl) hl.1 rfl (Nat.le_of_ble_eq_true rfl) dL_law_712 ⟨by show _ ≤ 600000; omega, by show _ ≤ 7302250; omega⟩ (fun H locs ws9 hW9 hP hD _ hS => ?_)
        obtain ⟨Z, rfl, hCF⟩ := hW9
        refine lv_iload hx hb dL_law_715 (lv_at hl 2 rfl) ?_
        refine lv_icmp_ne (tgt := 733) hx hb dL_law_717 (by decide) (fun c12 => ?_) (fun c12 => ?_)
        · replace h := if_n c12 h
          exact lw_t_733 hF  h (lv_sub hl [] rfl) hP hD hS hCF hKL (by omega)
        · replace h := if_p c12 h
          refine lv_aload_n hx hb dL_law_720 rfl (lv_at hl 0 rfl) ?_
          obtain ⟨v13, O14, hv13, h⟩ := bdL_some h
          refine call_LSE (As := [.ref (ad 0 0)]) (rest := []) ⟨hx, hb, hml, hown, hts⟩ (tL_asks (l := l) (dC := dC) (dI := dI) (cI := cI) (cB := cB) (cP := cP) (ad := ad) (base := s.heap.size) (b := b) (L := L) (xs := xs) (adK := adK) (adV := adV) (R := ((wa, .inl (cL, 11, .inr (.inl F))) :: R)) hv13 hCF) (va_cwS 1 hts gQ_L_asks rfl rfl rfl (by decide +kernel) ⟨Nat.le_of_ble_eq_true rfl, Nat.le_of_ble_eq_true rfl⟩) hK hP hD hS hS.1 (fun U hU hW => EnvL_step hEL hS hU hW) (by rfl) hl.1 rfl (Nat.le_of_ble_eq_true rfl) dL_law_721 ⟨by show _ ≤ 600000; omega, by show _ ≤ 7302250; omega⟩ (fun H locs ws9 hW9 hP hD _ hS => ?_)
          obtain ⟨Z, rfl, hCF⟩ := hW9
          refine lv_lload_n hx hb dL_law_724 rfl (lv_at hl 1 rfl) ?_
          refine W.lcmp hx hb dL_law_725 ?_
          refine lv_if_ne (tgt := 733) hx hb dL_law_726 (by decide) (fun c15 => ?_) (fun c15 => ?_)
          · replace h := if_n c15 h
            exact lw_t_733 hF  h (lv_sub hl [] rfl) hP hD hS hCF hKL (by omega)
          · replace h := if_p c15 h
            refine lv_iconst (v := 1) hx hb dL_law_729 (by decide) ?_
            refine lv_goto (tgt := 734) hx hb dL_law_730 (by decide) ?_
            exact lw_t_734 hF  h (lv_sub hl [] rfl) hP hD hS hCF hKL (by omega)
set_option maxHeartbeats 16000000 in
set_option maxRecDepth 100000 in
theorem lw_t_627 (hF : LFX p s m meth c N b L xs dC dI cI cB cP adK adV) : ∀ {n : Nat}, ∀ {K : OT} {F : Nat → Int64} {x3 : Int64} {x5 : Int32} {x7 : Int32} {x8 : Int32} {x9 : Int32} {H : Heap} {locs : List Loc} {Z : Nat → Nat} {cells slots : Nat} {ad : Nat → Nat → Nat} {R : va_W} {wa : Nat} {cL : ClassId} {ls : Array Slot} (h : fL_law_627 N L xs  n K F x3 x5 x7 x8 x9 = some 1) (hl : lv_has ls 11 [(2, .ref (ad 0 0)), (3, .long x3), (5, .int x5), (6, .ref wa), (7, .int x7), (8, .int x8), (9, .int x9)]) (hP : va_P (dC, dI) vwCl (outW cI cB cP ad Z K ++ ((wa, .inl (cL, 11, .inr (.inl F))) :: R)) H) (hD : va_D (aB s.heap.size) (outW cI cB cP ad Z K ++ ((wa, .inl (cL, 11, .inr (.inl F))) :: R))) (hS : va_S (aB s.heap.size) s.heap H locs) (hCF : OF Z K) (hKL : va_K (dC, dI) vwCl [(cI, .int), (cB, .byte), (cP, .object RX0), (cL, .long)] s) (hcn : cells + (384 * n + 768) ≤ 600000 ∧ slots + 256 * (384 * n + 768) ≤ 7302250), W p l e room_1 s m #[Value.ref b] below meth c H locs cells slots (lw_Z below #[Value.ref b] s) (F0 m 627 ls []) := by
  obtain ⟨hx, hb, hr, hml, hown, hts, hlocks, hK, hAO, hEL⟩ := id hF
  have hE := hEL.1
  have hA : ∀ z : Nat, s.heap.size ≤ z → aB s.heap.size z := fun z hz => hz
  intro  n
  induction n with
  | zero =>
    intro K F x3 x5 x7 x8 x9 H locs Z cells slots ad R wa cL ls h hl hP hD hS hCF hKL hcn
    unfold fL_law_627 at h
    cases h
  | succ n ih =>
    intro K F x3 x5 x7 x8 x9 H locs Z cells slots ad R wa cL ls h hl hP hD hS hCF hKL hcn
    unfold fL_law_627 at h
    refine lv_iload hx hb dL_law_627 (lv_at hl 6 rfl) ?_
    refine lv_iload hx hb dL_law_629 (lv_at hl 5 rfl) ?_
    refine lv_icmp_gt (tgt := 684) hx hb dL_law_631 (by decide) (fun c16 => ?_) (fun c16 => ?_)
    · replace h := if_p c16 h
      exact lw_t_684 hF  h (lv_sub hl [0, 1, 2] rfl) hP hD hS hCF hKL (by omega)
    · replace h := if_n c16 h
      refine lv_aload_n hx hb dL_law_634 rfl (lv_at hl 0 rfl) ?_
      obtain ⟨v17, O18, hv17, h⟩ := bdO_some h
      refine call_BVE (As := []) (rest := []) ⟨hx, hb, hml, hown, hts⟩ (tX2_undo (l := l) (dC := dC) (dI := dI) (cI := cI) (cB := cB) (cP := cP) (ad := ad) (base := s.heap.size) (R := ((wa, .inl (cL, 11, .inr (.inl F))) :: R)) hv17 hCF) (cwV 0 hts gQ_X2_undo rfl rfl rfl (by decide +kernel) ⟨Nat.le_of_ble_eq_true rfl, Nat.le_of_ble_eq_true rfl⟩) hK hP hD hS hS.1 (fun U hU hW => Env_step rfl rfl hE hS hU hW) 0 rfl rfl (by rfl) hl.1 rfl (Nat.le_of_ble_eq_true rfl) dL_law_635 ⟨by show _ ≤ 600000; omega, by show _ ≤ 7302250; omega⟩ (fun H locs ws9 hW9 hP hD _ hS => ?_)
      obtain ⟨Z, rfl, hCF⟩ := hW9
      refine lv_istore (lv' := [(10, .int v17), (2, .ref (ad 0 0)), (3, .long x3), (5, .int x5), (6, .ref wa), (7, .int x7), (8, .int x8), (9, .int x9)]) hx hb dL_law_638 hl (by decide) rfl (fun ls hl => ?_)
      refine lv_iload hx hb dL_law_640 (lv_at hl 0 rfl) ?_
      refine lv_iload hx hb dL_law_642 (lv_at hl 6 rfl) ?_
      refine lv_iload hx hb dL_law_644 (lv_at hl 7 rfl) ?_
      refine lv_isub hx hb dL_law_646 ?_
      refine lv_icmp_lt (tgt := 676) hx hb dL_law_647 (by decide) (fun c19 => ?_) (fun c19 => ?_)
      · replace h := if_p c19 h
        exact lw_t_676 hF  h (lv_sub hl [] rfl) hP hD hS hCF hKL (by omega)
      · replace h := if_n c19 h
        refine lv_iload hx hb dL_law_650 (lv_at hl 0 rfl) ?_
        refine lv_bipush (v := 8) hx hb dL_law_652 (by decide) ?_
        refine lv_iload hx hb dL_law_654 (lv_at hl 7 rfl) ?_
        refine lv_isub hx hb dL_law_656 ?_
        refine lv_icmp_gt (tgt := 676) hx hb dL_law_657 (by decide) (fun c20 => ?_) (fun c20 => ?_)
        · replace h := if_p c20 h
          exact lw_t_676 hF  h (lv_sub hl [] rfl) hP hD hS hCF hKL (by omega)
        · replace h := if_n c20 h
          refine lv_aload_n hx hb dL_law_660 rfl (lv_at hl 1 rfl) ?_
          obtain ⟨v21, O22, hv21, h⟩ := bdL_some h
          refine call_LSE (As := [.ref (ad 0 0)]) (rest := []) ⟨hx, hb, hml, hown, hts⟩ (tL_asks (l := l) (dC := dC) (dI := dI) (cI := cI) (cB := cB) (cP := cP) (ad := ad) (base := s.heap.size) (b := b) (L := L) (xs := xs) (adK := adK) (adV := adV) (R := ((wa, .inl (cL, 11, .inr (.inl F))) :: R)) hv21 hCF) (va_cwS 1 hts gQ_L_asks rfl rfl rfl (by decide +kernel) ⟨Nat.le_of_ble_eq_true rfl, Nat.le_of_ble_eq_true rfl⟩) hK hP hD hS hS.1 (fun U hU hW => EnvL_step hEL hS hU hW) (by rfl) hl.1 rfl (Nat.le_of_ble_eq_true rfl) dL_law_661 ⟨by show _ ≤ 600000; omega, by show _ ≤ 7302250; omega⟩ (fun H locs ws9 hW9 hP hD _ hS => ?_)
          obtain ⟨Z, rfl, hCF⟩ := hW9
          refine lv_aload hx hb dL_law_664 (lv_at hl 4 rfl) ?_
          refine lv_iload hx hb dL_law_666 (lv_at hl 5 rfl) ?_
          refine lv_iload hx hb dL_law_668 (lv_at hl 7 rfl) ?_
          refine lv_isub hx hb dL_law_670 ?_
          obtain ⟨hi24, v23, ev23, h⟩ := rdL_some h
          refine va_lald hx hb hKL (P_perm List.perm_middle hP) 0 3 rfl rfl hi24 dL_law_671 ?_
          rw [← ev23]
          refine W.lcmp hx hb dL_law_672 ?_
          refine lv_if_eq (tgt := 678) hx hb dL_law_673 (by decide) (fun c25 => ?_) (fun c25 => ?_)
          · replace h := if_p c25 h
            refine lv_iinc (v := x9 + 1) (lv' := [(9, .int (x9 + 1)), (10, .int v17), (2, .ref (ad 0 0)), (3, .long x3), (5, .int x5), (6, .ref wa), (7, .int x7), (8, .int x8)]) hx hb dL_law_678 hl (k := 7) rfl rfl (by decide) rfl (fun ls hl => ?_)
            refine lv_goto (tgt := 627) hx hb dL_law_681 (by decide) ?_
            exact ih h (lv_sub hl [2, 3, 4, 5, 6, 7, 0] rfl) hP hD hS hCF hKL (by omega)
          · replace h := if_n c25 h
            exact lw_t_676 hF  h (lv_sub hl [] rfl) hP hD hS hCF hKL (by omega)
set_option maxHeartbeats 16000000 in
set_option maxRecDepth 100000 in
theorem lw_t_615 (hF : LFX p s m meth c N b L xs dC dI cI cB cP adK adV) : ∀ {K : OT} {F : Nat → Int64} {x3 : Int64} {x5 : Int32} {x7 : Int32} {H : Heap} {locs : List Loc} {Z : Nat → Nat} {cells slots : Nat} {ad : Nat → Nat → Nat} {R : va_W} {wa : Nat} {cL : ClassId} {ls : Array Slot} (h : fL_law_615 N L xs  K F x3 x5 x7 = some 1) (hl : lv_has ls 11 [(2, .ref (ad 0 0)), (3, .long x3), (5, .int x5), (6, .ref wa), (7, .int x7)]) (hP : va_P (dC, dI) vwCl (outW cI cB cP ad Z K ++ ((wa, .inl (cL, 11, .inr (.inl F))) :: R)) H) (hD : va_D (aB s.heap.size) (outW cI cB cP ad Z K ++ ((wa, .inl (cL, 11, .inr (.inl F))) :: R))) (hS : va_S (aB s.heap.size) s.heap H locs) (hCF : OF Z K) (hKL : va_K (dC, dI) vwCl [(cI, .int), (cB, .byte), (cP, .object RX0), (cL, .long)] s) (hcn : cells + (4224) ≤ 600000 ∧ slots + 256 * (4224) ≤ 7302250), W p l e room_1 s m #[Value.ref b] below meth c H locs cells slots (lw_Z below #[Value.ref b] s) (F0 m 615 ls []) := by
  obtain ⟨hx, hb, hr, hml, hown, hts, hlocks, hK, hAO, hEL⟩ := id hF
  have hE := hEL.1
  have hA : ∀ z : Nat, s.heap.size ≤ z → aB s.heap.size z := fun z hz => hz
  intro  K F x3 x5 x7 H locs Z cells slots ad R wa cL ls h hl hP hD hS hCF hKL hcn
  unfold fL_law_615 at h
  refine lv_bipush (v := 8) hx hb dL_law_615 (by decide) ?_
  refine lv_iload hx hb dL_law_617 (lv_at hl 4 rfl) ?_
  refine va_mmin hx hb (hml.trans hl.1.symm) hown (hts (.methodLink RL 174 Lib.Math.min.name) (by decide +kernel)) (hts (.static Lib.Math.min.name) (by decide +kernel)) (hts (.initialized "java/lang/Math") (by decide +kernel)) (hts (.code Lib.Math.min.name Lib.Math.min.code 2 (some .int)) (by decide +kernel)) (Nat.le_of_ble_eq_true rfl) (Nat.le_of_ble_eq_true rfl) (by show _ ≤ 600000; omega) (by show _ ≤ 7302250; omega) dL_law_619 ?_
  refine lv_istore (lv' := [(8, .int ((if x7 < 8 then x7 else 8))), (2, .ref (ad 0 0)), (3, .long x3), (5, .int x5), (6, .ref wa), (7, .int x7)]) hx hb dL_law_622 hl (by decide) rfl (fun ls hl => ?_)
  refine lv_iconst (v := 1) hx hb dL_law_624 (by decide) ?_
  refine lv_istore (lv' := [(9, .int 1), (8, .int ((if x7 < 8 then x7 else 8))), (2, .ref (ad 0 0)), (3, .long x3), (5, .int x5), (6, .ref wa), (7, .int x7)]) hx hb dL_law_625 hl (by decide) rfl (fun ls hl => ?_)
  exact lw_t_627 hF  h (lv_sub hl [2, 3, 4, 5, 6, 1, 0] rfl) hP hD hS hCF hKL (by omega)
set_option maxHeartbeats 16000000 in
set_option maxRecDepth 100000 in
theorem lw_t_548 (hF : LFX p s m meth c N b L xs dC dI cI cB cP adK adV) : ∀ {n : Nat}, ∀ {K : OT} {F : Nat → Int64} {x3 : Int64} {x5 : Int32} {x7 : Int32} {x8 : Int32} {H : Heap} {locs : List Loc} {Z : Nat → Nat} {cells slots : Nat} {ad : Nat → Nat → Nat} {R : va_W} {wa : Nat} {cL : ClassId} {ls : Array Slot} (h : fL_law_548 N L xs  n K F x3 x5 x7 x8 = some 1) (hl : lv_has ls 11 [(0, .ref b), (2, .ref (ad 0 0)), (3, .long x3), (5, .int x5), (6, .ref wa), (7, .int x7), (8, .int x8)]) (hP : va_P (dC, dI) vwCl (outW cI cB cP ad Z K ++ ((wa, .inl (cL, 11, .inr (.inl F))) :: R)) H) (hD : va_D (aB s.heap.size) (outW cI cB cP ad Z K ++ ((wa, .inl (cL, 11, .inr (.inl F))) :: R))) (hS : va_S (aB s.heap.size) s.heap H locs) (hCF : OF Z K) (hKL : va_K (dC, dI) vwCl [(cI, .int), (cB, .byte), (cP, .object RX0), (cL, .long)] s) (hcn : cells + (788 * n + 4224) ≤ 600000 ∧ slots + 256 * (788 * n + 4224) ≤ 7302250), W p l e room_1 s m #[Value.ref b] below meth c H locs cells slots (lw_Z below #[Value.ref b] s) (F0 m 548 ls []) := by
  obtain ⟨hx, hb, hr, hml, hown, hts, hlocks, hK, hAO, hEL⟩ := id hF
  have hE := hEL.1
  have hA : ∀ z : Nat, s.heap.size ≤ z → aB s.heap.size z := fun z hz => hz
  intro  n
  induction n with
  | zero =>
    intro K F x3 x5 x7 x8 H locs Z cells slots ad R wa cL ls h hl hP hD hS hCF hKL hcn
    unfold fL_law_548 at h
    cases h
  | succ n ih =>
    intro K F x3 x5 x7 x8 H locs Z cells slots ad R wa cL ls h hl hP hD hS hCF hKL hcn
    unfold fL_law_548 at h
    refine lv_iload hx hb dL_law_548 (lv_at hl 6 rfl) ?_
    refine lv_bipush (v := 10) hx hb dL_law_550 (by decide) ?_
    refine lv_icmp_ge (tgt := 615) hx hb dL_law_552 (by decide) (fun c26 => ?_) (fun c26 => ?_)
    · replace h := if_p c26 h
      exact lw_t_615 hF  h (lv_sub hl [1, 2, 3, 4, 5] rfl) hP hD hS hCF hKL (by omega)
    · replace h := if_n c26 h
      refine lv_aload_n hx hb dL_law_555 rfl (lv_at hl 1 rfl) ?_
      obtain ⟨v27, O28, hv27, h⟩ := bdL_some h
      refine call_LSE (As := [.ref (ad 0 0)]) (rest := []) ⟨hx, hb, hml, hown, hts⟩ (tL_asks (l := l) (dC := dC) (dI := dI) (cI := cI) (cB := cB) (cP := cP) (ad := ad) (base := s.heap.size) (b := b) (L := L) (xs := xs) (adK := adK) (adV := adV) (R := ((wa, .inl (cL, 11, .inr (.inl F))) :: R)) hv27 hCF) (va_cwS 1 hts gQ_L_asks rfl rfl rfl (by decide +kernel) ⟨Nat.le_of_ble_eq_true rfl, Nat.le_of_ble_eq_true rfl⟩) hK hP hD hS hS.1 (fun U hU hW => EnvL_step hEL hS hU hW) (by rfl) hl.1 rfl (Nat.le_of_ble_eq_true rfl) dL_law_556 ⟨by show _ ≤ 600000; omega, by show _ ≤ 7302250; omega⟩ (fun H locs ws9 hW9 hP hD _ hS => ?_)
      obtain ⟨Z, rfl, hCF⟩ := hW9
      refine lv_lstore (lv' := [(9, .long v27), (0, .ref b), (2, .ref (ad 0 0)), (3, .long x3), (5, .int x5), (6, .ref wa), (7, .int x7), (8, .int x8)]) hx hb dL_law_559 hl (by decide) rfl (fun ls hl => ?_)
      refine lv_aload_n hx hb dL_law_561 rfl (lv_at hl 2 rfl) ?_
      refine lv_aload_n hx hb dL_law_562 rfl (lv_at hl 1 rfl) ?_
      refine lv_bipush (v := 20) hx hb dL_law_563 (by decide) ?_
      refine lv_iload hx hb dL_law_565 (lv_at hl 7 rfl) ?_
      refine lv_iadd hx hb dL_law_567 ?_
      obtain ⟨v29, hv29, h⟩ := bdP_some h
      refine call_LXP (As := [.ref b, .int (20 + x8)]) (rest := [.ref (ad 0 0)]) ⟨hx, hb, hml, hown, hts⟩ (tL_at (l := l) hv29) (va_cwS 2 hts gQ_L_at rfl rfl rfl (by decide +kernel) ⟨Nat.le_of_ble_eq_true rfl, Nat.le_of_ble_eq_true rfl⟩) (fun U hU hW => (EnvL_step hEL hS hU hW).2.1.2) (by rfl) hl.1 rfl (Nat.le_of_ble_eq_true rfl) dL_law_568 ⟨by show _ ≤ 600000; omega, by show _ ≤ 7302250; omega⟩ ?_
      refine lv_iload hx hb dL_law_571 (lv_at hl 7 rfl) ?_
      refine lv_sipush (v := 977) hx hb dL_law_573 (by decide) ?_
      refine lv_imul hx hb dL_law_576 ?_
      refine lv_ixor hx hb dL_law_577 ?_
      obtain ⟨v30, O31, hv30, h⟩ := bdO_some h
      refine call_LSE (As := [.ref (ad 0 0), .int (v29 ^^^ (x8 * 977))]) (rest := []) ⟨hx, hb, hml, hown, hts⟩ (tL_changes (l := l) (dC := dC) (dI := dI) (cI := cI) (cB := cB) (cP := cP) (ad := ad) (base := s.heap.size) (b := b) (L := L) (xs := xs) (adK := adK) (adV := adV) (R := ((wa, .inl (cL, 11, .inr (.inl F))) :: R)) hv30 hCF) (va_cwS 2 hts gQ_L_changes rfl rfl rfl (by decide +kernel) ⟨Nat.le_of_ble_eq_true rfl, Nat.le_of_ble_eq_true rfl⟩) hK hP hD hS hS.1 (fun U hU hW => EnvL_step hEL hS hU hW) (by rfl) hl.1 rfl (Nat.le_of_ble_eq_true rfl) dL_law_578 ⟨by show _ ≤ 600000; omega, by show _ ≤ 7302250; omega⟩ (fun H locs ws9 hW9 hP hD _ hS => ?_)
      obtain ⟨Z, rfl, hCF⟩ := hW9
      refine lv_if_eq (tgt := 597) hx hb dL_law_581 (by decide) (fun c32 => ?_) (fun c32 => ?_)
      · replace h := if_p c32 h
        refine lv_aload_n hx hb dL_law_597 rfl (lv_at hl 2 rfl) ?_
        obtain ⟨v33, O34, hv33, h⟩ := bdL_some h
        refine call_LSE (As := [.ref (ad 0 0)]) (rest := []) ⟨hx, hb, hml, hown, hts⟩ (tL_asks (l := l) (dC := dC) (dI := dI) (cI := cI) (cB := cB) (cP := cP) (ad := ad) (base := s.heap.size) (b := b) (L := L) (xs := xs) (adK := adK) (adV := adV) (R := ((wa, .inl (cL, 11, .inr (.inl F))) :: R)) hv33 hCF) (va_cwS 1 hts gQ_L_asks rfl rfl rfl (by decide +kernel) ⟨Nat.le_of_ble_eq_true rfl, Nat.le_of_ble_eq_true rfl⟩) hK hP hD hS hS.1 (fun U hU hW => EnvL_step hEL hS hU hW) (by rfl) hl.1 rfl (Nat.le_of_ble_eq_true rfl) dL_law_598 ⟨by show _ ≤ 600000; omega, by show _ ≤ 7302250; omega⟩ (fun H locs ws9 hW9 hP hD _ hS => ?_)
        obtain ⟨Z, rfl, hCF⟩ := hW9
        refine lv_lload hx hb dL_law_601 (lv_at hl 0 rfl) ?_
        refine W.lcmp hx hb dL_law_603 ?_
        refine lv_if_eq (tgt := 609) hx hb dL_law_604 (by decide) (fun c35 => ?_) (fun c35 => ?_)
        · replace h := if_p c35 h
          exact lw_t_609 hF @ih h (lv_sub hl [1, 2, 3, 4, 5, 6, 7] rfl) hP hD hS hCF hKL (by omega)
        · replace h := if_n c35 h
          refine lv_iconst (v := 0) hx hb dL_law_607 (by decide) ?_
          exact absurd (Option.some.inj h) (by decide)
      · replace h := if_n c32 h
        refine lv_aload hx hb dL_law_584 (lv_at hl 5 rfl) ?_
        refine lv_iload hx hb dL_law_586 (lv_at hl 6 rfl) ?_
        refine lv_iinc (v := x7 + 1) (lv' := [(7, .int (x7 + 1)), (9, .long v27), (0, .ref b), (2, .ref (ad 0 0)), (3, .long x3), (5, .int x5), (6, .ref wa), (8, .int x8)]) hx hb dL_law_588 hl (k := 6) rfl rfl (by decide) rfl (fun ls hl => ?_)
        refine lv_lload hx hb dL_law_591 (lv_at hl 1 rfl) ?_
        obtain ⟨hi37, F36, eF36, h⟩ := wrL_some h
        refine va_last hx hb hKL (P_perm List.perm_middle hP) (D_perm List.perm_middle hD) hS 0 3 rfl rfl hi37 dL_law_593 (fun H locs hP hD hS => ?_)
        have hP : va_P (dC, dI) vwCl (outW cI cB cP ad Z O31 ++ ((wa, .inl (cL, 11, .inr (.inl F36))) :: R)) H := P_perm List.perm_middle.symm (by rw [eF36]; exact hP)
        have hD : va_D (aB s.heap.size) (outW cI cB cP ad Z O31 ++ ((wa, .inl (cL, 11, .inr (.inl F36))) :: R)) := D_perm List.perm_middle.symm (by rw [eF36]; exact hD)
        refine lv_goto (tgt := 609) hx hb dL_law_594 (by decide) ?_
        exact lw_t_609 hF @ih h (lv_sub hl [2, 3, 4, 5, 6, 0, 7] rfl) hP hD hS hCF hKL (by omega)
set_option maxHeartbeats 16000000 in
set_option maxRecDepth 100000 in
theorem lw_t_467 (hF : LFX p s m meth c N b L xs dC dI cI cB cP adK adV) : ∀ {K : OT}  {H : Heap} {locs : List Loc} {Z : Nat → Nat} {cells slots : Nat} {ad : Nat → Nat → Nat} {R : va_W} {ls : Array Slot} (h : fL_law_467 N L xs  K  = some 1) (hl : lv_has ls 11 [(0, .ref b)]) (hP : va_P (dC, dI) vwCl (outW cI cB cP ad Z K ++ R) H) (hD : va_D (aB s.heap.size) (outW cI cB cP ad Z K ++ R)) (hS : va_S (aB s.heap.size) s.heap H locs) (hCF : OF Z K) (hcn : cells + (15084) ≤ 600000 ∧ slots + 256 * (15084) ≤ 7302250), W p l e room_1 s m #[Value.ref b] below meth c H locs cells slots (lw_Z below #[Value.ref b] s) (F0 m 467 ls []) := by
  obtain ⟨hx, hb, hr, hml, hown, hts, hlocks, hK, hAO, hEL⟩ := id hF
  have hE := hEL.1
  have hA : ∀ z : Nat, s.heap.size ≤ z → aB s.heap.size z := fun z hz => hz
  intro  K H locs Z cells slots ad R ls h hl hP hD hS hCF hcn
  unfold fL_law_467 at h
  refine va_new (ci := 3) (fs := [.null, .null, .null, .null, .int 0, .null, .int 0, .int 0, .null, .null, .int 0, .int 0, .int 0, .int 0]) (C := RX2) (T := TX2) (N := 14) hx hb hts inlX2 tyX2 tyX2_ok hown (hts (.classLink RL 18 RX2) (by decide +kernel)) (hts (.instantiable RX2 14) (by decide +kernel)) (hts (.initialized RX2) (by decide +kernel)) hK hP hD hS hA rfl dfX2 (by show _ ≤ 600000; omega) (by show _ ≤ 7302250; omega) dL_law_467 (fun ox H hP hD hS => ?_)
  obtain ⟨R, hRR⟩ : ∃ R1, R1 = outW cI cB cP ad Z K ++ R := ⟨_, rfl⟩
  rw [← hRR] at hP hD
  have hP := P_perm (List.perm_append_singleton _ _) hP
  have hD := D_perm (List.perm_append_singleton _ _) hD
  refine lv_dup hx hb dL_law_470 rfl ?_
  refine call_IBOE (As := []) (rest := [.ref ox]) ⟨hx, hb, hml, hown, hts⟩ (tX2_init (l := l) (dC := dC) (dI := dI) (cI := cI) (cB := cB) (cP := cP) (ob := ox) (base := s.heap.size) (R := R)) (cwI 0 hts gQ_X2_init rfl rfl rfl (hts (.initialized RX2) (by decide +kernel)) (hts (.methodLink RL 152 yX2_init) (by decide +kernel)) (hts (.instanceMethod yX2_init) (by decide +kernel)) rfl (by decide +kernel) ⟨Nat.le_of_ble_eq_true rfl, Nat.le_of_ble_eq_true rfl⟩) hAO hK hP hD hS hS.1 (fun U hU hW => Env_step rfl rfl hE hS hU hW) (by rfl) hl.1 rfl (Nat.le_of_ble_eq_true rfl) dL_law_471 ⟨by show _ ≤ 600000; omega, by show _ ≤ 7302250; omega⟩ (fun H locs ws9 hW9 hP hD _ hS => ?_)
  obtain ⟨ad, Z, h0, rfl, hCF⟩ := hW9
  have hP1 := hP
  have hD1 := hD
  have hS1 := hS
  subst h0
  have hP := hP1
  have hD := hD1
  have hS := hS1
  refine lv_astore_n (lv' := [(2, .ref (ad 0 0)), (0, .ref b)]) hx hb dL_law_474 rfl hl (by decide) rfl (fun ls hl => ?_)
  refine lv_aload_n hx hb dL_law_475 rfl (lv_at hl 0 rfl) ?_
  refine lv_aload_n hx hb dL_law_476 rfl (lv_at hl 1 rfl) ?_
  obtain ⟨v38, O39, hv38, h⟩ := bdO_some h
  refine call_LSE (As := [.ref (ad 0 0), .ref b]) (rest := []) ⟨hx, hb, hml, hown, hts⟩ (tL_makes (l := l) (dC := dC) (dI := dI) (cI := cI) (cB := cB) (cP := cP) (ad := ad) (base := s.heap.size) (b := b) (L := L) (xs := xs) (adK := adK) (adV := adV) (R := R) hv38 hCF) (va_cwS 2 hts gQ_L_makes rfl rfl rfl (by decide +kernel) ⟨Nat.le_of_ble_eq_true rfl, Nat.le_of_ble_eq_true rfl⟩) hK hP hD hS hS.1 (fun U hU hW => EnvL_step hEL hS hU hW) (by rfl) hl.1 rfl (Nat.le_of_ble_eq_true rfl) dL_law_477 ⟨by show _ ≤ 600000; omega, by show _ ≤ 7302250; omega⟩ (fun H locs ws9 hW9 hP hD _ hS => ?_)
  obtain ⟨Z, rfl, hCF⟩ := hW9
  refine lv_if_ne (tgt := 485) hx hb dL_law_480 (by decide) (fun c40 => ?_) (fun c40 => ?_)
  · replace h := if_n c40 h
    refine lv_aload_n hx hb dL_law_485 rfl (lv_at hl 0 rfl) ?_
    obtain ⟨v41, O42, hv41, h⟩ := bdL_some h
    refine call_LSE (As := [.ref (ad 0 0)]) (rest := []) ⟨hx, hb, hml, hown, hts⟩ (tL_asks (l := l) (dC := dC) (dI := dI) (cI := cI) (cB := cB) (cP := cP) (ad := ad) (base := s.heap.size) (b := b) (L := L) (xs := xs) (adK := adK) (adV := adV) (R := R) hv41 hCF) (va_cwS 1 hts gQ_L_asks rfl rfl rfl (by decide +kernel) ⟨Nat.le_of_ble_eq_true rfl, Nat.le_of_ble_eq_true rfl⟩) hK hP hD hS hS.1 (fun U hU hW => EnvL_step hEL hS hU hW) (by rfl) hl.1 rfl (Nat.le_of_ble_eq_true rfl) dL_law_486 ⟨by show _ ≤ 600000; omega, by show _ ≤ 7302250; omega⟩ (fun H locs ws9 hW9 hP hD _ hS => ?_)
    obtain ⟨Z, rfl, hCF⟩ := hW9
    refine lv_lstore_n (lv' := [(3, .long v41), (2, .ref (ad 0 0)), (0, .ref b)]) hx hb dL_law_489 rfl hl (by decide) rfl (fun ls hl => ?_)
    refine lv_aload_n hx hb dL_law_490 rfl (lv_at hl 1 rfl) ?_
    obtain ⟨v43, O44, hv43, h⟩ := bdL_some h
    refine call_LSE (As := [.ref (ad 0 0)]) (rest := []) ⟨hx, hb, hml, hown, hts⟩ (tL_asks (l := l) (dC := dC) (dI := dI) (cI := cI) (cB := cB) (cP := cP) (ad := ad) (base := s.heap.size) (b := b) (L := L) (xs := xs) (adK := adK) (adV := adV) (R := R) hv43 hCF) (va_cwS 1 hts gQ_L_asks rfl rfl rfl (by decide +kernel) ⟨Nat.le_of_ble_eq_true rfl, Nat.le_of_ble_eq_true rfl⟩) hK hP hD hS hS.1 (fun U hU hW => EnvL_step hEL hS hU hW) (by rfl) hl.1 rfl (Nat.le_of_ble_eq_true rfl) dL_law_491 ⟨by show _ ≤ 600000; omega, by show _ ≤ 7302250; omega⟩ (fun H locs ws9 hW9 hP hD _ hS => ?_)
    obtain ⟨Z, rfl, hCF⟩ := hW9
    refine lv_lload_n hx hb dL_law_494 rfl (lv_at hl 0 rfl) ?_
    refine W.lcmp hx hb dL_law_495 ?_
    refine lv_if_ne (tgt := 506) hx hb dL_law_496 (by decide) (fun c45 => ?_) (fun c45 => ?_)
    · replace h := if_n c45 h
      exact lw_t_506 hF  h (lv_sub hl [] rfl) hP hD hS hCF ⟨by omega, by omega⟩
    · replace h := if_p c45 h
      refine lv_aload_n hx hb dL_law_499 rfl (lv_at hl 1 rfl) ?_
      obtain ⟨v46, O47, hv46, h⟩ := bdO_some h
      refine call_LSE (As := [.ref (ad 0 0)]) (rest := []) ⟨hx, hb, hml, hown, hts⟩ (tL_refused (l := l) (dC := dC) (dI := dI) (cI := cI) (cB := cB) (cP := cP) (ad := ad) (base := s.heap.size) (b := b) (L := L) (xs := xs) (adK := adK) (adV := adV) (R := R) hv46 hCF) (va_cwS 1 hts gQ_L_refused rfl rfl rfl (by decide +kernel) ⟨Nat.le_of_ble_eq_true rfl, Nat.le_of_ble_eq_true rfl⟩) hK hP hD hS hS.1 (fun U hU hW => EnvL_step hEL hS hU hW) (by rfl) hl.1 rfl (Nat.le_of_ble_eq_true rfl) dL_law_500 ⟨by show _ ≤ 600000; omega, by show _ ≤ 7302250; omega⟩ (fun H locs ws9 hW9 hP hD _ hS => ?_)
      obtain ⟨Z, rfl, hCF⟩ := hW9
      refine lv_if_ne (tgt := 508) hx hb dL_law_503 (by decide) (fun c48 => ?_) (fun c48 => ?_)
      · replace h := if_n c48 h
        refine lv_aload_n hx hb dL_law_508 rfl (lv_at hl 1 rfl) ?_
        obtain ⟨v49, O50, hv49, h⟩ := bdO_some h
        refine call_BVE (As := []) (rest := []) ⟨hx, hb, hml, hown, hts⟩ (tX2_save (l := l) (dC := dC) (dI := dI) (cI := cI) (cB := cB) (cP := cP) (ad := ad) (base := s.heap.size) (R := R) hv49 hCF) (cwV 0 hts gQ_X2_save rfl rfl rfl (by decide +kernel) ⟨Nat.le_of_ble_eq_true rfl, Nat.le_of_ble_eq_true rfl⟩) hK hP hD hS hS.1 (fun U hU hW => Env_step rfl rfl hE hS hU hW) 0 rfl rfl (by rfl) hl.1 rfl (Nat.le_of_ble_eq_true rfl) dL_law_509 ⟨by show _ ≤ 600000; omega, by show _ ≤ 7302250; omega⟩ (fun H locs ws9 hW9 hP hD _ hS => ?_)
        obtain ⟨Z, rfl, hCF⟩ := hW9
        refine lv_istore (lv' := [(5, .int v49), (3, .long v41), (2, .ref (ad 0 0)), (0, .ref b)]) hx hb dL_law_512 hl (by decide) rfl (fun ls hl => ?_)
        refine lv_iload hx hb dL_law_514 (lv_at hl 0 rfl) ?_
        refine lv_aload_n hx hb dL_law_516 rfl (lv_at hl 2 rfl) ?_
        refine lv_bipush (v := 10) hx hb dL_law_517 (by decide) ?_
        obtain ⟨v51, hv51, h⟩ := bdP_some h
        refine call_BVP (As := [.int 10]) (rest := [.int v49]) ⟨hx, hb, hml, hown, hts⟩ (tX2_account (l := l) (dC := dC) (dI := dI) (cI := cI) (cB := cB) (cP := cP) (ad := ad) (base := s.heap.size) (R := R) hv51 hCF) (cwV 1 hts gQ_X2_account rfl rfl rfl (by decide +kernel) ⟨Nat.le_of_ble_eq_true rfl, Nat.le_of_ble_eq_true rfl⟩) hK hP hD hS.1 (fun U hU hW => Env_step rfl rfl hE hS hU hW) 0 rfl rfl (by rfl) hl.1 rfl (Nat.le_of_ble_eq_true rfl) dL_law_519 ⟨by show _ ≤ 600000; omega, by show _ ≤ 7302250; omega⟩ ?_
        refine lv_icmp_ne (tgt := 534) hx hb dL_law_522 (by decide) (fun c52 => ?_) (fun c52 => ?_)
        · replace h := if_n c52 h
          exact lw_t_534 hF  h (lv_sub hl [] rfl) hP hD hS hCF ⟨by omega, by omega⟩
        · replace h := if_p c52 h
          refine lv_aload_n hx hb dL_law_525 rfl (lv_at hl 2 rfl) ?_
          obtain ⟨v53, O54, hv53, h⟩ := bdL_some h
          refine call_LSE (As := [.ref (ad 0 0)]) (rest := []) ⟨hx, hb, hml, hown, hts⟩ (tL_asks (l := l) (dC := dC) (dI := dI) (cI := cI) (cB := cB) (cP := cP) (ad := ad) (base := s.heap.size) (b := b) (L := L) (xs := xs) (adK := adK) (adV := adV) (R := R) hv53 hCF) (va_cwS 1 hts gQ_L_asks rfl rfl rfl (by decide +kernel) ⟨Nat.le_of_ble_eq_true rfl, Nat.le_of_ble_eq_true rfl⟩) hK hP hD hS hS.1 (fun U hU hW => EnvL_step hEL hS hU hW) (by rfl) hl.1 rfl (Nat.le_of_ble_eq_true rfl) dL_law_526 ⟨by show _ ≤ 600000; omega, by show _ ≤ 7302250; omega⟩ (fun H locs ws9 hW9 hP hD _ hS => ?_)
          obtain ⟨Z, rfl, hCF⟩ := hW9
          refine lv_lload_n hx hb dL_law_529 rfl (lv_at hl 1 rfl) ?_
          refine W.lcmp hx hb dL_law_530 ?_
          refine lv_if_eq (tgt := 536) hx hb dL_law_531 (by decide) (fun c55 => ?_) (fun c55 => ?_)
          · replace h := if_p c55 h
            refine lv_bipush (v := 11) hx hb dL_law_536 (by decide) ?_
            refine va_newa (atype := .long) (ty := .long) (N' := 11) (a0 := (11, .inr (.inl (fun _ => 0)))) hx hb (hts (.arrayClass .long) (by decide +kernel)) rfl hK hP hD hS hA (fun cA => rfl) (by decide) (by decide) (by decide) (by show _ ≤ 600000; omega) (by show _ ≤ 7302250; omega) dL_law_538 (fun wa cL H hKL hP hD hS => ?_)
            have hpw : ((outW cI cB cP ad Z O54 ++ R) ++ [(wa, .inl (cL, 11, .inr (.inl (fun _ => (0 : Int64)))))] : va_W).Perm (outW cI cB cP ad Z O54 ++ ((wa, .inl (cL, 11, .inr (.inl (fun _ => (0 : Int64))))) :: R)) := (List.perm_append_singleton _ _).trans List.perm_middle.symm
            have hP := P_perm hpw hP
            have hD := D_perm hpw hD
            have hKL : va_K (dC, dI) vwCl [(cI, .int), (cB, .byte), (cP, .object RX0), (cL, .long)] s := hKL
            refine lv_astore (lv' := [(6, .ref wa), (5, .int v49), (3, .long v41), (2, .ref (ad 0 0)), (0, .ref b)]) hx hb dL_law_540 hl (by decide) rfl (fun ls hl => ?_)
            refine lv_iconst (v := 0) hx hb dL_law_542 (by decide) ?_
            refine lv_istore (lv' := [(7, .int 0), (6, .ref wa), (5, .int v49), (3, .long v41), (2, .ref (ad 0 0)), (0, .ref b)]) hx hb dL_law_543 hl (by decide) rfl (fun ls hl => ?_)
            refine lv_iconst (v := 0) hx hb dL_law_545 (by decide) ?_
            refine lv_istore (lv' := [(8, .int 0), (7, .int 0), (6, .ref wa), (5, .int v49), (3, .long v41), (2, .ref (ad 0 0)), (0, .ref b)]) hx hb dL_law_546 hl (by decide) rfl (fun ls hl => ?_)
            exact lw_t_548 hF  h (lv_sub hl [6, 5, 4, 3, 2, 1, 0] rfl) hP hD hS hCF hKL (by omega)
          · replace h := if_n c55 h
            exact lw_t_534 hF  h (lv_sub hl [] rfl) hP hD hS hCF ⟨by omega, by omega⟩
      · replace h := if_p c48 h
        exact lw_t_506 hF  h (lv_sub hl [] rfl) hP hD hS hCF ⟨by omega, by omega⟩
  · replace h := if_p c40 h
    refine lv_iconst (v := 0) hx hb dL_law_483 (by decide) ?_
    exact absurd (Option.some.inj h) (by decide)
def fL_law_250c (N : Nat) (L : Nat) (xs : Nat → Int32) (K : OT) : Option Int32 := bdO (mX2_undo N K ) (fun v91 O92 => (if v91 = 2 then bdO (mX2_undo N O92 ) (fun v94 O95 => (if v94 = 1 then bdO (mX2_undo N O95 ) (fun v97 O98 => (if v97 = 0 then bdP (mX2_campOf N O98 0 4) (fun v100 => (if v100 = 5 then bdO (mX2_undo N O98 ) (fun v102 O103 => (if v102 = ((-4)) then bdO (mX2_restore N O103 ) (fun v105 O106 => (if v105 = 0 then bdP (mX2_account N O106 10) (fun v108 => (if v108 = 0 then bdP (mX2_captain N O106 ) (fun v110 => (if v110 = ((-4)) then bdO (mX2_undo N O106 ) (fun v112 O113 => (if v112 = ((-4)) then fL_law_467 N L xs  O113  else fL_law_465 N L xs  O113 )) else fL_law_465 N L xs  O106 )) else fL_law_465 N L xs  O106 )) else fL_law_465 N L xs  O106 )) else fL_law_429 N L xs  O103 )) else fL_law_429 N L xs  O98 )) else fL_law_429 N L xs  O98 )) else fL_law_429 N L xs  O95 )) else fL_law_429 N L xs  O92 ))
set_option maxHeartbeats 16000000 in
set_option maxRecDepth 100000 in
theorem lw_t_250c (hF : LFX p s m meth c N b L xs dC dI cI cB cP adK adV) : ∀ {K : OT}  {H : Heap} {locs : List Loc} {Z : Nat → Nat} {cells slots : Nat} {ad : Nat → Nat → Nat} {R : va_W} {ls : Array Slot} (h : fL_law_250c N L xs K  = some 1) (hl : lv_has ls 11 [(0, .ref b), (1, .ref (ad 0 0))]) (hP : va_P (dC, dI) vwCl (outW cI cB cP ad Z K ++ R) H) (hD : va_D (aB s.heap.size) (outW cI cB cP ad Z K ++ R)) (hS : va_S (aB s.heap.size) s.heap H locs) (hCF : OF Z K) (hcn : cells + (15084) ≤ 600000 ∧ slots + 256 * (15084) ≤ 7302250), W p l e room_1 s m #[Value.ref b] below meth c H locs cells slots (lw_Z below #[Value.ref b] s) (F0 m 387 ls []) := by
  obtain ⟨hx, hb, hr, hml, hown, hts, hlocks, hK, hAO, hEL⟩ := id hF
  have hE := hEL.1
  have hA : ∀ z : Nat, s.heap.size ≤ z → aB s.heap.size z := fun z hz => hz
  intro  K H locs Z cells slots ad R ls h hl hP hD hS hCF hcn
  unfold fL_law_250c at h
  refine lv_aload_n hx hb dL_law_387 rfl (lv_at hl 1 rfl) ?_
  obtain ⟨v91, O92, hv91, h⟩ := bdO_some h
  refine call_BVE (As := []) (rest := []) ⟨hx, hb, hml, hown, hts⟩ (tX2_undo (l := l) (dC := dC) (dI := dI) (cI := cI) (cB := cB) (cP := cP) (ad := ad) (base := s.heap.size) (R := R) hv91 hCF) (cwV 0 hts gQ_X2_undo rfl rfl rfl (by decide +kernel) ⟨Nat.le_of_ble_eq_true rfl, Nat.le_of_ble_eq_true rfl⟩) hK hP hD hS hS.1 (fun U hU hW => Env_step rfl rfl hE hS hU hW) 0 rfl rfl (by rfl) hl.1 rfl (Nat.le_of_ble_eq_true rfl) dL_law_388 ⟨by show _ ≤ 600000; omega, by show _ ≤ 7302250; omega⟩ (fun H locs ws9 hW9 hP hD _ hS => ?_)
  obtain ⟨Z, rfl, hCF⟩ := hW9
  refine lv_iconst (v := 2) hx hb dL_law_391 (by decide) ?_
  refine lv_icmp_ne (tgt := 429) hx hb dL_law_392 (by decide) (fun c93 => ?_) (fun c93 => ?_)
  · replace h := if_n c93 h
    exact lw_t_429 hF  h (lv_sub hl [] rfl) hP hD hS hCF ⟨by omega, by omega⟩
  · replace h := if_p c93 h
    refine lv_aload_n hx hb dL_law_395 rfl (lv_at hl 1 rfl) ?_
    obtain ⟨v94, O95, hv94, h⟩ := bdO_some h
    refine call_BVE (As := []) (rest := []) ⟨hx, hb, hml, hown, hts⟩ (tX2_undo (l := l) (dC := dC) (dI := dI) (cI := cI) (cB := cB) (cP := cP) (ad := ad) (base := s.heap.size) (R := R) hv94 hCF) (cwV 0 hts gQ_X2_undo rfl rfl rfl (by decide +kernel) ⟨Nat.le_of_ble_eq_true rfl, Nat.le_of_ble_eq_true rfl⟩) hK hP hD hS hS.1 (fun U hU hW => Env_step rfl rfl hE hS hU hW) 0 rfl rfl (by rfl) hl.1 rfl (Nat.le_of_ble_eq_true rfl) dL_law_396 ⟨by show _ ≤ 600000; omega, by show _ ≤ 7302250; omega⟩ (fun H locs ws9 hW9 hP hD _ hS => ?_)
    obtain ⟨Z, rfl, hCF⟩ := hW9
    refine lv_iconst (v := 1) hx hb dL_law_399 (by decide) ?_
    refine lv_icmp_ne (tgt := 429) hx hb dL_law_400 (by decide) (fun c96 => ?_) (fun c96 => ?_)
    · replace h := if_n c96 h
      exact lw_t_429 hF  h (lv_sub hl [] rfl) hP hD hS hCF ⟨by omega, by omega⟩
    · replace h := if_p c96 h
      refine lv_aload_n hx hb dL_law_403 rfl (lv_at hl 1 rfl) ?_
      obtain ⟨v97, O98, hv97, h⟩ := bdO_some h
      refine call_BVE (As := []) (rest := []) ⟨hx, hb, hml, hown, hts⟩ (tX2_undo (l := l) (dC := dC) (dI := dI) (cI := cI) (cB := cB) (cP := cP) (ad := ad) (base := s.heap.size) (R := R) hv97 hCF) (cwV 0 hts gQ_X2_undo rfl rfl rfl (by decide +kernel) ⟨Nat.le_of_ble_eq_true rfl, Nat.le_of_ble_eq_true rfl⟩) hK hP hD hS hS.1 (fun U hU hW => Env_step rfl rfl hE hS hU hW) 0 rfl rfl (by rfl) hl.1 rfl (Nat.le_of_ble_eq_true rfl) dL_law_404 ⟨by show _ ≤ 600000; omega, by show _ ≤ 7302250; omega⟩ (fun H locs ws9 hW9 hP hD _ hS => ?_)
      obtain ⟨Z, rfl, hCF⟩ := hW9
      refine lv_if_ne (tgt := 429) hx hb dL_law_407 (by decide) (fun c99 => ?_) (fun c99 => ?_)
      · replace h := if_n c99 h
        exact lw_t_429 hF  h (lv_sub hl [] rfl) hP hD hS hCF ⟨by omega, by omega⟩
      · replace h := if_p c99 h
        refine lv_aload_n hx hb dL_law_410 rfl (lv_at hl 1 rfl) ?_
        refine lv_iconst (v := 0) hx hb dL_law_411 (by decide) ?_
        refine lv_iconst (v := 4) hx hb dL_law_412 (by decide) ?_
        obtain ⟨v100, hv100, h⟩ := bdP_some h
        refine call_BVP (As := [.int 0, .int 4]) (rest := []) ⟨hx, hb, hml, hown, hts⟩ (tX2_campOf (l := l) (dC := dC) (dI := dI) (cI := cI) (cB := cB) (cP := cP) (ad := ad) (base := s.heap.size) (R := R) hv100 hCF) (cwV 2 hts gQ_X2_campOf rfl rfl rfl (by decide +kernel) ⟨Nat.le_of_ble_eq_true rfl, Nat.le_of_ble_eq_true rfl⟩) hK hP hD hS.1 (fun U hU hW => Env_step rfl rfl hE hS hU hW) 0 rfl rfl (by rfl) hl.1 rfl (Nat.le_of_ble_eq_true rfl) dL_law_413 ⟨by show _ ≤ 600000; omega, by show _ ≤ 7302250; omega⟩ ?_
        refine lv_iconst (v := 5) hx hb dL_law_416 (by decide) ?_
        refine lv_icmp_ne (tgt := 429) hx hb dL_law_417 (by decide) (fun c101 => ?_) (fun c101 => ?_)
        · replace h := if_n c101 h
          exact lw_t_429 hF  h (lv_sub hl [] rfl) hP hD hS hCF ⟨by omega, by omega⟩
        · replace h := if_p c101 h
          refine lv_aload_n hx hb dL_law_420 rfl (lv_at hl 1 rfl) ?_
          obtain ⟨v102, O103, hv102, h⟩ := bdO_some h
          refine call_BVE (As := []) (rest := []) ⟨hx, hb, hml, hown, hts⟩ (tX2_undo (l := l) (dC := dC) (dI := dI) (cI := cI) (cB := cB) (cP := cP) (ad := ad) (base := s.heap.size) (R := R) hv102 hCF) (cwV 0 hts gQ_X2_undo rfl rfl rfl (by decide +kernel) ⟨Nat.le_of_ble_eq_true rfl, Nat.le_of_ble_eq_true rfl⟩) hK hP hD hS hS.1 (fun U hU hW => Env_step rfl rfl hE hS hU hW) 0 rfl rfl (by rfl) hl.1 rfl (Nat.le_of_ble_eq_true rfl) dL_law_421 ⟨by show _ ≤ 600000; omega, by show _ ≤ 7302250; omega⟩ (fun H locs ws9 hW9 hP hD _ hS => ?_)
          obtain ⟨Z, rfl, hCF⟩ := hW9
          refine lv_bipush (v := (-4)) hx hb dL_law_424 (by decide) ?_
          refine lv_icmp_eq (tgt := 431) hx hb dL_law_426 (by decide) (fun c104 => ?_) (fun c104 => ?_)
          · replace h := if_p c104 h
            refine lv_aload_n hx hb dL_law_431 rfl (lv_at hl 1 rfl) ?_
            obtain ⟨v105, O106, hv105, h⟩ := bdO_some h
            refine call_BVE (As := []) (rest := []) ⟨hx, hb, hml, hown, hts⟩ (tX2_restore (l := l) (dC := dC) (dI := dI) (cI := cI) (cB := cB) (cP := cP) (ad := ad) (base := s.heap.size) (R := R) hv105 hCF) (cwV 0 hts gQ_X2_restore rfl rfl rfl (by decide +kernel) ⟨Nat.le_of_ble_eq_true rfl, Nat.le_of_ble_eq_true rfl⟩) hK hP hD hS hS.1 (fun U hU hW => Env_step rfl rfl hE hS hU hW) 0 rfl rfl (by rfl) hl.1 rfl (Nat.le_of_ble_eq_true rfl) dL_law_432 ⟨by show _ ≤ 600000; omega, by show _ ≤ 7302250; omega⟩ (fun H locs ws9 hW9 hP hD _ hS => ?_)
            obtain ⟨Z, rfl, hCF⟩ := hW9
            refine lv_if_ne (tgt := 465) hx hb dL_law_435 (by decide) (fun c107 => ?_) (fun c107 => ?_)
            · replace h := if_n c107 h
              exact lw_t_465 hF  h (lv_sub hl [] rfl) hP hD hS hCF ⟨by omega, by omega⟩
            · replace h := if_p c107 h
              refine lv_aload_n hx hb dL_law_438 rfl (lv_at hl 1 rfl) ?_
              refine lv_bipush (v := 10) hx hb dL_law_439 (by decide) ?_
              obtain ⟨v108, hv108, h⟩ := bdP_some h
              refine call_BVP (As := [.int 10]) (rest := []) ⟨hx, hb, hml, hown, hts⟩ (tX2_account (l := l) (dC := dC) (dI := dI) (cI := cI) (cB := cB) (cP := cP) (ad := ad) (base := s.heap.size) (R := R) hv108 hCF) (cwV 1 hts gQ_X2_account rfl rfl rfl (by decide +kernel) ⟨Nat.le_of_ble_eq_true rfl, Nat.le_of_ble_eq_true rfl⟩) hK hP hD hS.1 (fun U hU hW => Env_step rfl rfl hE hS hU hW) 0 rfl rfl (by rfl) hl.1 rfl (Nat.le_of_ble_eq_true rfl) dL_law_441 ⟨by show _ ≤ 600000; omega, by show _ ≤ 7302250; omega⟩ ?_
              refine lv_if_ne (tgt := 465) hx hb dL_law_444 (by decide) (fun c109 => ?_) (fun c109 => ?_)
              · replace h := if_n c109 h
                exact lw_t_465 hF  h (lv_sub hl [] rfl) hP hD hS hCF ⟨by omega, by omega⟩
              · replace h := if_p c109 h
                refine lv_aload_n hx hb dL_law_447 rfl (lv_at hl 1 rfl) ?_
                obtain ⟨v110, hv110, h⟩ := bdP_some h
                refine call_BVP (As := []) (rest := []) ⟨hx, hb, hml, hown, hts⟩ (tX2_captain (l := l) (dC := dC) (dI := dI) (cI := cI) (cB := cB) (cP := cP) (ad := ad) (base := s.heap.size) (R := R) hv110 hCF) (cwV 0 hts gQ_X2_captain rfl rfl rfl (by decide +kernel) ⟨Nat.le_of_ble_eq_true rfl, Nat.le_of_ble_eq_true rfl⟩) hK hP hD hS.1 (fun U hU hW => Env_step rfl rfl hE hS hU hW) 0 rfl rfl (by rfl) hl.1 rfl (Nat.le_of_ble_eq_true rfl) dL_law_448 ⟨by show _ ≤ 600000; omega, by show _ ≤ 7302250; omega⟩ ?_
                refine lv_bipush (v := (-4)) hx hb dL_law_451 (by decide) ?_
                refine lv_icmp_ne (tgt := 465) hx hb dL_law_453 (by decide) (fun c111 => ?_) (fun c111 => ?_)
                · replace h := if_n c111 h
                  exact lw_t_465 hF  h (lv_sub hl [] rfl) hP hD hS hCF ⟨by omega, by omega⟩
                · replace h := if_p c111 h
                  refine lv_aload_n hx hb dL_law_456 rfl (lv_at hl 1 rfl) ?_
                  obtain ⟨v112, O113, hv112, h⟩ := bdO_some h
                  refine call_BVE (As := []) (rest := []) ⟨hx, hb, hml, hown, hts⟩ (tX2_undo (l := l) (dC := dC) (dI := dI) (cI := cI) (cB := cB) (cP := cP) (ad := ad) (base := s.heap.size) (R := R) hv112 hCF) (cwV 0 hts gQ_X2_undo rfl rfl rfl (by decide +kernel) ⟨Nat.le_of_ble_eq_true rfl, Nat.le_of_ble_eq_true rfl⟩) hK hP hD hS hS.1 (fun U hU hW => Env_step rfl rfl hE hS hU hW) 0 rfl rfl (by rfl) hl.1 rfl (Nat.le_of_ble_eq_true rfl) dL_law_457 ⟨by show _ ≤ 600000; omega, by show _ ≤ 7302250; omega⟩ (fun H locs ws9 hW9 hP hD _ hS => ?_)
                  obtain ⟨Z, rfl, hCF⟩ := hW9
                  refine lv_bipush (v := (-4)) hx hb dL_law_460 (by decide) ?_
                  refine lv_icmp_eq (tgt := 467) hx hb dL_law_462 (by decide) (fun c114 => ?_) (fun c114 => ?_)
                  · replace h := if_p c114 h
                    exact lw_t_467 hF  h (lv_sub hl [0] rfl) hP hD hS hCF ⟨by omega, by omega⟩
                  · replace h := if_n c114 h
                    exact lw_t_465 hF  h (lv_sub hl [] rfl) hP hD hS hCF ⟨by omega, by omega⟩
          · replace h := if_n c104 h
            exact lw_t_429 hF  h (lv_sub hl [] rfl) hP hD hS hCF ⟨by omega, by omega⟩
def fL_law_250b (N : Nat) (L : Nat) (xs : Nat → Int32) (K : OT) : Option Int32 := bdO (mX2_undo N K ) (fun v82 O83 => (if v82 = 5 then bdO (mX2_undo N O83 ) (fun v85 O86 => (if v85 = 4 then bdO (mX2_undo N O86 ) (fun v88 O89 => (if v88 = 3 then bdO (mX2_undo N O89 ) (fun v91 O92 => (if v91 = 2 then bdO (mX2_undo N O92 ) (fun v94 O95 => (if v94 = 1 then bdO (mX2_undo N O95 ) (fun v97 O98 => (if v97 = 0 then bdP (mX2_campOf N O98 0 4) (fun v100 => (if v100 = 5 then bdO (mX2_undo N O98 ) (fun v102 O103 => (if v102 = ((-4)) then bdO (mX2_restore N O103 ) (fun v105 O106 => (if v105 = 0 then bdP (mX2_account N O106 10) (fun v108 => (if v108 = 0 then bdP (mX2_captain N O106 ) (fun v110 => (if v110 = ((-4)) then bdO (mX2_undo N O106 ) (fun v112 O113 => (if v112 = ((-4)) then fL_law_467 N L xs  O113  else fL_law_465 N L xs  O113 )) else fL_law_465 N L xs  O106 )) else fL_law_465 N L xs  O106 )) else fL_law_465 N L xs  O106 )) else fL_law_429 N L xs  O103 )) else fL_law_429 N L xs  O98 )) else fL_law_429 N L xs  O98 )) else fL_law_429 N L xs  O95 )) else fL_law_429 N L xs  O92 )) else fL_law_429 N L xs  O89 )) else fL_law_429 N L xs  O86 )) else fL_law_429 N L xs  O83 ))
set_option maxHeartbeats 16000000 in
set_option maxRecDepth 100000 in
theorem lw_t_250b (hF : LFX p s m meth c N b L xs dC dI cI cB cP adK adV) : ∀ {K : OT}  {H : Heap} {locs : List Loc} {Z : Nat → Nat} {cells slots : Nat} {ad : Nat → Nat → Nat} {R : va_W} {ls : Array Slot} (h : fL_law_250b N L xs K  = some 1) (hl : lv_has ls 11 [(0, .ref b), (1, .ref (ad 0 0))]) (hP : va_P (dC, dI) vwCl (outW cI cB cP ad Z K ++ R) H) (hD : va_D (aB s.heap.size) (outW cI cB cP ad Z K ++ R)) (hS : va_S (aB s.heap.size) s.heap H locs) (hCF : OF Z K) (hcn : cells + (15084) ≤ 600000 ∧ slots + 256 * (15084) ≤ 7302250), W p l e room_1 s m #[Value.ref b] below meth c H locs cells slots (lw_Z below #[Value.ref b] s) (F0 m 363 ls []) := by
  obtain ⟨hx, hb, hr, hml, hown, hts, hlocks, hK, hAO, hEL⟩ := id hF
  have hE := hEL.1
  have hA : ∀ z : Nat, s.heap.size ≤ z → aB s.heap.size z := fun z hz => hz
  intro  K H locs Z cells slots ad R ls h hl hP hD hS hCF hcn
  unfold fL_law_250b at h
  refine lv_aload_n hx hb dL_law_363 rfl (lv_at hl 1 rfl) ?_
  obtain ⟨v82, O83, hv82, h⟩ := bdO_some h
  refine call_BVE (As := []) (rest := []) ⟨hx, hb, hml, hown, hts⟩ (tX2_undo (l := l) (dC := dC) (dI := dI) (cI := cI) (cB := cB) (cP := cP) (ad := ad) (base := s.heap.size) (R := R) hv82 hCF) (cwV 0 hts gQ_X2_undo rfl rfl rfl (by decide +kernel) ⟨Nat.le_of_ble_eq_true rfl, Nat.le_of_ble_eq_true rfl⟩) hK hP hD hS hS.1 (fun U hU hW => Env_step rfl rfl hE hS hU hW) 0 rfl rfl (by rfl) hl.1 rfl (Nat.le_of_ble_eq_true rfl) dL_law_364 ⟨by show _ ≤ 600000; omega, by show _ ≤ 7302250; omega⟩ (fun H locs ws9 hW9 hP hD _ hS => ?_)
  obtain ⟨Z, rfl, hCF⟩ := hW9
  refine lv_iconst (v := 5) hx hb dL_law_367 (by decide) ?_
  refine lv_icmp_ne (tgt := 429) hx hb dL_law_368 (by decide) (fun c84 => ?_) (fun c84 => ?_)
  · replace h := if_n c84 h
    exact lw_t_429 hF  h (lv_sub hl [] rfl) hP hD hS hCF ⟨by omega, by omega⟩
  · replace h := if_p c84 h
    refine lv_aload_n hx hb dL_law_371 rfl (lv_at hl 1 rfl) ?_
    obtain ⟨v85, O86, hv85, h⟩ := bdO_some h
    refine call_BVE (As := []) (rest := []) ⟨hx, hb, hml, hown, hts⟩ (tX2_undo (l := l) (dC := dC) (dI := dI) (cI := cI) (cB := cB) (cP := cP) (ad := ad) (base := s.heap.size) (R := R) hv85 hCF) (cwV 0 hts gQ_X2_undo rfl rfl rfl (by decide +kernel) ⟨Nat.le_of_ble_eq_true rfl, Nat.le_of_ble_eq_true rfl⟩) hK hP hD hS hS.1 (fun U hU hW => Env_step rfl rfl hE hS hU hW) 0 rfl rfl (by rfl) hl.1 rfl (Nat.le_of_ble_eq_true rfl) dL_law_372 ⟨by show _ ≤ 600000; omega, by show _ ≤ 7302250; omega⟩ (fun H locs ws9 hW9 hP hD _ hS => ?_)
    obtain ⟨Z, rfl, hCF⟩ := hW9
    refine lv_iconst (v := 4) hx hb dL_law_375 (by decide) ?_
    refine lv_icmp_ne (tgt := 429) hx hb dL_law_376 (by decide) (fun c87 => ?_) (fun c87 => ?_)
    · replace h := if_n c87 h
      exact lw_t_429 hF  h (lv_sub hl [] rfl) hP hD hS hCF ⟨by omega, by omega⟩
    · replace h := if_p c87 h
      refine lv_aload_n hx hb dL_law_379 rfl (lv_at hl 1 rfl) ?_
      obtain ⟨v88, O89, hv88, h⟩ := bdO_some h
      refine call_BVE (As := []) (rest := []) ⟨hx, hb, hml, hown, hts⟩ (tX2_undo (l := l) (dC := dC) (dI := dI) (cI := cI) (cB := cB) (cP := cP) (ad := ad) (base := s.heap.size) (R := R) hv88 hCF) (cwV 0 hts gQ_X2_undo rfl rfl rfl (by decide +kernel) ⟨Nat.le_of_ble_eq_true rfl, Nat.le_of_ble_eq_true rfl⟩) hK hP hD hS hS.1 (fun U hU hW => Env_step rfl rfl hE hS hU hW) 0 rfl rfl (by rfl) hl.1 rfl (Nat.le_of_ble_eq_true rfl) dL_law_380 ⟨by show _ ≤ 600000; omega, by show _ ≤ 7302250; omega⟩ (fun H locs ws9 hW9 hP hD _ hS => ?_)
      obtain ⟨Z, rfl, hCF⟩ := hW9
      refine lv_iconst (v := 3) hx hb dL_law_383 (by decide) ?_
      refine lv_icmp_ne (tgt := 429) hx hb dL_law_384 (by decide) (fun c90 => ?_) (fun c90 => ?_)
      · replace h := if_n c90 h
        exact lw_t_429 hF  h (lv_sub hl [] rfl) hP hD hS hCF ⟨by omega, by omega⟩
      · replace h := if_p c90 h
        exact lw_t_250c hF h hl hP hD hS hCF ⟨by omega, by omega⟩
def fL_law_250a (N : Nat) (L : Nat) (xs : Nat → Int32) (K : OT) : Option Int32 := bdO (mX2_undo N K ) (fun v70 O71 => (if v70 = 7 then bdP (mX2_campOf N O71 3 4) (fun v73 => (if v73 = 0 then bdP (mX2_campOf N O71 0 5) (fun v75 => (if v75 = 0 then bdO (mX2_undo N O71 ) (fun v77 O78 => (if v77 = 6 then bdP (mX2_campOf N O78 0 4) (fun v80 => (if v80 = 11 then bdO (mX2_undo N O78 ) (fun v82 O83 => (if v82 = 5 then bdO (mX2_undo N O83 ) (fun v85 O86 => (if v85 = 4 then bdO (mX2_undo N O86 ) (fun v88 O89 => (if v88 = 3 then bdO (mX2_undo N O89 ) (fun v91 O92 => (if v91 = 2 then bdO (mX2_undo N O92 ) (fun v94 O95 => (if v94 = 1 then bdO (mX2_undo N O95 ) (fun v97 O98 => (if v97 = 0 then bdP (mX2_campOf N O98 0 4) (fun v100 => (if v100 = 5 then bdO (mX2_undo N O98 ) (fun v102 O103 => (if v102 = ((-4)) then bdO (mX2_restore N O103 ) (fun v105 O106 => (if v105 = 0 then bdP (mX2_account N O106 10) (fun v108 => (if v108 = 0 then bdP (mX2_captain N O106 ) (fun v110 => (if v110 = ((-4)) then bdO (mX2_undo N O106 ) (fun v112 O113 => (if v112 = ((-4)) then fL_law_467 N L xs  O113  else fL_law_465 N L xs  O113 )) else fL_law_465 N L xs  O106 )) else fL_law_465 N L xs  O106 )) else fL_law_465 N L xs  O106 )) else fL_law_429 N L xs  O103 )) else fL_law_429 N L xs  O98 )) else fL_law_429 N L xs  O98 )) else fL_law_429 N L xs  O95 )) else fL_law_429 N L xs  O92 )) else fL_law_429 N L xs  O89 )) else fL_law_429 N L xs  O86 )) else fL_law_429 N L xs  O83 )) else fL_law_429 N L xs  O78 )) else fL_law_429 N L xs  O78 )) else fL_law_429 N L xs  O71 )) else fL_law_429 N L xs  O71 )) else fL_law_429 N L xs  O71 ))
set_option maxHeartbeats 16000000 in
set_option maxRecDepth 100000 in
theorem lw_t_250a (hF : LFX p s m meth c N b L xs dC dI cI cB cP adK adV) : ∀ {K : OT}  {H : Heap} {locs : List Loc} {Z : Nat → Nat} {cells slots : Nat} {ad : Nat → Nat → Nat} {R : va_W} {ls : Array Slot} (h : fL_law_250a N L xs K  = some 1) (hl : lv_has ls 11 [(0, .ref b), (1, .ref (ad 0 0))]) (hP : va_P (dC, dI) vwCl (outW cI cB cP ad Z K ++ R) H) (hD : va_D (aB s.heap.size) (outW cI cB cP ad Z K ++ R)) (hS : va_S (aB s.heap.size) s.heap H locs) (hCF : OF Z K) (hcn : cells + (15084) ≤ 600000 ∧ slots + 256 * (15084) ≤ 7302250), W p l e room_1 s m #[Value.ref b] below meth c H locs cells slots (lw_Z below #[Value.ref b] s) (F0 m 316 ls []) := by
  obtain ⟨hx, hb, hr, hml, hown, hts, hlocks, hK, hAO, hEL⟩ := id hF
  have hE := hEL.1
  have hA : ∀ z : Nat, s.heap.size ≤ z → aB s.heap.size z := fun z hz => hz
  intro  K H locs Z cells slots ad R ls h hl hP hD hS hCF hcn
  unfold fL_law_250a at h
  refine lv_aload_n hx hb dL_law_316 rfl (lv_at hl 1 rfl) ?_
  obtain ⟨v70, O71, hv70, h⟩ := bdO_some h
  refine call_BVE (As := []) (rest := []) ⟨hx, hb, hml, hown, hts⟩ (tX2_undo (l := l) (dC := dC) (dI := dI) (cI := cI) (cB := cB) (cP := cP) (ad := ad) (base := s.heap.size) (R := R) hv70 hCF) (cwV 0 hts gQ_X2_undo rfl rfl rfl (by decide +kernel) ⟨Nat.le_of_ble_eq_true rfl, Nat.le_of_ble_eq_true rfl⟩) hK hP hD hS hS.1 (fun U hU hW => Env_step rfl rfl hE hS hU hW) 0 rfl rfl (by rfl) hl.1 rfl (Nat.le_of_ble_eq_true rfl) dL_law_317 ⟨by show _ ≤ 600000; omega, by show _ ≤ 7302250; omega⟩ (fun H locs ws9 hW9 hP hD _ hS => ?_)
  obtain ⟨Z, rfl, hCF⟩ := hW9
  refine lv_bipush (v := 7) hx hb dL_law_320 (by decide) ?_
  refine lv_icmp_ne (tgt := 429) hx hb dL_law_322 (by decide) (fun c72 => ?_) (fun c72 => ?_)
  · replace h := if_n c72 h
    exact lw_t_429 hF  h (lv_sub hl [] rfl) hP hD hS hCF ⟨by omega, by omega⟩
  · replace h := if_p c72 h
    refine lv_aload_n hx hb dL_law_325 rfl (lv_at hl 1 rfl) ?_
    refine lv_iconst (v := 3) hx hb dL_law_326 (by decide) ?_
    refine lv_iconst (v := 4) hx hb dL_law_327 (by decide) ?_
    obtain ⟨v73, hv73, h⟩ := bdP_some h
    refine call_BVP (As := [.int 3, .int 4]) (rest := []) ⟨hx, hb, hml, hown, hts⟩ (tX2_campOf (l := l) (dC := dC) (dI := dI) (cI := cI) (cB := cB) (cP := cP) (ad := ad) (base := s.heap.size) (R := R) hv73 hCF) (cwV 2 hts gQ_X2_campOf rfl rfl rfl (by decide +kernel) ⟨Nat.le_of_ble_eq_true rfl, Nat.le_of_ble_eq_true rfl⟩) hK hP hD hS.1 (fun U hU hW => Env_step rfl rfl hE hS hU hW) 0 rfl rfl (by rfl) hl.1 rfl (Nat.le_of_ble_eq_true rfl) dL_law_328 ⟨by show _ ≤ 600000; omega, by show _ ≤ 7302250; omega⟩ ?_
    refine lv_if_ne (tgt := 429) hx hb dL_law_331 (by decide) (fun c74 => ?_) (fun c74 => ?_)
    · replace h := if_n c74 h
      exact lw_t_429 hF  h (lv_sub hl [] rfl) hP hD hS hCF ⟨by omega, by omega⟩
    · replace h := if_p c74 h
      refine lv_aload_n hx hb dL_law_334 rfl (lv_at hl 1 rfl) ?_
      refine lv_iconst (v := 0) hx hb dL_law_335 (by decide) ?_
      refine lv_iconst (v := 5) hx hb dL_law_336 (by decide) ?_
      obtain ⟨v75, hv75, h⟩ := bdP_some h
      refine call_BVP (As := [.int 0, .int 5]) (rest := []) ⟨hx, hb, hml, hown, hts⟩ (tX2_campOf (l := l) (dC := dC) (dI := dI) (cI := cI) (cB := cB) (cP := cP) (ad := ad) (base := s.heap.size) (R := R) hv75 hCF) (cwV 2 hts gQ_X2_campOf rfl rfl rfl (by decide +kernel) ⟨Nat.le_of_ble_eq_true rfl, Nat.le_of_ble_eq_true rfl⟩) hK hP hD hS.1 (fun U hU hW => Env_step rfl rfl hE hS hU hW) 0 rfl rfl (by rfl) hl.1 rfl (Nat.le_of_ble_eq_true rfl) dL_law_337 ⟨by show _ ≤ 600000; omega, by show _ ≤ 7302250; omega⟩ ?_
      refine lv_if_ne (tgt := 429) hx hb dL_law_340 (by decide) (fun c76 => ?_) (fun c76 => ?_)
      · replace h := if_n c76 h
        exact lw_t_429 hF  h (lv_sub hl [] rfl) hP hD hS hCF ⟨by omega, by omega⟩
      · replace h := if_p c76 h
        refine lv_aload_n hx hb dL_law_343 rfl (lv_at hl 1 rfl) ?_
        obtain ⟨v77, O78, hv77, h⟩ := bdO_some h
        refine call_BVE (As := []) (rest := []) ⟨hx, hb, hml, hown, hts⟩ (tX2_undo (l := l) (dC := dC) (dI := dI) (cI := cI) (cB := cB) (cP := cP) (ad := ad) (base := s.heap.size) (R := R) hv77 hCF) (cwV 0 hts gQ_X2_undo rfl rfl rfl (by decide +kernel) ⟨Nat.le_of_ble_eq_true rfl, Nat.le_of_ble_eq_true rfl⟩) hK hP hD hS hS.1 (fun U hU hW => Env_step rfl rfl hE hS hU hW) 0 rfl rfl (by rfl) hl.1 rfl (Nat.le_of_ble_eq_true rfl) dL_law_344 ⟨by show _ ≤ 600000; omega, by show _ ≤ 7302250; omega⟩ (fun H locs ws9 hW9 hP hD _ hS => ?_)
        obtain ⟨Z, rfl, hCF⟩ := hW9
        refine lv_bipush (v := 6) hx hb dL_law_347 (by decide) ?_
        refine lv_icmp_ne (tgt := 429) hx hb dL_law_349 (by decide) (fun c79 => ?_) (fun c79 => ?_)
        · replace h := if_n c79 h
          exact lw_t_429 hF  h (lv_sub hl [] rfl) hP hD hS hCF ⟨by omega, by omega⟩
        · replace h := if_p c79 h
          refine lv_aload_n hx hb dL_law_352 rfl (lv_at hl 1 rfl) ?_
          refine lv_iconst (v := 0) hx hb dL_law_353 (by decide) ?_
          refine lv_iconst (v := 4) hx hb dL_law_354 (by decide) ?_
          obtain ⟨v80, hv80, h⟩ := bdP_some h
          refine call_BVP (As := [.int 0, .int 4]) (rest := []) ⟨hx, hb, hml, hown, hts⟩ (tX2_campOf (l := l) (dC := dC) (dI := dI) (cI := cI) (cB := cB) (cP := cP) (ad := ad) (base := s.heap.size) (R := R) hv80 hCF) (cwV 2 hts gQ_X2_campOf rfl rfl rfl (by decide +kernel) ⟨Nat.le_of_ble_eq_true rfl, Nat.le_of_ble_eq_true rfl⟩) hK hP hD hS.1 (fun U hU hW => Env_step rfl rfl hE hS hU hW) 0 rfl rfl (by rfl) hl.1 rfl (Nat.le_of_ble_eq_true rfl) dL_law_355 ⟨by show _ ≤ 600000; omega, by show _ ≤ 7302250; omega⟩ ?_
          refine lv_bipush (v := 11) hx hb dL_law_358 (by decide) ?_
          refine lv_icmp_ne (tgt := 429) hx hb dL_law_360 (by decide) (fun c81 => ?_) (fun c81 => ?_)
          · replace h := if_n c81 h
            exact lw_t_429 hF  h (lv_sub hl [] rfl) hP hD hS hCF ⟨by omega, by omega⟩
          · replace h := if_p c81 h
            exact lw_t_250b hF h hl hP hD hS hCF ⟨by omega, by omega⟩
set_option maxHeartbeats 16000000 in
set_option maxRecDepth 100000 in
theorem lw_t_250 (hF : LFX p s m meth c N b L xs dC dI cI cB cP adK adV) : ∀ {K : OT}  {H : Heap} {locs : List Loc} {Z : Nat → Nat} {cells slots : Nat} {ad : Nat → Nat → Nat} {R : va_W} {ls : Array Slot} (h : fL_law_250 N L xs  K  = some 1) (hl : lv_has ls 11 [(0, .ref b), (1, .ref (ad 0 0))]) (hP : va_P (dC, dI) vwCl (outW cI cB cP ad Z K ++ R) H) (hD : va_D (aB s.heap.size) (outW cI cB cP ad Z K ++ R)) (hS : va_S (aB s.heap.size) s.heap H locs) (hCF : OF Z K) (hcn : cells + (15084) ≤ 600000 ∧ slots + 256 * (15084) ≤ 7302250), W p l e room_1 s m #[Value.ref b] below meth c H locs cells slots (lw_Z below #[Value.ref b] s) (F0 m 250 ls []) := by
  obtain ⟨hx, hb, hr, hml, hown, hts, hlocks, hK, hAO, hEL⟩ := id hF
  have hE := hEL.1
  have hA : ∀ z : Nat, s.heap.size ≤ z → aB s.heap.size z := fun z hz => hz
  intro  K H locs Z cells slots ad R ls h hl hP hD hS hCF hcn
  unfold fL_law_250 at h
  refine lv_aload_n hx hb dL_law_250 rfl (lv_at hl 1 rfl) ?_
  refine lv_iconst (v := 0) hx hb dL_law_251 (by decide) ?_
  refine lv_iconst (v := 0) hx hb dL_law_252 (by decide) ?_
  obtain ⟨v56, O57, hv56, h⟩ := bdO_some h
  refine call_BVE (As := [.int 0, .int 0]) (rest := []) ⟨hx, hb, hml, hown, hts⟩ (tX2_write (l := l) (dC := dC) (dI := dI) (cI := cI) (cB := cB) (cP := cP) (ad := ad) (base := s.heap.size) (R := R) hv56 hCF) (cwV 2 hts gQ_X2_write rfl rfl rfl (by decide +kernel) ⟨Nat.le_of_ble_eq_true rfl, Nat.le_of_ble_eq_true rfl⟩) hK hP hD hS hS.1 (fun U hU hW => Env_step rfl rfl hE hS hU hW) 0 rfl rfl (by rfl) hl.1 rfl (Nat.le_of_ble_eq_true rfl) dL_law_253 ⟨by show _ ≤ 600000; omega, by show _ ≤ 7302250; omega⟩ (fun H locs ws9 hW9 hP hD _ hS => ?_)
  obtain ⟨Z, rfl, hCF⟩ := hW9
  refine lv_bipush (v := (-3)) hx hb dL_law_256 (by decide) ?_
  refine lv_icmp_ne (tgt := 314) hx hb dL_law_258 (by decide) (fun c58 => ?_) (fun c58 => ?_)
  · replace h := if_n c58 h
    exact lw_t_314 hF  h (lv_sub hl [] rfl) hP hD hS hCF ⟨by omega, by omega⟩
  · replace h := if_p c58 h
    refine lv_aload_n hx hb dL_law_261 rfl (lv_at hl 1 rfl) ?_
    refine lv_iconst (v := 3) hx hb dL_law_262 (by decide) ?_
    refine lv_bipush (v := 12) hx hb dL_law_263 (by decide) ?_
    refine lv_bipush (v := (-4)) hx hb dL_law_265 (by decide) ?_
    obtain ⟨v59, hv59, h⟩ := bdP_some h
    refine call_LSP (As := [.ref (ad 0 0), .int 3, .int 12, .int ((-4))]) (rest := []) ⟨hx, hb, hml, hown, hts⟩ (tL_is (l := l) (dC := dC) (dI := dI) (cI := cI) (cB := cB) (cP := cP) (ad := ad) (base := s.heap.size) (b := b) (L := L) (xs := xs) (adK := adK) (adV := adV) (R := R) hv59 hCF) (va_cwS 4 hts gQ_L_is rfl rfl rfl (by decide +kernel) ⟨Nat.le_of_ble_eq_true rfl, Nat.le_of_ble_eq_true rfl⟩) hK hP hD hS.1 (fun U hU hW => EnvL_step hEL hS hU hW) (by rfl) hl.1 rfl (Nat.le_of_ble_eq_true rfl) dL_law_267 ⟨by show _ ≤ 600000; omega, by show _ ≤ 7302250; omega⟩ ?_
    refine lv_if_eq (tgt := 314) hx hb dL_law_270 (by decide) (fun c60 => ?_) (fun c60 => ?_)
    · replace h := if_p c60 h
      exact lw_t_314 hF  h (lv_sub hl [] rfl) hP hD hS hCF ⟨by omega, by omega⟩
    · replace h := if_n c60 h
      refine lv_aload_n hx hb dL_law_273 rfl (lv_at hl 1 rfl) ?_
      refine lv_bipush (v := 12) hx hb dL_law_274 (by decide) ?_
      obtain ⟨v61, hv61, h⟩ := bdP_some h
      refine call_BVP (As := [.int 12]) (rest := []) ⟨hx, hb, hml, hown, hts⟩ (tX2_account (l := l) (dC := dC) (dI := dI) (cI := cI) (cB := cB) (cP := cP) (ad := ad) (base := s.heap.size) (R := R) hv61 hCF) (cwV 1 hts gQ_X2_account rfl rfl rfl (by decide +kernel) ⟨Nat.le_of_ble_eq_true rfl, Nat.le_of_ble_eq_true rfl⟩) hK hP hD hS.1 (fun U hU hW => Env_step rfl rfl hE hS hU hW) 0 rfl rfl (by rfl) hl.1 rfl (Nat.le_of_ble_eq_true rfl) dL_law_276 ⟨by show _ ≤ 600000; omega, by show _ ≤ 7302250; omega⟩ ?_
      refine lv_bipush (v := 8) hx hb dL_law_279 (by decide) ?_
      refine lv_icmp_ne (tgt := 314) hx hb dL_law_281 (by decide) (fun c62 => ?_) (fun c62 => ?_)
      · replace h := if_n c62 h
        exact lw_t_314 hF  h (lv_sub hl [] rfl) hP hD hS hCF ⟨by omega, by omega⟩
      · replace h := if_p c62 h
        refine lv_aload_n hx hb dL_law_284 rfl (lv_at hl 1 rfl) ?_
        refine lv_iconst (v := 0) hx hb dL_law_285 (by decide) ?_
        obtain ⟨v63, O64, hv63, h⟩ := bdO_some h
        refine call_BVE (As := [.int 0]) (rest := []) ⟨hx, hb, hml, hown, hts⟩ (tX2_march (l := l) (dC := dC) (dI := dI) (cI := cI) (cB := cB) (cP := cP) (ad := ad) (base := s.heap.size) (R := R) hv63 hCF) (cwV 1 hts gQ_X2_march rfl rfl rfl (by decide +kernel) ⟨Nat.le_of_ble_eq_true rfl, Nat.le_of_ble_eq_true rfl⟩) hK hP hD hS hS.1 (fun U hU hW => Env_step rfl rfl hE hS hU hW) 0 rfl rfl (by rfl) hl.1 rfl (Nat.le_of_ble_eq_true rfl) dL_law_286 ⟨by show _ ≤ 600000; omega, by show _ ≤ 7302250; omega⟩ (fun H locs ws9 hW9 hP hD _ hS => ?_)
        obtain ⟨Z, rfl, hCF⟩ := hW9
        refine lv_bipush (v := 12) hx hb dL_law_289 (by decide) ?_
        refine lv_icmp_ne (tgt := 314) hx hb dL_law_291 (by decide) (fun c65 => ?_) (fun c65 => ?_)
        · replace h := if_n c65 h
          exact lw_t_314 hF  h (lv_sub hl [] rfl) hP hD hS hCF ⟨by omega, by omega⟩
        · replace h := if_p c65 h
          refine lv_aload_n hx hb dL_law_294 rfl (lv_at hl 1 rfl) ?_
          refine lv_iconst (v := 3) hx hb dL_law_295 (by decide) ?_
          refine lv_iconst (v := 5) hx hb dL_law_296 (by decide) ?_
          obtain ⟨v66, hv66, h⟩ := bdP_some h
          refine call_BVP (As := [.int 3, .int 5]) (rest := []) ⟨hx, hb, hml, hown, hts⟩ (tX2_campOf (l := l) (dC := dC) (dI := dI) (cI := cI) (cB := cB) (cP := cP) (ad := ad) (base := s.heap.size) (R := R) hv66 hCF) (cwV 2 hts gQ_X2_campOf rfl rfl rfl (by decide +kernel) ⟨Nat.le_of_ble_eq_true rfl, Nat.le_of_ble_eq_true rfl⟩) hK hP hD hS.1 (fun U hU hW => Env_step rfl rfl hE hS hU hW) 0 rfl rfl (by rfl) hl.1 rfl (Nat.le_of_ble_eq_true rfl) dL_law_297 ⟨by show _ ≤ 600000; omega, by show _ ≤ 7302250; omega⟩ ?_
          refine lv_bipush (v := 12) hx hb dL_law_300 (by decide) ?_
          refine lv_icmp_ne (tgt := 314) hx hb dL_law_302 (by decide) (fun c67 => ?_) (fun c67 => ?_)
          · replace h := if_n c67 h
            exact lw_t_314 hF  h (lv_sub hl [] rfl) hP hD hS hCF ⟨by omega, by omega⟩
          · replace h := if_p c67 h
            refine lv_aload_n hx hb dL_law_305 rfl (lv_at hl 1 rfl) ?_
            refine lv_iconst (v := 2) hx hb dL_law_306 (by decide) ?_
            obtain ⟨v68, hv68, h⟩ := bdP_some h
            refine call_BVP (As := [.int 2]) (rest := []) ⟨hx, hb, hml, hown, hts⟩ (tX2_letters (l := l) (dC := dC) (dI := dI) (cI := cI) (cB := cB) (cP := cP) (ad := ad) (base := s.heap.size) (R := R) hv68 hCF) (cwV 1 hts gQ_X2_letters rfl rfl rfl (by decide +kernel) ⟨Nat.le_of_ble_eq_true rfl, Nat.le_of_ble_eq_true rfl⟩) hK hP hD hS.1 (fun U hU hW => Env_step rfl rfl hE hS hU hW) 0 rfl rfl (by rfl) hl.1 rfl (Nat.le_of_ble_eq_true rfl) dL_law_307 ⟨by show _ ≤ 600000; omega, by show _ ≤ 7302250; omega⟩ ?_
            refine lv_iconst (v := 3) hx hb dL_law_310 (by decide) ?_
            refine lv_icmp_eq (tgt := 316) hx hb dL_law_311 (by decide) (fun c69 => ?_) (fun c69 => ?_)
            · replace h := if_p c69 h
              exact lw_t_250a hF h hl hP hD hS hCF ⟨by omega, by omega⟩
            · replace h := if_n c69 h
              exact lw_t_314 hF  h (lv_sub hl [] rfl) hP hD hS hCF ⟨by omega, by omega⟩
set_option maxHeartbeats 16000000 in
set_option maxRecDepth 100000 in
theorem lw_t_224 (hF : LFX p s m meth c N b L xs dC dI cI cB cP adK adV) : ∀ {n : Nat}, ∀ {K : OT} {x2 : Int32} {H : Heap} {locs : List Loc} {Z : Nat → Nat} {cells slots : Nat} {ad : Nat → Nat → Nat} {R : va_W} {ls : Array Slot} (h : fL_law_224 N L xs  n K x2 = some 1) (hl : lv_has ls 11 [(0, .ref b), (1, .ref (ad 0 0)), (2, .int x2)]) (hP : va_P (dC, dI) vwCl (outW cI cB cP ad Z K ++ R) H) (hD : va_D (aB s.heap.size) (outW cI cB cP ad Z K ++ R)) (hS : va_S (aB s.heap.size) s.heap H locs) (hCF : OF Z K) (hcn : cells + (15084) ≤ 600000 ∧ slots + 256 * (15084) ≤ 7302250), W p l e room_1 s m #[Value.ref b] below meth c H locs cells slots (lw_Z below #[Value.ref b] s) (F0 m 224 ls []) := by
  obtain ⟨hx, hb, hr, hml, hown, hts, hlocks, hK, hAO, hEL⟩ := id hF
  have hE := hEL.1
  have hA : ∀ z : Nat, s.heap.size ≤ z → aB s.heap.size z := fun z hz => hz
  intro  n
  induction n with
  | zero =>
    intro K x2 H locs Z cells slots ad R ls h hl hP hD hS hCF hcn
    unfold fL_law_224 at h
    cases h
  | succ n ih =>
    intro K x2 H locs Z cells slots ad R ls h hl hP hD hS hCF hcn
    unfold fL_law_224 at h
    refine lv_iload_n hx hb dL_law_224 rfl (lv_at hl 2 rfl) ?_
    refine lv_bipush (v := 13) hx hb dL_law_225 (by decide) ?_
    refine lv_icmp_ge (tgt := 250) hx hb dL_law_227 (by decide) (fun c115 => ?_) (fun c115 => ?_)
    · replace h := if_p c115 h
      exact lw_t_250 hF  h (lv_sub hl [0, 1] rfl) hP hD hS hCF ⟨by omega, by omega⟩
    · replace h := if_n c115 h
      refine lv_aload_n hx hb dL_law_230 rfl (lv_at hl 1 rfl) ?_
      refine lv_iconst (v := 0) hx hb dL_law_231 (by decide) ?_
      refine lv_iload_n hx hb dL_law_232 rfl (lv_at hl 2 rfl) ?_
      refine lv_iconst (v := 4) hx hb dL_law_233 (by decide) ?_
      refine lv_irem hx hb dL_law_234 (by decide) ?_
      obtain ⟨v116, O117, hv116, h⟩ := bdO_some h
      refine call_BVE (As := [.int 0, .int (x2 - x2 / 4 * 4)]) (rest := []) ⟨hx, hb, hml, hown, hts⟩ (tX2_write (l := l) (dC := dC) (dI := dI) (cI := cI) (cB := cB) (cP := cP) (ad := ad) (base := s.heap.size) (R := R) hv116 hCF) (cwV 2 hts gQ_X2_write rfl rfl rfl (by decide +kernel) ⟨Nat.le_of_ble_eq_true rfl, Nat.le_of_ble_eq_true rfl⟩) hK hP hD hS hS.1 (fun U hU hW => Env_step rfl rfl hE hS hU hW) 0 rfl rfl (by rfl) hl.1 rfl (Nat.le_of_ble_eq_true rfl) dL_law_235 ⟨by show _ ≤ 600000; omega, by show _ ≤ 7302250; omega⟩ (fun H locs ws9 hW9 hP hD _ hS => ?_)
      obtain ⟨Z, rfl, hCF⟩ := hW9
      refine lv_iload_n hx hb dL_law_238 rfl (lv_at hl 2 rfl) ?_
      refine lv_icmp_eq (tgt := 244) hx hb dL_law_239 (by decide) (fun c118 => ?_) (fun c118 => ?_)
      · replace h := if_p c118 h
        refine lv_iinc (v := x2 + 1) (lv' := [(2, .int (x2 + 1)), (0, .ref b), (1, .ref (ad 0 0))]) hx hb dL_law_244 hl (k := 2) rfl rfl (by decide) rfl (fun ls hl => ?_)
        refine lv_goto (tgt := 224) hx hb dL_law_247 (by decide) ?_
        exact ih h (lv_sub hl [1, 2, 0] rfl) hP hD hS hCF ⟨by omega, by omega⟩
      · replace h := if_n c118 h
        refine lv_iconst (v := 0) hx hb dL_law_242 (by decide) ?_
        exact absurd (Option.some.inj h) (by decide)
def fL_law_102b (N : Nat) (L : Nat) (xs : Nat → Int32) (K : OT) : Option Int32 := bdO (mX2_pass N K 30) (fun v134 O135 => (if v134 = 0 then bdP (mX2_account N O135 5) (fun v137 => (if v137 = 1 then bdP (mX2_account N O135 4) (fun v139 => (if v139 = 1 then bdP (mX2_account N O135 8) (fun v141 => (if v141 = 30 then bdP (mX2_account N O135 10) (fun v143 => (if v143 = 33 then bdP (mX2_campOf N O135 4 6) (fun v145 => (if v145 = 1 then fL_law_224 N L xs  N O135 1 else fL_law_220 N L xs  O135 )) else fL_law_220 N L xs  O135 )) else fL_law_220 N L xs  O135 )) else fL_law_220 N L xs  O135 )) else fL_law_220 N L xs  O135 )) else fL_law_220 N L xs  O135 ))
set_option maxHeartbeats 16000000 in
set_option maxRecDepth 100000 in
theorem lw_t_102b (hF : LFX p s m meth c N b L xs dC dI cI cB cP adK adV) : ∀ {K : OT}  {H : Heap} {locs : List Loc} {Z : Nat → Nat} {cells slots : Nat} {ad : Nat → Nat → Nat} {R : va_W} {ls : Array Slot} (h : fL_law_102b N L xs K  = some 1) (hl : lv_has ls 11 [(0, .ref b), (1, .ref (ad 0 0))]) (hP : va_P (dC, dI) vwCl (outW cI cB cP ad Z K ++ R) H) (hD : va_D (aB s.heap.size) (outW cI cB cP ad Z K ++ R)) (hS : va_S (aB s.heap.size) s.heap H locs) (hCF : OF Z K) (hcn : cells + (15084) ≤ 600000 ∧ slots + 256 * (15084) ≤ 7302250), W p l e room_1 s m #[Value.ref b] below meth c H locs cells slots (lw_Z below #[Value.ref b] s) (F0 m 160 ls []) := by
  obtain ⟨hx, hb, hr, hml, hown, hts, hlocks, hK, hAO, hEL⟩ := id hF
  have hE := hEL.1
  have hA : ∀ z : Nat, s.heap.size ≤ z → aB s.heap.size z := fun z hz => hz
  intro  K H locs Z cells slots ad R ls h hl hP hD hS hCF hcn
  unfold fL_law_102b at h
  refine lv_aload_n hx hb dL_law_160 rfl (lv_at hl 1 rfl) ?_
  refine lv_bipush (v := 30) hx hb dL_law_161 (by decide) ?_
  obtain ⟨v134, O135, hv134, h⟩ := bdO_some h
  refine call_BVE (As := [.int 30]) (rest := []) ⟨hx, hb, hml, hown, hts⟩ (tX2_pass (l := l) (dC := dC) (dI := dI) (cI := cI) (cB := cB) (cP := cP) (ad := ad) (base := s.heap.size) (R := R) hv134 hCF) (cwV 1 hts gQ_X2_pass rfl rfl rfl (by decide +kernel) ⟨Nat.le_of_ble_eq_true rfl, Nat.le_of_ble_eq_true rfl⟩) hK hP hD hS hS.1 (fun U hU hW => Env_step rfl rfl hE hS hU hW) 0 rfl rfl (by rfl) hl.1 rfl (Nat.le_of_ble_eq_true rfl) dL_law_163 ⟨by show _ ≤ 600000; omega, by show _ ≤ 7302250; omega⟩ (fun H locs ws9 hW9 hP hD _ hS => ?_)
  obtain ⟨Z, rfl, hCF⟩ := hW9
  refine lv_if_ne (tgt := 220) hx hb dL_law_166 (by decide) (fun c136 => ?_) (fun c136 => ?_)
  · replace h := if_n c136 h
    exact lw_t_220 hF  h (lv_sub hl [] rfl) hP hD hS hCF ⟨by omega, by omega⟩
  · replace h := if_p c136 h
    refine lv_aload_n hx hb dL_law_169 rfl (lv_at hl 1 rfl) ?_
    refine lv_iconst (v := 5) hx hb dL_law_170 (by decide) ?_
    obtain ⟨v137, hv137, h⟩ := bdP_some h
    refine call_BVP (As := [.int 5]) (rest := []) ⟨hx, hb, hml, hown, hts⟩ (tX2_account (l := l) (dC := dC) (dI := dI) (cI := cI) (cB := cB) (cP := cP) (ad := ad) (base := s.heap.size) (R := R) hv137 hCF) (cwV 1 hts gQ_X2_account rfl rfl rfl (by decide +kernel) ⟨Nat.le_of_ble_eq_true rfl, Nat.le_of_ble_eq_true rfl⟩) hK hP hD hS.1 (fun U hU hW => Env_step rfl rfl hE hS hU hW) 0 rfl rfl (by rfl) hl.1 rfl (Nat.le_of_ble_eq_true rfl) dL_law_171 ⟨by show _ ≤ 600000; omega, by show _ ≤ 7302250; omega⟩ ?_
    refine lv_iconst (v := 1) hx hb dL_law_174 (by decide) ?_
    refine lv_icmp_ne (tgt := 220) hx hb dL_law_175 (by decide) (fun c138 => ?_) (fun c138 => ?_)
    · replace h := if_n c138 h
      exact lw_t_220 hF  h (lv_sub hl [] rfl) hP hD hS hCF ⟨by omega, by omega⟩
    · replace h := if_p c138 h
      refine lv_aload_n hx hb dL_law_178 rfl (lv_at hl 1 rfl) ?_
      refine lv_iconst (v := 4) hx hb dL_law_179 (by decide) ?_
      obtain ⟨v139, hv139, h⟩ := bdP_some h
      refine call_BVP (As := [.int 4]) (rest := []) ⟨hx, hb, hml, hown, hts⟩ (tX2_account (l := l) (dC := dC) (dI := dI) (cI := cI) (cB := cB) (cP := cP) (ad := ad) (base := s.heap.size) (R := R) hv139 hCF) (cwV 1 hts gQ_X2_account rfl rfl rfl (by decide +kernel) ⟨Nat.le_of_ble_eq_true rfl, Nat.le_of_ble_eq_true rfl⟩) hK hP hD hS.1 (fun U hU hW => Env_step rfl rfl hE hS hU hW) 0 rfl rfl (by rfl) hl.1 rfl (Nat.le_of_ble_eq_true rfl) dL_law_180 ⟨by show _ ≤ 600000; omega, by show _ ≤ 7302250; omega⟩ ?_
      refine lv_iconst (v := 1) hx hb dL_law_183 (by decide) ?_
      refine lv_icmp_ne (tgt := 220) hx hb dL_law_184 (by decide) (fun c140 => ?_) (fun c140 => ?_)
      · replace h := if_n c140 h
        exact lw_t_220 hF  h (lv_sub hl [] rfl) hP hD hS hCF ⟨by omega, by omega⟩
      · replace h := if_p c140 h
        refine lv_aload_n hx hb dL_law_187 rfl (lv_at hl 1 rfl) ?_
        refine lv_bipush (v := 8) hx hb dL_law_188 (by decide) ?_
        obtain ⟨v141, hv141, h⟩ := bdP_some h
        refine call_BVP (As := [.int 8]) (rest := []) ⟨hx, hb, hml, hown, hts⟩ (tX2_account (l := l) (dC := dC) (dI := dI) (cI := cI) (cB := cB) (cP := cP) (ad := ad) (base := s.heap.size) (R := R) hv141 hCF) (cwV 1 hts gQ_X2_account rfl rfl rfl (by decide +kernel) ⟨Nat.le_of_ble_eq_true rfl, Nat.le_of_ble_eq_true rfl⟩) hK hP hD hS.1 (fun U hU hW => Env_step rfl rfl hE hS hU hW) 0 rfl rfl (by rfl) hl.1 rfl (Nat.le_of_ble_eq_true rfl) dL_law_190 ⟨by show _ ≤ 600000; omega, by show _ ≤ 7302250; omega⟩ ?_
        refine lv_bipush (v := 30) hx hb dL_law_193 (by decide) ?_
        refine lv_icmp_ne (tgt := 220) hx hb dL_law_195 (by decide) (fun c142 => ?_) (fun c142 => ?_)
        · replace h := if_n c142 h
          exact lw_t_220 hF  h (lv_sub hl [] rfl) hP hD hS hCF ⟨by omega, by omega⟩
        · replace h := if_p c142 h
          refine lv_aload_n hx hb dL_law_198 rfl (lv_at hl 1 rfl) ?_
          refine lv_bipush (v := 10) hx hb dL_law_199 (by decide) ?_
          obtain ⟨v143, hv143, h⟩ := bdP_some h
          refine call_BVP (As := [.int 10]) (rest := []) ⟨hx, hb, hml, hown, hts⟩ (tX2_account (l := l) (dC := dC) (dI := dI) (cI := cI) (cB := cB) (cP := cP) (ad := ad) (base := s.heap.size) (R := R) hv143 hCF) (cwV 1 hts gQ_X2_account rfl rfl rfl (by decide +kernel) ⟨Nat.le_of_ble_eq_true rfl, Nat.le_of_ble_eq_true rfl⟩) hK hP hD hS.1 (fun U hU hW => Env_step rfl rfl hE hS hU hW) 0 rfl rfl (by rfl) hl.1 rfl (Nat.le_of_ble_eq_true rfl) dL_law_201 ⟨by show _ ≤ 600000; omega, by show _ ≤ 7302250; omega⟩ ?_
          refine lv_bipush (v := 33) hx hb dL_law_204 (by decide) ?_
          refine lv_icmp_ne (tgt := 220) hx hb dL_law_206 (by decide) (fun c144 => ?_) (fun c144 => ?_)
          · replace h := if_n c144 h
            exact lw_t_220 hF  h (lv_sub hl [] rfl) hP hD hS hCF ⟨by omega, by omega⟩
          · replace h := if_p c144 h
            refine lv_aload_n hx hb dL_law_209 rfl (lv_at hl 1 rfl) ?_
            refine lv_iconst (v := 4) hx hb dL_law_210 (by decide) ?_
            refine lv_bipush (v := 6) hx hb dL_law_211 (by decide) ?_
            obtain ⟨v145, hv145, h⟩ := bdP_some h
            refine call_BVP (As := [.int 4, .int 6]) (rest := []) ⟨hx, hb, hml, hown, hts⟩ (tX2_campOf (l := l) (dC := dC) (dI := dI) (cI := cI) (cB := cB) (cP := cP) (ad := ad) (base := s.heap.size) (R := R) hv145 hCF) (cwV 2 hts gQ_X2_campOf rfl rfl rfl (by decide +kernel) ⟨Nat.le_of_ble_eq_true rfl, Nat.le_of_ble_eq_true rfl⟩) hK hP hD hS.1 (fun U hU hW => Env_step rfl rfl hE hS hU hW) 0 rfl rfl (by rfl) hl.1 rfl (Nat.le_of_ble_eq_true rfl) dL_law_213 ⟨by show _ ≤ 600000; omega, by show _ ≤ 7302250; omega⟩ ?_
            refine lv_iconst (v := 1) hx hb dL_law_216 (by decide) ?_
            refine lv_icmp_eq (tgt := 222) hx hb dL_law_217 (by decide) (fun c146 => ?_) (fun c146 => ?_)
            · replace h := if_p c146 h
              refine lv_iconst (v := 1) hx hb dL_law_222 (by decide) ?_
              refine lv_istore_n (lv' := [(2, .int 1), (0, .ref b), (1, .ref (ad 0 0))]) hx hb dL_law_223 rfl hl (by decide) rfl (fun ls hl => ?_)
              exact lw_t_224 hF  h (lv_sub hl [1, 2, 0] rfl) hP hD hS hCF ⟨by omega, by omega⟩
            · replace h := if_n c146 h
              exact lw_t_220 hF  h (lv_sub hl [] rfl) hP hD hS hCF ⟨by omega, by omega⟩
def fL_law_102a (N : Nat) (L : Nat) (xs : Nat → Int32) (K : OT) : Option Int32 := bdO (mX2_pass N K 1) (fun v129 O130 => (if v129 = 1 then bdP (mX2_captain N O130 ) (fun v132 => (if v132 = 0 then bdO (mX2_pass N O130 30) (fun v134 O135 => (if v134 = 0 then bdP (mX2_account N O135 5) (fun v137 => (if v137 = 1 then bdP (mX2_account N O135 4) (fun v139 => (if v139 = 1 then bdP (mX2_account N O135 8) (fun v141 => (if v141 = 30 then bdP (mX2_account N O135 10) (fun v143 => (if v143 = 33 then bdP (mX2_campOf N O135 4 6) (fun v145 => (if v145 = 1 then fL_law_224 N L xs  N O135 1 else fL_law_220 N L xs  O135 )) else fL_law_220 N L xs  O135 )) else fL_law_220 N L xs  O135 )) else fL_law_220 N L xs  O135 )) else fL_law_220 N L xs  O135 )) else fL_law_220 N L xs  O135 )) else fL_law_220 N L xs  O130 )) else fL_law_220 N L xs  O130 ))
set_option maxHeartbeats 16000000 in
set_option maxRecDepth 100000 in
theorem lw_t_102a (hF : LFX p s m meth c N b L xs dC dI cI cB cP adK adV) : ∀ {K : OT}  {H : Heap} {locs : List Loc} {Z : Nat → Nat} {cells slots : Nat} {ad : Nat → Nat → Nat} {R : va_W} {ls : Array Slot} (h : fL_law_102a N L xs K  = some 1) (hl : lv_has ls 11 [(0, .ref b), (1, .ref (ad 0 0))]) (hP : va_P (dC, dI) vwCl (outW cI cB cP ad Z K ++ R) H) (hD : va_D (aB s.heap.size) (outW cI cB cP ad Z K ++ R)) (hS : va_S (aB s.heap.size) s.heap H locs) (hCF : OF Z K) (hcn : cells + (15084) ≤ 600000 ∧ slots + 256 * (15084) ≤ 7302250), W p l e room_1 s m #[Value.ref b] below meth c H locs cells slots (lw_Z below #[Value.ref b] s) (F0 m 144 ls []) := by
  obtain ⟨hx, hb, hr, hml, hown, hts, hlocks, hK, hAO, hEL⟩ := id hF
  have hE := hEL.1
  have hA : ∀ z : Nat, s.heap.size ≤ z → aB s.heap.size z := fun z hz => hz
  intro  K H locs Z cells slots ad R ls h hl hP hD hS hCF hcn
  unfold fL_law_102a at h
  refine lv_aload_n hx hb dL_law_144 rfl (lv_at hl 1 rfl) ?_
  refine lv_iconst (v := 1) hx hb dL_law_145 (by decide) ?_
  obtain ⟨v129, O130, hv129, h⟩ := bdO_some h
  refine call_BVE (As := [.int 1]) (rest := []) ⟨hx, hb, hml, hown, hts⟩ (tX2_pass (l := l) (dC := dC) (dI := dI) (cI := cI) (cB := cB) (cP := cP) (ad := ad) (base := s.heap.size) (R := R) hv129 hCF) (cwV 1 hts gQ_X2_pass rfl rfl rfl (by decide +kernel) ⟨Nat.le_of_ble_eq_true rfl, Nat.le_of_ble_eq_true rfl⟩) hK hP hD hS hS.1 (fun U hU hW => Env_step rfl rfl hE hS hU hW) 0 rfl rfl (by rfl) hl.1 rfl (Nat.le_of_ble_eq_true rfl) dL_law_146 ⟨by show _ ≤ 600000; omega, by show _ ≤ 7302250; omega⟩ (fun H locs ws9 hW9 hP hD _ hS => ?_)
  obtain ⟨Z, rfl, hCF⟩ := hW9
  refine lv_iconst (v := 1) hx hb dL_law_149 (by decide) ?_
  refine lv_icmp_ne (tgt := 220) hx hb dL_law_150 (by decide) (fun c131 => ?_) (fun c131 => ?_)
  · replace h := if_n c131 h
    exact lw_t_220 hF  h (lv_sub hl [] rfl) hP hD hS hCF ⟨by omega, by omega⟩
  · replace h := if_p c131 h
    refine lv_aload_n hx hb dL_law_153 rfl (lv_at hl 1 rfl) ?_
    obtain ⟨v132, hv132, h⟩ := bdP_some h
    refine call_BVP (As := []) (rest := []) ⟨hx, hb, hml, hown, hts⟩ (tX2_captain (l := l) (dC := dC) (dI := dI) (cI := cI) (cB := cB) (cP := cP) (ad := ad) (base := s.heap.size) (R := R) hv132 hCF) (cwV 0 hts gQ_X2_captain rfl rfl rfl (by decide +kernel) ⟨Nat.le_of_ble_eq_true rfl, Nat.le_of_ble_eq_true rfl⟩) hK hP hD hS.1 (fun U hU hW => Env_step rfl rfl hE hS hU hW) 0 rfl rfl (by rfl) hl.1 rfl (Nat.le_of_ble_eq_true rfl) dL_law_154 ⟨by show _ ≤ 600000; omega, by show _ ≤ 7302250; omega⟩ ?_
    refine lv_if_ne (tgt := 220) hx hb dL_law_157 (by decide) (fun c133 => ?_) (fun c133 => ?_)
    · replace h := if_n c133 h
      exact lw_t_220 hF  h (lv_sub hl [] rfl) hP hD hS hCF ⟨by omega, by omega⟩
    · replace h := if_p c133 h
      exact lw_t_102b hF h hl hP hD hS hCF ⟨by omega, by omega⟩
set_option maxHeartbeats 16000000 in
set_option maxRecDepth 100000 in
theorem lw_t_102 (hF : LFX p s m meth c N b L xs dC dI cI cB cP adK adV) : ∀ {K : OT}  {H : Heap} {locs : List Loc} {Z : Nat → Nat} {cells slots : Nat} {ad : Nat → Nat → Nat} {R : va_W} {ls : Array Slot} (h : fL_law_102 N L xs  K  = some 1) (hl : lv_has ls 11 [(0, .ref b), (1, .ref (ad 0 0))]) (hP : va_P (dC, dI) vwCl (outW cI cB cP ad Z K ++ R) H) (hD : va_D (aB s.heap.size) (outW cI cB cP ad Z K ++ R)) (hS : va_S (aB s.heap.size) s.heap H locs) (hCF : OF Z K) (hcn : cells + (15086) ≤ 600000 ∧ slots + 256 * (15086) ≤ 7302250), W p l e room_1 s m #[Value.ref b] below meth c H locs cells slots (lw_Z below #[Value.ref b] s) (F0 m 102 ls []) := by
  obtain ⟨hx, hb, hr, hml, hown, hts, hlocks, hK, hAO, hEL⟩ := id hF
  have hE := hEL.1
  have hA : ∀ z : Nat, s.heap.size ≤ z → aB s.heap.size z := fun z hz => hz
  intro  K H locs Z cells slots ad R ls h hl hP hD hS hCF hcn
  unfold fL_law_102 at h
  refine lv_aload_n hx hb dL_law_102 rfl (lv_at hl 1 rfl) ?_
  refine lv_bipush (v := 112) hx hb dL_law_103 (by decide) ?_
  obtain ⟨v119, O120, hv119, h⟩ := bdO_some h
  refine call_BVE (As := [.int 112]) (rest := []) ⟨hx, hb, hml, hown, hts⟩ (tX2_append (l := l) (dC := dC) (dI := dI) (cI := cI) (cB := cB) (cP := cP) (ad := ad) (base := s.heap.size) (R := R) hv119 hCF) (cwV 1 hts gQ_X2_append rfl rfl rfl (by decide +kernel) ⟨Nat.le_of_ble_eq_true rfl, Nat.le_of_ble_eq_true rfl⟩) hK hP hD hS hS.1 (fun U hU hW => Env_step rfl rfl hE hS hU hW) 0 rfl rfl (by rfl) hl.1 rfl (Nat.le_of_ble_eq_true rfl) dL_law_105 ⟨by show _ ≤ 600000; omega, by show _ ≤ 7302250; omega⟩ (fun H locs ws9 hW9 hP hD _ hS => ?_)
  obtain ⟨Z, rfl, hCF⟩ := hW9
  refine lv_bipush (v := (-2)) hx hb dL_law_108 (by decide) ?_
  refine lv_icmp_ne (tgt := 142) hx hb dL_law_110 (by decide) (fun c121 => ?_) (fun c121 => ?_)
  · replace h := if_n c121 h
    exact lw_t_142 hF  h (lv_sub hl [] rfl) hP hD hS hCF ⟨by omega, by omega⟩
  · replace h := if_p c121 h
    refine lv_aload_n hx hb dL_law_113 rfl (lv_at hl 1 rfl) ?_
    refine lv_bipush (v := 11) hx hb dL_law_114 (by decide) ?_
    obtain ⟨v122, hv122, h⟩ := bdP_some h
    refine call_BVP (As := [.int 11]) (rest := []) ⟨hx, hb, hml, hown, hts⟩ (tX2_account (l := l) (dC := dC) (dI := dI) (cI := cI) (cB := cB) (cP := cP) (ad := ad) (base := s.heap.size) (R := R) hv122 hCF) (cwV 1 hts gQ_X2_account rfl rfl rfl (by decide +kernel) ⟨Nat.le_of_ble_eq_true rfl, Nat.le_of_ble_eq_true rfl⟩) hK hP hD hS.1 (fun U hU hW => Env_step rfl rfl hE hS hU hW) 0 rfl rfl (by rfl) hl.1 rfl (Nat.le_of_ble_eq_true rfl) dL_law_116 ⟨by show _ ≤ 600000; omega, by show _ ≤ 7302250; omega⟩ ?_
    refine lv_bipush (v := 70) hx hb dL_law_119 (by decide) ?_
    refine lv_icmp_ne (tgt := 142) hx hb dL_law_121 (by decide) (fun c123 => ?_) (fun c123 => ?_)
    · replace h := if_n c123 h
      exact lw_t_142 hF  h (lv_sub hl [] rfl) hP hD hS hCF ⟨by omega, by omega⟩
    · replace h := if_p c123 h
      refine lv_aload_n hx hb dL_law_124 rfl (lv_at hl 1 rfl) ?_
      obtain ⟨v124, O125, hv124, h⟩ := bdO_some h
      refine call_BVE (As := []) (rest := []) ⟨hx, hb, hml, hown, hts⟩ (tX2_read (l := l) (dC := dC) (dI := dI) (cI := cI) (cB := cB) (cP := cP) (ad := ad) (base := s.heap.size) (R := R) hv124 hCF) (cwV 0 hts gQ_X2_read rfl rfl rfl (by decide +kernel) ⟨Nat.le_of_ble_eq_true rfl, Nat.le_of_ble_eq_true rfl⟩) hK hP hD hS hS.1 (fun U hU hW => Env_step rfl rfl hE hS hU hW) 0 rfl rfl (by rfl) hl.1 rfl (Nat.le_of_ble_eq_true rfl) dL_law_125 ⟨by show _ ≤ 600000; omega, by show _ ≤ 7302250; omega⟩ (fun H locs ws9 hW9 hP hD _ hS => ?_)
      obtain ⟨Z, rfl, hCF⟩ := hW9
      refine lv_bipush (v := (-100)) hx hb dL_law_128 (by decide) ?_
      refine lv_icmp_ne (tgt := 142) hx hb dL_law_130 (by decide) (fun c126 => ?_) (fun c126 => ?_)
      · replace h := if_n c126 h
        exact lw_t_142 hF  h (lv_sub hl [] rfl) hP hD hS hCF ⟨by omega, by omega⟩
      · replace h := if_p c126 h
        refine lv_aload_n hx hb dL_law_133 rfl (lv_at hl 1 rfl) ?_
        refine lv_bipush (v := 11) hx hb dL_law_134 (by decide) ?_
        obtain ⟨v127, hv127, h⟩ := bdP_some h
        refine call_BVP (As := [.int 11]) (rest := []) ⟨hx, hb, hml, hown, hts⟩ (tX2_account (l := l) (dC := dC) (dI := dI) (cI := cI) (cB := cB) (cP := cP) (ad := ad) (base := s.heap.size) (R := R) hv127 hCF) (cwV 1 hts gQ_X2_account rfl rfl rfl (by decide +kernel) ⟨Nat.le_of_ble_eq_true rfl, Nat.le_of_ble_eq_true rfl⟩) hK hP hD hS.1 (fun U hU hW => Env_step rfl rfl hE hS hU hW) 0 rfl rfl (by rfl) hl.1 rfl (Nat.le_of_ble_eq_true rfl) dL_law_136 ⟨by show _ ≤ 600000; omega, by show _ ≤ 7302250; omega⟩ ?_
        refine lv_if_eq (tgt := 144) hx hb dL_law_139 (by decide) (fun c128 => ?_) (fun c128 => ?_)
        · replace h := if_p c128 h
          exact lw_t_102a hF h hl hP hD hS hCF ⟨by omega, by omega⟩
        · replace h := if_n c128 h
          exact lw_t_142 hF  h (lv_sub hl [] rfl) hP hD hS hCF ⟨by omega, by omega⟩
set_option maxHeartbeats 16000000 in
set_option maxRecDepth 100000 in
theorem lw_t_76 (hF : LFX p s m meth c N b L xs dC dI cI cB cP adK adV) : ∀ {n : Nat}, ∀ {K : OT} {x2 : Int32} {H : Heap} {locs : List Loc} {Z : Nat → Nat} {cells slots : Nat} {ad : Nat → Nat → Nat} {R : va_W} {ls : Array Slot} (h : fL_law_76 N L xs  n K x2 = some 1) (hl : lv_has ls 11 [(0, .ref b), (1, .ref (ad 0 0)), (2, .int x2)]) (hP : va_P (dC, dI) vwCl (outW cI cB cP ad Z K ++ R) H) (hD : va_D (aB s.heap.size) (outW cI cB cP ad Z K ++ R)) (hS : va_S (aB s.heap.size) s.heap H locs) (hCF : OF Z K) (hcn : cells + (1 * n + 15086) ≤ 600000 ∧ slots + 256 * (1 * n + 15086) ≤ 7302250), W p l e room_1 s m #[Value.ref b] below meth c H locs cells slots (lw_Z below #[Value.ref b] s) (F0 m 76 ls []) := by
  obtain ⟨hx, hb, hr, hml, hown, hts, hlocks, hK, hAO, hEL⟩ := id hF
  have hE := hEL.1
  have hA : ∀ z : Nat, s.heap.size ≤ z → aB s.heap.size z := fun z hz => hz
  intro  n
  induction n with
  | zero =>
    intro K x2 H locs Z cells slots ad R ls h hl hP hD hS hCF hcn
    unfold fL_law_76 at h
    cases h
  | succ n ih =>
    intro K x2 H locs Z cells slots ad R ls h hl hP hD hS hCF hcn
    unfold fL_law_76 at h
    refine lv_iload_n hx hb dL_law_76 rfl (lv_at hl 2 rfl) ?_
    refine lv_bipush (v := 70) hx hb dL_law_77 (by decide) ?_
    refine lv_icmp_ge (tgt := 102) hx hb dL_law_79 (by decide) (fun c147 => ?_) (fun c147 => ?_)
    · replace h := if_p c147 h
      exact lw_t_102 hF  h (lv_sub hl [0, 1] rfl) hP hD hS hCF ⟨by omega, by omega⟩
    · replace h := if_n c147 h
      refine lv_aload_n hx hb dL_law_82 rfl (lv_at hl 1 rfl) ?_
      refine lv_bipush (v := 32) hx hb dL_law_83 (by decide) ?_
      obtain ⟨v148, O149, hv148, h⟩ := bdO_some h
      refine call_BVE (As := [.int 32]) (rest := []) ⟨hx, hb, hml, hown, hts⟩ (tX2_append (l := l) (dC := dC) (dI := dI) (cI := cI) (cB := cB) (cP := cP) (ad := ad) (base := s.heap.size) (R := R) hv148 hCF) (cwV 1 hts gQ_X2_append rfl rfl rfl (by decide +kernel) ⟨Nat.le_of_ble_eq_true rfl, Nat.le_of_ble_eq_true rfl⟩) hK hP hD hS hS.1 (fun U hU hW => Env_step rfl rfl hE hS hU hW) 0 rfl rfl (by rfl) hl.1 rfl (Nat.le_of_ble_eq_true rfl) dL_law_85 ⟨by show _ ≤ 600000; omega, by show _ ≤ 7302250; omega⟩ (fun H locs ws9 hW9 hP hD _ hS => ?_)
      obtain ⟨Z, rfl, hCF⟩ := hW9
      refine lv_iload_n hx hb dL_law_88 rfl (lv_at hl 2 rfl) ?_
      refine lv_iconst (v := 1) hx hb dL_law_89 (by decide) ?_
      refine lv_iadd hx hb dL_law_90 ?_
      refine lv_icmp_eq (tgt := 96) hx hb dL_law_91 (by decide) (fun c150 => ?_) (fun c150 => ?_)
      · replace h := if_p c150 h
        refine lv_iinc (v := x2 + 1) (lv' := [(2, .int (x2 + 1)), (0, .ref b), (1, .ref (ad 0 0))]) hx hb dL_law_96 hl (k := 2) rfl rfl (by decide) rfl (fun ls hl => ?_)
        refine lv_goto (tgt := 76) hx hb dL_law_99 (by decide) ?_
        exact ih h (lv_sub hl [1, 2, 0] rfl) hP hD hS hCF ⟨by omega, by omega⟩
      · replace h := if_n c150 h
        refine lv_iconst (v := 0) hx hb dL_law_94 (by decide) ?_
        exact absurd (Option.some.inj h) (by decide)
set_option maxHeartbeats 16000000 in
set_option maxRecDepth 100000 in
theorem lw_t_73 (hF : LFX p s m meth c N b L xs dC dI cI cB cP adK adV) : ∀ {K : OT}  {H : Heap} {locs : List Loc} {Z : Nat → Nat} {cells slots : Nat} {ad : Nat → Nat → Nat} {R : va_W} {ls : Array Slot} (h : fL_law_73 N L xs  K  = some 1) (hl : lv_has ls 11 [(0, .ref b), (1, .ref (ad 0 0))]) (hP : va_P (dC, dI) vwCl (outW cI cB cP ad Z K ++ R) H) (hD : va_D (aB s.heap.size) (outW cI cB cP ad Z K ++ R)) (hS : va_S (aB s.heap.size) s.heap H locs) (hCF : OF Z K) (hcn : cells + (15095) ≤ 600000 ∧ slots + 256 * (15095) ≤ 7302250), W p l e room_1 s m #[Value.ref b] below meth c H locs cells slots (lw_Z below #[Value.ref b] s) (F0 m 73 ls []) := by
  obtain ⟨hx, hb, hr, hml, hown, hts, hlocks, hK, hAO, hEL⟩ := id hF
  have hE := hEL.1
  have hA : ∀ z : Nat, s.heap.size ≤ z → aB s.heap.size z := fun z hz => hz
  intro  K H locs Z cells slots ad R ls h hl hP hD hS hCF hcn
  unfold fL_law_73 at h
  refine lv_bipush (v := 62) hx hb dL_law_73 (by decide) ?_
  refine lv_istore_n (lv' := [(2, .int 62), (0, .ref b), (1, .ref (ad 0 0))]) hx hb dL_law_75 rfl hl (by decide) rfl (fun ls hl => ?_)
  exact lw_t_76 hF  h (lv_sub hl [1, 2, 0] rfl) hP hD hS hCF ⟨by omega, by omega⟩
set_option maxHeartbeats 16000000 in
set_option maxRecDepth 100000 in
theorem lw_t_45 (hF : LFX p s m meth c N b L xs dC dI cI cB cP adK adV) : ∀ {n : Nat}, ∀ {K : OT} {x2 : Int32} {H : Heap} {locs : List Loc} {Z : Nat → Nat} {cells slots : Nat} {ad : Nat → Nat → Nat} {R : va_W} {ls : Array Slot} (h : fL_law_45 N L xs  n K x2 = some 1) (hl : lv_has ls 11 [(0, .ref b), (1, .ref (ad 0 0)), (2, .int x2)]) (hP : va_P (dC, dI) vwCl (outW cI cB cP ad Z K ++ R) H) (hD : va_D (aB s.heap.size) (outW cI cB cP ad Z K ++ R)) (hS : va_S (aB s.heap.size) s.heap H locs) (hCF : OF Z K) (hcn : cells + (1 * n + 15095) ≤ 600000 ∧ slots + 256 * (1 * n + 15095) ≤ 7302250), W p l e room_1 s m #[Value.ref b] below meth c H locs cells slots (lw_Z below #[Value.ref b] s) (F0 m 45 ls []) := by
  obtain ⟨hx, hb, hr, hml, hown, hts, hlocks, hK, hAO, hEL⟩ := id hF
  have hE := hEL.1
  have hA : ∀ z : Nat, s.heap.size ≤ z → aB s.heap.size z := fun z hz => hz
  intro  n
  induction n with
  | zero =>
    intro K x2 H locs Z cells slots ad R ls h hl hP hD hS hCF hcn
    unfold fL_law_45 at h
    cases h
  | succ n ih =>
    intro K x2 H locs Z cells slots ad R ls h hl hP hD hS hCF hcn
    unfold fL_law_45 at h
    refine lv_iload_n hx hb dL_law_45 rfl (lv_at hl 2 rfl) ?_
    refine lv_bipush (v := 62) hx hb dL_law_46 (by decide) ?_
    refine lv_icmp_ge (tgt := 73) hx hb dL_law_48 (by decide) (fun c151 => ?_) (fun c151 => ?_)
    · replace h := if_p c151 h
      exact lw_t_73 hF  h (lv_sub hl [0, 1] rfl) hP hD hS hCF ⟨by omega, by omega⟩
    · replace h := if_n c151 h
      refine lv_aload_n hx hb dL_law_51 rfl (lv_at hl 1 rfl) ?_
      refine lv_bipush (v := 65) hx hb dL_law_52 (by decide) ?_
      refine lv_iload_n hx hb dL_law_54 rfl (lv_at hl 2 rfl) ?_
      refine lv_iadd hx hb dL_law_55 ?_
      obtain ⟨v152, O153, hv152, h⟩ := bdO_some h
      refine call_BVE (As := [.int (65 + x2)]) (rest := []) ⟨hx, hb, hml, hown, hts⟩ (tX2_append (l := l) (dC := dC) (dI := dI) (cI := cI) (cB := cB) (cP := cP) (ad := ad) (base := s.heap.size) (R := R) hv152 hCF) (cwV 1 hts gQ_X2_append rfl rfl rfl (by decide +kernel) ⟨Nat.le_of_ble_eq_true rfl, Nat.le_of_ble_eq_true rfl⟩) hK hP hD hS hS.1 (fun U hU hW => Env_step rfl rfl hE hS hU hW) 0 rfl rfl (by rfl) hl.1 rfl (Nat.le_of_ble_eq_true rfl) dL_law_56 ⟨by show _ ≤ 600000; omega, by show _ ≤ 7302250; omega⟩ (fun H locs ws9 hW9 hP hD _ hS => ?_)
      obtain ⟨Z, rfl, hCF⟩ := hW9
      refine lv_iload_n hx hb dL_law_59 rfl (lv_at hl 2 rfl) ?_
      refine lv_iconst (v := 1) hx hb dL_law_60 (by decide) ?_
      refine lv_iadd hx hb dL_law_61 ?_
      refine lv_icmp_eq (tgt := 67) hx hb dL_law_62 (by decide) (fun c154 => ?_) (fun c154 => ?_)
      · replace h := if_p c154 h
        refine lv_iinc (v := x2 + 1) (lv' := [(2, .int (x2 + 1)), (0, .ref b), (1, .ref (ad 0 0))]) hx hb dL_law_67 hl (k := 2) rfl rfl (by decide) rfl (fun ls hl => ?_)
        refine lv_goto (tgt := 45) hx hb dL_law_70 (by decide) ?_
        exact ih h (lv_sub hl [1, 2, 0] rfl) hP hD hS hCF ⟨by omega, by omega⟩
      · replace h := if_n c154 h
        refine lv_iconst (v := 0) hx hb dL_law_65 (by decide) ?_
        exact absurd (Option.some.inj h) (by decide)
set_option maxHeartbeats 16000000 in
set_option maxRecDepth 100000 in
theorem law_run (hf : mL_law N L xs = some 1) (hF : LFX p s m meth c N b L xs dC dI cI cB cP adK adV) : W p l e room_1 s m #[Value.ref b] below meth c s.heap [] 0 0 (lw_Z below #[Value.ref b] s) (entryFrame m ([Value.ref b] : List Value).toArray 11) := by
  obtain ⟨hx, hb, hr, hml, hown, hts, hlocks, hK, hAO, hEL⟩ := id hF
  have hE := hEL.1
  have hA : ∀ z : Nat, s.heap.size ≤ z → aB s.heap.size z := fun z hz => hz
  have hS : va_S (aB s.heap.size) s.heap s.heap [] := va_S.rf
  have hP : va_P (dC, dI) vwCl [] s.heap := fun k x hk => by simp at hk
  have hD : va_D (aB s.heap.size) [] := ⟨fun i j x y hi => by simp at hi, fun k x hk => by simp at hk⟩
  have hl := lv_entry ([.ref b]) (n := 11) (Nat.le_of_ble_eq_true rfl)
  rw [lg_entry_eq]
  generalize (lg_sl ([.ref b]) ++ List.replicate (11 - (lg_sl ([.ref b])).length) Slot.unset).toArray = ls at hl ⊢
  have hl : lv_has ls 11 [(0, .ref b)] := hl
  have h := hf
  unfold mL_law at h
  refine va_new (ci := 3) (fs := [.null, .null, .null, .null, .int 0, .null, .int 0, .int 0, .null, .null, .int 0, .int 0, .int 0, .int 0]) (C := RX2) (T := TX2) (N := 14) hx hb hts inlX2 tyX2 tyX2_ok hown (hts (.classLink RL 18 RX2) (by decide +kernel)) (hts (.instantiable RX2 14) (by decide +kernel)) (hts (.initialized RX2) (by decide +kernel)) hK hP hD hS hA rfl dfX2 (by show _ ≤ 600000; omega) (by show _ ≤ 7302250; omega) dL_law_0 (fun ox H hP hD hS => ?_)
  refine lv_dup hx hb dL_law_3 rfl ?_
  refine call_IBOE (As := []) (rest := [.ref ox]) ⟨hx, hb, hml, hown, hts⟩ (tX2_init (l := l) (dC := dC) (dI := dI) (cI := cI) (cB := cB) (cP := cP) (ob := ox) (base := s.heap.size) (R := [])) (cwI 0 hts gQ_X2_init rfl rfl rfl (hts (.initialized RX2) (by decide +kernel)) (hts (.methodLink RL 152 yX2_init) (by decide +kernel)) (hts (.instanceMethod yX2_init) (by decide +kernel)) rfl (by decide +kernel) ⟨Nat.le_of_ble_eq_true rfl, Nat.le_of_ble_eq_true rfl⟩) hAO hK hP hD hS hS.1 (fun U hU hW => Env_step rfl rfl hE hS hU hW) (by rfl) hl.1 rfl (Nat.le_of_ble_eq_true rfl) dL_law_4 ⟨by show _ ≤ 600000; omega, by show _ ≤ 7302250; omega⟩ (fun H locs ws9 hW9 hP hD _ hS => ?_)
  obtain ⟨ad, Z, h0, rfl, hCF⟩ := hW9
  obtain ⟨R, hRR⟩ : ∃ R1 : va_W, R1 = [] := ⟨_, rfl⟩
  rw [← hRR] at hP hD
  have hP1 := hP
  have hD1 := hD
  have hS1 := hS
  subst h0
  have hP := hP1
  have hD := hD1
  have hS := hS1
  refine lv_astore_n (lv' := [(1, .ref (ad 0 0)), (0, .ref b)]) hx hb dL_law_7 rfl hl (by decide) rfl (fun ls hl => ?_)
  refine lv_aload_n hx hb dL_law_8 rfl (lv_at hl 0 rfl) ?_
  obtain ⟨v155, O156, hv155, h⟩ := bdO_some h
  refine call_BVE (As := []) (rest := []) ⟨hx, hb, hml, hown, hts⟩ (tX2_undo (l := l) (dC := dC) (dI := dI) (cI := cI) (cB := cB) (cP := cP) (ad := ad) (base := s.heap.size) (R := R) hv155 hCF) (cwV 0 hts gQ_X2_undo rfl rfl rfl (by decide +kernel) ⟨Nat.le_of_ble_eq_true rfl, Nat.le_of_ble_eq_true rfl⟩) hK hP hD hS hS.1 (fun U hU hW => Env_step rfl rfl hE hS hU hW) 0 rfl rfl (by rfl) hl.1 rfl (Nat.le_of_ble_eq_true rfl) dL_law_9 ⟨by show _ ≤ 600000; omega, by show _ ≤ 7302250; omega⟩ (fun H locs ws9 hW9 hP hD _ hS => ?_)
  obtain ⟨Z, rfl, hCF⟩ := hW9
  refine lv_bipush (v := (-4)) hx hb dL_law_12 (by decide) ?_
  refine lv_icmp_ne (tgt := 41) hx hb dL_law_14 (by decide) (fun c157 => ?_) (fun c157 => ?_)
  · replace h := if_n c157 h
    exact lw_t_41 hF  h (lv_sub hl [] rfl) hP hD hS hCF ⟨by omega, by omega⟩
  · replace h := if_p c157 h
    refine lv_aload_n hx hb dL_law_17 rfl (lv_at hl 0 rfl) ?_
    obtain ⟨v158, O159, hv158, h⟩ := bdO_some h
    refine call_BVE (As := []) (rest := []) ⟨hx, hb, hml, hown, hts⟩ (tX2_restore (l := l) (dC := dC) (dI := dI) (cI := cI) (cB := cB) (cP := cP) (ad := ad) (base := s.heap.size) (R := R) hv158 hCF) (cwV 0 hts gQ_X2_restore rfl rfl rfl (by decide +kernel) ⟨Nat.le_of_ble_eq_true rfl, Nat.le_of_ble_eq_true rfl⟩) hK hP hD hS hS.1 (fun U hU hW => Env_step rfl rfl hE hS hU hW) 0 rfl rfl (by rfl) hl.1 rfl (Nat.le_of_ble_eq_true rfl) dL_law_18 ⟨by show _ ≤ 600000; omega, by show _ ≤ 7302250; omega⟩ (fun H locs ws9 hW9 hP hD _ hS => ?_)
    obtain ⟨Z, rfl, hCF⟩ := hW9
    refine lv_bipush (v := (-4)) hx hb dL_law_21 (by decide) ?_
    refine lv_icmp_ne (tgt := 41) hx hb dL_law_23 (by decide) (fun c160 => ?_) (fun c160 => ?_)
    · replace h := if_n c160 h
      exact lw_t_41 hF  h (lv_sub hl [] rfl) hP hD hS hCF ⟨by omega, by omega⟩
    · replace h := if_p c160 h
      refine lv_aload_n hx hb dL_law_26 rfl (lv_at hl 0 rfl) ?_
      obtain ⟨v161, O162, hv161, h⟩ := bdO_some h
      refine call_BVE (As := []) (rest := []) ⟨hx, hb, hml, hown, hts⟩ (tX2_save (l := l) (dC := dC) (dI := dI) (cI := cI) (cB := cB) (cP := cP) (ad := ad) (base := s.heap.size) (R := R) hv161 hCF) (cwV 0 hts gQ_X2_save rfl rfl rfl (by decide +kernel) ⟨Nat.le_of_ble_eq_true rfl, Nat.le_of_ble_eq_true rfl⟩) hK hP hD hS hS.1 (fun U hU hW => Env_step rfl rfl hE hS hU hW) 0 rfl rfl (by rfl) hl.1 rfl (Nat.le_of_ble_eq_true rfl) dL_law_27 ⟨by show _ ≤ 600000; omega, by show _ ≤ 7302250; omega⟩ (fun H locs ws9 hW9 hP hD _ hS => ?_)
      obtain ⟨Z, rfl, hCF⟩ := hW9
      refine lv_if_ne (tgt := 41) hx hb dL_law_30 (by decide) (fun c163 => ?_) (fun c163 => ?_)
      · replace h := if_n c163 h
        exact lw_t_41 hF  h (lv_sub hl [] rfl) hP hD hS hCF ⟨by omega, by omega⟩
      · replace h := if_p c163 h
        refine lv_aload_n hx hb dL_law_33 rfl (lv_at hl 0 rfl) ?_
        refine lv_iconst (v := 2) hx hb dL_law_34 (by decide) ?_
        obtain ⟨v164, O165, hv164, h⟩ := bdO_some h
        refine call_BVE (As := [.int 2]) (rest := []) ⟨hx, hb, hml, hown, hts⟩ (tX2_pass (l := l) (dC := dC) (dI := dI) (cI := cI) (cB := cB) (cP := cP) (ad := ad) (base := s.heap.size) (R := R) hv164 hCF) (cwV 1 hts gQ_X2_pass rfl rfl rfl (by decide +kernel) ⟨Nat.le_of_ble_eq_true rfl, Nat.le_of_ble_eq_true rfl⟩) hK hP hD hS hS.1 (fun U hU hW => Env_step rfl rfl hE hS hU hW) 0 rfl rfl (by rfl) hl.1 rfl (Nat.le_of_ble_eq_true rfl) dL_law_35 ⟨by show _ ≤ 600000; omega, by show _ ≤ 7302250; omega⟩ (fun H locs ws9 hW9 hP hD _ hS => ?_)
        obtain ⟨Z, rfl, hCF⟩ := hW9
        refine lv_if_eq (tgt := 43) hx hb dL_law_38 (by decide) (fun c166 => ?_) (fun c166 => ?_)
        · replace h := if_p c166 h
          refine lv_iconst (v := 0) hx hb dL_law_43 (by decide) ?_
          refine lv_istore_n (lv' := [(2, .int 0), (1, .ref (ad 0 0)), (0, .ref b)]) hx hb dL_law_44 rfl hl (by decide) rfl (fun ls hl => ?_)
          exact lw_t_45 hF  h (lv_sub hl [2, 1, 0] rfl) hP hD hS hCF ⟨by omega, by omega⟩
        · replace h := if_n c166 h
          exact lw_t_41 hF  h (lv_sub hl [] rfl) hP hD hS hCF ⟨by omega, by omega⟩

end LWR
