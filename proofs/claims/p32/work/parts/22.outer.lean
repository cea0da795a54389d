/-! ===== the outer class's world ===== -/
abbrev OT : Type := Nat → KT
def oset (O : OT) (j : Nat) (K : KT) : OT := fun i => cond (Nat.beq i j) K (O i)
theorem oset_eq (O : OT) (j : Nat) (K : KT) : oset O j K j = K := by
  unfold oset
  rw [show Nat.beq j j = true from Nat.beq_refl j]
  rfl
theorem oset_ne {O : OT} {i j : Nat} {K : KT} (h : i ≠ j) : oset O j K i = O i := by
  unfold oset
  cases hb : Nat.beq i j with
  | true => exact absurd (Nat.eq_of_beq_eq_true hb) h
  | false => rfl
/-- a StringBuilder at a, its bytes at b, room for m -/
def sbW (cB : ClassId) (a b m : Nat) (K : KT) : va_W := [(a, .inr (0, [.ref b, .int 0, .int (K 1 1), .int (K 1 0)])), (b, .inl (cB, m, .inl (K 0)))]
/-- the text of commands: its object, and the builder -/
def cmW (cB : ClassId) (c a b m : Nat) (K : KT) : va_W := (c, .inr (2, [.ref a, .int (K 1 2), .int (K 1 3), .int (K 1 4), .int (K 1 5), .int (K 1 6)])) :: sbW cB a b m K
def cvJ (cI : ClassId) (ad : Nat → Nat → Nat) (O : OT) (j : Nat) : va_W := cvW cI (ad (1 + j) 0) (fun f => ad (1 + j) (1 + f)) (O j)
def cavs (cI : ClassId) (ad : Nat → Nat → Nat) (O : OT) : va_W := [0, 1, 2, 3, 4, 5, 6, 7, 8, 9, 10, 11].flatMap (cvJ cI ad O)
def outT (cI cB cP : ClassId) (ad : Nat → Nat → Nat) (Z : Nat → Nat) (O : OT) : va_W := (ad 0 1, .inl (cP, 8, .inr (.inr (.inr (.inr (fun i => some (ad (5 + i) 0))))))) :: (cmW cB (ad 0 2) (ad 0 3) (Z 0) (Z 1) (O 13) ++ (sbW cB (ad 0 4) (Z 2) (Z 3) (O 14) ++ cavs cI ad O))
def outW (cI cB cP : ClassId) (ad : Nat → Nat → Nat) (Z : Nat → Nat) (O : OT) : va_W := (ad 0 0, .inr (3, [.ref (ad 1 0), .ref (ad 2 0), .ref (ad 3 0), .ref (ad 4 0), .int (O 12 0 0), .ref (ad 0 1), .int (O 12 0 1), .int (O 12 0 2), .ref (ad 0 2), .ref (ad 0 4), .int (O 12 0 3), .int (O 12 0 4), .int (O 12 0 5), .int (O 12 0 6)])) :: outT cI cB cP ad Z O
theorem fm_congr {α β : Type} {f g : α → List β} : ∀ {l : List α}, (∀ x ∈ l, f x = g x) → l.flatMap f = l.flatMap g := by
  intro l
  induction l with
  | nil => intro _; rfl
  | cons a l ih =>
    intro h
    rw [List.flatMap_cons, List.flatMap_cons, h a List.mem_cons_self, ih (fun x hx => h x (List.mem_cons_of_mem _ hx))]
theorem idx12 (j : Nat) (hj : j < 12) : ∃ l1 l2 : List Nat, [0, 1, 2, 3, 4, 5, 6, 7, 8, 9, 10, 11] = l1 ++ j :: l2 ∧ j ∉ l1 ∧ j ∉ l2 := by
  have hm : j ∈ [0, 1, 2, 3, 4, 5, 6, 7, 8, 9, 10, 11] := by
    simp only [List.mem_cons, List.not_mem_nil, or_false]
    omega
  obtain ⟨l1, l2, e⟩ := List.append_of_mem hm
  have hn : ([0, 1, 2, 3, 4, 5, 6, 7, 8, 9, 10, 11] : List Nat).Nodup := by decide
  rw [e] at hn
  refine ⟨l1, l2, e, fun q => ?_, fun q => ?_⟩
  · exact (List.nodup_append.mp hn).2.2 j q j List.mem_cons_self rfl
  · exact (List.nodup_cons.mp (List.nodup_append.mp hn).2.1).1 q
theorem cavs_at (cI : ClassId) (ad : Nat → Nat → Nat) (O : OT) {j : Nat} (hj : j < 12) : ∃ X Y : va_W, cavs cI ad O = X ++ (cvJ cI ad O j ++ Y) ∧ ∀ K, cavs cI ad (oset O j K) = X ++ (cvJ cI ad (oset O j K) j ++ Y) := by
  obtain ⟨l1, l2, e, h1, h2⟩ := idx12 j hj
  refine ⟨l1.flatMap (cvJ cI ad O), l2.flatMap (cvJ cI ad O), ?_, fun K => ?_⟩
  · unfold cavs
    rw [e, List.flatMap_append, List.flatMap_cons]
  · unfold cavs
    rw [e, List.flatMap_append, List.flatMap_cons]
    have c1 : l1.flatMap (cvJ cI ad (oset O j K)) = l1.flatMap (cvJ cI ad O) := fm_congr fun x hx => by
      unfold cvJ
      rw [oset_ne (i := x) (j := j) (fun q => h1 (q ▸ hx))]
    have c2 : l2.flatMap (cvJ cI ad (oset O j K)) = l2.flatMap (cvJ cI ad O) := fm_congr fun x hx => by
      unfold cvJ
      rw [oset_ne (i := x) (j := j) (fun q => h2 (q ▸ hx))]
    rw [c1, c2]
theorem cvJ_ads (cI : ClassId) (ad : Nat → Nat → Nat) (O : OT) (j : Nat) : (cvJ cI ad O j).map Prod.fst = cvL (ad (1 + j) 0) (fun f => ad (1 + j) (1 + f)) := rfl
theorem out_at (cI cB cP : ClassId) (ad : Nat → Nat → Nat) (Z : Nat → Nat) (O : OT) (R : va_W) {j : Nat} (hj : j < 12) : ∃ X Y : va_W, outW cI cB cP ad Z O ++ R = X ++ (cvJ cI ad O j ++ Y) ∧ ∀ K, outW cI cB cP ad Z (oset O j K) ++ R = X ++ (cvJ cI ad (oset O j K) j ++ Y) := by
  obtain ⟨X, Y, e1, e2⟩ := cavs_at cI ad O hj
  have n12 : ∀ K, oset O j K 12 = O 12 := fun K => oset_ne (by omega)
  have n13 : ∀ K, oset O j K 13 = O 13 := fun K => oset_ne (by omega)
  have n14 : ∀ K, oset O j K 14 = O 14 := fun K => oset_ne (by omega)
  refine ⟨(ad 0 0, .inr (3, [.ref (ad 1 0), .ref (ad 2 0), .ref (ad 3 0), .ref (ad 4 0), .int (O 12 0 0), .ref (ad 0 1), .int (O 12 0 1), .int (O 12 0 2), .ref (ad 0 2), .ref (ad 0 4), .int (O 12 0 3), .int (O 12 0 4), .int (O 12 0 5), .int (O 12 0 6)])) :: (ad 0 1, .inl (cP, 8, .inr (.inr (.inr (.inr (fun i => some (ad (5 + i) 0))))))) :: (cmW cB (ad 0 2) (ad 0 3) (Z 0) (Z 1) (O 13) ++ (sbW cB (ad 0 4) (Z 2) (Z 3) (O 14) ++ X)), Y ++ R, ?_, fun K => ?_⟩
  · unfold outW outT
    rw [e1]
    simp only [List.cons_append, List.append_assoc]
  · unfold outW outT
    rw [e2, n12, n13, n14]
    simp only [List.cons_append, List.append_assoc]
/-- a caravan alone -/
theorem o_in {D : va_G} {cl : List vw_C} {cI cB cP : ClassId} {ad : Nat → Nat → Nat} {Z : Nat → Nat} {O : OT} {R : va_W} {H : Heap} {A : Nat → Prop} (j : Nat) (hj : j < 12) (hP : va_P D cl (outW cI cB cP ad Z O ++ R) H) (hD : va_D A (outW cI cB cP ad Z O ++ R)) : va_P D cl (cvW cI (ad (1 + j) 0) (fun f => ad (1 + j) (1 + f)) (O j)) H ∧ va_D (aL (cvL (ad (1 + j) 0) (fun f => ad (1 + j) (1 + f)))) (cvW cI (ad (1 + j) 0) (fun f => ad (1 + j) (1 + f)) (O j)) ∧ ∀ q, aL (cvL (ad (1 + j) 0) (fun f => ad (1 + j) (1 + f))) q → A q := by
  obtain ⟨X, Y, e, -⟩ := out_at cI cB cP ad Z O R hj
  rw [e] at hP hD
  exact aL_in hP hD (cvJ_ads cI ad O j)
theorem o_inP {D : va_G} {cl : List vw_C} {cI cB cP : ClassId} {ad : Nat → Nat → Nat} {Z : Nat → Nat} {O : OT} {R : va_W} {H : Heap} (j : Nat) (hj : j < 12) (hP : va_P D cl (outW cI cB cP ad Z O ++ R) H) : va_P D cl (cvW cI (ad (1 + j) 0) (fun f => ad (1 + j) (1 + f)) (O j)) H := by
  obtain ⟨X, Y, e, -⟩ := out_at cI cB cP ad Z O R hj
  rw [e] at hP
  exact (P_app.mp (P_app.mp hP).2).1
/-- behind a call on a caravan -/
theorem o_back {D : va_G} {cl : List vw_C} {cI cB cP : ClassId} {ad : Nat → Nat → Nat} {Z : Nat → Nat} {O : OT} {R : va_W} {H H1 : Heap} {A : Nat → Prop} {K : KT} (j : Nat) (hj : j < 12) (hP : va_P D cl (outW cI cB cP ad Z O ++ R) H) (hD : va_D A (outW cI cB cP ad Z O ++ R)) (hP1 : va_P D cl (cvW cI (ad (1 + j) 0) (fun f => ad (1 + j) (1 + f)) K) H1) (hk : ∀ q : Nat, q < H.size → ¬ aL (cvL (ad (1 + j) 0) (fun f => ad (1 + j) (1 + f))) q → H1[q]? = H[q]?) : va_P D cl (outW cI cB cP ad Z (oset O j K) ++ R) H1 ∧ va_D A (outW cI cB cP ad Z (oset O j K) ++ R) := by
  obtain ⟨X, Y, e, e2⟩ := out_at cI cB cP ad Z O R hj
  rw [e] at hP hD
  rw [e2 K]
  have hP2 : va_P D cl (cvJ cI ad (oset O j K) j) H1 := by
    unfold cvJ
    rw [oset_eq]
    exact hP1
  exact aL_back hP hD (cvJ_ads cI ad O j) (cvJ_ads cI ad (oset O j K) j) hP2 hk
/-- two caravans -/
theorem out_two (cI cB cP : ClassId) (ad : Nat → Nat → Nat) (Z : Nat → Nat) (O : OT) (R : va_W) {j i : Nat} (hj : j < 12) (hi : i < 12) (hij : j ≠ i) : ∃ X : va_W, (outW cI cB cP ad Z O ++ R).Perm ((cvJ cI ad O j ++ cvJ cI ad O i) ++ X) ∧ ∀ K, (outW cI cB cP ad Z (oset O j K) ++ R).Perm ((cvJ cI ad (oset O j K) j ++ cvJ cI ad O i) ++ X) := by
  obtain ⟨l1, l2, e, h1, h2⟩ := idx12 j hj
  have hm : i ∈ l1 ++ l2 := by
    have : i ∈ l1 ++ j :: l2 := by
      rw [← e]
      simp only [List.mem_cons, List.not_mem_nil, or_false]
      omega
    rcases List.mem_append.mp this with q | q
    · exact List.mem_append_left _ q
    · rcases List.mem_cons.mp q with q | q
      · exact absurd q.symm hij
      · exact List.mem_append_right _ q
  obtain ⟨m1, m2, e2⟩ := List.append_of_mem hm
  have hjm : j ∉ m1 ++ m2 := fun q => by
    have : j ∈ l1 ++ l2 := by
      rw [e2]
      rcases List.mem_append.mp q with q | q
      · exact List.mem_append_left _ q
      · exact List.mem_append_right _ (List.mem_cons_of_mem _ q)
    rcases List.mem_append.mp this with q | q
    · exact h1 q
    · exact h2 q
  have pl : ([0, 1, 2, 3, 4, 5, 6, 7, 8, 9, 10, 11] : List Nat).Perm (j :: i :: (m1 ++ m2)) := by
    rw [e]
    refine List.perm_middle.trans (List.Perm.cons j ?_)
    rw [e2]
    exact List.perm_middle
  have pc : ∀ O2 : OT, (cavs cI ad O2).Perm (cvJ cI ad O2 j ++ (cvJ cI ad O2 i ++ (m1 ++ m2).flatMap (cvJ cI ad O2))) := fun O2 => by
    unfold cavs
    have := List.Perm.flatMap_right (cvJ cI ad O2) pl
    rw [List.flatMap_cons, List.flatMap_cons] at this
    exact this
  have n12 : ∀ K, oset O j K 12 = O 12 := fun K => oset_ne (by omega)
  have n13 : ∀ K, oset O j K 13 = O 13 := fun K => oset_ne (by omega)
  have n14 : ∀ K, oset O j K 14 = O 14 := fun K => oset_ne (by omega)
  have nm : ∀ K, (m1 ++ m2).flatMap (cvJ cI ad (oset O j K)) = (m1 ++ m2).flatMap (cvJ cI ad O) := fun K => fm_congr fun x hx => by
    unfold cvJ
    rw [oset_ne (i := x) (j := j) (fun q => hjm (q ▸ hx))]
  have ni : ∀ K, cvJ cI ad (oset O j K) i = cvJ cI ad O i := fun K => by
    unfold cvJ
    rw [oset_ne (Ne.symm hij)]
  -- the head of the world, ahead of the caravans
  have key : ∀ (Hd C C' : va_W), C.Perm C' → (Hd ++ (C ++ R)).Perm (C' ++ (Hd ++ R)) := fun Hd C C' h => (w_pull Hd C R).trans (List.Perm.append_right _ h)
  have split : ∀ O2 : OT, ∃ Hd : va_W, outW cI cB cP ad Z O2 ++ R = Hd ++ (cavs cI ad O2 ++ R) ∧ Hd = (ad 0 0, .inr (3, [.ref (ad 1 0), .ref (ad 2 0), .ref (ad 3 0), .ref (ad 4 0), .int (O2 12 0 0), .ref (ad 0 1), .int (O2 12 0 1), .int (O2 12 0 2), .ref (ad 0 2), .ref (ad 0 4), .int (O2 12 0 3), .int (O2 12 0 4), .int (O2 12 0 5), .int (O2 12 0 6)])) :: (ad 0 1, .inl (cP, 8, .inr (.inr (.inr (.inr (fun i => some (ad (5 + i) 0))))))) :: (cmW cB (ad 0 2) (ad 0 3) (Z 0) (Z 1) (O2 13) ++ sbW cB (ad 0 4) (Z 2) (Z 3) (O2 14)) := fun O2 => by
    refine ⟨_, ?_, rfl⟩
    unfold outW outT
    simp only [List.cons_append, List.append_assoc]
  obtain ⟨Hd, s1, s2⟩ := split O
  refine ⟨(m1 ++ m2).flatMap (cvJ cI ad O) ++ (Hd ++ R), ?_, fun K => ?_⟩
  · rw [s1]
    refine (key Hd _ _ (pc O)).trans (List.Perm.of_eq ?_)
    simp only [List.append_assoc]
  · obtain ⟨Hd2, s3, s4⟩ := split (oset O j K)
    rw [n12, n13, n14, ← s2] at s4
    rw [s3, s4]
    refine (key Hd _ _ (pc (oset O j K))).trans (List.Perm.of_eq ?_)
    rw [nm, ni]
    simp only [List.append_assoc]
