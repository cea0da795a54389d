/-! ===== the outer base: everything that was made since a heap of the size 'base', in one list, its order free ===== -/
def aB (base : Nat) : Nat → Prop := fun q => base ≤ q
theorem P_mem {D : va_G} {cl : List vw_C} {ws : va_W} {H : Heap} : va_P D cl ws H ↔ ∀ x ∈ ws, va_at D cl x H := by
  constructor
  · intro h x hx
    obtain ⟨i, hi⟩ := List.getElem?_of_mem hx
    exact h i x hi
  · intro h k q hk
    exact h q (List.mem_of_getElem? hk)
theorem P_app {D : va_G} {cl : List vw_C} {a b : va_W} {H : Heap} : va_P D cl (a ++ b) H ↔ va_P D cl a H ∧ va_P D cl b H := by
  simp only [P_mem, List.mem_append]
  exact ⟨fun h => ⟨fun x hx => h x (Or.inl hx), fun x hx => h x (Or.inr hx)⟩, fun h x hx => hx.elim (h.1 x) (h.2 x)⟩
theorem D_iff {A : Nat → Prop} {ws : va_W} : va_D A ws ↔ (ws.map Prod.fst).Nodup ∧ ∀ q ∈ ws.map Prod.fst, A q := by
  constructor
  · intro h
    refine ⟨List.pairwise_iff_getElem.mpr ?_, ?_⟩
    · intro i j hi hj hij e
      have hi' : i < ws.length := by simpa using hi
      have hj' : j < ws.length := by simpa using hj
      rw [List.getElem_map, List.getElem_map] at e
      have := h.1 i j ws[i] ws[j] (List.getElem?_eq_getElem hi') (List.getElem?_eq_getElem hj') e
      omega
    · intro q hq
      obtain ⟨x, hx, rfl⟩ := List.mem_map.mp hq
      obtain ⟨i, hi⟩ := List.getElem?_of_mem hx
      exact h.2 i x hi
  · intro h
    refine ⟨fun i j p q hi hj e => ?_, fun k q hk => h.2 _ (List.mem_map.mpr ⟨q, List.mem_of_getElem? hk, rfl⟩)⟩
    obtain ⟨li, ei⟩ := List.getElem?_eq_some_iff.mp hi
    obtain ⟨lj, ej⟩ := List.getElem?_eq_some_iff.mp hj
    have hn := List.pairwise_iff_getElem.mp h.1
    have e1 : (ws.map Prod.fst)[i]'(by simpa using li) = p.1 := by rw [List.getElem_map, ei]
    have e2 : (ws.map Prod.fst)[j]'(by simpa using lj) = q.1 := by rw [List.getElem_map, ej]
    rcases Nat.lt_trichotomy i j with q1 | q1 | q1
    · exact absurd (e1.trans (e.trans e2.symm)) (hn i j (by simpa using li) (by simpa using lj) q1)
    · exact q1
    · exact absurd (e2.trans (e.symm.trans e1.symm)) (hn j i (by simpa using lj) (by simpa using li) q1)
theorem D_perm {A : Nat → Prop} {a b : va_W} (h : a.Perm b) : va_D A a → va_D A b := by
  intro hD
  rw [D_iff] at hD ⊢
  have hp := h.map Prod.fst
  exact ⟨hp.nodup_iff.mp hD.1, fun q hq => hD.2 q (hp.mem_iff.mpr hq)⟩
theorem P_perm {D : va_G} {cl : List vw_C} {a b : va_W} {H : Heap} (h : a.Perm b) : va_P D cl a H → va_P D cl b H := by
  intro hP
  rw [P_mem] at hP ⊢
  exact fun x hx => hP x (h.mem_iff.mpr hx)
theorem w_pull (X w Y : va_W) : (X ++ (w ++ Y)).Perm (w ++ (X ++ Y)) := by
  rw [← List.append_assoc, ← List.append_assoc]
  exact List.Perm.append_right Y List.perm_append_comm
/-- behind a call of a method that may write the cells at L alone: the part w became w1, at the same addresses -/
theorem aL_back {D : va_G} {cl : List vw_C} {A : Nat → Prop} {X w w1 Y : va_W} {L : List Nat} {H H1 : Heap} (hP : va_P D cl (X ++ (w ++ Y)) H) (hD : va_D A (X ++ (w ++ Y))) (hw : w.map Prod.fst = L) (hw1 : w1.map Prod.fst = L) (hP1 : va_P D cl w1 H1) (hk : ∀ q : Nat, q < H.size → ¬ aL L q → H1[q]? = H[q]?) : va_P D cl (X ++ (w1 ++ Y)) H1 ∧ va_D A (X ++ (w1 ++ Y)) := by
  have hD2 := D_iff.mp (D_perm (w_pull X w Y) hD)
  have hn := hD2.1
  rw [List.map_append, hw] at hn
  have hap : ∀ x ∈ X ++ Y, ¬ aL L x.1 := fun x hx q => (List.nodup_append.mp hn).2.2 x.1 q x.1 (List.mem_map.mpr ⟨x, hx, rfl⟩) rfl
  constructor
  · rw [P_app, P_app] at hP ⊢
    refine ⟨fun k q hq => ?_, hP1, fun k q hq => ?_⟩
    · exact (hP.1 k q hq).kept (hk _ (hP.1 k q hq).lt (hap q (List.mem_append_left _ (List.mem_of_getElem? hq))))
    · exact (hP.2.2 k q hq).kept (hk _ (hP.2.2 k q hq).lt (hap q (List.mem_append_right _ (List.mem_of_getElem? hq))))
  · have h1 : va_D A (w1 ++ (X ++ Y)) := by
      rw [D_iff]
      rw [List.map_append, hw1, ← hw, ← List.map_append]
      exact hD2
    exact D_perm (w_pull X w1 Y).symm h1
/-- the part alone, ahead of the call -/
theorem aL_in {D : va_G} {cl : List vw_C} {A : Nat → Prop} {X w Y : va_W} {L : List Nat} {H : Heap} (hP : va_P D cl (X ++ (w ++ Y)) H) (hD : va_D A (X ++ (w ++ Y))) (hw : w.map Prod.fst = L) : va_P D cl w H ∧ va_D (aL L) w ∧ ∀ q, aL L q → A q := by
  have hD2 := D_iff.mp (D_perm (w_pull X w Y) hD)
  refine ⟨(P_app.mp (P_app.mp hP).2).1, D_iff.mpr ⟨?_, fun q hq => by rw [hw] at hq; exact hq⟩, fun q hq => hD2.2 q ?_⟩
  · have := hD2.1
    rw [List.map_append] at this
    exact (List.nodup_append.mp this).1
  · rw [List.map_append, hw]
    exact List.mem_append_left _ hq
/-- what a run takes from the machine: a static of String, two tables of Integer, a formatter, two links of nest mates -/
def tOnes : Nat → Value := fun j => .int (sb_b (48 + j % 10))
def tTens : Nat → Value := fun j => .int (sb_b (48 + j / 10))
def EnvW (w1 w2 : Cond) (base : Nat) (U : State) : Prop :=
  va_Z "java/lang/String" "COMPACT_STRINGS" "Z" (.int 1) (aB base) U U.heap ∧
  (∃ t, va_Z "java/lang/Integer" "DigitOnes" "[B" (.ref t) (aB base) U U.heap ∧ va_T .byte t 100 tOnes (aB base) U U.heap) ∧
  (∃ t, va_Z "java/lang/Integer" "DigitTens" "[B" (.ref t) (aB base) U U.heap ∧ va_T .byte t 100 tTens (aB base) U U.heap) ∧
  va_Zq "jdk/internal/util/Preconditions" "SIOOBE_FORMATTER" "Ljava/util/function/BiFunction;" (aB base) U U.heap ∧
  va_Nw w1 U ∧ va_Nw w2 U
