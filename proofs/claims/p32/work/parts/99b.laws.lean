theorem whole_start {p : Program} {e : Env} {s : State} {m : MethodId} {below : List Frame} {meth : Method} {c : Code} (l : Launch) (hflags : l.flags = flags0) {b L : Nat} {xs : Nat → Int32} (hL : L ≤ 260) (C0 : lw_At p s m meth c b L xs) : W p l e room_1 s m #[Value.ref b] below meth c s.heap [] 0 0 (lw_Z below #[Value.ref b] s) (entryFrame m ([Value.ref b] : List Value).toArray 11) := by
  obtain ⟨hx, hb, hr, hml, hown, hts0, hX, hbl, hlocks, hgv⟩ := C0
  have hE := law_env hgv hts0
  obtain ⟨dC, dI, cI, cB, cP, hK, hAO⟩ := law_K hts0
  obtain ⟨adK, adV, h6, hR⟩ := law_str hgv hts0
  have hts : ∀ w ∈ wsL_law, w.before #[Value.ref b] s = true := fun w hw => hts0 w (wsL_law_in w hw)
  exact law_run (N := 1400) (law_true (Nat.le_refl 1400) (show L < 2 ^ 31 by omega)) ⟨hx, hb, hr, hml, hown, hts, hlocks, hK, hAO, hE, ⟨hbl, hX⟩, h6, hR⟩
