theorem law_lt {L i : Nat} (hL : L ≤ 2048) (hi : i ≤ 3000) (hc : ¬ (Int32.ofNat L - 4 < nI i)) : i + 4 ≤ L := by
  by_cases w : 4 ≤ L
  · rw [show (Int32.ofNat L - 4 : Int32) = nI (L - 4) from nsub w, nlt (by omega) (by omega)] at hc
    omega
  · exfalso
    refine hc ?_
    rw [Int32.lt_iff_toInt_lt, nI_toInt (by omega)]
    have : (Int32.ofNat L - 4).toInt < 0 := by
      rcases (show L = 0 ∨ L = 1 ∨ L = 2 ∨ L = 3 by omega) with rfl | rfl | rfl | rfl <;> decide
    omega
theorem LV_mono {dC : Nat → ClassId} {dI : Nat → Nat → Nat} {cI cB cC cP : ClassId} {ad : Nat → Nat → Nat} {ob : Nat} {q : Nat → Nat} {H0 : Heap} {B C : Nat} {H : Heap} {locs : List Loc} (hV : LV dC dI cI cB cC cP ad ob q H0 B H locs) (h : B ≤ C) : LV dC dI cI cB cC cP ad ob q H0 C H locs := by
  obtain ⟨Z, O, M, A, hP, hD, hS, hO, hJ⟩ := hV
  exact LV_of hP hD hS hO (J_mono hJ.toJ h)
set_option maxHeartbeats 8000000 in
set_option maxRecDepth 100000 in
theorem law_loop {p : Program} {l : Launch} {e : Env} {s : State} {m : MethodId} {below : List Frame} {meth : Method} {c : Code} {b L : Nat} {xs : Nat → Int32} {dC : Nat → ClassId} {dI : Nat → Nat → Nat} {cI cB cC cP : ClassId} {ad : Nat → Nat → Nat} {ob : Nat} {q : Nat → Nat} (hF : LFix p s m meth c b L xs dC dI cI cB cC cP) (hL : L ≤ 2048) :
    ∀ (n i B cells slots : Nat) (H : Heap) (locs : List Loc) (ls : Array Slot), LV dC dI cI cB cC cP ad ob q s.heap B H locs → B + 800000 * n ≤ 500000000 → cells + 54 * n ≤ 600000 → slots + 13824 * n ≤ 7302250 → L ≤ i + 4 * n → i ≤ 3000 → lv_has ls 4 [(0, .ref b), (1, .ref (ad 0 0)), (2, .ref ob), (3, .int (nI i))] → LW p l e s m b below meth c H locs cells slots (F0 m 18 ls []) := by
  obtain ⟨hx, hb, hr, hml, hown, hts, hX, hbl, hlocks, hE, hK2, hK3⟩ := hF
  have hF : LFix p s m meth c b L xs dC dI cI cB cC cP := ⟨hx, hb, hr, hml, hown, hts, hX, hbl, hlocks, hE, hK2, hK3⟩
  have hbA : ¬ aB s.heap.size b := fun h => absurd h (Nat.not_le.mpr hbl)
  have head : ∀ (i B cells slots : Nat) (H : Heap) (locs : List Loc) (ls : Array Slot), LV dC dI cI cB cC cP ad ob q s.heap B H locs → cells ≤ 600000 → slots ≤ 7302250 → i ≤ 3000 → lv_has ls 4 [(0, .ref b), (1, .ref (ad 0 0)), (2, .ref ob), (3, .int (nI i))] → (i + 4 ≤ L → LW p l e s m b below meth c H locs cells slots (F0 m 26 ls [])) → LW p l e s m b below meth c H locs cells slots (F0 m 18 ls []) := by
    intro i B cells slots H locs ls hV hcells hslots hi hl kk
    obtain ⟨Z, O, M, A, hP, hD, hS, hO, hJ⟩ := hV
    refine lv_iload_n hx hb dL_law_18 rfl (lv_at hl 3 rfl) ?_
    refine lv_aload_n hx hb dL_law_19 rfl (lv_at hl 0 rfl) ?_
    refine va_slen hx hb hX hbl hbA hS dL_law_20 ?_
    refine lv_iconst (v := 4) hx hb dL_law_21 (by decide) ?_
    refine lv_isub hx hb dL_law_22 ?_
    refine lv_icmp_gt (tgt := 867) hx hb dL_law_23 (by decide) (fun _ => ?_) (fun c1 => ?_)
    · refine lv_iconst (v := 1) hx hb dL_law_867 (by decide) ?_
      refine W.widen (k := 600000) (n := 7302250) hcells hslots ?_
      refine va_forget (fun z hz => hS.2.2 z hz) ?_
      exact W.base (lw_ret (Drawn.sameBut.refl s.drawn lw_cs) hx hb hr hlocks dL_law_868)
    · exact kk (law_lt hL hi c1)
  intro n
  induction n with
  | zero =>
    intro i B cells slots H locs ls hV h1 h2 h3 h4 hi hl
    exact head i B cells slots H locs ls hV (by omega) (by omega) hi hl (fun h => absurd h (by omega))
  | succ n ih =>
    intro i B cells slots H locs ls hV h1 h2 h3 h4 hi hl
    refine head i B cells slots H locs ls hV (by omega) (by omega) hi hl (fun hiL => ?_)
    have kk : ∀ (H1 : Heap) (locs1 : List Loc), LV dC dI cI cB cC cP ad ob q s.heap (B + 800000) H1 locs1 → LW p l e s m b below meth c H1 locs1 (cells + 54) (slots + 13824) (F0 m 861 ls []) := by
      intro H1 locs1 hV1
      refine lv_iinc (v := nI (i + 4)) (lv' := [(3, .int (nI (i + 4))), (0, .ref b), (1, .ref (ad 0 0)), (2, .ref ob)]) hx hb dL_law_861 hl (k := 3) rfl (nadd i 4) (by decide) rfl (fun ls hl => ?_)
      refine lv_goto (tgt := 18) hx hb dL_law_864 (by decide) ?_
      exact ih (i + 4) (B + 800000) (cells + 54) (slots + 13824) H1 locs1 ls hV1 (by omega) (by omega) (by omega) (by omega) (by omega) (lv_sub hl [1, 2, 3, 0] rfl)
    have go : ∀ pc : Nat, LCase pc → LW p l e s m b below meth c H locs cells slots (F0 m pc ls []) := fun pc h => h p l e s m below meth c b L xs dC dI cI cB cC cP ad ob q B i cells slots H locs ls hF hV (by omega) hiL hL hl (by omega) (by omega) kk
    refine lv_aload_n hx hb dL_law_26 rfl (lv_at hl 0 rfl) ?_
    refine lv_iload_n hx hb dL_law_27 rfl (lv_at hl 3 rfl) ?_
    have hS : va_S (aB s.heap.size) s.heap H locs := by
      obtain ⟨Z, O, M, A, hP, hD, hS, hO, hJ⟩ := hV
      exact hS
    refine va_sld hx hb hX hbl hbA hS (nI_in (by omega) (by omega)) dL_law_28 ?_
    refine lv_bipush (v := 31) hx hb dL_law_29 (by decide) ?_
    refine lv_iand hx hb dL_law_31 ?_
    refine lv_topi (fun y _ => ?_)
    by_cases c0 : y = 0
    · exact lv_tableIn (tgt := 164) hx hb dL_law_32 (by rw [c0]; decide) (by rw [c0]; decide) (by rw [c0]; rfl) (by decide) (go 164 law_c0)
    by_cases c1 : y = 1
    · exact lv_tableIn (tgt := 187) hx hb dL_law_32 (by rw [c1]; decide) (by rw [c1]; decide) (by rw [c1]; rfl) (by decide) (go 187 law_c1)
    by_cases c2 : y = 2
    · exact lv_tableIn (tgt := 220) hx hb dL_law_32 (by rw [c2]; decide) (by rw [c2]; decide) (by rw [c2]; rfl) (by decide) (go 220 law_c2)
    by_cases c3 : y = 3
    · exact lv_tableIn (tgt := 243) hx hb dL_law_32 (by rw [c3]; decide) (by rw [c3]; decide) (by rw [c3]; rfl) (by decide) (go 243 law_c3)
    by_cases c4 : y = 4
    · exact lv_tableIn (tgt := 286) hx hb dL_law_32 (by rw [c4]; decide) (by rw [c4]; decide) (by rw [c4]; rfl) (by decide) (go 286 law_c4)
    by_cases c5 : y = 5
    · exact lv_tableIn (tgt := 319) hx hb dL_law_32 (by rw [c5]; decide) (by rw [c5]; decide) (by rw [c5]; rfl) (by decide) (go 319 law_c5)
    by_cases c6 : y = 6
    · exact lv_tableIn (tgt := 342) hx hb dL_law_32 (by rw [c6]; decide) (by rw [c6]; decide) (by rw [c6]; rfl) (by decide) (go 342 law_c6)
    by_cases c7 : y = 7
    · exact lv_tableIn (tgt := 375) hx hb dL_law_32 (by rw [c7]; decide) (by rw [c7]; decide) (by rw [c7]; rfl) (by decide) (go 375 law_c7)
    by_cases c8 : y = 8
    · exact lv_tableIn (tgt := 418) hx hb dL_law_32 (by rw [c8]; decide) (by rw [c8]; decide) (by rw [c8]; rfl) (by decide) (go 418 law_c8)
    by_cases c9 : y = 9
    · exact lv_tableIn (tgt := 451) hx hb dL_law_32 (by rw [c9]; decide) (by rw [c9]; decide) (by rw [c9]; rfl) (by decide) (go 451 law_c9)
    by_cases c10 : y = 10
    · exact lv_tableIn (tgt := 484) hx hb dL_law_32 (by rw [c10]; decide) (by rw [c10]; decide) (by rw [c10]; rfl) (by decide) (go 484 law_c10)
    by_cases c11 : y = 11
    · exact lv_tableIn (tgt := 517) hx hb dL_law_32 (by rw [c11]; decide) (by rw [c11]; decide) (by rw [c11]; rfl) (by decide) (go 517 law_c11)
    by_cases c12 : y = 12
    · exact lv_tableIn (tgt := 530) hx hb dL_law_32 (by rw [c12]; decide) (by rw [c12]; decide) (by rw [c12]; rfl) (by decide) (go 530 law_c12)
    by_cases c13 : y = 13
    · exact lv_tableIn (tgt := 563) hx hb dL_law_32 (by rw [c13]; decide) (by rw [c13]; decide) (by rw [c13]; rfl) (by decide) (go 563 law_c13)
    by_cases c14 : y = 14
    · exact lv_tableIn (tgt := 586) hx hb dL_law_32 (by rw [c14]; decide) (by rw [c14]; decide) (by rw [c14]; rfl) (by decide) (go 586 law_c14)
    by_cases c15 : y = 15
    · exact lv_tableIn (tgt := 609) hx hb dL_law_32 (by rw [c15]; decide) (by rw [c15]; decide) (by rw [c15]; rfl) (by decide) (go 609 law_c15)
    by_cases c16 : y = 16
    · exact lv_tableIn (tgt := 622) hx hb dL_law_32 (by rw [c16]; decide) (by rw [c16]; decide) (by rw [c16]; rfl) (by decide) (go 622 law_c16)
    by_cases c17 : y = 17
    · exact lv_tableIn (tgt := 645) hx hb dL_law_32 (by rw [c17]; decide) (by rw [c17]; decide) (by rw [c17]; rfl) (by decide) (go 645 law_c17)
    by_cases c18 : y = 18
    · exact lv_tableIn (tgt := 668) hx hb dL_law_32 (by rw [c18]; decide) (by rw [c18]; decide) (by rw [c18]; rfl) (by decide) (go 668 law_c18)
    by_cases c19 : y = 19
    · exact lv_tableIn (tgt := 691) hx hb dL_law_32 (by rw [c19]; decide) (by rw [c19]; decide) (by rw [c19]; rfl) (by decide) (go 691 law_c19)
    by_cases c20 : y = 20
    · exact lv_tableIn (tgt := 714) hx hb dL_law_32 (by rw [c20]; decide) (by rw [c20]; decide) (by rw [c20]; rfl) (by decide) (go 714 law_c20)
    by_cases c21 : y = 21
    · exact lv_tableIn (tgt := 737) hx hb dL_law_32 (by rw [c21]; decide) (by rw [c21]; decide) (by rw [c21]; rfl) (by decide) (go 737 law_c21)
    by_cases c22 : y = 22
    · exact lv_tableIn (tgt := 750) hx hb dL_law_32 (by rw [c22]; decide) (by rw [c22]; decide) (by rw [c22]; rfl) (by decide) (go 750 law_c22)
    by_cases c23 : y = 23
    · exact lv_tableIn (tgt := 773) hx hb dL_law_32 (by rw [c23]; decide) (by rw [c23]; decide) (by rw [c23]; rfl) (by decide) (go 773 law_c23)
    by_cases c24 : y = 24
    · exact lv_tableIn (tgt := 796) hx hb dL_law_32 (by rw [c24]; decide) (by rw [c24]; decide) (by rw [c24]; rfl) (by decide) (go 796 law_c24)
    by_cases c25 : y = 25
    · exact lv_tableIn (tgt := 809) hx hb dL_law_32 (by rw [c25]; decide) (by rw [c25]; decide) (by rw [c25]; rfl) (by decide) (go 809 law_c25)
    by_cases c26 : y = 26
    · exact lv_tableIn (tgt := 822) hx hb dL_law_32 (by rw [c26]; decide) (by rw [c26]; decide) (by rw [c26]; rfl) (by decide) (go 822 law_c26)
    by_cases c27 : y = 27
    · exact lv_tableIn (tgt := 835) hx hb dL_law_32 (by rw [c27]; decide) (by rw [c27]; decide) (by rw [c27]; rfl) (by decide) (go 835 law_c27)
    by_cases c28 : y = 28
    · exact lv_tableIn (tgt := 848) hx hb dL_law_32 (by rw [c28]; decide) (by rw [c28]; decide) (by rw [c28]; rfl) (by decide) (go 848 law_c28)
    have e0 := lv_neT c0 (a := 0) rfl
    have e1 := lv_neT c1 (a := 1) rfl
    have e2 := lv_neT c2 (a := 2) rfl
    have e3 := lv_neT c3 (a := 3) rfl
    have e4 := lv_neT c4 (a := 4) rfl
    have e5 := lv_neT c5 (a := 5) rfl
    have e6 := lv_neT c6 (a := 6) rfl
    have e7 := lv_neT c7 (a := 7) rfl
    have e8 := lv_neT c8 (a := 8) rfl
    have e9 := lv_neT c9 (a := 9) rfl
    have e10 := lv_neT c10 (a := 10) rfl
    have e11 := lv_neT c11 (a := 11) rfl
    have e12 := lv_neT c12 (a := 12) rfl
    have e13 := lv_neT c13 (a := 13) rfl
    have e14 := lv_neT c14 (a := 14) rfl
    have e15 := lv_neT c15 (a := 15) rfl
    have e16 := lv_neT c16 (a := 16) rfl
    have e17 := lv_neT c17 (a := 17) rfl
    have e18 := lv_neT c18 (a := 18) rfl
    have e19 := lv_neT c19 (a := 19) rfl
    have e20 := lv_neT c20 (a := 20) rfl
    have e21 := lv_neT c21 (a := 21) rfl
    have e22 := lv_neT c22 (a := 22) rfl
    have e23 := lv_neT c23 (a := 23) rfl
    have e24 := lv_neT c24 (a := 24) rfl
    have e25 := lv_neT c25 (a := 25) rfl
    have e26 := lv_neT c26 (a := 26) rfl
    have e27 := lv_neT c27 (a := 27) rfl
    have e28 := lv_neT c28 (a := 28) rfl
    refine lv_tableOut (tgt := 861) hx hb dL_law_32 (by omega) (by decide) ?_
    refine W.widen (k := cells + 54) (n := slots + 13824) (by omega) (by omega) ?_
    exact kk H locs (LV_mono hV (by omega))
