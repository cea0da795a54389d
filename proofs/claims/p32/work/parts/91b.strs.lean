/-! ===== String: coder, isLatin1, length, charAt, where its cells are known ===== -/
def rmJ0_coder : Room := { frames := 1, cells := 0, slots := 0, locals := 40 }
theorem tJ0_coder_7d493 {l : Launch} {base a n : Nat} {f : Nat → Int32} : Met l yJ0_coder_7d493 wsJ0_coder_7d493 rmJ0_coder (cJs base a n f [.ref a]) (cQp 0) 0 0 (fun _ => False) := by
  refine Met.ofW (cc := cJ0_coder_7d493) (maxL := 1) (ret := (some .byte)) (by decide) rfl ?_
  intro p e s m args below meth c s₁ B hml hv
  obtain ⟨rfl, ⟨hn, v, f1, f2, f3, f4⟩, hbs, hE⟩ := hv
  have hx := B.exec
  have hb := B.bytes
  have hr := B.returns
  have hts := atoms_spec (ws := wsJ0_coder_7d493) B.pre
  have hown : s.vm.findClass RJ0 = some m.cls := findClass_of_methodNamed B.named
  have hl := lv_entry ([.ref a]) (n := 1) (Nat.le_of_ble_eq_true rfl)
  rw [lg_entry_eq]
  generalize (lg_sl ([.ref a]) ++ List.replicate (1 - (lg_sl ([.ref a])).length) Slot.unset).toArray = ls at hl ⊢
  have hl : lv_has ls 1 [(0, .ref a)] := hl
  refine va_gets hx hb hE.1 va_S.rf hown (hts (.fieldLink RJ0 38 "java/lang/String" "COMPACT_STRINGS" "Z") (by decide +kernel)) (fun _ h9 => h9) dJ0_coder_7d493_0 ?_
  refine lv_if_eq (tgt := 13) hx hb dJ0_coder_7d493_3 (by decide) (fun c1 => absurd c1 (by decide)) (fun _ => ?_)
  refine lv_aload_n hx hb dJ0_coder_7d493_6 rfl (lv_at hl 0 rfl) ?_
  refine k_getX hx hb f2 hown (hts (.fieldLink RJ0 15 "java/lang/String" "coder" "B") (by decide +kernel)) (fun _ h9 => h9) dJ0_coder_7d493_7 ?_
  refine lv_goto (tgt := 14) hx hb dJ0_coder_7d493_10 (by decide) ?_
  exact W.zret hx hb hr (by decide) (fun t ht _ => ⟨rfl, ht⟩) (fun _ h9 => absurd h9 List.not_mem_nil) dJ0_coder_7d493_14
def rmJ0_isLatin1 : Room := { frames := 1, cells := 0, slots := 0, locals := 40 }
theorem tJ0_isLatin1_aae02 {l : Launch} {base a n : Nat} {f : Nat → Int32} : Met l yJ0_isLatin1_aae02 wsJ0_isLatin1_aae02 rmJ0_isLatin1 (cJs base a n f [.ref a]) (cQp 1) 0 0 (fun _ => False) := by
  refine Met.ofW (cc := cJ0_isLatin1_aae02) (maxL := 1) (ret := (some .boolean)) (by decide) rfl ?_
  intro p e s m args below meth c s₁ B hml hv
  obtain ⟨rfl, ⟨hn, v, f1, f2, f3, f4⟩, hbs, hE⟩ := hv
  have hx := B.exec
  have hb := B.bytes
  have hr := B.returns
  have hts := atoms_spec (ws := wsJ0_isLatin1_aae02) B.pre
  have hown : s.vm.findClass RJ0 = some m.cls := findClass_of_methodNamed B.named
  have hl := lv_entry ([.ref a]) (n := 1) (Nat.le_of_ble_eq_true rfl)
  rw [lg_entry_eq]
  generalize (lg_sl ([.ref a]) ++ List.replicate (1 - (lg_sl ([.ref a])).length) Slot.unset).toArray = ls at hl ⊢
  have hl : lv_has ls 1 [(0, .ref a)] := hl
  refine va_gets hx hb hE.1 va_S.rf hown (hts (.fieldLink RJ0 38 "java/lang/String" "COMPACT_STRINGS" "Z") (by decide +kernel)) (fun _ h9 => h9) dJ0_isLatin1_aae02_0 ?_
  refine lv_if_eq (tgt := 17) hx hb dJ0_isLatin1_aae02_3 (by decide) (fun c1 => absurd c1 (by decide)) (fun _ => ?_)
  refine lv_aload_n hx hb dJ0_isLatin1_aae02_6 rfl (lv_at hl 0 rfl) ?_
  refine k_getX hx hb f2 hown (hts (.fieldLink RJ0 15 "java/lang/String" "coder" "B") (by decide +kernel)) (fun _ h9 => h9) dJ0_isLatin1_aae02_7 ?_
  refine lv_if_ne (tgt := 17) hx hb dJ0_isLatin1_aae02_10 (by decide) (fun c1 => absurd rfl c1) (fun _ => ?_)
  refine lv_iconst (v := 1) hx hb dJ0_isLatin1_aae02_13 (by decide) ?_
  refine lv_goto (tgt := 18) hx hb dJ0_isLatin1_aae02_14 (by decide) ?_
  exact W.zret hx hb hr (by decide) (fun t ht _ => ⟨rfl, ht⟩) (fun _ h9 => absurd h9 List.not_mem_nil) dJ0_isLatin1_aae02_18
def rmJ0_length : Room := { frames := 2, cells := 0, slots := 0, locals := 65 }
theorem tJ0_length_8abf5 {l : Launch} {base a n : Nat} {f : Nat → Int32} : Met l yJ0_length_8abf5 wsJ0_length_8abf5 rmJ0_length (cJs base a n f [.ref a]) (cQp (nI n)) 0 0 (fun _ => False) := by
  refine Met.ofW (cc := cJ0_length_8abf5) (maxL := 1) (ret := (some .int)) (by decide) rfl ?_
  intro p e s m args below meth c s₁ B hml hv
  obtain ⟨rfl, hF, hbs, hE⟩ := hv
  have hF0 := hF
  obtain ⟨hn, v, f1, f2, f3, f4⟩ := hF0
  have hx := B.exec
  have hb := B.bytes
  have hr := B.returns
  have hts := atoms_spec (ws := wsJ0_length_8abf5) B.pre
  have hown : s.vm.findClass RJ0 = some m.cls := findClass_of_methodNamed B.named
  have hEU : ∀ U : State, U.heap = s.heap → s.WarmedH U.vm → EnvB base U := fun U hU hW => Env_step rfl rfl hE va_S.rf hU hW
  have hl := lv_entry ([.ref a]) (n := 1) (Nat.le_of_ble_eq_true rfl)
  rw [lg_entry_eq]
  generalize (lg_sl ([.ref a]) ++ List.replicate (1 - (lg_sl ([.ref a])).length) Slot.unset).toArray = ls at hl ⊢
  have hl : lv_has ls 1 [(0, .ref a)] := hl
  refine lv_aload_n hx hb dJ0_length_8abf5_0 rfl (lv_at hl 0 rfl) ?_
  refine k_getX hx hb f3 hown (hts (.fieldLink RJ0 9 "java/lang/String" "value" "[B") (by decide +kernel)) (fun _ h9 => h9) dJ0_length_8abf5_1 ?_
  refine va_tlen hx hb f4 va_S.rf (v := nI n) rfl dJ0_length_8abf5_4 ?_
  refine lv_aload_n hx hb dJ0_length_8abf5_5 rfl (lv_at hl 0 rfl) ?_
  refine call_JsP (As := []) (rest := [.int (nI n)]) ⟨hx, hb, hml, hown, hts⟩ (tJ0_coder_7d493 (l := l) (base := base) (n := n) (f := f)) (cwV 0 hts gJ0_length_8abf5_J0_coder_7d493 rfl rfl rfl (by decide +kernel) ⟨Nat.le_of_ble_eq_true rfl, Nat.le_of_ble_eq_true rfl⟩) hF hbs hEU (by rfl) hl.1 rfl (Nat.le_of_ble_eq_true rfl) dJ0_length_8abf5_6 ⟨Nat.zero_le _, Nat.zero_le _⟩ ?_
  refine lv_ishr hx hb dJ0_length_8abf5_9 ?_
  exact W.iret hx hb hr (fun t ht _ => ⟨by rw [sb_shr0], ht⟩) (fun _ h9 => absurd h9 List.not_mem_nil) dJ0_length_8abf5_10
def rmJ1_charAt : Room := { frames := 3, cells := 0, slots := 0, locals := 100 }
theorem in_n {i : Int32} {n : Nat} (hi : vp_in i n) (hn : n < 65536) : 0 ≤ i ∧ i < nI n := by
  obtain ⟨j, hj, rfl⟩ := nI_of (x := i) (fun h => hi (Or.inl h))
  have h2 : j < n := by
    rcases Nat.lt_or_ge j n with q | q
    · exact q
    · exact absurd (Or.inr (by rw [nI_clamp hj]; exact q)) hi
  exact ⟨nI_pos' hj, nI_lt h2 (by omega)⟩
theorem tJ1_charAt_3b067 {l : Launch} {base v n : Nat} {f : Nat → Int32} {i : Int32} (hi : vp_in i n) (hn : n < 65536) : Met l yJ1_charAt_3b067 wsJ1_charAt_3b067 rmJ1_charAt (cJv base v n f [.ref v, .int i]) (cQp (f i.toNatClampNeg &&& 255)) 0 0 (fun _ => False) := by
  refine Met.ofW (cc := cJ1_charAt_3b067) (maxL := 2) (ret := (some .char)) (by decide) rfl ?_
  intro p e s m args below meth c s₁ B hml hv
  obtain ⟨rfl, f4, hbs, hE⟩ := hv
  have hx := B.exec
  have hb := B.bytes
  have hr := B.returns
  have hts := atoms_spec (ws := wsJ1_charAt_3b067) B.pre
  have hown : s.vm.findClass RJ1 = some m.cls := findClass_of_methodNamed B.named
  have hEU : ∀ U : State, U.heap = s.heap → s.WarmedH U.vm → EnvB base U := fun U hU hW => Env_step rfl rfl hE va_S.rf hU hW
  have hl := lv_entry ([.ref v, .int i]) (n := 2) (Nat.le_of_ble_eq_true rfl)
  rw [lg_entry_eq]
  generalize (lg_sl ([.ref v, .int i]) ++ List.replicate (2 - (lg_sl ([.ref v, .int i])).length) Slot.unset).toArray = ls at hl ⊢
  have hl : lv_has ls 2 [(0, .ref v), (1, .int i)] := hl
  refine lv_iload_n hx hb dJ1_charAt_3b067_0 rfl (lv_at hl 1 rfl) ?_
  refine lv_aload_n hx hb dJ1_charAt_3b067_1 rfl (lv_at hl 0 rfl) ?_
  refine va_tlen hx hb f4 va_S.rf (v := nI n) rfl dJ1_charAt_3b067_2 ?_
  refine call_SCk (As := [.int i, .int (nI n)]) (rest := []) ⟨hx, hb, hml, hown, hts⟩ (tJ0_checkIndex_df160 (l := l) (base := base) (in_n hi hn)) (va_cwS 2 hts gJ1_charAt_3b067_J0_checkIndex_df160 rfl rfl rfl (by decide +kernel) ⟨Nat.le_of_ble_eq_true rfl, Nat.le_of_ble_eq_true rfl⟩) hbs hEU (by rfl) hl.1 rfl (Nat.le_of_ble_eq_true rfl) dJ1_charAt_3b067_3 ⟨Nat.zero_le _, Nat.zero_le _⟩ ?_
  refine lv_aload_n hx hb dJ1_charAt_3b067_6 rfl (lv_at hl 0 rfl) ?_
  refine lv_iload_n hx hb dJ1_charAt_3b067_7 rfl (lv_at hl 1 rfl) ?_
  refine va_tb hx hb f4 va_S.rf hi (v := .int (f i.toNatClampNeg)) rfl dJ1_charAt_3b067_8 ?_
  refine lv_sipush (v := 255) hx hb dJ1_charAt_3b067_9 (by decide) ?_
  refine lv_iand hx hb dJ1_charAt_3b067_12 ?_
  refine lv_i2c (v := i2c (f i.toNatClampNeg &&& 255)) hx hb dJ1_charAt_3b067_13 rfl ?_
  rw [i2c_255]
  exact W.zret hx hb hr (chr_n (chr_255 _)) (fun t ht _ => ⟨rfl, ht⟩) (fun _ h9 => absurd h9 List.not_mem_nil) dJ1_charAt_3b067_14
def rmJ0_charAt : Room := { frames := 4, cells := 0, slots := 0, locals := 125 }
theorem tJ0_charAt_5068e {l : Launch} {base a n : Nat} {f : Nat → Int32} {i : Int32} (hi : vp_in i n) : Met l yJ0_charAt_5068e wsJ0_charAt_5068e rmJ0_charAt (cJs base a n f [.ref a, .int i]) (cQp (f i.toNatClampNeg &&& 255)) 0 0 (fun _ => False) := by
  refine Met.ofW (cc := cJ0_charAt_5068e) (maxL := 2) (ret := (some .char)) (by decide) rfl ?_
  intro p e s m args below meth c s₁ B hml hv
  obtain ⟨rfl, hF, hbs, hE⟩ := hv
  have hF0 := hF
  obtain ⟨hn, v, f1, f2, f3, f4⟩ := hF0
  have hx := B.exec
  have hb := B.bytes
  have hr := B.returns
  have hts := atoms_spec (ws := wsJ0_charAt_5068e) B.pre
  have hown : s.vm.findClass RJ0 = some m.cls := findClass_of_methodNamed B.named
  have hEU : ∀ U : State, U.heap = s.heap → s.WarmedH U.vm → EnvB base U := fun U hU hW => Env_step rfl rfl hE va_S.rf hU hW
  have hl := lv_entry ([.ref a, .int i]) (n := 2) (Nat.le_of_ble_eq_true rfl)
  rw [lg_entry_eq]
  generalize (lg_sl ([.ref a, .int i]) ++ List.replicate (2 - (lg_sl ([.ref a, .int i])).length) Slot.unset).toArray = ls at hl ⊢
  have hl : lv_has ls 2 [(0, .ref a), (1, .int i)] := hl
  refine lv_aload_n hx hb dJ0_charAt_5068e_0 rfl (lv_at hl 0 rfl) ?_
  refine call_JsP (As := []) (rest := []) ⟨hx, hb, hml, hown, hts⟩ (tJ0_isLatin1_aae02 (l := l) (base := base) (n := n) (f := f)) (cwV 0 hts gJ0_charAt_5068e_J0_isLatin1_aae02 rfl rfl rfl (by decide +kernel) ⟨Nat.le_of_ble_eq_true rfl, Nat.le_of_ble_eq_true rfl⟩) hF hbs hEU (by rfl) hl.1 rfl (Nat.le_of_ble_eq_true rfl) dJ0_charAt_5068e_1 ⟨Nat.zero_le _, Nat.zero_le _⟩ ?_
  refine lv_if_eq (tgt := 16) hx hb dJ0_charAt_5068e_4 (by decide) (fun c1 => absurd c1 (by decide)) (fun _ => ?_)
  refine lv_aload_n hx hb dJ0_charAt_5068e_7 rfl (lv_at hl 0 rfl) ?_
  refine k_getX hx hb f3 hown (hts (.fieldLink RJ0 9 "java/lang/String" "value" "[B") (by decide +kernel)) (fun _ h9 => h9) dJ0_charAt_5068e_8 ?_
  refine lv_iload_n hx hb dJ0_charAt_5068e_11 rfl (lv_at hl 1 rfl) ?_
  refine call_JvP (As := [.ref v, .int i]) (rest := []) ⟨hx, hb, hml, hown, hts⟩ (tJ1_charAt_3b067 (l := l) (base := base) (f := f) hi hn) (va_cwS 2 hts gJ0_charAt_5068e_J1_charAt_3b067 rfl rfl rfl (by decide +kernel) ⟨Nat.le_of_ble_eq_true rfl, Nat.le_of_ble_eq_true rfl⟩) f4 hbs hEU (by rfl) hl.1 rfl (Nat.le_of_ble_eq_true rfl) dJ0_charAt_5068e_12 ⟨Nat.zero_le _, Nat.zero_le _⟩ ?_
  exact W.zret hx hb hr (chr_n (chr_255 _)) (fun t ht _ => ⟨rfl, ht⟩) (fun _ h9 => absurd h9 List.not_mem_nil) dJ0_charAt_5068e_15
