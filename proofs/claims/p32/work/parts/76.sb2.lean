/-! ===== the builder's length and signs, told shortly ===== -/
def s_length (K : KT) : Option Int32 := some (K 1 0)
def s_charAt (K : KT) (i : Int32) : Option Int32 := if 0 ≤ i ∧ i < K 1 0 then some (K 0 i.toNatClampNeg &&& 255) else none
theorem i2c_255 (x : Int32) : i2c (x &&& 255) = x &&& 255 := sc_c2 x
theorem chr_255 (x : Int32) : chr (x &&& 255) := by
  obtain ⟨k, hk, e⟩ : ∃ k, k < 256 ∧ x &&& 255 = nI k := by
    refine ⟨(x &&& 255).toBitVec.toNat, ?_, ?_⟩
    · have : (x &&& 255).toBitVec = x.toBitVec &&& 255#32 := rfl
      rw [this, BitVec.toNat_and]
      exact Nat.lt_of_le_of_lt Nat.and_le_right (by decide)
    · apply Int32.toBitVec_inj.mp
      show _ = (Int32.ofNat _).toBitVec
      rw [Int32.toBitVec_ofNat']
      simp
  rw [e]
  exact ⟨nI_pos' (by omega), nI_le (b := 65535) (by omega) (by decide)⟩
theorem s_charAt_m {N mm : Nat} {K : KT} {i r : Int32} (hf : s_charAt K i = some r) (hCF : CF mm K) : mJ4_charAt_5068e N mm K i = some r := by
  obtain ⟨⟨n, hn, hnm⟩, hm, -, -⟩ := hCF
  unfold s_charAt at hf
  by_cases h : 0 ≤ i ∧ i < K 1 0
  · rw [if_pos h] at hf
    obtain ⟨j, hj, rfl⟩ := nI_of (x := i) (fun q => Int32.not_lt.mpr h.1 q)
    have hjn : j < n := by
      have := h.2
      rw [hn] at this
      exact (nI_ltI hj (by omega)).mp this
    have e1 : (if ((nI mm) >>> (((0 : Int32)) &&& 31)) < (K 1 0) then ((nI mm) >>> (((0 : Int32)) &&& 31)) else (K 1 0)) = K 1 0 := by
      rw [sb_shr0, hn, if_neg (nI_nlt (by omega) (by omega))]
    unfold mJ4_charAt_5068e mJ5_charAt_5068e
    rw [e1, gd_n h, if_pos rfl, rdA_n (by omega) (by omega), i2c_255, gd_n (chr_255 _), bdP_n, gd_n (chr_255 _)]
    rw [nI_clamp hj] at hf
    exact hf
  · rw [if_neg h] at hf; cases hf
theorem tS_length {l : Launch} {dC : Nat → ClassId} {dI : Nat → Nat → Nat} {cB : ClassId} {ob sb mm base : Nat} {R : va_W} {K : KT} {rr : Int32} (hf : s_length K = some rr) (hCF : CF mm K) : Met l yJ4_length_8abf5 wsJ4_length_8abf5 rmJ4_length_8abf5 (cBp (dC, dI) vwCl [(cB, .byte)] base (sbW cB ob sb mm K ++ R) [.ref ob]) (cQp rr) 0 0 (fun _ => False) :=
  tJ4_length_8abf5 (N := 0) hf hCF
theorem tS_charAt {l : Launch} {dC : Nat → ClassId} {dI : Nat → Nat → Nat} {cB : ClassId} {ob sb mm base : Nat} {R : va_W} {K : KT} {p0 rr : Int32} (hf : s_charAt K p0 = some rr) (hCF : CF mm K) : Met l yJ4_charAt_5068e wsJ4_charAt_5068e rmJ4_charAt_5068e (cBp (dC, dI) vwCl [(cB, .byte)] base (sbW cB ob sb mm K ++ R) [.ref ob, .int p0]) (cQp rr) 0 0 (fun _ => False) :=
  tJ4_charAt_5068e (N := 0) (s_charAt_m hf hCF) hCF
