/-! the number of leading zeros -/
theorem nz_cu : ∀ k, k < 32 → ((nI k).toUInt32 &&& Int32.toUInt32 31) = UInt32.ofNat k := by decide +kernel
theorem nz_sh {n k : Nat} (hn : n < 2 ^ 32) (hk : k < 32) : ((nI n).toUInt32 >>> ((nI k).toUInt32 &&& Int32.toUInt32 31)).toInt32 = nI (n / 2 ^ k) := by
  rw [nz_cu k hk]
  apply Int32.toBitVec_inj.mp
  apply BitVec.eq_of_toNat_eq
  show ((nI n).toUInt32 >>> UInt32.ofNat k).toNat = (BitVec.ofNat 32 _).toNat
  have h1 : (UInt32.ofNat k).toNat = k := by
    show (BitVec.ofNat 32 k).toNat = k
    rw [BitVec.toNat_ofNat, Nat.mod_eq_of_lt (by omega)]
  have h2 : (nI n).toUInt32.toNat = n := pk_tn hn
  rw [UInt32.toNat_shiftRight, h1, h2, Nat.mod_eq_of_lt hk, Nat.shiftRight_eq_div_pow, BitVec.toNat_ofNat, Nat.mod_eq_of_lt (Nat.lt_of_le_of_lt (Nat.div_le_self _ _) hn)]
theorem nz_dl {k c : Nat} (h : k < 2147483648) : k / c < 2147483648 := Nat.lt_of_le_of_lt (Nat.div_le_self _ _) h
theorem nz_1 {n : Nat} (hn : n < 2147483648) : ((nI n).toUInt32 >>> ((1 : Int32).toUInt32 &&& Int32.toUInt32 31)).toInt32 = nI (n / 2) := nz_sh (k := 1) (by omega) (by decide)
theorem nz_2 {n : Nat} (hn : n < 2147483648) : ((nI n).toUInt32 >>> ((2 : Int32).toUInt32 &&& Int32.toUInt32 31)).toInt32 = nI (n / 4) := nz_sh (k := 2) (by omega) (by decide)
theorem nz_4 {n : Nat} (hn : n < 2147483648) : ((nI n).toUInt32 >>> ((4 : Int32).toUInt32 &&& Int32.toUInt32 31)).toInt32 = nI (n / 16) := nz_sh (k := 4) (by omega) (by decide)
theorem nz_8 {n : Nat} (hn : n < 2147483648) : ((nI n).toUInt32 >>> ((8 : Int32).toUInt32 &&& Int32.toUInt32 31)).toInt32 = nI (n / 256) := nz_sh (k := 8) (by omega) (by decide)
theorem nz_16 {n : Nat} (hn : n < 2147483648) : ((nI n).toUInt32 >>> ((16 : Int32).toUInt32 &&& Int32.toUInt32 31)).toInt32 = nI (n / 65536) := nz_sh (k := 16) (by omega) (by decide)
theorem nz_l4 {n : Nat} (hn : n < 2147483648) : (nI n < (4 : Int32)) ↔ n < 4 := nI_ltI (b := 4) hn (by decide)
theorem nz_l16 {n : Nat} (hn : n < 2147483648) : (nI n < (16 : Int32)) ↔ n < 16 := nI_ltI (b := 16) hn (by decide)
theorem nz_l256 {n : Nat} (hn : n < 2147483648) : (nI n < (256 : Int32)) ↔ n < 256 := nI_ltI (b := 256) hn (by decide)
theorem nz_l65536 {n : Nat} (hn : n < 2147483648) : (nI n < (65536 : Int32)) ↔ n < 65536 := nI_ltI (b := 65536) hn (by decide)
theorem nz_log {k s j : Nat} (hj : j < 2) (h1 : 2 ^ (s + j) ≤ k) (h2 : k < 2 ^ (s + j + 1)) : k.log2 = s + j := by
  have hk : k ≠ 0 := by have := Nat.two_pow_pos (s + j); omega
  exact (Nat.log2_eq_iff hk).mpr ⟨h1, h2⟩
theorem nz_fin {k : Nat} (s d : Nat) (b : Int32) (j : Nat) (hd : d = 2 ^ s) (hb : b = nI (31 - s)) (hs : s ≤ 30) (h1 : d ≤ k) (h2 : k < 4 * d) (hj : j = k / (2 * d)) : b - nI j = nI (31 - k.log2) := by
  subst hd hb hj
  have hp := Nat.two_pow_pos s
  rcases Nat.lt_or_ge k (2 * 2 ^ s) with q | q
  · have hl : k.log2 = s := nz_log (s := s) (j := 0) (by decide) (by simpa using h1) (by rw [Nat.add_zero, Nat.pow_succ]; omega)
    rw [hl, Nat.div_eq_of_lt q]
    exact pk_sub (Nat.zero_le _)
  · have hl : k.log2 = s + 1 := nz_log (s := s) (j := 1) (by decide) (by rw [Nat.pow_succ]; omega) (by rw [Nat.pow_succ, Nat.pow_succ]; omega)
    have hd : k / (2 * 2 ^ s) = 1 := by
      rw [Nat.div_eq_iff (by omega)]
      omega
    rw [hl, hd, pk_sub (show 1 ≤ 31 - s by omega)]
    congr 1
set_option maxRecDepth 100000 in
set_option maxHeartbeats 4000000 in
theorem nz_pos {k : Nat} (h0 : 0 < k) (hk : k < 2147483648) : jJ6_numberOfLeadingZeros_0f7a4 (nI k) = nI (31 - k.log2) := by
  have hp : (0 : Int32) < nI k := nI_lt (a := 0) h0 (by omega)
  have d_65536 : k / 65536 < 2147483648 := nz_dl hk
  have d_256 : k / 256 < 2147483648 := nz_dl hk
  have d_16 : k / 16 < 2147483648 := nz_dl hk
  have d_4 : k / 4 < 2147483648 := nz_dl hk
  have d_65536_256 : k / 65536 / 256 < 2147483648 := nz_dl d_65536
  have d_65536_16 : k / 65536 / 16 < 2147483648 := nz_dl d_65536
  have d_65536_4 : k / 65536 / 4 < 2147483648 := nz_dl d_65536
  have d_256_16 : k / 256 / 16 < 2147483648 := nz_dl d_256
  have d_256_4 : k / 256 / 4 < 2147483648 := nz_dl d_256
  have d_16_4 : k / 16 / 4 < 2147483648 := nz_dl d_16
  have d_65536_256_16 : k / 65536 / 256 / 16 < 2147483648 := nz_dl d_65536_256
  have d_65536_256_4 : k / 65536 / 256 / 4 < 2147483648 := nz_dl d_65536_256
  have d_65536_16_4 : k / 65536 / 16 / 4 < 2147483648 := nz_dl d_65536_16
  have d_256_16_4 : k / 256 / 16 / 4 < 2147483648 := nz_dl d_256_16
  have d_65536_256_16_4 : k / 65536 / 256 / 16 / 4 < 2147483648 := nz_dl d_65536_256_16
  simp only [jJ6_numberOfLeadingZeros_0f7a4, jJ6_numberOfLeadingZeros_0f7a4_y6, jJ6_numberOfLeadingZeros_0f7a4_y7, jJ6_numberOfLeadingZeros_0f7a4_y9, jJ6_numberOfLeadingZeros_0f7a4_y10, jJ6_numberOfLeadingZeros_0f7a4_y13, jJ6_numberOfLeadingZeros_0f7a4_y14, jJ6_numberOfLeadingZeros_0f7a4_y16, jJ6_numberOfLeadingZeros_0f7a4_y17, jJ6_numberOfLeadingZeros_0f7a4_y21, jJ6_numberOfLeadingZeros_0f7a4_y22, jJ6_numberOfLeadingZeros_0f7a4_y24, jJ6_numberOfLeadingZeros_0f7a4_y25, jJ6_numberOfLeadingZeros_0f7a4_y28, jJ6_numberOfLeadingZeros_0f7a4_y29, jJ6_numberOfLeadingZeros_0f7a4_y31, nz_1, nz_2, nz_4, nz_8, nz_16, nz_l4, nz_l16, nz_l256, nz_l65536, hk, hp, d_65536, d_256, d_16, d_4, d_65536_256, d_65536_16, d_65536_4, d_256_16, d_256_4, d_16_4, d_65536_256_16, d_65536_256_4, d_65536_16_4, d_256_16_4, d_65536_256_16_4, if_true]
  split
  · split
    · split
      · split
        · exact nz_fin (k := k) 0 1 _ _ rfl rfl (by decide) (by omega) (by omega) (by omega)
        · exact nz_fin (k := k) 2 4 _ _ rfl rfl (by decide) (by omega) (by omega) (by omega)
      · split
        · exact nz_fin (k := k) 4 16 _ _ rfl rfl (by decide) (by omega) (by omega) (by omega)
        · exact nz_fin (k := k) 6 64 _ _ rfl rfl (by decide) (by omega) (by omega) (by omega)
    · split
      · split
        · exact nz_fin (k := k) 8 256 _ _ rfl rfl (by decide) (by omega) (by omega) (by omega)
        · exact nz_fin (k := k) 10 1024 _ _ rfl rfl (by decide) (by omega) (by omega) (by omega)
      · split
        · exact nz_fin (k := k) 12 4096 _ _ rfl rfl (by decide) (by omega) (by omega) (by omega)
        · exact nz_fin (k := k) 14 16384 _ _ rfl rfl (by decide) (by omega) (by omega) (by omega)
  · split
    · split
      · split
        · exact nz_fin (k := k) 16 65536 _ _ rfl rfl (by decide) (by omega) (by omega) (by omega)
        · exact nz_fin (k := k) 18 262144 _ _ rfl rfl (by decide) (by omega) (by omega) (by omega)
      · split
        · exact nz_fin (k := k) 20 1048576 _ _ rfl rfl (by decide) (by omega) (by omega) (by omega)
        · exact nz_fin (k := k) 22 4194304 _ _ rfl rfl (by decide) (by omega) (by omega) (by omega)
    · split
      · split
        · exact nz_fin (k := k) 24 16777216 _ _ rfl rfl (by decide) (by omega) (by omega) (by omega)
        · exact nz_fin (k := k) 26 67108864 _ _ rfl rfl (by decide) (by omega) (by omega) (by omega)
      · split
        · exact nz_fin (k := k) 28 268435456 _ _ rfl rfl (by decide) (by omega) (by omega) (by omega)
        · exact nz_fin (k := k) 30 1073741824 _ _ rfl rfl (by decide) (by omega) (by omega) (by omega)
theorem nz_int {k : Nat} (hk : k < 4294967296) : jJ6_numberOfLeadingZeros_0f7a4 (nI k) = nI (if k = 0 then 32 else 31 - k.log2) := by
  by_cases h0 : k = 0
  · subst h0; decide +kernel
  · rw [if_neg h0]
    by_cases h1 : k < 2147483648
    · exact nz_pos (by omega) h1
    · have hl : k.log2 = 31 := (Nat.log2_eq_iff h0).mpr ⟨by omega, by omega⟩
      have hn : ¬ (0 : Int32) < nI k := by
        rw [Int32.lt_iff_toInt_lt]
        show ¬ (0 : Int) < (nI k).toBitVec.toInt
        rw [BitVec.toInt_eq_toNat_cond, pk_tn (by omega)]
        split <;> omega
      have hz : ¬ nI k = 0 := fun q => h0 ((n_eq (b := 0) (by omega) (by decide)).mp q)
      unfold jJ6_numberOfLeadingZeros_0f7a4
      rw [if_neg hn, hl]
      first | rw [if_neg hz] | rw [if_pos hz]
      rfl
theorem nz_long {W : Nat} (hW : W < 2 ^ 64) : jJ13_numberOfLeadingZeros_95d88 (lN W) = nI (if W = 0 then 64 else 63 - W.log2) := by
  unfold jJ13_numberOfLeadingZeros_95d88 jJ13_numberOfLeadingZeros_95d88_y1
  have e1 : ((lN W).toUInt64 >>> ((32 : Int32).toInt64.toUInt64 &&& Int64.toUInt64 63)).toInt64 = lN (W / 2 ^ 32) := wb_shr (k := 32) hW (by decide)
  rw [e1, lN_i, lN_i]
  have hd : W / 2 ^ 32 < 4294967296 := by omega
  by_cases h : W / 2 ^ 32 = 0
  · have hW2 : W < 4294967296 := by omega
    rw [if_pos (by rw [h]; rfl), nz_int hW2]
    have e32 : (32 : Int32) = nI 32 := by decide
    rw [e32, nI_add]
    congr 1
    by_cases h0 : W = 0
    · rw [if_pos h0, if_pos h0]
    · rw [if_neg h0, if_neg h0]
      have : W.log2 < 32 := (Nat.log2_lt h0).mpr hW2
      omega
  · rw [if_neg (show ¬ nI (W / 2 ^ 32) = 0 from fun q => h ((n_eq (b := 0) (by omega) (by decide)).mp q)), nz_int hd, if_neg h, if_neg (by omega)]
    congr 1
    have h0 : W ≠ 0 := by omega
    have hV := Nat.log2_self_le h
    have hV2 := Nat.lt_log2_self (n := W / 2 ^ 32)
    have hl : W.log2 = 32 + (W / 2 ^ 32).log2 := by
      refine (Nat.log2_eq_iff h0).mpr ⟨?_, ?_⟩
      · rw [Nat.pow_add]
        have := Nat.mul_le_mul_left (2 ^ 32) hV
        omega
      · rw [Nat.add_assoc, Nat.pow_add]
        have := Nat.mul_le_mul_left (2 ^ 32) (Nat.succ_le_of_lt hV2)
        omega
    omega
def bN (W : Nat) : Nat := if W = 0 then 0 else W.log2 + 1
theorem bN_64 {W : Nat} (hW : W < 2 ^ 64) : bN W ≤ 64 := by
  unfold bN
  split
  · omega
  · rename_i h
    have : W.log2 < 64 := (Nat.log2_lt h).mpr hW
    omega
theorem r_len {W : Nat} (hW : W < 2 ^ 64) : jX4_lengthOf (lN W) = nI (bN W) := by
  have hb := bN_64 hW
  unfold jX4_lengthOf
  rw [nz_long hW]
  have e64 : (64 : Int32) = nI 64 := by decide
  rw [e64, pk_sub (by split <;> omega)]
  congr 1
  unfold bN at hb ⊢
  split
  · rfl
  · rename_i h
    rw [if_neg h] at hb
    omega
