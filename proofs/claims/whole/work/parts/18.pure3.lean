/-! what the walks of quotient and leftOver ask: no divisor is 0, the loop ends -/
theorem mN_53 (a0 : Int32) (n : Nat) : mN a0 n < 9007199254740992 := by
  refine Nat.lt_of_lt_of_le (mN_lt a0 n) ?_
  obtain ⟨-, -, -, -, h5, -⟩ := wh_b a0
  exact Nat.le_trans (Nat.pow_le_pow_right (by decide) (show wN a0 + 1 ≤ 53 by omega)) (by decide)
theorem bN_le {m k : Nat} (h : m < 2 ^ k) : bN m ≤ k := by
  unfold bN
  split
  · omega
  · rename_i q
    have : m.log2 < k := (Nat.log2_lt q).mpr h
    omega
theorem bN_spec {m : Nat} (h : m ≠ 0) : 2 ^ (bN m - 1) ≤ m ∧ m < 2 ^ bN m ∧ 1 ≤ bN m := by
  unfold bN
  rw [if_neg h]
  exact ⟨Nat.log2_self_le h, Nat.lt_log2_self, by omega⟩
/-- a mantissa brought to 53 binary digits -/
def sN (m : Nat) : Nat := m * 2 ^ (53 - bN m)
theorem sN_lt {m : Nat} (h : m ≠ 0) (hm : m < 9007199254740992) : sN m < 9007199254740992 ∧ 4503599627370496 ≤ sN m := by
  have hb : bN m ≤ 53 := bN_le (k := 53) (by omega)
  obtain ⟨h1, h2, h3⟩ := bN_spec h
  unfold sN
  constructor
  · have := Nat.mul_lt_mul_of_pos_right h2 (Nat.two_pow_pos (53 - bN m))
    rw [← Nat.pow_add, show bN m + (53 - bN m) = 53 by omega] at this
    omega
  · have := Nat.mul_le_mul_right (2 ^ (53 - bN m)) h1
    rw [← Nat.pow_add, show bN m - 1 + (53 - bN m) = 52 by omega] at this
    omega
theorem p_sh53 {m : Nat} (hm : m < 9007199254740992) (h : m ≠ 0) : lN m <<< (((53 : Int32) - jX4_lengthOf (lN m)).toInt64 &&& 63) = lN (sN m) := by
  have hb : bN m ≤ 53 := bN_le (k := 53) (by omega)
  obtain ⟨-, -, h3⟩ := bN_spec h
  rw [r_len (by omega), show (53 : Int32) = nI 53 by decide, pk_sub hb, wb_shl m (k := 53 - bN m) (by omega)]
  rfl
theorem p_quot_ne (a0 : Int32) (x : Int64) (h : ¬ jX4_mantissa a0 x = 0) : ¬ (jX4_mantissa a0 x <<< (((53 : Int32) - jX4_lengthOf (jX4_mantissa a0 x)).toInt64 &&& 63)) = 0 := by
  obtain ⟨n, hn, rfl⟩ := wb_of x
  have hm := mN_53 a0 n
  rw [r_mant a0 hn] at h ⊢
  have h0 : mN a0 n ≠ 0 := fun q => h (by rw [q]; rfl)
  rw [p_sh53 hm h0]
  have := sN_lt h0 hm
  intro q
  have := (l_eq (b := 0) (by omega) (by decide)).mp q
  omega
theorem p_apart (a0 : Int32) (x y : Int64) : (jX4_exponent a0 x - jX4_exponent a0 y).toInt ≤ (4096 : Nat) := by
  obtain ⟨n, hn, rfl⟩ := wb_of x
  obtain ⟨k, hk, rfl⟩ := wb_of y
  have h1 := eN_b a0 n
  have h2 := eN_b a0 k
  rw [r_exp a0 hn, r_exp a0 hk, iI_sub, iI_toInt (by omega) (by omega)]
  omega
theorem p_step (x : Int64) : 10 ≤ (if (10 : Int32) < (jJ13_numberOfLeadingZeros_95d88 x - (1 : Int32)) then (jJ13_numberOfLeadingZeros_95d88 x - (1 : Int32)) else (10 : Int32)).toInt ∧ (if (10 : Int32) < (jJ13_numberOfLeadingZeros_95d88 x - (1 : Int32)) then (jJ13_numberOfLeadingZeros_95d88 x - (1 : Int32)) else (10 : Int32)).toInt ≤ 64 := by
  obtain ⟨n, hn, rfl⟩ := wb_of x
  rw [nz_long hn]
  have hb : (if n = 0 then 64 else 63 - n.log2) ≤ 64 := by split <;> omega
  generalize (if n = 0 then 64 else 63 - n.log2) = k at hb ⊢
  have e1 : nI k - (1 : Int32) = iI ((k : Int) - 1) := by rw [iI_n]; exact iI_sub _ 1
  rw [e1, show (10 : Int32) = iI 10 by decide]
  split
  · rename_i h
    rw [iI_lt (by omega) (by omega) (by omega) (by omega)] at h
    rw [iI_toInt (by omega) (by omega)]
    omega
  · rw [iI_toInt (by omega) (by omega)]
    omega
theorem p_dec {a b : Int32} {n : Nat} (h : ¬ a ≤ 0) (hn : a.toInt ≤ ((n + 1 : Nat) : Int)) (h1 : 10 ≤ b.toInt) (h2 : b.toInt ≤ 64) : (a - b).toInt ≤ (n : Int) := by
  rw [Int32.le_iff_toInt_le] at h
  have h0 : (0 : Int32).toInt = 0 := rfl
  rw [h0] at h
  have e1 : a = iI a.toInt := (Int32.ofInt_toInt a).symm
  have e2 : b = iI b.toInt := (Int32.ofInt_toInt b).symm
  have hu := Int32.toInt_lt a
  generalize a.toInt = u at *
  generalize b.toInt = v at *
  rw [e1, e2, iI_sub, iI_toInt (by omega) (by omega)]
  omega
