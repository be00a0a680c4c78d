/-! numbers of the class as whole numbers: Int32 by iI, Int64 by lN -/
def iI (z : Int) : Int32 := Int32.ofInt z
theorem iI_add (a b : Int) : iI a + iI b = iI (a + b) := (Int32.ofInt_add a b).symm
theorem iI_sub (a b : Int) : iI a - iI b = iI (a - b) := (Int32.ofInt_sub a b).symm
theorem iI_neg (a : Int) : -iI a = iI (-a) := (Int32.ofInt_neg a).symm
theorem iI_toInt {z : Int} (h1 : -2147483648 ≤ z) (h2 : z < 2147483648) : (iI z).toInt = z := Int32.toInt_ofInt_of_le (by omega) (by omega)
theorem iI_lt {a b : Int} (ha : -2147483648 ≤ a) (ha2 : a < 2147483648) (hb : -2147483648 ≤ b) (hb2 : b < 2147483648) : iI a < iI b ↔ a < b := by
  rw [Int32.lt_iff_toInt_lt, iI_toInt ha ha2, iI_toInt hb hb2]
theorem iI_le {a b : Int} (ha : -2147483648 ≤ a) (ha2 : a < 2147483648) (hb : -2147483648 ≤ b) (hb2 : b < 2147483648) : iI a ≤ iI b ↔ a ≤ b := by
  rw [Int32.le_iff_toInt_le, iI_toInt ha ha2, iI_toInt hb hb2]
theorem iI_n (n : Nat) : nI n = iI n := Int32.toBitVec_inj.mp (by show BitVec.ofNat 32 n = BitVec.ofInt 32 (n : Int); rw [BitVec.ofInt_natCast])
theorem l_toInt {n : Nat} (h : n < 9223372036854775808) : (lN n).toInt = (n : Int) := lg_ofNat_toInt h
theorem l_le {a b : Nat} (ha : a < 9223372036854775808) (hb : b < 9223372036854775808) : lN a ≤ lN b ↔ a ≤ b := by
  rw [Int64.le_iff_toInt_le, l_toInt ha, l_toInt hb]; omega
theorem l_lt {a b : Nat} (ha : a < 9223372036854775808) (hb : b < 9223372036854775808) : lN a < lN b ↔ a < b := by
  rw [Int64.lt_iff_toInt_lt, l_toInt ha, l_toInt hb]; omega
theorem l_eq {a b : Nat} (ha : a < 2 ^ 64) (hb : b < 2 ^ 64) : lN a = lN b ↔ a = b := by
  constructor
  · intro h
    have h2 := congrArg (fun x : Int64 => x.toBitVec.toNat) h
    simp only [wb_tn ha, wb_tn hb] at h2
    exact h2
  · intro h; rw [h]
theorem n_eq {a b : Nat} (ha : a < 2 ^ 32) (hb : b < 2 ^ 32) : nI a = nI b ↔ a = b := by
  constructor
  · intro h
    have h2 := congrArg (fun x : Int32 => x.toBitVec.toNat) h
    simp only [pk_tn ha, pk_tn hb] at h2
    exact h2
  · intro h; rw [h]
/-- a long below 0 is one whose first bit is set -/
theorem l_neg {n : Nat} (h : n < 2 ^ 64) : (0 : Int64) ≤ lN n ↔ n < 9223372036854775808 := by
  rw [Int64.le_iff_toInt_le]
  show (0 : Int) ≤ (lN n).toBitVec.toInt ↔ _
  rw [BitVec.toInt_eq_toNat_cond, wb_tn h]
  split <;> omega
/-! the two formats -/
def wN (a0 : Int32) : Nat := if a0 = 0 then 23 else 52
def hN (a0 : Int32) : Nat := if a0 = 0 then 31 else 63
def qN (a0 : Int32) : Int := if a0 = 0 then -149 else -1074
def fF (a0 : Int32) : Jvm.FP.Core.Fmt := if a0 = 0 then Jvm.FP.Core.b32 else Jvm.FP.Core.b64
theorem wh_b (a0 : Int32) : wN a0 < 64 ∧ hN a0 < 64 ∧ wN a0 < hN a0 ∧ 23 ≤ wN a0 ∧ wN a0 ≤ 52 ∧ hN a0 - wN a0 ≤ 11 := by
  unfold wN hN; split <;> decide
theorem r_width (a0 : Int32) : jX4_width a0 = nI (wN a0) := by unfold jX4_width wN; split <;> rfl
theorem r_least (a0 : Int32) : jX4_leastExponent a0 = iI (qN a0) := by unfold jX4_leastExponent qN; split <;> decide
theorem r_endless (a0 : Int32) : jX4_endless a0 = lN ((2 ^ (hN a0 - wN a0) - 1) * 2 ^ wN a0) := by
  unfold jX4_endless hN wN; split <;> decide
theorem r_size (a0 : Int32) {n : Nat} (hn : n < 2 ^ 64) : jX4_sizeOf a0 (lN n) = lN (n % 2 ^ hN a0) := by
  unfold jX4_sizeOf jX4_sizeOf_y1 hN
  split
  · exact wb_mask (k := 31) hn (by decide)
  · exact wb_mask (k := 63) hn (by decide)
theorem p_hb (a0 : Int32) : 2 ^ hN a0 ≤ 9223372036854775808 := by
  unfold hN; split <;> decide
theorem p_wb (a0 : Int32) : 2 ^ wN a0 ≤ 4503599627370496 := by
  unfold wN; split <;> decide
theorem p_one (w : Nat) (hw : w < 64) : (1 : Int64) <<< ((nI w).toInt64 &&& 63) = lN (2 ^ w) := by
  have := wb_shl 1 hw
  rw [Nat.one_mul] at this
  exact this
theorem p_ones (w : Nat) : lN (2 ^ w) - (1 : Int64) = lN (2 ^ w - 1) := by
  have := lN_sub (a := 2 ^ w) (b := 1) (Nat.one_le_two_pow)
  exact this
def mN (a0 : Int32) (n : Nat) : Nat := if n % 2 ^ hN a0 < 2 ^ wN a0 then n % 2 ^ wN a0 else n % 2 ^ wN a0 + 2 ^ wN a0
def eN (a0 : Int32) (n : Nat) : Int := qN a0 + ((n % 2 ^ hN a0 / 2 ^ wN a0 - 1 : Nat) : Int)
theorem r_mant (a0 : Int32) {n : Nat} (hn : n < 2 ^ 64) : jX4_mantissa a0 (lN n) = lN (mN a0 n) := by
  obtain ⟨h1, h2, h3, h4, h5, -⟩ := wh_b a0
  have b1 := p_hb a0
  have b2 := p_wb a0
  have b3 := Nat.mod_lt n (Nat.two_pow_pos (hN a0))
  have b4 := Nat.mod_lt n (Nat.two_pow_pos (wN a0))
  unfold jX4_mantissa jX4_mantissa_y1 jX4_mantissa_y2 mN
  rw [r_width, r_size a0 hn, p_one _ h1, p_ones, wb_mask hn h1]
  by_cases h : n % 2 ^ hN a0 < 2 ^ wN a0
  · rw [if_neg (by rw [l_le (by omega) (by omega)]; omega), if_pos h]
  · rw [if_pos (by rw [l_le (by omega) (by omega)]; omega), if_neg h, wb_or (by omega) (by omega)]
    congr 1
    have := Nat.two_pow_add_eq_or_of_lt b4 1
    rw [Nat.mul_one] at this
    rw [Nat.or_comm, ← this, Nat.add_comm]
theorem mN_lt (a0 : Int32) (n : Nat) : mN a0 n < 2 ^ (wN a0 + 1) := by
  have b4 := Nat.mod_lt n (Nat.two_pow_pos (wN a0))
  unfold mN
  rw [Nat.pow_succ]
  split <;> omega
theorem p_field (a0 : Int32) (n : Nat) : n % 2 ^ hN a0 / 2 ^ wN a0 < 2048 := by
  obtain ⟨h1, h2, h3, h4, h5, h6⟩ := wh_b a0
  have b3 := Nat.mod_lt n (Nat.two_pow_pos (hN a0))
  rw [Nat.div_lt_iff_lt_mul (Nat.two_pow_pos _)]
  refine Nat.lt_of_lt_of_le b3 ?_
  rw [show (2048 : Nat) = 2 ^ 11 by decide, ← Nat.pow_add]
  exact Nat.pow_le_pow_right (by decide) (by omega)
theorem q_b (a0 : Int32) : -1074 ≤ qN a0 ∧ qN a0 ≤ -149 := by unfold qN; split <;> decide
theorem eN_b (a0 : Int32) (n : Nat) : -1074 ≤ eN a0 n ∧ eN a0 n < 2048 := by
  have := p_field a0 n
  have := q_b a0
  unfold eN
  omega
theorem r_exp (a0 : Int32) {n : Nat} (hn : n < 2 ^ 64) : jX4_exponent a0 (lN n) = iI (eN a0 n) := by
  obtain ⟨h1, h2, h3, h4, h5, -⟩ := wh_b a0
  have b1 := p_hb a0
  have b3 := Nat.mod_lt n (Nat.two_pow_pos (hN a0))
  have b5 := p_field a0 n
  unfold jX4_exponent jX4_exponent_y1 eN
  rw [r_size a0 hn, r_width, wb_shr (by omega) h1, lN_i, r_least]
  generalize n % 2 ^ hN a0 / 2 ^ wN a0 = k at b5
  have e1 : nI k - (1 : Int32) = iI ((k : Int) - 1) := by rw [iI_n]; exact iI_sub _ 1
  rw [e1]
  have e0 : (0 : Int32) = iI 0 := by decide
  rw [e0]
  by_cases h : 1 < k
  · rw [if_pos ((iI_lt (by omega) (by omega) (by omega) (by omega)).mpr (by omega)), iI_add]
    congr 1; omega
  · rw [if_neg (fun q => by have := (iI_lt (by omega) (by omega) (by omega) (by omega)).mp q; omega), iI_add]
    congr 1; omega
