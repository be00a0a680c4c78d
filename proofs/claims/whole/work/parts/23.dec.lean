/-! the parts of a float's bits, as the class reads them, are those of the model -/
theorem mN_mod (a0 : Int32) {n N : Nat} (h : n % 2 ^ hN a0 = N % 2 ^ hN a0) : mN a0 n = mN a0 N := by
  obtain ⟨-, -, h3, -, -, -⟩ := wh_b a0
  have hd : 2 ^ wN a0 ∣ 2 ^ hN a0 := Nat.pow_dvd_pow 2 (by omega)
  have e : n % 2 ^ wN a0 = N % 2 ^ wN a0 := by
    rw [← Nat.mod_mod_of_dvd n hd, ← Nat.mod_mod_of_dvd N hd, h]
  unfold mN
  rw [h, e]
theorem eN_mod (a0 : Int32) {n N : Nat} (h : n % 2 ^ hN a0 = N % 2 ^ hN a0) : eN a0 n = eN a0 N := by
  unfold eN
  rw [h]
theorem x_mant (a0 : Int32) {N : Nat} (h : N < 2 * 2 ^ hN a0) : jX4_mantissa a0 (xb a0 N) = lN (mN a0 N) := by
  obtain ⟨n, h1, h2, h3, -⟩ := xb_lN a0 h
  rw [h2, r_mant a0 h1, mN_mod a0 h3]
theorem x_exp (a0 : Int32) {N : Nat} (h : N < 2 * 2 ^ hN a0) : jX4_exponent a0 (xb a0 N) = iI (eN a0 N) := by
  obtain ⟨n, h1, h2, h3, -⟩ := xb_lN a0 h
  rw [h2, r_exp a0 h1, eN_mod a0 h3]
theorem x_size (a0 : Int32) {N : Nat} (h : N < 2 * 2 ^ hN a0) : jX4_sizeOf a0 (xb a0 N) = lN (N % 2 ^ hN a0) := by
  obtain ⟨n, h1, h2, h3, -⟩ := xb_lN a0 h
  rw [h2, r_size a0 h1, h3]
theorem x_neg (a0 : Int32) {N : Nat} (h : N < 2 * 2 ^ hN a0) : (0 : Int64) ≤ xb a0 N ↔ N < 2 ^ hN a0 := by
  obtain ⟨n, h1, h2, -, h4⟩ := xb_lN a0 h
  rw [h2, l_neg h1, h4]
/-- the sign, as the model has it -/
def sN2 (a0 : Int32) (N : Nat) : Bool := decide (2 ^ hN a0 ≤ N)
theorem x_sg (a0 : Int32) {N : Nat} (h : N < 2 * 2 ^ hN a0) : sg (if (0 : Int64) ≤ xb a0 N then (0 : Int32) else (1 : Int32)) = sN2 a0 N := by
  unfold sg sN2
  by_cases q : N < 2 ^ hN a0
  · rw [if_pos ((x_neg a0 h).mpr q)]
    simp only [not_true_eq_false, decide_false]
    exact (decide_eq_false (by omega)).symm
  · rw [if_neg (fun w => q ((x_neg a0 h).mp w)), decide_eq_true (by decide), decide_eq_true (by omega)]
def iN (a0 : Int32) : Nat := (2 ^ (hN a0 - wN a0) - 1) * 2 ^ wN a0
theorem iN_lt (a0 : Int32) : iN a0 < 2 ^ hN a0 := inf_lt a0
theorem x_fit (a0 : Int32) {N : Nat} (h : N < 2 * 2 ^ hN a0) : jX4_isFit a0 (xb a0 N) = if N % 2 ^ hN a0 < iN a0 then 1 else 0 := by
  have b1 := p_hb a0
  have b2 := iN_lt a0
  have b3 := Nat.mod_lt N (Nat.two_pow_pos (hN a0))
  unfold jX4_isFit
  rw [x_size a0 h, r_endless]
  show (if lN (iN a0) ≤ _ then _ else _) = _
  by_cases q : N % 2 ^ hN a0 < iN a0
  · rw [if_neg (fun w => by have := (l_le (by omega) (by omega)).mp w; omega), if_pos q]
  · rw [if_pos ((l_le (by omega) (by omega)).mpr (by omega)), if_neg q]
theorem x_num (a0 : Int32) {N : Nat} (h : N < 2 * 2 ^ hN a0) : jX4_isNumber a0 (xb a0 N) = if N % 2 ^ hN a0 ≤ iN a0 then 1 else 0 := by
  have b1 := p_hb a0
  have b2 := iN_lt a0
  have b3 := Nat.mod_lt N (Nat.two_pow_pos (hN a0))
  unfold jX4_isNumber
  rw [x_size a0 h, r_endless]
  show (if lN (iN a0) < _ then _ else _) = _
  by_cases q : N % 2 ^ hN a0 ≤ iN a0
  · rw [if_neg (fun w => by have := (l_lt (by omega) (by omega)).mp w; omega), if_pos q]
  · rw [if_pos ((l_lt (by omega) (by omega)).mpr (by omega)), if_neg q]
theorem x_zero (a0 : Int32) {N : Nat} (h : N < 2 * 2 ^ hN a0) : jX4_isZero a0 (xb a0 N) = if N % 2 ^ hN a0 = 0 then 1 else 0 := by
  have b1 := p_hb a0
  have b3 := Nat.mod_lt N (Nat.two_pow_pos (hN a0))
  unfold jX4_isZero
  rw [x_size a0 h]
  by_cases q : N % 2 ^ hN a0 = 0
  · rw [q, if_pos (show lN 0 = (0 : Int64) from rfl), if_pos rfl]
  · rw [if_neg (show ¬ lN (N % 2 ^ hN a0) = (0 : Int64) from fun w => q ((l_eq (b := 0) (by omega) (by decide)).mp w)), if_neg q]
theorem dec_E (a0 : Int32) (N : Nat) : Jvm.FP.Core.fieldE (fF a0) N = N % 2 ^ hN a0 / 2 ^ wN a0 := by
  unfold Jvm.FP.Core.fieldE
  rw [f_tails, f_exps, ← f_hw a0, Nat.mul_comm, Nat.mod_mul_right_div_self]
theorem dec_S (a0 : Int32) {N : Nat} (h : N < 2 * 2 ^ hN a0) : Jvm.FP.Core.fieldS (fF a0) N = sN2 a0 N := by
  unfold Jvm.FP.Core.fieldS sN2
  rw [f_tails, f_exps, Nat.div_div_eq_div_mul, Nat.mul_comm, f_hw a0]
  by_cases q : 2 ^ hN a0 ≤ N
  · have : N / 2 ^ hN a0 = 1 := by
      rw [Nat.div_eq_iff (Nat.two_pow_pos _)]
      omega
    rw [this, decide_eq_true q]; rfl
  · rw [Nat.div_eq_of_lt (by omega), decide_eq_false q]; rfl
/-- a fit one, decoded -/
theorem dec_fin (a0 : Int32) {N : Nat} (h : N < 2 * 2 ^ hN a0) (hf : N % 2 ^ hN a0 < iN a0) : Jvm.FP.Core.decode (fF a0) N = .fin (sN2 a0 N) (mN a0 N) (eN a0 N) := by
  have hp := Nat.two_pow_pos (wN a0)
  have he : N % 2 ^ hN a0 / 2 ^ wN a0 < 2 ^ (hN a0 - wN a0) - 1 := by
    rw [Nat.div_lt_iff_lt_mul hp]
    exact hf
  unfold Jvm.FP.Core.decode
  rw [dec_E, dec_S a0 h, f_exps, if_neg (by omega), f_qmin, f_tails]
  unfold Jvm.FP.Core.fieldT
  rw [f_tails]
  unfold mN eN
  by_cases q : N % 2 ^ hN a0 < 2 ^ wN a0
  · rw [if_pos (Nat.div_eq_of_lt q), if_pos q, Nat.div_eq_of_lt q]
    congr 1
    omega
  · have h1 : 1 ≤ N % 2 ^ hN a0 / 2 ^ wN a0 := (Nat.le_div_iff_mul_le hp).mpr (by omega)
    rw [if_neg (by omega), if_neg q, Nat.add_comm]
    congr 1
    omega
theorem dec_inf (a0 : Int32) {N : Nat} (h : N < 2 * 2 ^ hN a0) (hf : N % 2 ^ hN a0 = iN a0) : Jvm.FP.Core.decode (fF a0) N = .inf (sN2 a0 N) := by
  obtain ⟨-, -, h3, -, -, -⟩ := wh_b a0
  have hp := Nat.two_pow_pos (wN a0)
  unfold Jvm.FP.Core.decode
  rw [dec_E, dec_S a0 h, f_exps, hf]
  unfold iN
  rw [Nat.mul_div_cancel _ hp, if_pos rfl]
  unfold Jvm.FP.Core.fieldT
  rw [f_tails]
  have hd : 2 ^ wN a0 ∣ 2 ^ hN a0 := Nat.pow_dvd_pow 2 (by omega)
  rw [← Nat.mod_mod_of_dvd N hd, hf]
  unfold iN
  rw [Nat.mul_mod_left, if_pos rfl]
theorem enc_lt (a0 : Int32) (d : Jvm.FP.Core.Datum) (h : Jvm.FP.Core.fits (fF a0) d) : Jvm.FP.Core.encode (fF a0) d < 2 * 2 ^ hN a0 := by
  have := Jvm.FP.Core.encode_lt (f_good a0) d h
  rw [f_size] at this
  exact this
theorem enc_inf (a0 : Int32) (s : Bool) : Jvm.FP.Core.encode (fF a0) (.inf s) = s.toNat * 2 ^ hN a0 + iN a0 := by
  unfold Jvm.FP.Core.encode Jvm.FP.Core.assemble
  dsimp only
  rw [f_exps, f_tails, Nat.add_zero, Nat.add_mul, Nat.mul_assoc, f_hw]
  rfl
/-- mantissa and exponent of a fit one fit the format -/
theorem dec_ok (a0 : Int32) {N : Nat} (h : N < 2 * 2 ^ hN a0) (hf : N % 2 ^ hN a0 < iN a0) : mN a0 N < 2 ^ (wN a0 + 1) ∧ qN a0 ≤ eN a0 N ∧ (eN a0 N = qN a0 ∨ 2 ^ wN a0 ≤ mN a0 N) := by
  have := Jvm.FP.Core.decode_fits (f_good a0) N
  rw [dec_fin a0 h hf] at this
  obtain ⟨h1, h2, -, h4⟩ := this
  rw [f_p] at h1
  rw [f_qmin] at h2 h4
  rw [f_tails] at h4
  exact ⟨h1, h2, h4⟩
