/-! the bits of a float or double, as the class keeps them in a long -/
def xb (a0 : Int32) (N : Nat) : Int64 := if a0 = 0 then (nI N).toInt64 else lN N
theorem nI_hi {N : Nat} (h1 : 2147483648 ≤ N) (h2 : N < 4294967296) : (nI N).toInt64 = lN (N + 18446744069414584320) := by
  apply Int64.toInt_inj.mp
  rw [Int32.toInt_toInt64]
  show (nI N).toBitVec.toInt = (lN (N + 18446744069414584320)).toBitVec.toInt
  rw [BitVec.toInt_eq_toNat_cond, BitVec.toInt_eq_toNat_cond, pk_tn (by omega), wb_tn (by omega), if_neg (by omega), if_neg (by omega)]
  omega
theorem nI_lo {N : Nat} (h1 : N < 2147483648) : (nI N).toInt64 = lN N := nI_l (by omega)
theorem xb_lN (a0 : Int32) {N : Nat} (h : N < 2 * 2 ^ hN a0) : ∃ n, n < 2 ^ 64 ∧ xb a0 N = lN n ∧ n % 2 ^ hN a0 = N % 2 ^ hN a0 ∧ (n < 9223372036854775808 ↔ N < 2 ^ hN a0) := by
  unfold xb hN at *
  by_cases ha : a0 = 0
  · rw [if_pos ha] at *
    rw [if_pos ha]
    have h' : N < 4294967296 := by omega
    by_cases h1 : N < 2147483648
    · exact ⟨N, by omega, nI_lo h1, rfl, by omega⟩
    · exact ⟨_, by omega, nI_hi (by omega) h', by omega, by omega⟩
  · rw [if_neg ha] at *
    rw [if_neg ha]
    exact ⟨N, by omega, rfl, rfl, by omega⟩
theorem f_p (a0 : Int32) : (fF a0).p = wN a0 + 1 := by unfold fF wN; split <;> rfl
theorem f_tails (a0 : Int32) : (fF a0).tails = 2 ^ wN a0 := by unfold fF wN; split <;> rfl
theorem f_exps (a0 : Int32) : (fF a0).exps = 2 ^ (hN a0 - wN a0) := by unfold fF wN hN; split <;> rfl
theorem f_qmin (a0 : Int32) : (fF a0).qmin = qN a0 := by unfold fF qN; split <;> decide
theorem f_half (a0 : Int32) : Jvm.FP.Core.half (fF a0) = 2 ^ hN a0 := by unfold fF hN; split <;> decide
theorem f_good (a0 : Int32) : Jvm.FP.Core.Good (fF a0) := by unfold fF; split; exact Jvm.FP.Core.good_b32; exact Jvm.FP.Core.good_b64
theorem f_size (a0 : Int32) : 2 * (fF a0).exps * (fF a0).tails = 2 * 2 ^ hN a0 := by rw [Nat.mul_assoc]; congr 1; exact f_half a0
theorem f_hw (a0 : Int32) : 2 ^ (hN a0 - wN a0) * 2 ^ wN a0 = 2 ^ hN a0 := by rw [← Nat.pow_add]; congr 1; have := wh_b a0; omega
theorem f_inf (a0 : Int32) : Jvm.FP.Core.infBits (fF a0) = (2 ^ (hN a0 - wN a0) - 1) * 2 ^ wN a0 := by
  unfold Jvm.FP.Core.infBits; rw [f_exps, f_tails]
theorem p_e8 (a0 : Int32) : 256 ≤ 2 ^ (hN a0 - wN a0) ∧ 2 ^ (hN a0 - wN a0) ≤ 2048 := by unfold hN wN; split <;> decide
theorem f_qmax (a0 : Int32) : (fF a0).qmax - (fF a0).qmin = (2 ^ (hN a0 - wN a0) : Nat) - 3 := by
  have h1 := Jvm.FP.Core.qmax_qmin (fF a0)
  have h2 := Jvm.FP.Core.emax_exps (f_good a0)
  rw [f_exps] at h2
  omega
theorem p_or {i a b : Nat} (hb : b < 2 ^ i) (h : 2 ^ i * a + b < 2 ^ 64) : lN b ||| lN (2 ^ i * a) = lN (2 ^ i * a + b) := by
  rw [wb_or (by omega) (by omega), Nat.or_comm, ← Nat.two_pow_add_eq_or_of_lt hb]
theorem r_signed (a0 neg : Int32) {z : Nat} (hz : z < 2 ^ hN a0) : jX4_signed a0 neg (lN z) = xb a0 ((if neg = 0 then 0 else 2 ^ hN a0) + z) := by
  unfold jX4_signed jX4_signed_y1 xb
  unfold hN at *
  by_cases ha : a0 = 0
  · rw [if_pos ha] at hz
    rw [if_pos ha, if_pos ha, if_pos ha]
    by_cases hn : neg = 0
    · rw [if_pos hn, if_pos hn, Nat.zero_add, nI_lo (by omega)]
    · rw [if_neg hn, if_neg hn, nI_hi (by omega) (by omega)]
      have e := p_or (i := 31) (a := 8589934591) (b := z) hz (by omega)
      rw [show 2 ^ 31 + z + 18446744069414584320 = 2 ^ 31 * 8589934591 + z by omega]
      exact e
  · rw [if_neg ha] at hz
    rw [if_neg ha, if_neg ha, if_neg ha]
    by_cases hn : neg = 0
    · rw [if_pos hn, if_pos hn, Nat.zero_add]
    · rw [if_neg hn, if_neg hn]
      have e := p_or (i := 63) (a := 1) (b := z) hz (by omega)
      rw [Nat.mul_one] at e
      exact e
theorem r_round {W k : Nat} (hW : W < 2 ^ 64) (h1 : 1 ≤ k) (h2 : k ≤ 63) : jX4_rounded (lN W) (nI k) = lN (Jvm.FP.Core.nearest W (2 ^ k)) := by
  have hp : 2 ^ k = 2 * 2 ^ (k - 1) := by rw [← Nat.pow_succ']; congr 1; omega
  have hpos := Nat.two_pow_pos (k - 1)
  have hle : 2 ^ k ≤ 9223372036854775808 := Nat.le_trans (Nat.pow_le_pow_right (by decide) h2) (by decide)
  have hm := Nat.mod_lt W (Nat.two_pow_pos k)
  have hd := Nat.div_le_self W (2 ^ k)
  have hd2 : W / 2 ^ k < 9223372036854775808 := by
    rw [Nat.div_lt_iff_lt_mul (Nat.two_pow_pos k)]
    have := Nat.mul_le_mul_left 9223372036854775808 (show 2 ≤ 2 ^ k by omega)
    omega
  unfold jX4_rounded jX4_rounded_y3 jX4_rounded_y4 jX4_rounded_y5 jX4_rounded_y6 Jvm.FP.Core.nearest
  have c1 : (0 : Int32) < nI k := nI_lt (a := 0) (by omega) (by omega)
  have c2 : nI k ≤ (63 : Int32) := nI_le (b := 63) h2 (by decide)
  have e1 : nI k - (1 : Int32) = nI (k - 1) := pk_sub h1
  rw [if_pos c1, if_pos c2, wb_shr hW (by omega), p_one k (by omega), p_ones, wb_mask hW (by omega), e1, p_one (k - 1) (by omega)]
  generalize W / 2 ^ k = q at *
  generalize W % 2 ^ k = r at *
  rw [hp] at *
  generalize 2 ^ (k - 1) = g at *
  have ea : lN q &&& (1 : Int64) = lN (q % 2) := wb_a1 (by omega)
  rw [ea]
  have ez : (lN (q % 2) = (0 : Int64)) ↔ q % 2 = 0 := l_eq (b := 0) (by omega) (by decide)
  have e10 : ¬ ((1 : Int32) = 0) := by decide
  by_cases d1 : 2 * r < 2 * g
  · rw [if_neg (show ¬ lN g < lN r by rw [l_lt (by omega) (by omega)]; omega), if_neg (show ¬ lN r = lN g by rw [l_eq (by omega) (by omega)]; omega), if_pos rfl, if_pos d1]
  · rw [if_neg d1]
    by_cases d2 : 2 * g < 2 * r
    · rw [if_pos (show lN g < lN r by rw [l_lt (by omega) (by omega)]; omega), if_neg e10, if_pos d2, lN_1]
    · rw [if_neg d2, if_neg (show ¬ lN g < lN r by rw [l_lt (by omega) (by omega)]; omega), if_pos (show lN r = lN g by rw [l_eq (by omega) (by omega)]; omega)]
      by_cases d3 : q % 2 = 0
      · rw [if_pos (ez.mpr d3), if_pos rfl, d3, Nat.add_zero]
      · rw [if_neg (fun w => d3 (ez.mp w)), if_neg e10, lN_1, show q % 2 = 1 by omega]
theorem r_round_up {W j : Nat} (h : j < 64) : jX4_rounded (lN W) (iI (-(j : Int))) = lN (W * 2 ^ j) := by
  unfold jX4_rounded
  have c1 : ¬ (0 : Int32) < iI (-(j : Int)) := by
    rw [show (0 : Int32) = iI 0 by decide, iI_lt (by omega) (by omega) (by omega) (by omega)]
    omega
  rw [if_neg c1, iI_neg, show -(-(j : Int)) = (j : Int) by omega, ← iI_n, wb_shl W h]
theorem r_round_0 {W : Nat} {z : Int} (h : 64 ≤ z) (h2 : z < 100000) : jX4_rounded (lN W) (iI z) = lN 0 := by
  unfold jX4_rounded
  have c1 : (0 : Int32) < iI z := by
    rw [show (0 : Int32) = iI 0 by decide, iI_lt (by omega) (by omega) (by omega) (by omega)]
    omega
  have c2 : ¬ iI z ≤ (63 : Int32) := by
    rw [show (63 : Int32) = iI 63 by decide, iI_le (by omega) (by omega) (by omega) (by omega)]
    omega
  rw [if_pos c1, if_neg c2]
  rfl
theorem near_0 {W k : Nat} (h : 2 * W ≤ 2 ^ k) (hk : 1 ≤ k) : Jvm.FP.Core.nearest W (2 ^ k) = 0 := by
  have hp : 2 ^ k = 2 * 2 ^ (k - 1) := by rw [← Nat.pow_succ']; congr 1; omega
  have hpos := Nat.two_pow_pos (k - 1)
  have hlt : W < 2 ^ k := by omega
  unfold Jvm.FP.Core.nearest
  rw [Nat.mod_eq_of_lt hlt, Nat.div_eq_of_lt hlt]
  split
  · rfl
  · rw [if_neg (by omega)]
/-- rounding at q, as the class does it -/
theorem r_rounded {W : Nat} {e q : Int} (hW : W < 2 ^ 64) (h1 : -64 < q - e) (h2 : q - e < 100000) (hs : q - e < 64 ∨ W ≤ 9223372036854775808) : jX4_rounded (lN W) (iI (q - e)) = lN (Jvm.FP.Core.nearest (Jvm.FP.Core.unitsNum W e q) (Jvm.FP.Core.unitsDen 1 e q)) := by
  unfold Jvm.FP.Core.unitsNum Jvm.FP.Core.unitsDen
  rcases Int.lt_or_le 0 (q - e) with h | h
  · obtain ⟨k, hk⟩ : ∃ k : Nat, q - e = (k : Int) := ⟨(q - e).toNat, by omega⟩
    rw [show (e - q).toNat = 0 by omega, show (q - e).toNat = k by omega, hk, Nat.pow_zero, Nat.mul_one, Nat.one_mul]
    rcases Nat.lt_or_ge k 64 with g | g
    · rw [← iI_n]
      exact r_round hW (by omega) (by omega)
    · rw [r_round_0 (by omega) (by omega), near_0 ?_ (by omega)]
      have hp : 2 ^ 64 ≤ 2 ^ k := Nat.pow_le_pow_right (by decide) g
      omega
  · obtain ⟨k, hk⟩ : ∃ k : Nat, e - q = (k : Int) := ⟨(e - q).toNat, by omega⟩
    rw [show (e - q).toNat = k by omega, show (q - e).toNat = 0 by omega, show q - e = -(k : Int) by omega, r_round_up (by omega), Nat.pow_zero, Nat.mul_one]
    congr 1
    have := Jvm.FP.Core.nearest_exact (B := 1) (W * 2 ^ k) Nat.one_pos
    rw [Nat.mul_one] at this
    exact this.symm
