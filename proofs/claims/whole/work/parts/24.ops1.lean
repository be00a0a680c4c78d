/-! numbers cast from kind to kind -/
theorem sg_half (a0 neg : Int32) : (if neg = 0 then 0 else 2 ^ hN a0) = (sg neg).toNat * 2 ^ hN a0 := by
  unfold sg
  by_cases h : neg = 0 <;> simp [h]
theorem o_real (a0 a1 : Int32) {N : Nat} (h : N < 2 * 2 ^ hN a0) (hn : N % 2 ^ hN a0 ≤ iN a0) : jX4_ofReal a0 a1 (xb a0 N) = xb a1 (Jvm.FP.Core.convert (fF a0) (fF a1) N) := by
  have hm := mN_53 a0 N
  have he := eN_b a0 N
  unfold jX4_ofReal jX4_ofReal_y2 jX4_ofReal_y4 Jvm.FP.Core.convert
  rw [x_fit a0 h]
  by_cases q : N % 2 ^ hN a0 < iN a0
  · rw [if_pos q, if_neg (by decide), x_mant a0 h, x_exp a0 h, r_near a1 _ (by omega) (by omega) (by omega) (Or.inl (by omega)), x_sg a0 h, dec_fin a0 h q]
    rfl
  · rw [if_neg q, if_pos rfl, r_endless]
    show jX4_signed a1 _ (lN (iN a1)) = _
    rw [r_signed a1 _ (iN_lt a1), sg_half, x_sg a0 h, dec_inf a0 h (by omega)]
    show _ = xb a1 (Jvm.FP.Core.encode (fF a1) (.inf (sN2 a0 N)))
    rw [enc_inf]
theorem lI_n (n : Nat) : lN n = Int64.ofInt n := wb_inj (by show BitVec.ofNat 64 n = BitVec.ofInt 64 (n : Int); rw [BitVec.ofInt_natCast])
theorem l_abs (v : Int64) : (if 0 < v then v else -v) = lN v.toInt.natAbs := by
  have e := Int64.ofInt_toInt v
  rw [lI_n]
  by_cases h : 0 < v
  · rw [if_pos h]
    rw [Int64.lt_iff_toInt_lt] at h
    have h : (0 : Int) < v.toInt := h
    rw [show ((v.toInt.natAbs : Nat) : Int) = v.toInt by omega, e]
  · rw [if_neg h]
    rw [Int64.lt_iff_toInt_lt] at h
    have h : ¬ (0 : Int) < v.toInt := h
    rw [show ((v.toInt.natAbs : Nat) : Int) = -v.toInt by omega, Int64.ofInt_neg, e]
theorem l_sg (v : Int64) : sg (if (0 : Int64) ≤ v then (0 : Int32) else (1 : Int32)) = decide (v.toInt < 0) := by
  unfold sg
  by_cases h : (0 : Int64) ≤ v
  · rw [if_pos h]
    rw [Int64.le_iff_toInt_le] at h
    have h : (0 : Int) ≤ v.toInt := h
    rw [decide_eq_false (by decide), decide_eq_false (by omega)]
  · rw [if_neg h]
    rw [Int64.le_iff_toInt_le] at h
    have h : ¬ (0 : Int) ≤ v.toInt := h
    rw [decide_eq_true (by decide), decide_eq_true (by omega)]
theorem o_long (a0 : Int32) (v : Int64) : jX4_ofLong a0 v = xb a0 (Jvm.FP.Core.fromInt (fF a0) v.toInt) := by
  have h1 := Int64.le_toInt v
  have h2 := Int64.toInt_lt v
  unfold jX4_ofLong jX4_ofLong_y1 Jvm.FP.Core.fromInt Jvm.FP.Core.ofInt
  rw [l_abs, show (0 : Int32) = iI 0 by decide, ← show (0 : Int32) = iI 0 by decide]
  have e0 : (0 : Int32) = iI 0 := by decide
  have := r_near a0 (if (0 : Int64) ≤ v then (0 : Int32) else (1 : Int32)) (W := v.toInt.natAbs) (e := 0) (by omega) (by omega) (by omega) (Or.inl (by omega))
  rw [← e0, l_sg] at this
  exact this
/-- what is cut toward 0 -/
theorem trunc_pos {m : Nat} {e : Int} (s : Bool) (h : 0 ≤ e) : Jvm.FP.Core.truncate s m e = Jvm.FP.Core.signed s (m * 2 ^ e.toNat) := by
  unfold Jvm.FP.Core.truncate
  rw [show (-e).toNat = 0 by omega, Nat.pow_zero, Nat.div_one]
theorem trunc_neg {m : Nat} {e : Int} (s : Bool) (h : e < 0) : Jvm.FP.Core.truncate s m e = Jvm.FP.Core.signed s (m / 2 ^ (-e).toNat) := by
  unfold Jvm.FP.Core.truncate
  rw [show e.toNat = 0 by omega, Nat.pow_zero, Nat.mul_one]
theorem clamp_in {V : Nat} (s : Bool) (h : V < 9223372036854775808) : Int64.ofInt (max (-2 ^ 63) (min (2 ^ 63 - 1) (Jvm.FP.Core.signed s V))) = if s = true then -lN V else lN V := by
  unfold Jvm.FP.Core.signed
  cases s with
  | false => rw [if_neg (by decide), if_neg (by decide), lI_n]; congr 1; omega
  | true => rw [if_pos rfl, if_pos rfl, lI_n, ← Int64.ofInt_neg]; congr 1; omega
theorem clamp_out {V : Nat} (s : Bool) (h : 9223372036854775808 ≤ V) : Int64.ofInt (max (-2 ^ 63) (min (2 ^ 63 - 1) (Jvm.FP.Core.signed s V))) = if s = true then (-9223372036854775808 : Int64) else (9223372036854775807 : Int64) := by
  unfold Jvm.FP.Core.signed
  cases s with
  | false =>
    rw [if_neg (by decide), if_neg (by decide), show max (-2 ^ 63) (min (2 ^ 63 - 1) (V : Int)) = 9223372036854775807 by omega]
    decide
  | true =>
    rw [if_pos rfl, if_pos rfl, show max (-2 ^ 63) (min (2 ^ 63 - 1) (-(V : Int))) = -9223372036854775808 by omega]
    decide
theorem x_sw {α : Type} (a0 : Int32) {N : Nat} (h : N < 2 * 2 ^ hN a0) (A B : α) : (if (0 : Int64) ≤ xb a0 N then A else B) = if sN2 a0 N = true then B else A := by
  unfold sN2
  by_cases q : N < 2 ^ hN a0
  · rw [if_pos ((x_neg a0 h).mpr q), if_neg (by simp; omega)]
  · rw [if_neg (fun w => q ((x_neg a0 h).mp w)), if_pos (by simp; omega)]
theorem o_cut (a0 : Int32) {N : Nat} (h : N < 2 * 2 ^ hN a0) (hn : N % 2 ^ hN a0 ≤ iN a0) : jX4_cutToLong a0 (xb a0 N) = Jvm.FP.Core.toL (Jvm.FP.Core.decode (fF a0) N) := by
  have hm := mN_53 a0 N
  have he := eN_b a0 N
  have hb : bN (mN a0 N) ≤ 53 := bN_le (k := 53) (by omega)
  unfold jX4_cutToLong jX4_cutToLong_y1 jX4_cutToLong_y2 jX4_cutToLong_y5
  rw [x_mant a0 h, x_exp a0 h, r_len (by omega)]
  simp only [x_sw a0 h]
  have c1 : (nI (bN (mN a0 N)) + iI (eN a0 N) ≤ (63 : Int32)) ↔ (bN (mN a0 N) : Int) + eN a0 N ≤ 63 := by
    rw [iI_n, iI_add, show (63 : Int32) = iI 63 by decide, iI_le (by omega) (by omega) (by omega) (by omega)]
  have c2 : ((-64 : Int32) < iI (eN a0 N)) ↔ -64 < eN a0 N := by
    rw [show (-64 : Int32) = iI (-64) by decide, iI_lt (by omega) (by omega) (by omega) (by omega)]
  have c3 : (0 ≤ iI (eN a0 N)) ↔ 0 ≤ eN a0 N := by
    rw [show (0 : Int32) = iI 0 by decide, iI_le (by omega) (by omega) (by omega) (by omega)]
  by_cases q : N % 2 ^ hN a0 < iN a0
  · rw [dec_fin a0 h q]
    obtain ⟨d1, d2, d3⟩ := dec_ok a0 h q
    have hq := q_b a0
    have hpw := Nat.two_pow_pos (wN a0)
    unfold Jvm.FP.Core.toL Jvm.FP.Core.toInt
    dsimp only
    by_cases g1 : (bN (mN a0 N) : Int) + eN a0 N ≤ 63
    · rw [if_pos (c1.mpr g1)]
      by_cases g2 : -64 < eN a0 N
      · rw [if_pos (c2.mpr g2)]
        by_cases g3 : 0 ≤ eN a0 N
        · rw [trunc_pos _ g3]
          obtain ⟨k, hk⟩ : ∃ k : Nat, eN a0 N = (k : Int) := ⟨(eN a0 N).toNat, by omega⟩
          have hV : mN a0 N * 2 ^ k < 9223372036854775808 := by
            by_cases z : mN a0 N = 0
            · rw [z]; omega
            · obtain ⟨b1, b2, b3⟩ := bN_spec z
              have := Nat.mul_lt_mul_of_pos_right b2 (Nat.two_pow_pos k)
              rw [← Nat.pow_add] at this
              exact Nat.lt_of_lt_of_le this (Nat.le_trans (Nat.pow_le_pow_right (by decide) (show bN (mN a0 N) + k ≤ 63 by omega)) (by decide))
          have e1 : lN (mN a0 N) <<< ((iI (eN a0 N)).toInt64 &&& 63) = lN (mN a0 N * 2 ^ k) := by
            rw [hk, ← iI_n]
            exact wb_shl _ (by omega)
          rw [if_pos (c3.mpr g3), e1, hk, Int.toNat_natCast, clamp_in _ hV]
        · rw [trunc_neg _ (by omega)]
          obtain ⟨k, hk⟩ : ∃ k : Nat, -eN a0 N = (k : Int) := ⟨(-eN a0 N).toNat, by omega⟩
          have hV : mN a0 N / 2 ^ k < 9223372036854775808 := Nat.lt_of_le_of_lt (Nat.div_le_self _ _) (by omega)
          have e1 : ((lN (mN a0 N)).toUInt64 >>> ((-iI (eN a0 N)).toInt64.toUInt64 &&& Int64.toUInt64 63)).toInt64 = lN (mN a0 N / 2 ^ k) := by
            rw [iI_neg, hk, ← iI_n]
            exact wb_shr (by omega) (by omega)
          rw [if_neg (fun w => g3 (c3.mp w)), e1, hk, Int.toNat_natCast, clamp_in _ hV]
      · rw [if_neg (fun w => g2 (c2.mp w)), trunc_neg _ (by omega)]
        obtain ⟨k, hk⟩ : ∃ k : Nat, -eN a0 N = (k : Int) := ⟨(-eN a0 N).toNat, by omega⟩
        have hz : mN a0 N / 2 ^ k = 0 := Nat.div_eq_of_lt (Nat.lt_of_lt_of_le hm (Nat.le_trans (by decide) (Nat.pow_le_pow_right (by decide) (show 53 ≤ k by omega))))
        rw [hk, Int.toNat_natCast, hz, clamp_in _ (by decide)]
        split <;> rfl
    · rw [if_neg (fun w => g1 (c1.mp w)), trunc_pos _ (by omega)]
      obtain ⟨k, hk⟩ : ∃ k : Nat, eN a0 N = (k : Int) := ⟨(eN a0 N).toNat, by omega⟩
      have z : mN a0 N ≠ 0 := by omega
      obtain ⟨b1, b2, b3⟩ := bN_spec z
      have hV : 9223372036854775808 ≤ mN a0 N * 2 ^ k := by
        have := Nat.mul_le_mul_right (2 ^ k) b1
        rw [← Nat.pow_add] at this
        exact Nat.le_trans (Nat.le_trans (by decide) (Nat.pow_le_pow_right (by decide) (show 63 ≤ bN (mN a0 N) - 1 + k by omega))) this
      rw [hk, Int.toNat_natCast, clamp_out _ hV]
  · have hi : N % 2 ^ hN a0 = iN a0 := by omega
    rw [dec_inf a0 h hi]
    have hE : eN a0 N = qN a0 + ((2 ^ (hN a0 - wN a0) - 2 : Nat) : Int) := by
      unfold eN
      rw [hi]
      unfold iN
      rw [Nat.mul_div_cancel _ (Nat.two_pow_pos _)]
      omega
    have hbig : 63 < eN a0 N := by
      rw [hE]
      unfold qN hN wN
      split <;> decide
    rw [if_neg (fun w => by have := c1.mp w; omega)]
    unfold Jvm.FP.Core.toL Jvm.FP.Core.toInt
    dsimp only
    cases sN2 a0 N <;> decide
