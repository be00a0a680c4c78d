/-! a double times a whole number; a double with its sign turned -/
theorem f_1 : fF 1 = Jvm.FP.Core.b64 := by decide
theorem h_1 : hN 1 = 63 := by decide
theorem w_1 : wN 1 = 52 := by decide
theorem q_1 : qN 1 = -1074 := by decide
theorem f_0 : fF 0 = Jvm.FP.Core.b32 := by decide
theorem h_0 : hN 0 = 31 := by decide
theorem xb_1 (N : Nat) : xb 1 N = lN N := by unfold xb; rw [if_neg (by decide)]
theorem xb_0 (N : Nat) : xb 0 N = (nI N).toInt64 := by unfold xb; rw [if_pos rfl]
/-- a whole number below 2^53 as a double: nothing is lost -/
theorem of_small (s : Bool) {n : Nat} (h0 : n ≠ 0) (hn : n < 9007199254740992) : Jvm.FP.Core.roundRatio (fF 1) s n 1 0 = .fin s (n * 2 ^ (52 - n.log2)) ((n.log2 : Int) - 52) := by
  have hl : n.log2 < 53 := (Nat.log2_lt h0).mpr (by omega)
  have l1 := Nat.log2_self_le h0
  have l2 := Nat.lt_log2_self (n := n)
  have u1 := Nat.mul_le_mul_right (2 ^ (52 - n.log2)) l1
  have u2 := Nat.mul_lt_mul_of_pos_right l2 (Nat.two_pow_pos (52 - n.log2))
  rw [← Nat.pow_add, show n.log2 + (52 - n.log2) = 52 by omega] at u1
  rw [← Nat.pow_add, show n.log2 + 1 + (52 - n.log2) = 53 by omega] at u2
  refine Jvm.FP.Core.roundRatio_exact (f_good 1) Nat.one_pos ?_ ?_
  · rw [f_1]
    refine ⟨u2, ?_, ?_, Or.inr u1⟩
    · have : Jvm.FP.Core.b64.qmin = -1074 := by decide
      omega
    · have : Jvm.FP.Core.b64.qmax = 971 := by decide
      omega
  · rw [show ((0 : Int) - ((n.log2 : Int) - 52)).toNat = 52 - n.log2 by omega, show ((n.log2 : Int) - 52 - 0).toNat = 0 by omega, Nat.pow_zero, Nat.mul_one, Nat.mul_one]
theorem i_sg (n : Int32) : sg (if (0 : Int32) ≤ n then (0 : Int32) else (1 : Int32)) = decide (n.toInt < 0) := by
  unfold sg
  by_cases h : (0 : Int32) ≤ n
  · rw [if_pos h]
    rw [Int32.le_iff_toInt_le] at h
    have h : (0 : Int) ≤ n.toInt := h
    rw [decide_eq_false (by decide), decide_eq_false (by omega)]
  · rw [if_neg h]
    rw [Int32.le_iff_toInt_le] at h
    have h : ¬ (0 : Int) ≤ n.toInt := h
    rw [decide_eq_true (by decide), decide_eq_true (by omega)]
theorem sg_x {c1 c2 : Prop} [Decidable c1] [Decidable c2] : sg (if (if c1 then (0 : Int32) else (1 : Int32)) = (if c2 then (0 : Int32) else (1 : Int32)) then (0 : Int32) else (1 : Int32)) = (sg (if c1 then (0 : Int32) else (1 : Int32)) != sg (if c2 then (0 : Int32) else (1 : Int32))) := by
  by_cases h1 : c1 <;> by_cases h2 : c2 <;> simp only [h1, h2, if_true, if_false] <;> decide
theorem o_times {X : Nat} {n : Int32} (hX : X < 2 * 2 ^ hN 1) (fX : X % 2 ^ hN 1 < iN 1) (hn : n.toInt.natAbs ≤ 2048) : jX4_timesInt (xb 1 X) n = xb 1 (Jvm.FP.Core.mul (fF 1) X (Jvm.FP.Core.fromInt (fF 1) n.toInt)) := by
  have mX := mN_53 1 X
  have eX := eN_b 1 X
  obtain ⟨d1, d2, d3⟩ := dec_ok 1 hX fX
  unfold jX4_timesInt jX4_timesInt_y1 jX4_timesInt_y3 jX4_timesInt_y5
  have hW : mN 1 X * n.toInt.natAbs < 2 ^ 64 := by
    have := Nat.mul_le_mul_left (mN 1 X) hn
    omega
  rw [x_mant 1 hX, x_exp 1 hX, l_abs, Int32.toInt_toInt64, lN_mul, r_near 1 _ hW (by omega) (by omega) (Or.inr d2), sg_x, x_sg 1 hX, i_sg]
  unfold Jvm.FP.Core.mul Jvm.FP.Core.fromInt
  rw [Jvm.FP.Core.decode_encode (f_good 1) _ (Jvm.FP.Core.round_fits (f_good 1) _), dec_fin 1 hX fX]
  refine congrArg (fun d => xb 1 (Jvm.FP.Core.encode (fF 1) d)) ?_
  unfold Jvm.FP.Core.ofInt
  show _ = Jvm.FP.Core.round (fF 1) (Jvm.FP.Core.exactProduct _ (Jvm.FP.Core.roundRatio (fF 1) (decide (n.toInt < 0)) n.toInt.natAbs 1 0))
  by_cases h0 : n.toInt.natAbs = 0
  · have hz : Jvm.FP.Core.roundRatio (fF 1) (decide (n.toInt < 0)) 0 1 0 = .fin (decide (n.toInt < 0)) 0 (fF 1).qmin := by
      unfold Jvm.FP.Core.roundRatio
      rw [if_pos rfl]
    rw [h0, hz, Nat.mul_zero]
    show _ = Jvm.FP.Core.roundRatio (fF 1) (sN2 1 X != decide (n.toInt < 0)) (mN 1 X * 0) 1 (eN 1 X + (fF 1).qmin)
    rw [Nat.mul_zero, z_round (e := eN 1 X), z_round (e := eN 1 X + (fF 1).qmin)]
  · rw [of_small _ h0 (by omega)]
    have hl : n.toInt.natAbs.log2 < 53 := (Nat.log2_lt h0).mpr (by omega)
    unfold Jvm.FP.Core.exactProduct Jvm.FP.Core.round
    dsimp only
    refine Jvm.FP.Core.roundRatio_congr Nat.one_pos Nat.one_pos ?_
    generalize n.toInt.natAbs.log2 = lg at *
    rw [show (eN 1 X - (eN 1 X + ((lg : Int) - 52))).toNat = 52 - lg by omega, show (eN 1 X + ((lg : Int) - 52) - eN 1 X).toNat = 0 by omega, Nat.pow_zero, Nat.mul_one, Nat.mul_one, Nat.mul_one, Nat.mul_assoc]
def ngN (X : Nat) : Nat := if X < 9223372036854775808 then X + 9223372036854775808 else X - 9223372036854775808
theorem ng_x {r : Nat} (hr : r < 9223372036854775808) : (9223372036854775808 + r) ^^^ 9223372036854775808 = r := by
  apply Nat.eq_of_testBit_eq
  intro i
  rw [show (9223372036854775808 : Nat) = 2 ^ 63 by decide] at *
  rw [Nat.testBit_xor, Nat.testBit_two_pow]
  rcases Nat.lt_trichotomy i 63 with h | h | h
  · rw [Nat.testBit_two_pow_add_gt h]
    simp [show ¬ 63 = i by omega]
  · subst h
    rw [Nat.testBit_two_pow_add_eq]
    simp
  · have a1 : 2 ^ (63 + 1) ≤ 2 ^ i := Nat.pow_le_pow_right (by decide) h
    rw [Nat.testBit_lt_two_pow (show 2 ^ 63 + r < 2 ^ i by omega), Nat.testBit_lt_two_pow (show r < 2 ^ i by omega)]
    simp [show ¬ 63 = i by omega]
theorem o_neg {X : Nat} (hX : X < 2 ^ 64) : jX4_negated (xb 1 X) = xb 1 (ngN X) ∧ ngN X < 2 ^ 64 := by
  rw [xb_1, xb_1]
  unfold jX4_negated
  have hx : X ^^^ 9223372036854775808 = ngN X := by
    unfold ngN
    split
    · rename_i h
      have := ng_x h
      have h2 := congrArg (fun z => z ^^^ 9223372036854775808) this
      simp only [Nat.xor_assoc, Nat.xor_self, Nat.xor_zero] at h2
      omega
    · obtain ⟨r, rfl⟩ : ∃ r, X = 9223372036854775808 + r := ⟨X - 9223372036854775808, by omega⟩
      rw [ng_x (by omega)]
      omega
  have hb : ngN X < 2 ^ 64 := by unfold ngN; split <;> omega
  refine ⟨?_, hb⟩
  apply wb_inj
  rw [Int64.toBitVec_xor, wb_tb, wb_tb]
  apply BitVec.eq_of_toNat_eq
  show ((BitVec.ofNat 64 X) ^^^ (BitVec.ofNat 64 9223372036854775808)).toNat = _
  rw [BitVec.toNat_xor, BitVec.toNat_ofNat, BitVec.toNat_ofNat, BitVec.toNat_ofNat, Nat.mod_eq_of_lt hX, Nat.mod_eq_of_lt (by decide), hx, Nat.mod_eq_of_lt hb]
theorem ng_mod (X : Nat) (hX : X < 2 ^ 64) : ngN X % 2 ^ hN 1 = X % 2 ^ hN 1 := by
  rw [h_1]
  unfold ngN
  split <;> omega
theorem ng_dec {X : Nat} (hX : X < 2 * 2 ^ hN 1) (fX : X % 2 ^ hN 1 < iN 1) : Jvm.FP.Core.decode (fF 1) (ngN X) = Jvm.FP.Core.negate (Jvm.FP.Core.decode (fF 1) X) := by
  rw [h_1] at hX
  have hX' : X < 2 ^ 64 := by omega
  have hm := ng_mod X hX'
  have hb : ngN X < 2 * 2 ^ hN 1 := by rw [h_1]; unfold ngN; split <;> omega
  rw [dec_fin 1 hb (by rw [hm]; exact fX), dec_fin 1 (by rw [h_1]; omega) fX]
  unfold Jvm.FP.Core.negate
  dsimp only
  rw [mN_mod 1 hm, eN_mod 1 hm]
  congr 1
  unfold sN2 ngN
  rw [h_1]
  by_cases h : X < 9223372036854775808
  · rw [if_pos h, decide_eq_true (by omega), decide_eq_false (by omega)]; rfl
  · rw [if_neg h, decide_eq_false (by omega), decide_eq_true (by omega)]; rfl
