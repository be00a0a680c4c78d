theorem mN_0 (a0 : Int32) (N : Nat) : mN a0 N = 0 ↔ N % 2 ^ hN a0 = 0 := by
  obtain ⟨-, -, h3, -, -, -⟩ := wh_b a0
  have hp := Nat.two_pow_pos (wN a0)
  have hd : 2 ^ wN a0 ∣ 2 ^ hN a0 := Nat.pow_dvd_pow 2 (by omega)
  unfold mN
  rw [← Nat.mod_mod_of_dvd N hd]
  split
  · rename_i h
    rw [Nat.mod_eq_of_lt h]
  · omega
theorem b_xor (a0 a1 : Int32) {X Y : Nat} (hX : X < 2 * 2 ^ hN a0) (hY : Y < 2 * 2 ^ hN a0) : sg (if (if (0 : Int64) ≤ xb a0 X then (0 : Int32) else (1 : Int32)) = (if (0 : Int64) ≤ xb a0 Y then (0 : Int32) else (1 : Int32)) then (0 : Int32) else (1 : Int32)) = (sN2 a0 X != sN2 a0 Y) := by
  simp only [b_eq a0 hX hY]
  cases sN2 a0 X <;> cases sN2 a0 Y <;> decide
theorem z_round {f : Jvm.FP.Core.Fmt} {s : Bool} {d : Nat} {e : Int} : Jvm.FP.Core.roundRatio f s 0 d e = Jvm.FP.Core.roundRatio f s 0 1 0 := by
  unfold Jvm.FP.Core.roundRatio
  rw [if_pos rfl, if_pos rfl]
theorem z_signed (a0 neg : Int32) : jX4_signed a0 neg (0 : Int64) = xb a0 (Jvm.FP.Core.encode (fF a0) (Jvm.FP.Core.roundRatio (fF a0) (sg neg) 0 1 0)) := by
  have := r_near a0 neg (W := 0) (e := 0) (by decide) (by decide) (by decide) (Or.inl (by decide))
  unfold jX4_nearest at this
  rw [if_pos (show lN 0 = (0 : Int64) from rfl)] at this
  exact this
/-- sixty digits and a mark for the rest round as the ratio itself -/
theorem q_round {f : Jvm.FP.Core.Fmt} {s : Bool} {O D R r : Nat} {e : Int} (h : O * 1152921504606846976 = D * R + r) (hr : r < D) (hp : f.p ≤ 53) (hO2 : 4503599627370496 ≤ O) (hD : D < 9007199254740992) : Jvm.FP.Core.roundRatio f s (O * 1152921504606846976) D e = Jvm.FP.Core.roundRatio f s (if r = 0 then R else 2 * (R / 2) + 1) 1 e := by
  by_cases h0 : r = 0
  · rw [if_pos h0]
    refine Jvm.FP.Core.roundRatio_congr (by omega) (by decide) ?_
    rw [h, h0, Nat.add_zero, Nat.mul_one, Nat.mul_comm D R]
  · rw [if_neg h0]
    have hR : 576460752303423488 ≤ R := by
      rcases Nat.lt_or_ge R 576460752303423488 with q | q
      · have h1 := Nat.mul_le_mul_left D (show R + 1 ≤ 576460752303423488 by omega)
        rw [Nat.mul_add, Nat.mul_one] at h1
        omega
      · exact q
    have hb : 2 ^ (f.p + 1) ≤ 2 * (R / 2) + 1 := by
      have : 2 ^ (f.p + 1) ≤ 2 ^ 54 := Nat.pow_le_pow_right (by decide) (by omega)
      omega
    refine rd_odd s e (by omega) (by omega) ?_ ?_ hb
    · rw [show 2 * (R / 2) + 1 - 1 = 2 * (R / 2) by omega, h]
      have := Nat.mul_le_mul_left D (show 2 * (R / 2) ≤ R by omega)
      omega
    · rw [h]
      have := Nat.mul_le_mul_left D (show R + 1 ≤ 2 * (R / 2) + 1 + 1 by omega)
      rw [Nat.mul_add, Nat.mul_one] at this
      omega
theorem fp_53 (a0 : Int32) : (fF a0).p ≤ 53 := by rw [f_p]; have := wh_b a0; omega
set_option maxHeartbeats 1000000 in
theorem o_quot (a0 : Int32) {X Y : Nat} (hX : X < 2 * 2 ^ hN a0) (hY : Y < 2 * 2 ^ hN a0) (fX : X % 2 ^ hN a0 < iN a0) (fY : Y % 2 ^ hN a0 < iN a0) (hY0 : Y % 2 ^ hN a0 ≠ 0) : jX4_quotient a0 (xb a0 X) (xb a0 Y) = xb a0 (Jvm.FP.Core.div (fF a0) X Y) := by
  have mX := mN_53 a0 X
  have mY := mN_53 a0 Y
  have eX := eN_b a0 X
  have eY := eN_b a0 Y
  have hY1 : mN a0 Y ≠ 0 := fun q => hY0 ((mN_0 a0 Y).mp q)
  unfold jX4_quotient jX4_quotient_y1 jX4_quotient_y3 jX4_quotient_y5 jX4_quotient_y7 jX4_quotient_y8
  rw [x_mant a0 hX, x_mant a0 hY]
  unfold Jvm.FP.Core.div
  rw [dec_fin a0 hX fX, dec_fin a0 hY fY]
  unfold Jvm.FP.Core.quotient
  dsimp only
  rw [if_neg hY1]
  by_cases h0 : mN a0 X = 0
  · rw [if_pos (show lN (mN a0 X) = (0 : Int64) by rw [h0]; rfl), z_signed, b_xor a0 a0 hX hY, h0, z_round (d := mN a0 Y)]
  · rw [if_neg (show ¬ lN (mN a0 X) = (0 : Int64) from fun w => h0 ((l_eq (b := 0) (by omega) (by decide)).mp w)), if_neg (show ¬ lN (mN a0 Y) = (0 : Int64) from fun w => hY1 ((l_eq (b := 0) (by omega) (by decide)).mp w))]
    unfold jX4_quotient_y11 jX4_quotient_y12 jX4_quotient_y13
    rw [p_sh53 mX h0, p_sh53 mY hY1]
    obtain ⟨o1, o2⟩ := sN_lt h0 mX
    obtain ⟨d1, d2⟩ := sN_lt hY1 mY
    obtain ⟨R, r, q1, q2, q3⟩ := q_tail a0 (xb a0 X) (xb a0 Y) (if (0 : Int64) ≤ xb a0 X then (0 : Int32) else (1 : Int32)) (if (0 : Int64) ≤ xb a0 Y then (0 : Int32) else (1 : Int32)) (if (if (0 : Int64) ≤ xb a0 X then (0 : Int32) else (1 : Int32)) = (if (0 : Int64) ≤ xb a0 Y then (0 : Int32) else (1 : Int32)) then (0 : Int32) else (1 : Int32)) (lN (mN a0 X)) (lN (mN a0 Y)) ((53 : Int32) - jX4_lengthOf (lN (mN a0 X))) ((53 : Int32) - jX4_lengthOf (lN (mN a0 Y))) o1 o2 d1 d2
    rw [q3, x_exp a0 hX, x_exp a0 hY, r_len (by omega), r_len (by omega)]
    have bX : bN (mN a0 X) ≤ 53 := bN_le (k := 53) (by omega)
    have bY : bN (mN a0 Y) ≤ 53 := bN_le (k := 53) (by omega)
    have bX1 := (bN_spec h0).2.2
    have bY1 := (bN_spec hY1).2.2
    have ee : ((iI (eN a0 X) - ((53 : Int32) - nI (bN (mN a0 X)))) - iI (eN a0 Y)) + ((53 : Int32) - nI (bN (mN a0 Y))) - (60 : Int32) = iI (eN a0 X - (53 - bN (mN a0 X)) - eN a0 Y + (53 - bN (mN a0 Y)) - 60) := by
      rw [iI_n, iI_n, show (53 : Int32) = iI 53 by decide, show (60 : Int32) = iI 60 by decide, iI_sub, iI_sub, iI_sub, iI_sub, iI_add, iI_sub]
    have hRb : R < 2305843009213693952 := by
      have := q_bd (P := 1152921504606846976) q1 (by omega) (by decide)
      omega
    rw [ee, r_more (by omega) (by omega), r_near a0 _ (by split <;> omega) (by omega) (by omega) (Or.inl (by split <;> omega)), b_xor a0 a0 hX hY, ← q_round q1 q2 (fp_53 a0) o2 d1]
    refine congrArg (fun d => xb a0 (Jvm.FP.Core.encode (fF a0) d)) ?_
    refine Jvm.FP.Core.roundRatio_congr (by omega) (by omega) ?_
    unfold sN
    obtain ⟨a, ha⟩ : ∃ a : Nat, a = 53 - bN (mN a0 X) := ⟨_, rfl⟩
    obtain ⟨b, hb⟩ : ∃ b : Nat, b = 53 - bN (mN a0 Y) := ⟨_, rfl⟩
    rw [← ha, ← hb]
    have t1 : (eN a0 X - (53 - bN (mN a0 X)) - eN a0 Y + (53 - bN (mN a0 Y)) - 60 - (eN a0 X - eN a0 Y)).toNat = 0 := by omega
    have t2 : (eN a0 X - eN a0 Y - (eN a0 X - (53 - bN (mN a0 X)) - eN a0 Y + (53 - bN (mN a0 Y)) - 60)).toNat = a + 60 - b := by omega
    rw [t1, t2, Nat.pow_zero, Nat.mul_one]
    have t3 : 2 ^ b * 2 ^ (a + 60 - b) = 2 ^ a * 1152921504606846976 := by
      rw [← Nat.pow_add, show b + (a + 60 - b) = a + 60 by omega, Nat.pow_add]
    rw [show mN a0 X * (mN a0 Y * 2 ^ b) * 2 ^ (a + 60 - b) = mN a0 X * mN a0 Y * (2 ^ b * 2 ^ (a + 60 - b)) by ac_rfl, t3]
    ac_rfl
