/-! the quotient: sixty binary digits of it, the last of them for what is left -/
theorem l_div {a b : Nat} (ha : a < 9223372036854775808) (hb : b < 9223372036854775808) : lN a / lN b = lN (a / b) := by
  apply Int64.toInt_inj.mp
  have h1 := l_toInt ha
  have h2 := l_toInt hb
  have h3 : a / b < 9223372036854775808 := Nat.lt_of_le_of_lt (Nat.div_le_self _ _) ha
  have hne : lN a ≠ Int64.minValue := by
    intro q
    rw [q] at h1
    have : Int64.minValue.toInt = -9223372036854775808 := by decide
    omega
  rw [Int64.toInt_div_of_ne_left _ _ hne, h1, h2, l_toInt h3]
  rw [Int.tdiv_eq_ediv_of_nonneg (by omega)]
  rfl
theorem l_rem {a b : Nat} (ha : a < 9223372036854775808) (hb : b < 9223372036854775808) : lN a - lN a / lN b * lN b = lN (a % b) := by
  rw [l_div ha hb, lN_mul, lN_sub (Nat.div_mul_le_self a b)]
  congr 1
  have := Nat.div_add_mod a b
  rw [Nat.mul_comm] at this
  omega
/-- one step of the long division -/
theorem q_step {R r D : Nat} (hD : D < 9007199254740992) (hr : r < D) (hR : R < 18014398509481984) : (lN R <<< ((10 : Int32).toInt64 &&& 63) ||| (lN r <<< ((10 : Int32).toInt64 &&& 63)) / lN D) = lN (R * 1024 + r * 1024 / D) ∧ (lN r <<< ((10 : Int32).toInt64 &&& 63)) - (lN r <<< ((10 : Int32).toInt64 &&& 63)) / lN D * lN D = lN (r * 1024 % D) := by
  have e : ∀ m : Nat, lN m <<< ((10 : Int32).toInt64 &&& 63) = lN (m * 1024) := fun m => wb_shl m (k := 10) (by decide)
  rw [e, e, l_rem (by omega) (by omega), l_div (by omega) (by omega)]
  have hq : r * 1024 / D < 2 ^ 10 := by
    rw [Nat.div_lt_iff_lt_mul (by omega)]
    omega
  refine ⟨?_, rfl⟩
  have := p_or (i := 10) (a := R) (b := r * 1024 / D) hq (by omega)
  rw [Int64.or_comm, Nat.mul_comm R]
  exact this
/-- the invariant: over * 1024^k = by * R + r -/
theorem q_inv {O D R r : Nat} {P : Nat} (h : O * P = D * R + r) (hD : 0 < D) : O * (P * 1024) = D * (R * 1024 + r * 1024 / D) + r * 1024 % D := by
  have h1 := Nat.div_add_mod (r * 1024) D
  rw [← Nat.mul_assoc, h, Nat.add_mul, Nat.mul_add, Nat.add_assoc, h1, Nat.mul_assoc]
theorem q_bd {O D R r P : Nat} (h : O * P = D * R + r) (hO : O < 2 * D) (z : 0 < P) : R < 2 * P := by
  rcases Nat.lt_or_ge R (2 * P) with q | q
  · exact q
  · have h1 := Nat.mul_le_mul_left D q
    have h2 : O * P ≤ 2 * D * P := Nat.mul_le_mul_right P (by omega)
    have h3 := Nat.mul_lt_mul_of_pos_right hO z
    rw [show 2 * D * P = D * (2 * P) by rw [Nat.mul_comm 2, Nat.mul_assoc]] at h3
    omega
theorem q_next {O D R r P : Nat} (h : O * P = D * R + r) (hr : r < D) (hO : O < 2 * D) (hD : D < 9007199254740992) (hP : 0 < P) (hPb : 2 * P ≤ 18014398509481984) : ∃ R' r' : Nat, O * (P * 1024) = D * R' + r' ∧ r' < D ∧ (lN R <<< ((10 : Int32).toInt64 &&& 63) ||| (lN r <<< ((10 : Int32).toInt64 &&& 63)) / lN D) = lN R' ∧ (lN r <<< ((10 : Int32).toInt64 &&& 63)) - (lN r <<< ((10 : Int32).toInt64 &&& 63)) / lN D * lN D = lN r' := by
  have hDp : 0 < D := by omega
  have b := q_bd h hO hP
  exact ⟨_, _, q_inv h hDp, Nat.mod_lt _ hDp, q_step hD hr (by omega)⟩
set_option maxHeartbeats 2000000 in
/-- from the two mantissas of 53 digits on -/
theorem q_tail (a0 : Int32) (a1 a3 : Int64) (y1 y3 y5 : Int32) (y7 y8 : Int64) (y11 y12 : Int32) {O D : Nat} (hO : O < 9007199254740992) (hO2 : 4503599627370496 ≤ O) (hD : D < 9007199254740992) (hD2 : 4503599627370496 ≤ D) : ∃ R r : Nat, O * 1152921504606846976 = D * R + r ∧ r < D ∧ jX4_quotient_y14 a0 a1 a3 y1 y3 y5 y7 y8 y11 y12 (lN O) (lN D) = jX4_nearest a0 y5 (jX4_withMore (lN R) (lN r)) ((((jX4_exponent a0 a1) - y11) - (jX4_exponent a0 a3)) + y12 - (60 : Int32)) := by
  have hDp : 0 < D := by omega
  have hO3 : O < 2 * D := by omega
  have s0 : O * 1 = D * (O / D) + O % D := by rw [Nat.mul_one]; exact (Nat.div_add_mod O D).symm
  have r0 := Nat.mod_lt O hDp
  obtain ⟨R1, q1, s1, r1, g1, g2⟩ := q_next s0 r0 hO3 hD (by decide) (by decide)
  obtain ⟨R2, q2, s2, r2, g3, g4⟩ := q_next s1 r1 hO3 hD (by decide) (by decide)
  obtain ⟨R3, q3, s3, r3, g5, g6⟩ := q_next s2 r2 hO3 hD (by decide) (by decide)
  obtain ⟨R4, q4, s4, r4, g7, g8⟩ := q_next s3 r3 hO3 hD (by decide) (by decide)
  obtain ⟨R5, q5, s5, r5, g9, g10⟩ := q_next s4 r4 hO3 hD (by decide) (by decide)
  obtain ⟨R6, q6, s6, r6, g11, g12⟩ := q_next s5 r5 hO3 hD (by decide) (by decide)
  refine ⟨R6, q6, s6, r6, ?_⟩
  unfold jX4_quotient_y14 jX4_quotient_y15
  rw [l_rem (by omega) (by omega), l_div (by omega) (by omega)]
  unfold jX4_quotient_y16 jX4_quotient_y17 jX4_quotient_y18
  rw [g1, g2]
  unfold jX4_quotient_y19 jX4_quotient_y20 jX4_quotient_y21
  rw [g3, g4]
  unfold jX4_quotient_y22 jX4_quotient_y23 jX4_quotient_y24
  rw [g5, g6]
  unfold jX4_quotient_y25 jX4_quotient_y26 jX4_quotient_y27
  rw [g7, g8]
  unfold jX4_quotient_y28 jX4_quotient_y29 jX4_quotient_y30
  rw [g9, g10]
  unfold jX4_quotient_y31 jX4_quotient_y32 jX4_quotient_y33
  rw [g11, g12]
  unfold jX4_quotient_y34 jX4_quotient_y35
  rfl
