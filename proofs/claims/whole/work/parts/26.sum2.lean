theorem b_eq (a0 : Int32) {X Y : Nat} (hX : X < 2 * 2 ^ hN a0) (hY : Y < 2 * 2 ^ hN a0) : ((if (0 : Int64) ≤ xb a0 X then (0 : Int32) else (1 : Int32)) = (if (0 : Int64) ≤ xb a0 Y then (0 : Int32) else (1 : Int32))) ↔ sN2 a0 X = sN2 a0 Y := by
  rw [x_sw a0 hX, x_sw a0 hY]
  cases sN2 a0 X <;> cases sN2 a0 Y <;> decide
theorem ex_sum (s t : Bool) {c d : Nat} {q r : Int} {k : Nat} (hk : q = r + k) (hle : d ≤ c * 2 ^ k) : Jvm.FP.Core.exactSum (.fin s c q) (.fin t d r) = .fin (if s = t then s else (if c * 2 ^ k - d = 0 then false else s)) (if s = t then c * 2 ^ k + d else c * 2 ^ k - d) r := by
  unfold Jvm.FP.Core.exactSum
  dsimp only
  rw [show min q r = r by omega]
  unfold Jvm.FP.Core.sumUnits Jvm.FP.Core.inUnits
  rw [show (q - r).toNat = k by omega, show (r - r).toNat = 0 by omega, Nat.pow_zero, Nat.mul_one]
  generalize c * 2 ^ k = C at *
  unfold Jvm.FP.Core.sumSign Jvm.FP.Core.signed
  have hc : ∀ (b1 b2 : Bool) (n1 n2 : Nat), b1 = b2 → n1 = n2 → Jvm.FP.Core.Datum.fin b1 n1 r = Jvm.FP.Core.Datum.fin b2 n2 r := fun _ _ _ _ h1 h2 => by rw [h1, h2]
  cases s <;> cases t
  · refine hc _ _ _ _ ?_ ?_
    · simp only [Bool.false_eq_true, if_false, if_true]
      split
      · rfl
      · exact decide_eq_false (by omega)
    · simp only [Bool.false_eq_true, if_false, if_true]; omega
  · refine hc _ _ _ _ ?_ ?_
    · simp only [Bool.false_eq_true, if_false, if_true]
      split
      · split <;> rfl
      · rw [decide_eq_false (by omega)]; split <;> rfl
    · simp only [Bool.false_eq_true, if_false, if_true]; omega
  · refine hc _ _ _ _ ?_ ?_
    · simp only [Bool.true_eq_false, Bool.false_eq_true, if_false, if_true]
      split
      · rw [if_pos (by omega)]; rfl
      · rw [decide_eq_true (by omega), if_neg (by omega)]
    · simp only [Bool.true_eq_false, Bool.false_eq_true, if_false, if_true]; omega
  · refine hc _ _ _ _ ?_ ?_
    · simp only [if_true]
      split
      · rfl
      · exact decide_eq_true (by omega)
    · simp only [if_true]; omega
set_option maxHeartbeats 1000000 in
theorem o_sum5 (a0 : Int32) (u v : Int64) (y1 : Int32) {X Y : Nat} (hX : X < 2 * 2 ^ hN a0) (hY : Y < 2 * 2 ^ hN a0) (fX : X % 2 ^ hN a0 < iN a0) (fY : Y % 2 ^ hN a0 < iN a0) (hle : Y % 2 ^ hN a0 ≤ X % 2 ^ hN a0) : jX4_sum_y5 a0 u v y1 (xb a0 X) (xb a0 Y) = xb a0 (Jvm.FP.Core.add (fF a0) X Y) := by
  obtain ⟨k, k1, k2, k3, k4⟩ := ord_e a0 hle
  obtain ⟨dX1, dX2, dX3⟩ := dec_ok a0 hX fX
  obtain ⟨dY1, dY2, dY3⟩ := dec_ok a0 hY fY
  have mX := mN_53 a0 X
  have mY := mN_53 a0 Y
  have eX := eN_b a0 X
  have eY := eN_b a0 Y
  have hpk := Nat.two_pow_pos k
  have hpw := Nat.two_pow_pos (wN a0)
  unfold Jvm.FP.Core.add
  rw [dec_fin a0 hX fX, dec_fin a0 hY fY]
  -- the smaller one in units of the larger's
  have hunit : mN a0 Y ≤ mN a0 X * 2 ^ k := by
    rcases Nat.eq_zero_or_pos k with z | z
    · subst z; have := k3 rfl; omega
    · have h1 := k4 z
      have h2 : 2 ≤ 2 ^ k := Nat.le_trans (by decide) (Nat.pow_le_pow_right (show 0 < 2 by decide) z)
      have h3 := Nat.mul_le_mul h1 h2
      rw [Nat.pow_succ] at dY1
      omega
  rw [ex_sum _ _ k1 hunit]
  unfold jX4_sum_y5 jX4_sum_y7 jX4_sum_y8 jX4_sum_y9 jX4_sum_y10 jX4_sum_y12 jX4_sum_y14 jX4_sum_y16 jX4_sum_y18
  have e3 : ∀ m : Nat, lN m <<< ((3 : Int32).toInt64 &&& 63) = lN (m * 2 ^ 3) := fun m => wb_shl m (k := 3) (by decide)
  have ek : iI (eN a0 X) - iI (eN a0 Y) = nI k := by rw [iI_sub, iI_n]; congr 1; omega
  rw [x_mant a0 hX, x_mant a0 hY, x_exp a0 hX, x_exp a0 hY, e3, e3, ek, r_shift (by omega) (by omega)]
  have ee : iI (eN a0 X) - (3 : Int32) = iI (eN a0 Y + k - 3) := by rw [show (3 : Int32) = iI 3 by decide, iI_sub, k1]
  rw [ee]
  have hk4 : 0 < mN a0 Y * 2 ^ 3 % 2 ^ k → 4 ≤ k := by
    intro h
    rcases Nat.lt_or_ge k 4 with q | q
    · exfalso
      rcases (show k = 0 ∨ k = 1 ∨ k = 2 ∨ k = 3 by omega) with rfl | rfl | rfl | rfl <;> omega
    · exact q
  have hStB : 0 < mN a0 Y * 2 ^ 3 % 2 ^ k → St (mN a0 Y * 2 ^ 3) k ≤ 2 ^ wN a0 := by
    intro h
    have h4 := hk4 h
    rcases St_spec (mN a0 Y * 2 ^ 3) k with ⟨g, -⟩ | ⟨-, -, g, -⟩
    · omega
    · rcases Nat.lt_or_ge (2 ^ wN a0) (St (mN a0 Y * 2 ^ 3) k) with q | q
      · exfalso
        have h16 : 16 ≤ 2 ^ k := Nat.le_trans (by decide) (Nat.pow_le_pow_right (show 0 < 2 by decide) h4)
        have a1 := Nat.mul_le_mul_left (2 ^ k) (show 2 ^ wN a0 + 1 ≤ St (mN a0 Y * 2 ^ 3) k by omega)
        have a2 := Nat.mul_le_mul_right (2 ^ wN a0) h16
        rw [Nat.mul_add, Nat.mul_one] at a1
        rw [Nat.pow_succ] at dY1
        omega
      · exact q
  have hpp : 2 ^ ((fF a0).p + 1) = 4 * 2 ^ wN a0 := by rw [f_p, Nat.pow_succ, Nat.pow_succ]; omega
  have hT63 : mN a0 X * 2 ^ 3 + St (mN a0 Y * 2 ^ 3) k < 9223372036854775808 := by
    have : St (mN a0 Y * 2 ^ 3) k ≤ mN a0 Y * 2 ^ 3 + 1 := by
      have := Nat.div_le_self (mN a0 Y * 2 ^ 3) (2 ^ k)
      unfold St
      split <;> omega
    omega
  simp only [b_eq a0 hX hY]
  by_cases hs : sN2 a0 X = sN2 a0 Y
  · -- of one sign
    have c10 : ¬ ((1 : Int32) = 0) := by decide
    simp only [if_pos hs, if_neg c10, lN_add]
    have h8 : mN a0 X * 2 ^ 3 * 2 ^ k = 8 * (mN a0 X * 2 ^ k) := by rw [Nat.mul_assoc, Nat.mul_comm (2 ^ 3), ← Nat.mul_assoc, Nat.mul_comm]
    have hr := sm_add (w := 0) (f := fF a0) (M := mN a0 X * 2 ^ 3) (V := mN a0 Y * 2 ^ 3) (k := k) (A := mN a0 X * 2 ^ k + mN a0 Y) (by omega) (fun h => by rw [hpp]; have := k4 (by have := hk4 h; omega); omega) (by rw [Nat.mul_comm (2 ^ k), h8]; omega)
    have hsg : sg (if (0 : Int64) ≤ xb a0 X then (0 : Int32) else (if lN (mN a0 X * 2 ^ 3 + St (mN a0 Y * 2 ^ 3) k) = (0 : Int64) then (if (0 : Int64) ≤ xb a0 Y then (0 : Int32) else (1 : Int32)) else (1 : Int32))) = sN2 a0 X := by
      rw [x_sw a0 hX, x_sw a0 hY, hs]
      cases sN2 a0 Y
      · rfl
      · simp only [if_true]
        split <;> rfl
    rw [r_near a0 _ (by omega) (by omega) (by omega) (Or.inl (by omega)), hsg]
    show _ = xb a0 (Jvm.FP.Core.encode (fF a0) (Jvm.FP.Core.roundRatio (fF a0) (sN2 a0 X) (mN a0 X * 2 ^ k + mN a0 Y) 1 (eN a0 Y)))
    rw [sm_round hr]
  · have c00 : (0 : Int32) = 0 := rfl
    simp only [if_neg hs, if_pos c00, if_true]
    have h8 : mN a0 X * 2 ^ 3 * 2 ^ k = 8 * (mN a0 X * 2 ^ k) := by rw [Nat.mul_assoc, Nat.mul_comm (2 ^ 3), ← Nat.mul_assoc, Nat.mul_comm]
    have hr := sm_sub (f := fF a0) (M := mN a0 X * 2 ^ 3) (V := mN a0 Y * 2 ^ 3) (k := k) (A := mN a0 X * 2 ^ k - mN a0 Y) (by omega) (fun h => by rw [hpp]; have := k4 (by have := hk4 h; omega); have := hStB h; omega) (by rw [Nat.mul_comm (2 ^ k), h8]; omega)
    obtain ⟨hr0, hr⟩ := hr
    rw [lN_sub hr0]
    have hz : mN a0 X * 2 ^ 3 - St (mN a0 Y * 2 ^ 3) k = 0 ↔ mN a0 X * 2 ^ k - mN a0 Y = 0 := by
      rcases hr with g | ⟨g1, g2, g3, g4⟩
      · constructor
        · intro w; rw [w, Nat.zero_mul] at g; omega
        · intro w
          rw [w] at g
          rcases Nat.mul_eq_zero.mp g with z | z
          · exact z
          · omega
      · constructor
        · intro w; omega
        · intro w; rw [w] at g2; omega
    have hsg : sg (if (0 : Int64) ≤ xb a0 X then (0 : Int32) else (if lN (mN a0 X * 2 ^ 3 - St (mN a0 Y * 2 ^ 3) k) = (0 : Int64) then (if (0 : Int64) ≤ xb a0 Y then (0 : Int32) else (1 : Int32)) else (1 : Int32))) = (if mN a0 X * 2 ^ k - mN a0 Y = 0 then false else sN2 a0 X) := by
      have hl : (lN (mN a0 X * 2 ^ 3 - St (mN a0 Y * 2 ^ 3) k) = (0 : Int64)) ↔ mN a0 X * 2 ^ k - mN a0 Y = 0 := (l_eq (b := 0) (by omega) (by decide)).trans hz
      rw [x_sw a0 hX, x_sw a0 hY]
      simp only [hl]
      have hs2 : sN2 a0 Y = !sN2 a0 X := by cases hh : sN2 a0 X <;> cases hh2 : sN2 a0 Y <;> simp_all
      rw [hs2]
      cases sN2 a0 X
      · simp only [Bool.false_eq_true, if_false]
        split <;> rfl
      · simp only [if_true, Bool.not_true, Bool.false_eq_true, if_false]
        split <;> rfl
    rw [r_near a0 _ (by omega) (by omega) (by omega) (Or.inl (by omega)), hsg]
    show _ = xb a0 (Jvm.FP.Core.encode (fF a0) (Jvm.FP.Core.roundRatio (fF a0) _ (mN a0 X * 2 ^ k - mN a0 Y) 1 (eN a0 Y)))
    rw [sm_round hr]
theorem o_sum (a0 : Int32) {X Y : Nat} (hX : X < 2 * 2 ^ hN a0) (hY : Y < 2 * 2 ^ hN a0) (fX : X % 2 ^ hN a0 < iN a0) (fY : Y % 2 ^ hN a0 < iN a0) : jX4_sum a0 (xb a0 X) (xb a0 Y) = xb a0 (Jvm.FP.Core.add (fF a0) X Y) := by
  have b1 := p_hb a0
  have b3 := Nat.mod_lt X (Nat.two_pow_pos (hN a0))
  have b4 := Nat.mod_lt Y (Nat.two_pow_pos (hN a0))
  unfold jX4_sum jX4_sum_y1 jX4_sum_y3
  rw [x_size a0 hX, x_size a0 hY]
  by_cases h : X % 2 ^ hN a0 < Y % 2 ^ hN a0
  · have hc : lN (X % 2 ^ hN a0) < lN (Y % 2 ^ hN a0) := (l_lt (by omega) (by omega)).mpr h
    rw [if_pos hc, if_pos rfl, if_pos rfl, o_sum5 a0 _ _ _ hY hX fY fX (by omega)]
    unfold Jvm.FP.Core.add
    rw [Jvm.FP.Core.exactSum_comm]
  · have hc : ¬ lN (X % 2 ^ hN a0) < lN (Y % 2 ^ hN a0) := fun w => h ((l_lt (by omega) (by omega)).mp w)
    rw [if_neg hc, if_neg (by decide), if_neg (by decide), o_sum5 a0 _ _ _ hX hY fX fY (by omega)]
