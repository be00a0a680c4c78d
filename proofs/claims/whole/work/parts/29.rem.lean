/-! what is left: the loop, then the remainder -/
theorem v_step {d S : Nat} (hd : d < 9007199254740992) (hS1 : 1 ≤ S) (hS2 : S < 64) (hdS : d * 2 ^ S ≤ 9223372036854775808) : ∀ (n : Nat) (k : Int) (r : Nat), r < d → k ≤ n → -100 ≤ k → k ≤ 5000 → jX4_leftOver_L (lN d) (nI S) n (iI k) (lN r) = lN (r * 2 ^ k.toNat % d) := by
  intro n
  have hend : ∀ (n : Nat) (k : Int) (r : Nat), r < d → -100 ≤ k → k ≤ 0 → jX4_leftOver_L (lN d) (nI S) n (iI k) (lN r) = lN (r * 2 ^ k.toNat % d) := by
    intro n k r hr h1 h2
    have hc : iI k ≤ (0 : Int32) := by
      rw [show (0 : Int32) = iI 0 by decide, iI_le (by omega) (by omega) (by omega) (by omega)]; exact h2
    rw [jX4_leftOver_L_le hc, show k.toNat = 0 by omega, Nat.pow_zero, Nat.mul_one, Nat.mod_eq_of_lt hr]
  induction n with
  | zero => intro k r hr h1 h2 h3; exact hend 0 k r hr h2 (by omega)
  | succ n ih =>
    intro k r hr h1 h2 h3
    rcases Int.lt_or_le 0 k with hk | hk
    · have hc : ¬ iI k ≤ (0 : Int32) := by
        rw [show (0 : Int32) = iI 0 by decide, iI_le (by omega) (by omega) (by omega) (by omega)]; omega
      have hmin : (if iI k < nI S then iI k else nI S) = nI (min S k.toNat) := by
        rw [iI_n S, iI_n (min S k.toNat)]
        split
        · rename_i h
          rw [iI_lt (by omega) (by omega) (by omega) (by omega)] at h
          congr 1; omega
        · rename_i h
          rw [iI_lt (by omega) (by omega) (by omega) (by omega)] at h
          congr 1; omega
      have hsh : r * 2 ^ min S k.toNat < 9223372036854775808 := by
        have h4 : 2 ^ min S k.toNat ≤ 2 ^ S := Nat.pow_le_pow_right (by decide) (Nat.min_le_left _ _)
        have h5 := Nat.mul_le_mul_left r h4
        have h6 := Nat.mul_lt_mul_of_pos_right hr (Nat.two_pow_pos S)
        omega
      have hsub : iI k - nI S = iI (k - S) := by rw [iI_n, iI_sub]
      rw [jX4_leftOver_L_succ hc, hmin, wb_shl r (by omega), l_rem hsh (by omega), hsub]
      have hr2 : r * 2 ^ min S k.toNat % d < d := Nat.mod_lt _ (by omega)
      rw [ih (k - S) _ hr2 (by omega) (by omega) (by omega)]
      congr 1
      rw [Nat.mod_mul_mod, Nat.mul_assoc, ← Nat.pow_add]
      congr 3
      omega
    · exact hend _ k r hr h2 hk
theorem n_step (d : Nat) (hd : d < 9007199254740992) (hd0 : d ≠ 0) : ∃ S : Nat, (if (10 : Int32) < (jJ13_numberOfLeadingZeros_95d88 (lN d) - (1 : Int32)) then (jJ13_numberOfLeadingZeros_95d88 (lN d) - (1 : Int32)) else (10 : Int32)) = nI S ∧ 1 ≤ S ∧ S < 64 ∧ d * 2 ^ S ≤ 9223372036854775808 := by
  have hl : d.log2 < 53 := (Nat.log2_lt hd0).mpr (by omega)
  have hlt := Nat.lt_log2_self (n := d)
  rw [nz_long (by omega), if_neg hd0]
  have e1 : nI (63 - d.log2) - (1 : Int32) = nI (63 - d.log2 - 1) := pk_sub (a := 63 - d.log2) (b := 1) (by omega)
  rw [e1]
  split
  · refine ⟨_, rfl, by omega, by omega, ?_⟩
    have h6 := Nat.mul_le_mul_right (2 ^ (63 - d.log2 - 1)) (Nat.le_of_lt hlt)
    rw [← Nat.pow_add, show d.log2 + 1 + (63 - d.log2 - 1) = 63 by omega] at h6
    omega
  · exact ⟨10, rfl, by decide, by decide, by omega⟩
theorem ord_lt (a0 : Int32) {X Y : Nat} (h : Y % 2 ^ hN a0 < X % 2 ^ hN a0) {k : Nat} (hk : eN a0 X = eN a0 Y + k) (k4 : 0 < k → 2 ^ wN a0 ≤ mN a0 X) : mN a0 Y < mN a0 X * 2 ^ k := by
  obtain ⟨-, -, h3, -, -, -⟩ := wh_b a0
  have hp := Nat.two_pow_pos (wN a0)
  have hY1 := mN_lt a0 Y
  rcases Nat.eq_zero_or_pos k with z | z
  · subst z
    rw [Nat.pow_zero, Nat.mul_one]
    have hd : 2 ^ wN a0 ∣ 2 ^ hN a0 := Nat.pow_dvd_pow 2 (by omega)
    unfold eN at hk
    unfold mN
    rw [← Nat.mod_mod_of_dvd X hd, ← Nat.mod_mod_of_dvd Y hd]
    generalize X % 2 ^ hN a0 = x at *
    generalize Y % 2 ^ hN a0 = y at *
    have m1 := Nat.div_le_div_right (c := 2 ^ wN a0) (Nat.le_of_lt h)
    have d1 := Nat.div_add_mod x (2 ^ wN a0)
    have d2 := Nat.div_add_mod y (2 ^ wN a0)
    have l1 := Nat.mod_lt x hp
    have l2 := Nat.mod_lt y hp
    by_cases q : x < 2 ^ wN a0
    · rw [if_pos q, if_pos (by omega), Nat.mod_eq_of_lt q, Nat.mod_eq_of_lt (by omega)]
      exact h
    · rw [if_neg q]
      by_cases q2 : y < 2 ^ wN a0
      · rw [if_pos q2]; omega
      · rw [if_neg q2]
        have a1 : 1 ≤ x / 2 ^ wN a0 := (Nat.le_div_iff_mul_le hp).mpr (by omega)
        have a2 : 1 ≤ y / 2 ^ wN a0 := (Nat.le_div_iff_mul_le hp).mpr (by omega)
        have a3 : x / 2 ^ wN a0 = y / 2 ^ wN a0 := by omega
        rw [a3] at d1
        omega
  · have h1 := k4 z
    have h2 : 2 ≤ 2 ^ k := Nat.le_trans (by decide) (Nat.pow_le_pow_right (show 0 < 2 by decide) z)
    have h3 := Nat.mul_le_mul h1 h2
    rw [Nat.pow_succ] at hY1
    omega
theorem enc_back (a0 : Int32) {X : Nat} (hX : X < 2 * 2 ^ hN a0) (fX : X % 2 ^ hN a0 < iN a0) : Jvm.FP.Core.encode (fF a0) (Jvm.FP.Core.round (fF a0) (.fin (sN2 a0 X) (mN a0 X) (eN a0 X))) = X := by
  rw [← dec_fin a0 hX fX, Jvm.FP.Core.round_of_fits (f_good a0) (Jvm.FP.Core.decode_fits (f_good a0) X)]
  refine Jvm.FP.Core.encode_decode (f_good a0) X (by rw [f_size]; exact hX) ?_
  rw [dec_fin a0 hX fX]
  exact fun h => by cases h
theorem o_rem (a0 : Int32) {X Y : Nat} (hX : X < 2 * 2 ^ hN a0) (hY : Y < 2 * 2 ^ hN a0) (fX : X % 2 ^ hN a0 < iN a0) (nY : Y % 2 ^ hN a0 ≤ iN a0) (hY0 : Y % 2 ^ hN a0 ≠ 0) : jX4_leftOver a0 (xb a0 X) (xb a0 Y) = xb a0 (Jvm.FP.Core.rem (fF a0) X Y) := by
  have mX := mN_53 a0 X
  have mY := mN_53 a0 Y
  have eX := eN_b a0 X
  have eY := eN_b a0 Y
  have b1 := p_hb a0
  have b3 := Nat.mod_lt X (Nat.two_pow_pos (hN a0))
  have b4 := Nat.mod_lt Y (Nat.two_pow_pos (hN a0))
  have hY1 : mN a0 Y ≠ 0 := fun q => hY0 ((mN_0 a0 Y).mp q)
  unfold jX4_leftOver jX4_leftOver_y1
  rw [x_mant a0 hX, x_mant a0 hY, if_neg (show ¬ lN (mN a0 Y) = (0 : Int64) from fun w => hY1 ((l_eq (b := 0) (by omega) (by decide)).mp w)), x_size a0 hX, x_size a0 hY]
  unfold Jvm.FP.Core.rem
  rw [dec_fin a0 hX fX]
  by_cases h : Y % 2 ^ hN a0 ≤ X % 2 ^ hN a0
  · have fY : Y % 2 ^ hN a0 < iN a0 := by omega
    obtain ⟨k, k1, k2, k3, k4⟩ := ord_e a0 h
    rw [if_pos ((l_le (by omega) (by omega)).mpr h)]
    unfold jX4_leftOver_y4 jX4_leftOver_y5 jX4_leftOver_y6 jX4_leftOver_T jX4_leftOver_y7
    obtain ⟨S, s1, s2, s3, s4⟩ := n_step (mN a0 Y) mY hY1
    rw [s1, x_exp a0 hX, x_exp a0 hY, iI_sub, l_rem (by omega) (by omega), v_step mY s2 s3 s4 4096 _ _ (Nat.mod_lt _ (by omega)) (by omega) (by omega) (by omega), Nat.mod_mul_mod, show (eN a0 X - eN a0 Y).toNat = k by omega]
    have hlt : mN a0 X * 2 ^ k % mN a0 Y < mN a0 Y := Nat.mod_lt _ (by omega)
    rw [r_near a0 _ (by omega) (by omega) (by omega) (Or.inl (by omega)), x_sg a0 hX, dec_fin a0 hY fY]
    unfold Jvm.FP.Core.exactRemainder
    dsimp only
    rw [if_neg hY1, show min (eN a0 X) (eN a0 Y) = eN a0 Y by omega]
    unfold Jvm.FP.Core.inUnits
    rw [show (eN a0 X - eN a0 Y).toNat = k by omega, show (eN a0 Y - eN a0 Y).toNat = 0 by omega, Nat.pow_zero, Nat.mul_one]
    rfl
  · rw [if_neg (fun w => h ((l_le (by omega) (by omega)).mp w))]
    congr 1
    by_cases fY : Y % 2 ^ hN a0 < iN a0
    · obtain ⟨k, k1, k2, k3, k4⟩ := ord_e a0 (show X % 2 ^ hN a0 ≤ Y % 2 ^ hN a0 by omega)
      have hlt := ord_lt a0 (show X % 2 ^ hN a0 < Y % 2 ^ hN a0 by omega) k1 k4
      rw [dec_fin a0 hY fY]
      unfold Jvm.FP.Core.exactRemainder
      dsimp only
      rw [if_neg hY1, show min (eN a0 X) (eN a0 Y) = eN a0 X by omega]
      unfold Jvm.FP.Core.inUnits
      rw [show (eN a0 Y - eN a0 X).toNat = k by omega, show (eN a0 X - eN a0 X).toNat = 0 by omega, Nat.pow_zero, Nat.mul_one, Nat.mod_eq_of_lt hlt]
      exact (enc_back a0 hX fX).symm
    · rw [dec_inf a0 hY (by omega)]
      exact (enc_back a0 hX fX).symm
