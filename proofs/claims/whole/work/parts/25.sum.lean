/-! the sum: three bits more than are kept, the last of them for all that is shifted out -/
theorem sk_odd (u : Nat) : (u ||| 1) = 2 * (u / 2) + 1 := by
  have h1 := Nat.two_pow_add_eq_or_of_lt (i := 1) (b := 1) (by decide) (u / 2)
  have h1 : 2 * (u / 2) + 1 = 2 * (u / 2) ||| 1 := h1
  rcases Nat.mod_two_eq_zero_or_one u with h | h
  · rw [h1, show 2 * (u / 2) = u by omega]
  · have hu : u = 2 * (u / 2) ||| 1 := by omega
    rw [h1]
    conv => lhs; rw [hu]
    rw [Nat.or_assoc, Nat.or_self]
def St (V k : Nat) : Nat := if V % 2 ^ k = 0 then V / 2 ^ k else 2 * (V / 2 ^ k / 2) + 1
theorem r_more {u r : Nat} (hu : u < 2 ^ 64) (hr : r < 2 ^ 64) : jX4_withMore (lN u) (lN r) = lN (if r = 0 then u else 2 * (u / 2) + 1) := by
  unfold jX4_withMore
  by_cases h : r = 0
  · rw [if_pos (show lN r = (0 : Int64) by rw [h]; rfl), if_pos h]
  · rw [if_neg (show ¬ lN r = (0 : Int64) from fun w => h ((l_eq (b := 0) hr (by decide)).mp w)), if_neg h, ← sk_odd]
    exact wb_or (b := 1) hu (by decide)
theorem r_shift {V k : Nat} (hV : V < 9223372036854775808) (hk : k < 2147483648) : jX4_shiftedOut (lN V) (nI k) = lN (St V k) := by
  unfold jX4_shiftedOut St
  by_cases h : k ≤ 63
  · have hm := Nat.mod_le V (2 ^ k)
    rw [if_pos (show nI k ≤ (63 : Int32) from nI_le (b := 63) h (by decide)), wb_shr (by omega) (by omega), p_one k (by omega), p_ones, wb_mask (by omega) (by omega), r_more (Nat.lt_of_le_of_lt (Nat.div_le_self _ _) (by omega)) (by omega)]
  · have hc : ¬ nI k ≤ (63 : Int32) := fun w => h ((nI_leI (b := 63) (by omega) (by decide)).mp w)
    have hp : 2 ^ 64 ≤ 2 ^ k := Nat.pow_le_pow_right (by decide) (by omega)
    have hlt : V < 2 ^ k := by omega
    rw [if_neg hc, Nat.mod_eq_of_lt hlt, Nat.div_eq_of_lt hlt]
    exact r_more (u := 0) (by decide) (by omega)
theorem St_spec (V k : Nat) : (V % 2 ^ k = 0 ∧ V = 2 ^ k * St V k) ∨ (0 < V % 2 ^ k ∧ St V k % 2 = 1 ∧ 2 ^ k * St V k < V + 2 ^ k ∧ V < 2 ^ k * St V k + 2 ^ k) := by
  have h1 := Nat.div_add_mod V (2 ^ k)
  have h2 := Nat.mod_lt V (Nat.two_pow_pos k)
  unfold St
  by_cases h : V % 2 ^ k = 0
  · left
    rw [if_pos h]
    exact ⟨h, by omega⟩
  · right
    rw [if_neg h]
    generalize V / 2 ^ k = u at *
    refine ⟨by omega, by omega, ?_⟩
    rcases Nat.mod_two_eq_zero_or_one u with g | g
    · rw [show 2 * (u / 2) + 1 = u + 1 by omega, Nat.mul_add, Nat.mul_one]
      omega
    · rw [show 2 * (u / 2) + 1 = u by omega]
      omega
theorem sm_scale {f : Jvm.FP.Core.Fmt} {s : Bool} {A k : Nat} {e : Int} : Jvm.FP.Core.roundRatio f s A 1 e = Jvm.FP.Core.roundRatio f s (8 * A) (2 ^ k) (e + k - 3) := by
  refine Jvm.FP.Core.roundRatio_congr (by decide) (Nat.two_pow_pos k) ?_
  rcases Nat.lt_or_ge k 3 with h | h
  · rw [show (e - (e + k - 3)).toNat = 3 - k by omega, show (e + k - 3 - e).toNat = 0 by omega, Nat.mul_assoc, ← Nat.pow_add, show k + (3 - k) = 3 by omega]
    omega
  · rw [show (e - (e + k - 3)).toNat = 0 by omega, show (e + k - 3 - e).toNat = k - 3 by omega, Nat.pow_zero, Nat.mul_one, Nat.mul_one]
    have : 2 ^ k = 8 * 2 ^ (k - 3) := by rw [show (8 : Nat) = 2 ^ 3 by decide, ← Nat.pow_add]; congr 1; omega
    rw [this]
    ac_rfl
/-- the class's total, rounded, is the exact sum's rounding -/
theorem sm_round {f : Jvm.FP.Core.Fmt} {s : Bool} {A T k : Nat} {e : Int} (h : T * 2 ^ k = 8 * A ∨ (T % 2 = 1 ∧ 2 ^ k * (T - 1) < 8 * A ∧ 8 * A < 2 ^ k * (T + 1) ∧ 2 ^ (f.p + 1) ≤ T)) : Jvm.FP.Core.roundRatio f s A 1 e = Jvm.FP.Core.roundRatio f s T 1 (e + k - 3) := by
  rw [sm_scale (k := k)]
  rcases h with h | ⟨h1, h2, h3, h4⟩
  · refine Jvm.FP.Core.roundRatio_congr (Nat.two_pow_pos k) (by decide) ?_
    rw [Int.sub_self]
    show 8 * A * 1 * 2 ^ 0 = T * 2 ^ k * 2 ^ 0
    rw [h, Nat.mul_one]
  · exact rd_odd s _ (Nat.two_pow_pos k) h1 h2 h3 h4
theorem sm_add {M V k w : Nat} {f : Jvm.FP.Core.Fmt} (hM : M % 2 = 0) (hk : 0 < V % 2 ^ k → 2 ^ (f.p + 1) ≤ M) {A : Nat} (hA : 8 * A = 2 ^ k * M + V) : (M + St V k) * 2 ^ k = 8 * A ∨ ((M + St V k) % 2 = 1 ∧ 2 ^ k * (M + St V k - 1) < 8 * A ∧ 8 * A < 2 ^ k * (M + St V k + 1) ∧ 2 ^ (f.p + 1) ≤ M + St V k) := by
  rcases St_spec V k with ⟨h1, h2⟩ | ⟨h1, h2, h3, h4⟩
  · left
    rw [hA, Nat.mul_comm, Nat.mul_add, ← h2]
  · right
    have := hk h1
    rw [Nat.mul_sub, Nat.mul_add, Nat.mul_add, Nat.mul_add, Nat.mul_one]
    have hS : 2 ^ k ≤ 2 ^ k * St V k := Nat.le_mul_of_pos_right _ (by omega)
    omega
theorem sm_sub {M V k : Nat} {f : Jvm.FP.Core.Fmt} (hM : M % 2 = 0) (hk : 0 < V % 2 ^ k → 2 ^ (f.p + 1) + St V k ≤ M) {A : Nat} (hA : 8 * A + V = 2 ^ k * M) : St V k ≤ M ∧ ((M - St V k) * 2 ^ k = 8 * A ∨ ((M - St V k) % 2 = 1 ∧ 2 ^ k * (M - St V k - 1) < 8 * A ∧ 8 * A < 2 ^ k * (M - St V k + 1) ∧ 2 ^ (f.p + 1) ≤ M - St V k)) := by
  rcases St_spec V k with ⟨h1, h2⟩ | ⟨h1, h2, h3, h4⟩
  · have hle : St V k ≤ M := by
      rcases Nat.lt_or_ge M (St V k) with q | q
      · have := Nat.mul_lt_mul_of_pos_left q (Nat.two_pow_pos k)
        omega
      · exact q
    refine ⟨hle, Or.inl ?_⟩
    rw [Nat.mul_comm, Nat.mul_sub]
    omega
  · have := hk h1
    refine ⟨Nat.le_trans (Nat.le_add_left _ _) this, Or.inr ?_⟩
    have hp := Nat.two_pow_pos (f.p + 1)
    generalize 2 ^ (f.p + 1) = gg at *
    have hS := Nat.mul_le_mul_left (2 ^ k) (show St V k + 1 ≤ M by omega)
    rw [Nat.mul_sub, Nat.mul_sub, Nat.mul_add, Nat.mul_sub, Nat.mul_one]
    rw [Nat.mul_add, Nat.mul_one] at hS
    omega
/-- of two fit ones the larger: its exponent is no less; what it is in units of the other's exponent is no less -/
theorem ord_e (a0 : Int32) {X Y : Nat} (h : Y % 2 ^ hN a0 ≤ X % 2 ^ hN a0) : ∃ k : Nat, eN a0 X = eN a0 Y + k ∧ k < 2048 ∧ (k = 0 → mN a0 Y ≤ mN a0 X) ∧ (0 < k → 2 ^ wN a0 ≤ mN a0 X) := by
  obtain ⟨-, -, h3, -, -, -⟩ := wh_b a0
  have hp := Nat.two_pow_pos (wN a0)
  have hd : 2 ^ wN a0 ∣ 2 ^ hN a0 := Nat.pow_dvd_pow 2 (by omega)
  have f1 := p_field a0 X
  unfold eN mN
  rw [← Nat.mod_mod_of_dvd X hd, ← Nat.mod_mod_of_dvd Y hd]
  generalize X % 2 ^ hN a0 = x at *
  generalize Y % 2 ^ hN a0 = y at *
  have m1 := Nat.div_le_div_right (c := 2 ^ wN a0) h
  have d1 := Nat.div_add_mod x (2 ^ wN a0)
  have d2 := Nat.div_add_mod y (2 ^ wN a0)
  have l1 := Nat.mod_lt x hp
  have l2 := Nat.mod_lt y hp
  refine ⟨(x / 2 ^ wN a0 - 1) - (y / 2 ^ wN a0 - 1), by omega, by omega, fun hk => ?_, fun hk => ?_⟩
  · by_cases q : x < 2 ^ wN a0
    · rw [if_pos q, if_pos (by omega), Nat.mod_eq_of_lt q, Nat.mod_eq_of_lt (by omega)]
      exact h
    · rw [if_neg q]
      by_cases q2 : y < 2 ^ wN a0
      · rw [if_pos q2]; omega
      · rw [if_neg q2]
        have a1 : 1 ≤ x / 2 ^ wN a0 := (Nat.le_div_iff_mul_le hp).mpr (by omega)
        have a2 : 1 ≤ y / 2 ^ wN a0 := (Nat.le_div_iff_mul_le hp).mpr (by omega)
        have a3 : x / 2 ^ wN a0 = y / 2 ^ wN a0 := by omega
        rw [a3] at d1
        omega
  · by_cases q : x < 2 ^ wN a0
    · rw [Nat.div_eq_of_lt q] at hk; omega
    · rw [if_neg q]; omega
