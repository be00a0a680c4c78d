/-! gear, lay, wind, spin -/
section PV
variable {k i d : Nat} {o : Os} {m : Ms}
theorem gr_c (a : Int32) : (a.toInt.natAbs ≤ 1000 ∧ ¬ a < (-1000 : Int32) ∧ a ≤ (1000 : Int32) ∧ jX8_in a.toInt64 (-1000 : Int64) (1000 : Int64) = 1) ∨ ((a < (-1000 : Int32) ∨ (¬ a < (-1000 : Int32) ∧ ¬ a ≤ (1000 : Int32))) ∧ jX8_in a.toInt64 (-1000 : Int64) (1000 : Int64) = 0) := by
  have e1 : (-1000 : Int64).toInt = -1000 := by decide
  have e2 : (1000 : Int64).toInt = 1000 := by decide
  have e3 : (-1000 : Int32).toInt = -1000 := by decide
  have e4 : (1000 : Int32).toInt = 1000 := by decide
  rw [in_c, e1, e2, Int32.lt_iff_toInt_lt, Int32.le_iff_toInt_le, e3, e4]
  by_cases g : -1000 ≤ a.toInt ∧ a.toInt ≤ 1000
  · exact Or.inl ⟨by omega, by omega, by omega, if_pos g⟩
  · exact Or.inr ⟨by omega, if_neg g⟩
theorem ok_gear (h : rl k o m) (a1 a2 : Int32) : sX7_gear o a1 a2 ∧ sX8_gear m a1 a2 ∧ (jX7_gear o a1 a2).1 = (jX8_gear m a1 a2).1 ∧ rl k (jX7_gear o a1 a2).2 (jX8_gear m a1 a2).2 := by
  unfold sX7_gear jX7_gear sX8_gear jX8_gear
  rcases sl_c a1 with ⟨j, hj, rfl, q1, q2⟩ | ⟨q1, q2⟩
  · have hin : vp_in (nI j) 6 := nI_in hj (by decide)
    rw [q1, q2]
    simp only [n10, if_false]
    rcases gr_c a2 with ⟨g1, g2, g3, g4⟩ | ⟨g1, g4⟩
    · rw [g4, nI_clamp (by omega)]
      simp only [if_neg g2, if_pos g3, n10, if_false]
      unfold sX8_gear_y4 jX8_gear_y4 sX8_gear_y6 jX8_gear_y6 sX8_gear_y14 jX8_gear_y14 sX8_gear_y12 jX8_gear_y12 sX7_gear_y10 jX7_gear_y10
      rcases h.1.2.2.1.1 j hj with ⟨u1, u2⟩ | ⟨d, u1, u2, u3⟩
      · obtain ⟨b1, b2, b3, b4, b5⟩ := fail_ok h.1 (v := -11) (j := 0) (by decide) (by decide)
        rw [u1, u2, om_n, om_n]
        simp only [if_true]
        exact ⟨⟨trivial, hin, b1, trivial⟩, ⟨trivial, hin, trivial, trivial, b2, trivial⟩, b3.trans b4.symm, b5⟩
      · have h20 : d < 20 := Nat.lt_of_lt_of_le u2 h.1.2.1.1
        have hin2 : vp_in (nI d) 20 := nI_in h20 (by decide)
        obtain ⟨v1, v2, -, ⟨v5, v6⟩, -⟩ := h.1.2.1.2.2 d u2
        rw [u1, u3, om_s, om_s, nI_clamp (by omega), v2]
        simp only [if_neg (ne_m1 (show d < 2147483648 by omega))]
        by_cases c : c_vS o d = 0
        · obtain ⟨b1, b2, b3, b4, b5⟩ := fail_ok h.1 (v := -13) (j := 2) (by decide) (by decide)
          rw [c]
          simp only [if_pos (show nI 0 = 0 from rfl), if_true]
          exact ⟨⟨trivial, hin, u2, b1, trivial⟩, ⟨trivial, hin, trivial, hin2, trivial, b2, trivial⟩, b3.trans b4.symm, b5⟩
        · have c2 : ¬ nI (c_vS o d) = 0 := nI_ne0 (by omega) (by omega)
          simp only [if_neg c, if_neg c2]
          refine ⟨⟨trivial, hin, u2, trivial, trivial⟩, ⟨trivial, hin, trivial, hin2, hin2, trivial, hin2, trivial⟩, v5, done_ok ?_ _⟩
          obtain ⟨hD, ⟨h1, h2, h3⟩, hS, hR, hT⟩ := h.1
          refine ⟨hD, ⟨h1, h2, fun q hq => ?_⟩, hS, hR, hT⟩
          show vK k (c_vS o q) (m_sortOf m q) (c_vP o q) (m_pullOf m q) (va_up (c_vG o) d a2 q) (upd (m_gearOf m) d a2 q) (c_vC o q) (m_pulled m q)
          have hv := h3 q hq
          by_cases e : q = d
          · subst e
            rw [up_eq, ui_eq]
            obtain ⟨d1, d2, d3, d4, d5⟩ := hv
            exact ⟨d1, d2, d3, ⟨rfl, g1⟩, d5⟩
          · rw [up_ne e, ui_ne e]
            exact hv
    · rw [g4]
      rcases g1 with g | ⟨g, g'⟩
      · simp only [if_pos g, z00, if_true]
        exact ⟨⟨trivial, trivial⟩, ⟨trivial, trivial⟩, (by trivial), h⟩
      · simp only [if_neg g, if_neg g', z00, if_true]
        exact ⟨⟨trivial, trivial⟩, ⟨trivial, trivial⟩, (by trivial), h⟩
  · rw [q1, q2]
    simp only [z00, if_true]
    exact ⟨⟨trivial, trivial⟩, ⟨trivial, trivial⟩, (by trivial), h⟩
theorem ok_lay (h : rl k o m) (a1 a2 a3 : Int32) : sX7_lay o a1 a2 a3 ∧ sX8_lay m a1 a2 a3 ∧ (jX7_lay o a1 a2 a3).1 = (jX8_lay m a1 a2 a3).1 ∧ rl k (jX7_lay o a1 a2 a3).2 (jX8_lay m a1 a2 a3).2 := by
  have up : ∀ j, j < 8 → ∀ (x : Option Nat) (y : Int32), sK (c_nv o) x y → rl k (jX7_done (t_sh o (va_up (c_sh o) j x)) 1).2 (jX8_done (s_shafts m (upd (m_shafts m) j y)) 1).2 := by
    intro j hj x y hxy
    obtain ⟨⟨hD, hV, hS, hR, hT⟩, hF⟩ := h
    refine done_ok ?_ 1
    refine ⟨hD, hV, ⟨hS.1, fun q hq => ?_⟩, hR, hT⟩
    show sK (c_nv o) (va_up (c_sh o) j x q) (upd (m_shafts m) j y q)
    by_cases e : q = j
    · subst e; rw [up_eq, ui_eq]; exact hxy
    · rw [up_ne e, ui_ne e]; exact hS.2 q hq
  unfold sX7_lay jX7_lay sX8_lay jX8_lay
  rcases sf_c a1 with ⟨s, hs, rfl, q1, q2⟩ | ⟨q1, q2⟩
  · rcases sl_c a3 with ⟨j, hj, rfl, r1, r2⟩ | ⟨r1, r2⟩
    · rcases sp_c a2 with ⟨p, hp, rfl, p1, p2⟩ | ⟨p1, p2⟩
      · have hin6 : vp_in (nI j) 6 := nI_in hj (by decide)
        have hin : vp_in (nI (4 * s + p)) 8 := nI_in (by omega) (by decide)
        rw [q1, q2, r1, r2, p1, p2, nI_4, nI_clamp (by omega), nI_clamp (by omega)]
        simp only [n10, if_false]
        unfold sX8_lay_y5 jX8_lay_y5
        rw [nI_4', nI_clamp (by omega)]
        rcases h.1.2.2.1.1 j hj with ⟨u1, u2⟩ | ⟨d, u1, u2, u3⟩
        · rw [u1, u2, om_n, om_n]
          by_cases c : nI s = (1 : Int32)
          · simp only [if_pos c, if_true]
            exact ⟨⟨trivial, hin6, hin, trivial⟩, ⟨trivial, hin6, trivial, hin, trivial⟩, rfl, up _ (by omega) _ _ (Or.inl ⟨rfl, rfl⟩)⟩
          · simp only [if_neg c]
            exact ⟨⟨trivial, hin6, hin, trivial⟩, ⟨trivial, hin6, trivial, hin, trivial⟩, rfl, up _ (by omega) _ _ (Or.inl ⟨rfl, rfl⟩)⟩
        · have h20 : d < 20 := Nat.lt_of_lt_of_le u2 h.1.2.1.1
          have hin2 : vp_in (nI d) 20 := nI_in h20 (by decide)
          obtain ⟨v1, v2, -⟩ := h.1.2.1.2.2 d u2
          rw [u1, u3, om_s, om_s, nI_clamp (by omega), v2]
          by_cases c : nI s = (1 : Int32)
          · simp only [if_pos c, if_neg (ne_m1 (show d < 2147483648 by omega))]
            by_cases cc : c_vS o d = 0
            · obtain ⟨b1, b2, b3, b4, b5⟩ := fail_ok h.1 (v := -14) (j := 3) (by decide) (by decide)
              rw [cc]
              simp only [if_pos (show nI 0 = 0 from rfl), if_true]
              exact ⟨⟨trivial, hin6, u2, b1, trivial⟩, ⟨trivial, hin6, trivial, hin2, b2, trivial⟩, b3.trans b4.symm, b5⟩
            · have c2 : ¬ nI (c_vS o d) = 0 := nI_ne0 (by omega) (by omega)
              simp only [if_neg cc, if_neg c2]
              exact ⟨⟨trivial, hin6, u2, hin, trivial⟩, ⟨trivial, hin6, trivial, hin2, hin, trivial⟩, rfl, up _ (by omega) _ _ (Or.inr ⟨d, rfl, u2, rfl⟩)⟩
          · simp only [if_neg c]
            exact ⟨⟨trivial, hin6, hin, u2, trivial⟩, ⟨trivial, hin6, trivial, hin, trivial⟩, rfl, up _ (by omega) _ _ (Or.inr ⟨d, rfl, u2, rfl⟩)⟩
      · obtain ⟨b1, b2, b3, b4, b5⟩ := fail_ok h.1 (v := -12) (j := 1) (by decide) (by decide)
        rw [q1, q2, r1, r2, p1, p2]
        simp only [n10, z00, if_false, if_true]
        exact ⟨⟨trivial, b1, trivial⟩, ⟨trivial, b2, trivial⟩, b3.trans b4.symm, b5⟩
    · rw [q1, q2, r1, r2]
      simp only [n10, z00, if_false, if_true]
      exact ⟨⟨trivial, trivial⟩, ⟨trivial, trivial⟩, (by trivial), h⟩
  · rw [q1, q2]
    simp only [z00, if_true]
    exact ⟨⟨trivial, trivial⟩, ⟨trivial, trivial⟩, (by trivial), h⟩
theorem pc_ok (h : r0 k o m) (hi : i < c_nd o) (hk : k ≤ 2048) {x : Option Nat} {y : Int32} (hx : sK (c_nv o) x y) : (x = none ∧ sX8_pullCause m y (nI i) ∧ jX8_pullCause m y (nI i) = (-11, m)) ∨
    ∃ d, x = some d ∧ d < c_nv o ∧ sX2_pullAt o d i ∧ sX8_pullCause m y (nI i) ∧ (((jX2_pullAt o d i).1 = 0 ∧ (jX8_pullCause m y (nI i)).1 = -15) ∨ (¬ (jX2_pullAt o d i).1 = 0 ∧ (jX8_pullCause m y (nI i)).1 = 0)) ∧ r0 (k + 1) (jX2_pullAt o d i).2 (jX8_pullCause m y (nI i)).2 ∧ keeps o (jX2_pullAt o d i).2 m (jX8_pullCause m y (nI i)).2 := by
  unfold sX8_pullCause jX8_pullCause
  rcases hx with ⟨u1, u2⟩ | ⟨d, u1, u2, u3⟩
  · rw [u2]
    simp only [if_true]
    exact Or.inl ⟨u1, ⟨trivial, trivial⟩, trivial⟩
  · have h20 : d < 20 := Nat.lt_of_lt_of_le u2 h.2.1.1
    rw [u3]
    simp only [if_neg (ne_m1 (show d < 2147483648 by omega))]
    obtain ⟨a1, a2, a3, a4, a5⟩ := hauls_ok h hi u2 hk
    refine Or.inr ⟨d, u1, u2, a1, ?_⟩
    rw [a3]
    by_cases q : (jX8_hauls m (nI d) (nI i)).1 = 0
    · simp only [if_pos q]
      exact ⟨⟨trivial, a2, trivial⟩, Or.inl ⟨q, trivial⟩, a4, a5⟩
    · simp only [if_neg q]
      exact ⟨⟨trivial, a2, trivial⟩, Or.inr ⟨q, trivial⟩, a4, a5⟩
end PV
