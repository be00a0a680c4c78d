/-! wind, spin -/
section PW
variable {k i d : Nat} {o : Os} {m : Ms}
theorem m_f0 (m : Ms) (v : Int32) : m_failed (s_failed m v) = v := rfl
theorem fl_of (h : r0 k o m) (hf : m_failed m = 0) : rl k (jX7_done o 4).2 m := ⟨h, hf.symm⟩
theorem ok_wind (h : rl k o m) (hk : k + 4 ≤ 2048) (a1 a2 : Int32) : sX7_wind o a1 a2 ∧ sX8_wind m a1 a2 ∧ (jX7_wind o a1 a2).1 = (jX8_wind m a1 a2).1 ∧ rl (k + 4) (jX7_wind o a1 a2).2 (jX8_wind m a1 a2).2 := by
  have hm := h.more (show k ≤ k + 4 by omega)
  unfold sX7_wind jX7_wind sX8_wind jX8_wind
  obtain ⟨s1, ⟨i, hi, rfl, e1, e2⟩ | ⟨e1, e2⟩⟩ := da_c h.1.1 a2
  · rw [e1, e2, om_s, om_s]
    rcases sf_c a1 with ⟨s, hs, rfl, q1, q2⟩ | ⟨q1, q2⟩
    · rw [q1, q2]
      unfold sX8_wind_o5 jX8_wind_o5 sX8_wind_y6 jX8_wind_y6 sX8_wind_y28 jX8_wind_y28 sX8_wind_y10 jX8_wind_y10 sX8_wind_y26 jX8_wind_y26 sX8_wind_o14 jX8_wind_o14 sX8_wind_y15 jX8_wind_y15 sX8_wind_y24 jX8_wind_y24 sX8_wind_y19 jX8_wind_y19 sX8_wind_y22 jX8_wind_y22 sX7_wind_o30 jX7_wind_o30
      have x0 : nI s * (4 : Int32) + (0 : Int32) = nI (4 * s + 0) := nI_4 s 0
      have x1 : nI s * (4 : Int32) + (1 : Int32) = nI (4 * s + 1) := nI_4 s 1
      have x2 : nI s * (4 : Int32) + (2 : Int32) = nI (4 * s + 2) := nI_4 s 2
      have x3 : nI s * (4 : Int32) + (3 : Int32) = nI (4 * s + 3) := nI_4 s 3
      have y0 : (4 : Int32) * nI s + (0 : Int32) = nI (4 * s + 0) := nI_4' s 0
      have y1 : (4 : Int32) * nI s + (1 : Int32) = nI (4 * s + 1) := nI_4' s 1
      have y2 : (4 : Int32) * nI s + (2 : Int32) = nI (4 * s + 2) := nI_4' s 2
      have y3 : (4 : Int32) * nI s + (3 : Int32) = nI (4 * s + 3) := nI_4' s 3
      have c0 : (nI (4 * s + 0)).toNatClampNeg = 4 * s + 0 := nI_clamp (by omega)
      have c1 : (nI (4 * s + 1)).toNatClampNeg = 4 * s + 1 := nI_clamp (by omega)
      have c2 : (nI (4 * s + 2)).toNatClampNeg = 4 * s + 2 := nI_clamp (by omega)
      have c3 : (nI (4 * s + 3)).toNatClampNeg = 4 * s + 3 := nI_clamp (by omega)
      have i0 : vp_in (nI (4 * s + 0)) 8 := nI_in (by omega) (by decide)
      have i1 : vp_in (nI (4 * s + 1)) 8 := nI_in (by omega) (by decide)
      have i2 : vp_in (nI (4 * s + 2)) 8 := nI_in (by omega) (by decide)
      have i3 : vp_in (nI (4 * s + 3)) 8 := nI_in (by omega) (by decide)
      simp only [x0, x1, x2, x3, y0, y1, y2, y3, c0, c1, c2, c3, n10, if_false]
      have n11 : ¬ (-11 : Int32) = 0 := by decide
      have n15 : ¬ (-15 : Int32) = 0 := by decide
      have h0 : r0 k o (s_failed m 0) := h.1
      rcases pc_ok h0 hi (by omega) (h0.2.2.1.2 (4 * s + 0) (by omega)) with ⟨u1, u2, u3⟩ | ⟨d, u1, u2, u3, u4, u5, u6, u7⟩
      · obtain ⟨b1, b2, b3, b4, b5⟩ := fail_ok (h0.more (show k ≤ k + 4 by omega)) (v := -11) (j := 0) (by decide) (by decide)
        rw [u1, om_n, om_n, u3]
        simp only [if_neg n11]
        exact ⟨⟨trivial, s1, i0, b1, trivial⟩, ⟨trivial, i0, u2, trivial, trivial, b2, trivial, trivial⟩, (by trivial), b5⟩
      rw [u1, om_s, om_s]
      generalize jX2_pullAt o d i = P1 at *
      generalize jX8_pullCause (s_failed m 0) (m_shafts (s_failed m 0) (4 * s + 0)) (nI i) = M1 at *
      rcases u5 with ⟨g1, g2⟩ | ⟨g1, g2⟩
      · obtain ⟨b1, b2, b3, b4, b5⟩ := fail_ok (u6.more (show k + 1 ≤ k + 4 by omega)) (v := -15) (j := 4) (by decide) (by decide)
        rw [g2]
        simp only [if_pos g1, if_neg n15]
        exact ⟨⟨trivial, s1, i0, u3, u2, b1, trivial⟩, ⟨trivial, i0, u4, trivial, trivial, b2, trivial, trivial⟩, (by trivial), b5⟩
      rw [g2]
      simp only [if_neg g1, z00, if_true]
      have hi1 : i < c_nd P1.2 := by rw [u7.1]; exact hi
      rcases pc_ok u6 hi1 (by omega) (u6.2.2.1.2 (4 * s + 1) (by omega)) with ⟨v1, v2, v3⟩ | ⟨d', v1, v2, v3, v4, v5, v6, v7⟩
      · obtain ⟨b1, b2, b3, b4, b5⟩ := fail_ok (u6.more (show k + 1 ≤ k + 4 by omega)) (v := -11) (j := 0) (by decide) (by decide)
        rw [v1, om_n, om_n, v3]
        simp only [if_neg n11]
        exact ⟨⟨trivial, s1, i0, u3, u2, i1, b1, trivial⟩, ⟨trivial, i0, u4, trivial, trivial, i1, v2, trivial, b2, trivial, trivial⟩, (by trivial), b5⟩
      rw [v1, om_s, om_s]
      generalize jX2_pullAt P1.2 d' i = P2 at *
      generalize jX8_pullCause M1.2 (m_shafts M1.2 (4 * s + 1)) (nI i) = M2 at *
      rcases v5 with ⟨g3, g4⟩ | ⟨g3, g4⟩
      · obtain ⟨b1, b2, b3, b4, b5⟩ := fail_ok (v6.more (show k + 1 + 1 ≤ k + 4 by omega)) (v := -15) (j := 4) (by decide) (by decide)
        rw [g4]
        simp only [if_pos g3, if_neg n15]
        exact ⟨⟨trivial, s1, i0, u3, u2, i1, v3, v2, b1, trivial⟩, ⟨trivial, i0, u4, trivial, trivial, i1, v4, trivial, b2, trivial, trivial⟩, (by trivial), b5⟩
      rw [g4]
      simp only [if_neg g3, z00, if_true]
      have hi2 : i < c_nd P2.2 := by rw [v7.1]; exact hi1
      rcases pc_ok v6 hi2 (by omega) (v6.2.2.1.2 (4 * s + 2) (by omega)) with ⟨w1, w2, w3⟩ | ⟨d'', w1, w2, w3, w4, w5, w6, w7⟩
      · obtain ⟨b1, b2, b3, b4, b5⟩ := fail_ok (v6.more (show k + 1 + 1 ≤ k + 4 by omega)) (v := -11) (j := 0) (by decide) (by decide)
        rw [w1, om_n, om_n, w3]
        simp only [if_neg n11]
        exact ⟨⟨trivial, s1, i0, u3, u2, i1, v3, v2, i2, b1, trivial⟩, ⟨trivial, i0, u4, trivial, trivial, i1, v4, trivial, i2, w2, trivial, trivial, b2, trivial, trivial⟩, (by trivial), b5⟩
      rw [w1, om_s, om_s]
      generalize jX2_pullAt P2.2 d'' i = P3 at *
      generalize jX8_pullCause M2.2 (m_shafts M2.2 (4 * s + 2)) (nI i) = M3 at *
      rcases w5 with ⟨g5, g6⟩ | ⟨g5, g6⟩
      · obtain ⟨b1, b2, b3, b4, b5⟩ := fail_ok (w6.more (show k + 1 + 1 + 1 ≤ k + 4 by omega)) (v := -15) (j := 4) (by decide) (by decide)
        rw [g6]
        simp only [if_pos g5, if_neg n15]
        exact ⟨⟨trivial, s1, i0, u3, u2, i1, v3, v2, i2, w3, w2, b1, trivial⟩, ⟨trivial, i0, u4, trivial, trivial, i1, v4, trivial, i2, w4, trivial, trivial, b2, trivial, trivial⟩, (by trivial), b5⟩
      rw [g6]
      simp only [if_neg g5, z00, if_true]
      have hi3 : i < c_nd P3.2 := by rw [w7.1]; exact hi2
      rcases pc_ok w6 hi3 (by omega) (w6.2.2.1.2 (4 * s + 3) (by omega)) with ⟨t1, t2, t3⟩ | ⟨d3, t1, t2, t3, t4, t5, t6, t7⟩
      · obtain ⟨b1, b2, b3, b4, b5⟩ := fail_ok (w6.more (show k + 1 + 1 + 1 ≤ k + 4 by omega)) (v := -11) (j := 0) (by decide) (by decide)
        rw [t1, om_n, om_n, t3]
        simp only [if_neg n11]
        exact ⟨⟨trivial, s1, i0, u3, u2, i1, v3, v2, i2, w3, w2, i3, b1, trivial⟩, ⟨trivial, i0, u4, trivial, trivial, i1, v4, trivial, i2, w4, trivial, trivial, i3, t2, trivial, b2, trivial, trivial⟩, (by trivial), b5⟩
      rw [t1, om_s, om_s]
      generalize jX2_pullAt P3.2 d3 i = P4 at *
      generalize jX8_pullCause M3.2 (m_shafts M3.2 (4 * s + 3)) (nI i) = M4 at *
      rcases t5 with ⟨g7, g8⟩ | ⟨g7, g8⟩
      · obtain ⟨b1, b2, b3, b4, b5⟩ := fail_ok (t6.more (show k + 1 + 1 + 1 + 1 ≤ k + 4 by omega)) (v := -15) (j := 4) (by decide) (by decide)
        rw [g8]
        simp only [if_pos g7, if_neg n15]
        exact ⟨⟨trivial, s1, i0, u3, u2, i1, v3, v2, i2, w3, w2, i3, t3, t2, b1, trivial, trivial⟩, ⟨trivial, i0, u4, trivial, trivial, i1, v4, trivial, i2, w4, trivial, trivial, i3, t4, trivial, b2, trivial, trivial⟩, (by trivial), b5⟩
      rw [g8]
      simp only [if_neg g7, z00, if_true]
      refine ⟨⟨trivial, s1, i0, u3, u2, i1, v3, v2, i2, w3, w2, i3, t3, t2, trivial⟩, ⟨trivial, i0, u4, trivial, trivial, i1, v4, trivial, i2, w4, trivial, trivial, i3, t4, trivial, trivial⟩, rfl, ?_⟩
      exact fl_of (k := k + 4) t6 (t7.2.2.trans (w7.2.2.trans (v7.2.2.trans (u7.2.2.trans (m_f0 m 0)))))
    · rw [q1, q2]
      simp only [z00, if_true]
      exact ⟨⟨trivial, s1, trivial⟩, ⟨trivial, trivial⟩, (by trivial), hm⟩
  · rw [e1, e2, om_n, om_n]
    rcases sf_c a1 with ⟨j, hj, rfl, q1, q2⟩ | ⟨q1, q2⟩
    · rw [q1, q2]
      simp only [z00, n10, if_true, if_false]
      exact ⟨⟨trivial, s1, trivial⟩, ⟨trivial, trivial⟩, (by trivial), hm⟩
    · rw [q1, q2]
      simp only [z00, if_true]
      exact ⟨⟨trivial, s1, trivial⟩, ⟨trivial, trivial⟩, (by trivial), hm⟩
theorem spin_L {o0 : Os} {m0 : Ms} {a1 : Int32} {a2 : Int64} {a4 : Nat} (h4 : a4 ≤ 40) {f : Int32} {y4 : Int64} (hy : y4 = jX4_told f a2) (hf : ¬ jX8_isFit f a2 = 0) : ∀ (n j : Nat) (o : Os) (m : Ms), r0 k o m → i < c_nd o → c_dF o i = f → m_failed m = 0 → a4 < j + n → j ≤ a4 →
    sX7_spin_L o0 a1 a2 (nI a4) i y4 n (nI j) o ∧ sX8_spin_L m0 (nI i) a2 (nI a4) n (nI j) m ∧ (jX7_spin_L o0 a1 a2 (nI a4) i y4 n (nI j) o).1 = (jX8_spin_L m0 (nI i) a2 (nI a4) n (nI j) m).1 ∧ rl k (jX7_spin_L o0 a1 a2 (nI a4) i y4 n (nI j) o).2 (jX8_spin_L m0 (nI i) a2 (nI a4) n (nI j) m).2 := by
  intro n
  induction n with
  | zero => intro j o m h hi hF hz hj; omega
  | succ n ih =>
    intro j o m h hi hF hz hj hj2
    unfold sX7_spin_L sX8_spin_L jX7_spin_L jX8_spin_L
    unfold sX7_spin_L_S sX8_spin_L_S jX7_spin_L_S jX8_spin_L_S sX8_spin_y9 jX8_spin_y9
    by_cases c : a4 ≤ j
    · have cc : nI a4 ≤ nI j := nI_le c (by omega)
      simp only [if_pos cc]
      exact ⟨⟨trivial, trivial⟩, ⟨trivial, trivial⟩, rfl, h, hz.symm⟩
    · have cc : ¬ nI a4 ≤ nI j := nI_ge (by omega) (by omega)
      simp only [if_neg cc]
      obtain ⟨x1, x2, x3, x4, x5⟩ := goes_ok h hi (a := a2) (by rw [hF]; exact hf)
      rw [hF, ← hy] at x1 x3 x4 x5
      rw [x3]
      generalize jX1_turnBy o i y4 = P at *
      generalize jX8_goes m (nI i) a2 = M at *
      by_cases q : M.1 = 0
      · obtain ⟨b1, b2, b3, b4, b5⟩ := fail_ok x4 (v := -15) (j := 4) (by decide) (by decide)
        simp only [if_pos q]
        exact ⟨⟨trivial, x1, hi, b1, trivial⟩, ⟨trivial, x2, b2, trivial, trivial⟩, (by trivial), b5⟩
      · simp only [if_neg q, nI_1]
        obtain ⟨z1, z2, z3, z4⟩ := ih (j + 1) P.2 M.2 x4 (by rw [x5.1]; exact hi) (by rw [x5.2.1]; exact hF) (x5.2.2.trans hz) (by omega) (by omega)
        exact ⟨⟨trivial, x1, hi, z1⟩, ⟨trivial, x2, z2⟩, z3, z4⟩
theorem ok_spin (h : rl k o m) (a1 : Int32) (a2 : Int64) (a4 : Int32) : sX7_spin o a1 a2 a4 ∧ sX8_spin m a1 a2 a4 ∧ (jX7_spin o a1 a2 a4).1 = (jX8_spin m a1 a2 a4).1 ∧ rl k (jX7_spin o a1 a2 a4).2 (jX8_spin m a1 a2 a4).2 := by
  unfold sX7_spin jX7_spin sX8_spin jX8_spin
  obtain ⟨s1, ⟨i, hi, rfl, e1, e2⟩ | ⟨e1, e2⟩⟩ := da_c h.1.1 a1
  · obtain ⟨hb, hg, -⟩ := h.1.1.2.2 i hi
    have h12 : i < 12 := Nat.lt_of_lt_of_le hi h.1.1.1
    have hin : vp_in (nI i) 12 := nI_in h12 (by decide)
    rw [e1, e2, om_s, om_s, nI_clamp (by omega), hg]
    unfold sX7_spin_y4 jX7_spin_y4
    rw [cf_b hb]
    simp only [n10, if_false]
    by_cases g : jX8_isFit (c_dF o i) a2 = 0
    · simp only [if_pos g]
      exact ⟨⟨trivial, s1, hi, trivial, trivial⟩, ⟨trivial, hin, trivial⟩, (by trivial), h⟩
    · simp only [if_neg g]
      rw [in_c]
      have t0 : (0 : Int64).toInt = 0 := rfl
      have t40 : (40 : Int64).toInt = 40 := rfl
      rcases rg_c a4 (n := 41) (by decide) with ⟨n, hn, rfl⟩ | c
      · have c40 : nI n ≤ (40 : Int32) := nI_le (b := 40) (by omega) (by decide)
        rw [nI_toInt (by omega), t0, t40]
        simp only [if_neg (nI_pos (show n < 2 ^ 31 by omega)), if_pos c40, if_pos (show (0 : Int) ≤ (n : Int) ∧ (n : Int) ≤ 40 by omega), n10, if_false]
        obtain ⟨z1, z2, z3, z4⟩ := spin_L (k := k) (i := i) (o0 := o) (m0 := m) (a1 := nI i) (a2 := a2) (a4 := n) (by omega) rfl g 64 0 o (s_failed m 0) h.1 hi rfl rfl (by omega) (by omega)
        exact ⟨⟨trivial, s1, hi, trivial, z1⟩, ⟨trivial, hin, z2⟩, z3, z4⟩
      · rw [t0, t40]
        simp only [if_neg (show ¬ ((0 : Int) ≤ a4.toInt ∧ a4.toInt ≤ 40) by omega), z00, if_true]
        rcases c with c | c
        · simp only [if_pos (ltz_i c)]
          exact ⟨⟨trivial, s1, hi, trivial, trivial⟩, ⟨trivial, hin, trivial⟩, (by trivial), h⟩
        · have c0 : ¬ a4 < 0 := fun q => by have := Int32.lt_iff_toInt_lt.mp q; have e : (0 : Int32).toInt = 0 := rfl; omega
          have c4 : ¬ a4 ≤ (40 : Int32) := fun q => by have := Int32.le_iff_toInt_le.mp q; have e : (40 : Int32).toInt = 40 := rfl; omega
          simp only [if_neg c0, if_neg c4]
          exact ⟨⟨trivial, s1, hi, trivial, trivial⟩, ⟨trivial, hin, trivial⟩, (by trivial), h⟩
  · rw [e1, e2, om_n, om_n]
    simp only [z00, if_true]
    exact ⟨⟨trivial, s1, trivial⟩, ⟨trivial, trivial⟩, (by trivial), h⟩
end PW
