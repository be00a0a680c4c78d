/-! calls that turn a dial or show what stands -/
theorem n10 : ((1 : Int32) = 0) = False := by decide
theorem z00 : ((0 : Int32) = 0) = True := by decide
section PU
variable {k i : Nat} {o : Os} {m : Ms}
theorem ok_turn (h : rl k o m) (a1 : Int32) (a2 : Int64) : sX7_turn o a1 a2 ∧ sX8_turn m a1 a2 ∧ (jX7_turn o a1 a2).1 = (jX8_turn m a1 a2).1 ∧ rl k (jX7_turn o a1 a2).2 (jX8_turn m a1 a2).2 := by
  obtain ⟨s1, ⟨i, hi, rfl, e1, e2⟩ | ⟨e1, e2⟩⟩ := da_c h.1.1 a1
  · obtain ⟨hb, hg, -⟩ := h.1.1.2.2 i hi
    have h12 : i < 12 := Nat.lt_of_lt_of_le hi h.1.1.1
    have hin : vp_in (nI i) 12 := nI_in h12 (by decide)
    unfold sX7_turn jX7_turn sX8_turn jX8_turn
    rw [e1, e2, om_s, om_s, nI_clamp (by omega), hg]
    simp only [n10, if_false]
    unfold sX7_turn_y4 jX7_turn_y4
    rw [cf_b hb]
    by_cases g : jX8_isFit (c_dF o i) a2 = 0
    · simp only [if_pos g]
      exact ⟨⟨trivial, s1, hi, trivial, trivial⟩, ⟨trivial, hin, trivial⟩, (by trivial), h⟩
    · simp only [if_neg g]
      obtain ⟨a1', a2', a3, a4, -⟩ := goes_ok h.1 hi g
      rw [a3]
      obtain ⟨b1, b2, b3, b4, b5⟩ := fail_ok a4 (v := -15) (j := 4) (by decide) (by decide)
      by_cases q : (jX8_goes m (nI i) a2).1 = 0
      · simp only [if_pos q]
        exact ⟨⟨trivial, s1, hi, trivial, a1', b1, trivial⟩, ⟨trivial, hin, a2', b2, trivial⟩, b3.trans b4.symm, b5⟩
      · simp only [if_neg q]
        exact ⟨⟨trivial, s1, hi, trivial, a1', trivial⟩, ⟨trivial, hin, a2', trivial⟩, (by trivial), done_ok a4 1⟩
  · unfold sX7_turn jX7_turn sX8_turn jX8_turn
    rw [e1, e2, om_n, om_n]
    simp only [z00, if_true]
    exact ⟨⟨trivial, s1, trivial⟩, ⟨trivial, trivial⟩, (by trivial), h⟩
theorem ok_laps (h : rl k o m) (a1 : Int32) : sX7_laps o a1 ∧ sX8_laps m a1 ∧ jX7_laps o a1 = jX8_laps m a1 := by
  unfold sX7_laps jX7_laps sX8_laps jX8_laps
  obtain ⟨s1, ⟨i, hi, rfl, e1, e2⟩ | ⟨e1, e2⟩⟩ := da_c h.1.1 a1
  · obtain ⟨-, -, -, -, hL⟩ := h.1.1.2.2 i hi
    have h12 : i < 12 := Nat.lt_of_lt_of_le hi h.1.1.1
    rw [e1, e2, om_s, om_s, nI_clamp (by omega)]
    simp only [n10, if_false]
    exact ⟨⟨trivial, s1, hi, trivial⟩, ⟨trivial, nI_in h12 (by decide), trivial⟩, hL⟩
  · rw [e1, e2, om_n, om_n]
    simp only [z00, if_true]
    exact ⟨⟨trivial, s1, trivial⟩, ⟨trivial, trivial⟩, (by trivial)⟩
theorem ok_fine (h : rl k o m) (a1 : Int32) : sX7_fine o a1 ∧ sX8_fine m a1 ∧ jX7_fine o a1 = jX8_fine m a1 := by
  unfold sX7_fine jX7_fine sX8_fine jX8_fine
  obtain ⟨s1, ⟨i, hi, rfl, e1, e2⟩ | ⟨e1, e2⟩⟩ := da_c h.1.1 a1
  · obtain ⟨hb, hg, -⟩ := h.1.1.2.2 i hi
    have h12 : i < 12 := Nat.lt_of_lt_of_le hi h.1.1.1
    rw [e1, e2, om_s, om_s, nI_clamp (by omega), hg]
    simp only [n10, if_false]
    refine ⟨⟨trivial, s1, hi, ?_⟩, ⟨trivial, nI_in h12 (by decide), ?_⟩, (by trivial)⟩ <;> split <;> trivial
  · rw [e1, e2, om_n, om_n]
    simp only [z00, if_true]
    exact ⟨⟨trivial, s1, trivial⟩, ⟨trivial, trivial⟩, (by trivial)⟩
theorem ok_place (h : rl k o m) (a1 a2 : Int32) : sX7_place o a1 a2 ∧ sX8_place m a1 a2 ∧ jX7_place o a1 a2 = jX8_place m a1 a2 := by
  unfold sX7_place jX7_place sX8_place jX8_place
  obtain ⟨s1, ⟨i, hi, rfl, e1, e2⟩ | ⟨e1, e2⟩⟩ := da_c h.1.1 a1
  · obtain ⟨hb, hg, ⟨hR, fR, -⟩, ⟨hP, fP⟩, -⟩ := h.1.1.2.2 i hi
    have h12 : i < 12 := Nat.lt_of_lt_of_le hi h.1.1.1
    have hin : vp_in (nI i) 12 := nI_in h12 (by decide)
    rw [e1, e2, om_s, om_s, nI_clamp (by omega), hg, in_c]
    simp only [n10, if_false]
    unfold sX8_place_y5 jX8_place_y5 sX8_place_y9 jX8_place_y9
    by_cases c0 : a2 = 0
    · subst c0
      simp only [z00, if_true, if_pos (show (0 : Int64).toInt ≤ (0 : Int32).toInt ∧ (0 : Int32).toInt ≤ (1 : Int64).toInt by decide), n10, if_false]
      refine ⟨⟨trivial, s1, hi, trivial⟩, ?_⟩
      rcases hb with hF | hF
      · rw [hF, qf_0] at hP fP
        rw [hF]
        simp only [z00, if_true]
        exact ⟨⟨trivial, hin, ⟨hin, trivial⟩, trivial, trivial⟩, hP.trans (b_f fP.num).symm⟩
      · rw [hF, qf_1] at hP fP
        rw [hF]
        simp only [n10, if_false]
        exact ⟨⟨trivial, hin, ⟨hin, trivial⟩, trivial, trivial⟩, hP.trans (b_d fP.num).symm⟩
    · simp only [if_neg c0]
      by_cases c1 : a2 = 1
      · subst c1
        simp only [z00, if_true, if_pos (show (0 : Int64).toInt ≤ (1 : Int32).toInt ∧ (1 : Int32).toInt ≤ (1 : Int64).toInt by decide), n10, if_false]
        refine ⟨⟨trivial, s1, hi, trivial⟩, ?_⟩
        rcases hb with hF | hF
        · rw [hF, qf_0] at hR fR
          rw [hF]
          simp only [z00, if_true]
          exact ⟨⟨trivial, hin, ⟨hin, trivial⟩, trivial, trivial⟩, hR.trans (b_f fR.num).symm⟩
        · rw [hF, qf_1] at hR fR
          rw [hF]
          simp only [n10, if_false]
          exact ⟨⟨trivial, hin, ⟨hin, trivial⟩, trivial, trivial⟩, hR.trans (b_d fR.num).symm⟩
      · have hout : ¬ ((0 : Int64).toInt ≤ a2.toInt ∧ a2.toInt ≤ (1 : Int64).toInt) := by
          intro g
          have t0 : (0 : Int64).toInt = 0 := rfl
          have t1 : (1 : Int64).toInt = 1 := rfl
          have n0 : a2.toInt ≠ 0 := fun q => c0 (Int32.toInt_inj.mp q)
          have n1 : a2.toInt ≠ 1 := fun q => c1 (Int32.toInt_inj.mp q)
          omega
        simp only [if_neg c1, if_neg hout, z00, if_true]
        exact ⟨⟨trivial, s1, trivial⟩, ⟨trivial, trivial⟩, (by trivial)⟩
  · rw [e1, e2, om_n, om_n]
    simp only [z00, if_true]
    exact ⟨⟨trivial, s1, trivial⟩, ⟨trivial, trivial⟩, (by trivial)⟩
theorem ok_pulls (h : rl k o m) (a1 : Int32) : sX7_pulls o a1 ∧ sX8_pulls m a1 ∧ jX7_pulls o a1 = jX8_pulls m a1 := by
  unfold sX7_pulls jX7_pulls sX8_pulls jX8_pulls
  obtain ⟨s1, ⟨i, hi, rfl, e1, e2⟩ | ⟨e1, e2⟩⟩ := va_c h.1.2.1 a1
  · obtain ⟨-, -, -, -, hC, -⟩ := h.1.2.1.2.2 i hi
    have h20 : i < 20 := Nat.lt_of_lt_of_le hi h.1.2.1.1
    rw [e1, e2, om_s, om_s, nI_clamp (by omega)]
    simp only [n10, if_false]
    exact ⟨⟨trivial, s1, hi, trivial⟩, ⟨trivial, nI_in h20 (by decide), trivial⟩, hC⟩
  · rw [e1, e2, om_n, om_n]
    simp only [z00, if_true]
    exact ⟨⟨trivial, s1, trivial⟩, ⟨trivial, trivial⟩, (by trivial)⟩
theorem ok_seen (h : rl k o m) : jX7_seen o = jX8_seen m := h.1.2.2.2.2.1
theorem ok_failed (h : rl k o m) : jX7_failed o = jX8_failed m := h.2
theorem ok_about (h : rl k o m) (a1 : Int32) : sX7_about o a1 ∧ sX8_about m a1 ∧ jX7_about o a1 = jX8_about m a1 := by
  unfold sX7_about jX7_about sX8_about jX8_about sX7_about_y3 jX7_about_y3
  by_cases c0 : a1 = 0
  · simp only [if_pos c0]
    exact ⟨⟨trivial, trivial⟩, ⟨trivial, trivial⟩, h.1.1.2.1.symm⟩
  · simp only [if_neg c0]
    by_cases c1 : a1 = 1
    · simp only [if_pos c1]
      exact ⟨⟨trivial, trivial⟩, ⟨trivial, trivial⟩, h.1.2.1.2.1.symm⟩
    · rw [in_c]
      simp only [if_neg c1]
      have t2 : (2 : Int64).toInt = 2 := rfl
      have t6 : (6 : Int64).toInt = 6 := rfl
      rcases rg_c (a1 - 2) (n := 5) (by decide) with ⟨j, hj, ej⟩ | g
      · have ea : a1 = nI (2 + j) := by
          rw [← nI_add, ← ej]
          show a1 = (2 : Int32) + (a1 - 2)
          rw [Int32.add_comm, Int32.sub_add_cancel]
        have g5 : ¬ (5 : Int32) ≤ nI j := nI_ge (b := 5) (by omega) (by decide)
        rw [ej, nI_clamp (by omega), ea, nI_toInt (by omega), t2, t6]
        simp only [if_neg (nI_pos (n := j) (by omega)), if_neg g5, if_pos (show (2 : Int) ≤ ((2 + j : Nat) : Int) ∧ ((2 + j : Nat) : Int) ≤ 6 by omega), n10, if_false]
        exact ⟨⟨trivial, trivial, nI_in (by omega) (by decide), trivial⟩, ⟨trivial, nI_in (by omega) (by decide), trivial⟩, h.1.2.2.2.2.2 j hj⟩
      · have hout : ¬ ((2 : Int64).toInt ≤ a1.toInt ∧ a1.toInt ≤ (6 : Int64).toInt) := by
          intro q
          have e : a1 = nI a1.toInt.toNat := Int32.toInt_inj.mp (by rw [nI_toInt (by omega)]; omega)
          have e2 : a1 - 2 = nI (a1.toInt.toNat - 2) := by
            conv => lhs; rw [e]
            rw [show a1.toInt.toNat = (a1.toInt.toNat - 2) + 2 by omega, ← nI_add]
            show nI (a1.toInt.toNat - 2) + 2 - 2 = _
            rw [Int32.add_sub_cancel]
            congr 1
          rw [e2, nI_toInt (by omega)] at g
          omega
        have hz : (if a1 - 2 < 0 then (-102 : Int32) else (if (5 : Int32) ≤ a1 - 2 then (-102 : Int32) else (c_cn o (a1 - 2).toNatClampNeg))) = -102 ∧ (if a1 - 2 < 0 then True else (if (5 : Int32) ≤ a1 - 2 then True else (vp_in (a1 - 2) 5 ∧ True))) := by
          rcases g with g | g
          · rw [if_pos (ltz_i g), if_pos (ltz_i g)]; exact ⟨rfl, trivial⟩
          · have q : ¬ a1 - 2 < 0 := fun q => by have := Int32.lt_iff_toInt_lt.mp q; have e : (0 : Int32).toInt = 0 := rfl; omega
            have q5 : (5 : Int32) ≤ a1 - 2 := le_n (n := 5) (by decide) g
            rw [if_neg q, if_neg q, if_pos q5, if_pos q5]; exact ⟨rfl, trivial⟩
        rw [hz.1]
        simp only [if_neg hout, z00, if_true]
        exact ⟨⟨trivial, trivial, hz.2⟩, ⟨trivial, trivial⟩, (by trivial)⟩
theorem ok_fit (h : rl k o m) (a1 a2 : Int32) : sX7_fit o a1 a2 ∧ sX8_fit m a1 a2 ∧ (jX7_fit o a1 a2).1 = (jX8_fit m a1 a2).1 ∧ rl k (jX7_fit o a1 a2).2 (jX8_fit m a1 a2).2 := by
  have up : ∀ j, j < 6 → ∀ (x : Option Nat) (y : Int32), sK (c_nv o) x y → rl k (t_sl o (va_up (c_sl o) j x)) (s_slots m (upd (m_slots m) j y)) := by
    intro j hj x y hxy
    obtain ⟨⟨hD, hV, hS, hR, hT⟩, hF⟩ := h
    refine ⟨⟨hD, hV, ⟨fun q hq => ?_, hS.2⟩, hR, hT⟩, hF⟩
    show sK (c_nv o) (va_up (c_sl o) j x q) (upd (m_slots m) j y q)
    by_cases e : q = j
    · subst e; rw [up_eq, ui_eq]; exact hxy
    · rw [up_ne e, ui_ne e]; exact hS.1 q hq
  unfold sX7_fit jX7_fit sX8_fit jX8_fit
  obtain ⟨s1, ⟨i, hi, rfl, e1, e2⟩ | ⟨e1, e2⟩⟩ := va_c h.1.2.1 a2
  · have h20 : i < 20 := Nat.lt_of_lt_of_le hi h.1.2.1.1
    have hne : ¬ nI i = (-1 : Int32) := fun q => by
      have := congrArg Int32.toInt q
      rw [nI_toInt (by omega)] at this
      have e : (-1 : Int32).toInt = -1 := rfl
      omega
    rw [e1, e2, om_s, om_s]
    rcases sl_c a1 with ⟨j, hj, rfl, q1, q2⟩ | ⟨q1, q2⟩
    · rw [q1, q2, nI_clamp (by omega)]
      simp only [n10, if_false, if_neg hne]
      have hin : vp_in (nI j) 6 := nI_in hj (by decide)
      exact ⟨⟨trivial, s1, hin, hi, trivial⟩, ⟨trivial, hin, trivial⟩, (by trivial), up j hj _ _ (Or.inr ⟨i, (by trivial), hi, (by trivial)⟩)⟩
    · rw [q1, q2]
      simp only [z00, if_true]
      exact ⟨⟨trivial, s1, trivial⟩, ⟨trivial, trivial⟩, (by trivial), h⟩
  · rw [e1, e2, om_n, om_n]
    rcases sl_c a1 with ⟨j, hj, rfl, q1, q2⟩ | ⟨q1, q2⟩
    · have hin : vp_in (nI j) 6 := nI_in hj (by decide)
      rw [q1, q2, nI_clamp (by omega)]
      simp only [n10, if_false]
      by_cases c : a2 = -1
      · simp only [if_pos c]
        exact ⟨⟨trivial, s1, hin, trivial⟩, ⟨trivial, hin, trivial⟩, (by trivial), up j hj _ _ (Or.inl ⟨rfl, c⟩)⟩
      · simp only [if_neg c, z00, if_true]
        exact ⟨⟨trivial, s1, trivial⟩, ⟨trivial, trivial⟩, (by trivial), h⟩
    · rw [q1, q2]
      simp only [z00, if_true]
      exact ⟨⟨trivial, s1, trivial⟩, ⟨trivial, trivial⟩, (by trivial), h⟩
theorem nI_4 (s j : Nat) : nI s * (4 : Int32) + nI j = nI (4 * s + j) := by
  rw [← nI_add]
  congr 1
  rw [Int32.mul_comm]
  exact (Int32.ofNat_mul 4 s).symm
theorem nI_4' (s j : Nat) : (4 : Int32) * nI s + nI j = nI (4 * s + j) := by
  rw [← nI_add]
  congr 1
  exact (Int32.ofNat_mul 4 s).symm
theorem ok_laid (h : rl k o m) (a1 a2 : Int32) : sX7_laid o a1 a2 ∧ sX8_laid m a1 a2 ∧ (jX7_laid o a1 a2).1 = (jX8_laid m a1 a2).1 ∧ rl k (jX7_laid o a1 a2).2 (jX8_laid m a1 a2).2 := by
  unfold sX7_laid jX7_laid sX8_laid jX8_laid
  rcases sf_c a1 with ⟨s, hs, rfl, q1, q2⟩ | ⟨q1, q2⟩
  · rw [q1, q2]
    simp only [n10, if_false]
    rcases sp_c a2 with ⟨j, hj, rfl, p1, p2⟩ | ⟨p1, p2⟩
    · rw [p1, p2, nI_4, nI_4', nI_clamp (by omega)]
      simp only [n10, if_false]
      have hin : vp_in (nI (4 * s + j)) 8 := nI_in (by omega) (by decide)
      rcases h.1.2.2.1.2 (4 * s + j) (by omega) with ⟨u1, u2⟩ | ⟨d, u1, u2, u3⟩
      · rw [u1, u2, om_n, om_n]
        exact ⟨⟨trivial, hin, trivial⟩, ⟨trivial, hin, trivial⟩, (by trivial), done_ok h.1 _⟩
      · rw [u1, u3, om_s, om_s]
        exact ⟨⟨trivial, hin, u2, trivial⟩, ⟨trivial, hin, trivial⟩, (by trivial), done_ok h.1 _⟩
    · obtain ⟨b1, b2, b3, b4, b5⟩ := fail_ok h.1 (v := -12) (j := 1) (by decide) (by decide)
      rw [p1, p2]
      simp only [z00, if_true]
      exact ⟨⟨trivial, b1, trivial⟩, ⟨trivial, b2, trivial⟩, b3.trans b4.symm, b5⟩
  · rw [q1, q2]
    simp only [z00, if_true]
    exact ⟨⟨trivial, trivial⟩, ⟨trivial, trivial⟩, (by trivial), h⟩
end PU
