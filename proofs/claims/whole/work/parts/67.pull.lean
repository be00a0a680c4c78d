/-! a drive pulls -/
section PL
variable {k i d : Nat} {o : Os} {m : Ms}
theorem hl_tail (h : r0 k o m) (hi : i < c_nd o) {F : UInt64} (nF : nN 1 F.toNat) {y : Int64} (hy : y = jX4_ofReal (1 : Int32) (c_dF o i) (xb 1 F.toNat)) :
    (True ∧ (if (jX4_isFit (c_dF o i) y) = 0 then True else (sX1_turnBy o i y ∧ (if ((jX1_turnBy o i y).1) = 0 then True else True)))) ∧
    (True ∧ (if (jX8_isEndless F) = 0 then (vp_in (nI i) 12 ∧ (if (m_isFine m i) = 0 then (vf_n32 (FP.d2f F) ∧ (True ∧ (if (jX8_isEndlessFloat (FP.d2f F)) = 0 then (sX8_goesFloat m (nI i) (FP.d2f F) ∧ (True ∧ (if ((jX8_goesFloat m (nI i) (FP.d2f F)).1) = 0 then True else True))) else True))) else (sX8_goesDouble m (nI i) F ∧ True))) else True)) ∧
    ∃ (r : Int32) (o' : Os) (m' : Ms), (if (jX4_isFit (c_dF o i) y) = 0 then ((0 : Int32), o) else (if ((jX1_turnBy o i y).1) = 0 then ((0 : Int32), (jX1_turnBy o i y).2) else ((1 : Int32), (jX1_turnBy o i y).2))) = (r, o') ∧
      (if (jX8_isEndless F) = 0 then (if (m_isFine m i) = 0 then (if (jX8_isEndlessFloat (FP.d2f F)) = 0 then (if ((jX8_goesFloat m (nI i) (FP.d2f F)).1) = 0 then ((0 : Int32), (jX8_goesFloat m (nI i) (FP.d2f F)).2) else ((1 : Int32), (jX8_goesFloat m (nI i) (FP.d2f F)).2)) else ((0 : Int32), m)) else ((jX8_goesDouble m (nI i) F).1, (jX8_goesDouble m (nI i) F).2)) else ((0 : Int32), m)) = (r, m') ∧ (r = 0 ∨ r = 1) ∧ r0 k o' m' ∧ keeps o o' m m' := by
  obtain ⟨hb, hg, -⟩ := h.1.2.2 i hi
  have h12 : i < 12 := Nat.lt_of_lt_of_le hi h.1.1
  have hin : vp_in (nI i) 12 := nI_in h12 (by decide)
  have ey : y = xb (c_dF o i) (Jvm.FP.Core.convert (fF 1) (fF (c_dF o i)) F.toNat) := by
    rw [hy, o_real 1 (c_dF o i) nF.1 nF.2]
  have nc := a_conv (c_dF o i) nF
  have ef : jX4_isFit (c_dF o i) y = if Jvm.FP.Core.convert (fF 1) (fF (c_dF o i)) F.toNat % 2 ^ hN (c_dF o i) < iN (c_dF o i) then 1 else 0 := by
    rw [ey, x_fit _ nc.1]
  rw [hg, e_d nF]
  by_cases gF : F.toNat % 2 ^ hN 1 < iN 1
  · simp only [if_pos gF, z00, if_true]
    rcases hb with hF | hF
    · rw [hF] at ey nc ef ⊢
      have e2 := n_d2f nF
      rw [← e2] at ey nc ef
      simp only [z00, if_true]
      rw [ef, e_f nc]
      by_cases gf : (FP.d2f F).toNat % 2 ^ hN 0 < iN 0
      · simp only [if_pos gf, n10, z00, if_false, if_true]
        obtain ⟨a1, a2, a3, a4, a5⟩ := turn_F h hi hF (x := FP.d2f F) ⟨nc.1, gf⟩
        rw [← ey] at a1 a3 a4 a5
        rw [a3]
        by_cases q : (jX8_goesFloat m (nI i) (FP.d2f F)).1 = 0
        · simp only [if_pos q]
          exact ⟨⟨trivial, a1, trivial⟩, ⟨trivial, hin, nn_32 nc, trivial, a2, trivial, trivial⟩, 0, _, _, rfl, rfl, Or.inl rfl, a4, a5⟩
        · simp only [if_neg q]
          exact ⟨⟨trivial, a1, trivial⟩, ⟨trivial, hin, nn_32 nc, trivial, a2, trivial, trivial⟩, 1, _, _, rfl, rfl, Or.inr rfl, a4, a5⟩
      · simp only [if_neg gf, n10, z00, if_false, if_true]
        exact ⟨⟨trivial, trivial⟩, ⟨trivial, hin, nn_32 nc, trivial, trivial⟩, 0, _, _, rfl, rfl, Or.inl rfl, h, rfl, rfl, rfl⟩
    · rw [hF] at ey nc ef ⊢
      rw [c_id nF] at ey nc ef
      simp only [n10, if_false]
      rw [ef]
      simp only [if_pos gF, n10, if_false]
      obtain ⟨a1, a2, a3, a4, a5⟩ := turn_D h hi hF (x := F) ⟨nF.1, gF⟩
      rw [← ey] at a1 a3 a4 a5
      have hb := bX8_goesDouble m (nI i) F
      rw [a3]
      by_cases q : (jX8_goesDouble m (nI i) F).1 = 0
      · simp only [if_pos q]
        exact ⟨⟨trivial, a1, trivial⟩, ⟨trivial, hin, a2, trivial⟩, 0, _, _, rfl, by rw [q], Or.inl rfl, a4, a5⟩
      · simp only [if_neg q]
        have q1 := hb.resolve_left q
        exact ⟨⟨trivial, a1, trivial⟩, ⟨trivial, hin, a2, trivial⟩, 1, _, _, rfl, by rw [q1], Or.inr rfl, a4, a5⟩
  · have hi2 : F.toNat % 2 ^ hN 1 = iN 1 := Nat.le_antisymm nF.2 (Nat.not_lt.mp gF)
    have hn := c_inf (c_dF o i) nF.1 hi2
    rw [ef]
    simp only [if_neg gF, if_neg hn, n10, z00, if_true, if_false]
    exact ⟨⟨trivial, trivial⟩, ⟨trivial, trivial⟩, 0, _, _, rfl, rfl, Or.inl rfl, h, rfl, rfl, rfl⟩
theorem up_V (h : r0 k o m) (hd : d < c_nv o) : r0 (k + 1) (t_vC o (va_up (c_vC o) d (c_vC o d + 1))) (s_pulled m (upd (m_pulled m) d (m_pulled m d + 1))) := by
  obtain ⟨hD, ⟨h1, h2, h3⟩, hS, hR, hT⟩ := h
  refine ⟨hD, ⟨h1, h2, fun j hj => ?_⟩, hS, hR, hT⟩
  show vK (k + 1) (c_vS o j) (m_sortOf m j) (c_vP o j) (m_pullOf m j) (c_vG o j) (m_gearOf m j) (va_up (c_vC o) d (c_vC o d + 1) j) (upd (m_pulled m) d (m_pulled m d + 1) j)
  have hv := h3 j hj
  by_cases e : j = d
  · subst e
    rw [up_eq, ui_eq]
    obtain ⟨d1, d2, d3, d4, d5, n, d6, d7⟩ := hv
    refine ⟨d1, d2, d3, d4, by rw [d5], n + 1, by rw [d6, nI_1], by omega⟩
  · rw [up_ne e, ui_ne e]
    exact hv.more (by omega)
theorem sub_ng {P X : Nat} (hX : fN 1 X) : Jvm.FP.Core.add (fF 1) P (ngN X) = Jvm.FP.Core.sub (fF 1) P X := by
  unfold Jvm.FP.Core.add Jvm.FP.Core.sub
  rw [ng_dec hX.1 hX.2]
theorem ng_fit {X : Nat} (hX : fN 1 X) : fN 1 (ngN X) := by
  have h64 : X < 2 ^ 64 := by have := hX.1; rw [p_1] at this; omega
  refine ⟨?_, by rw [ng_mod X h64]; exact hX.2⟩
  have := (o_neg h64).2
  rw [p_1]
  omega
/-- what the drive pulls by, in the class and in the reference -/
theorem force_ok (h : r0 k o m) (hi : i < c_nd o) (hd : d < c_nv o) (hk : k ≤ 2048) : sX2_force o d (jX4_ofReal (c_dF o i) (1 : Int32) (c_dP o i)) ∧
    ∃ (A B F : UInt64), nN 1 F.toNat ∧ jX2_force o d (jX4_ofReal (c_dF o i) (1 : Int32) (c_dP o i)) = xb 1 F.toNat ∧ nN 1 A.toNat ∧ nN 1 B.toNat ∧
      (((if (m_sortOf m d) = 0 then (vp_in (nI i) 12 ∧ (if (m_isFine m i) = 0 then (vp_in (nI i) 12 ∧ (vf_n64 (FP.f2d (m_placeF m i)) ∧ (vf_n64 (FP.dsub (m_pullOf m d) (FP.f2d (m_placeF m i))) ∧ True))) else (vp_in (nI i) 12 ∧ (vf_n64 (FP.dsub (m_pullOf m d) (m_placeD m i)) ∧ True)))) else (vp_in (nI d) 20 ∧ (vf_n64 (FP.dmul (m_pullOf m d) (FP.i2d (m_gearOf m d))) ∧ True)))) ∧
       ((if (m_sortOf m d) = (2 : Int32) then (vp_in (nI d) 20 ∧ (vf_n64 (FP.dmul (m_pullOf m d) (FP.i2d (m_pulled m d))) ∧ True)) else True))) ∧
      (if (m_sortOf m d) = 0 then (if (m_isFine m i) = 0 then (FP.dsub (m_pullOf m d) (FP.f2d (m_placeF m i))) else (FP.dsub (m_pullOf m d) (m_placeD m i))) else (FP.dmul (m_pullOf m d) (FP.i2d (m_gearOf m d)))) = A ∧
      (if (m_sortOf m d) = (2 : Int32) then (FP.dmul (m_pullOf m d) (FP.i2d (m_pulled m d))) else FP.dconst0) = B ∧
      ((jX8_isEndless A = 0 ∧ jX8_isEndless B = 0 ∧ (if (m_sortOf m d) = (2 : Int32) then (vf_n64 (FP.dadd A B) ∧ True) else True) ∧ (if (m_sortOf m d) = (2 : Int32) then (FP.dadd A B) else A) = F) ∨ (jX8_isEndless A = 0 ∧ ¬ jX8_isEndless B = 0 ∧ ¬ jX8_isEndless F = 0) ∨ (¬ jX8_isEndless A = 0 ∧ ¬ jX8_isEndless F = 0)) := by
  obtain ⟨hb, hg, -, ⟨hP, fP⟩, -⟩ := h.1.2.2 i hi
  obtain ⟨v1, v2, ⟨v3, v4⟩, ⟨v5, v6⟩, v7, n, v8, v9⟩ := h.2.1.2.2 d hd
  have h12 : i < 12 := Nat.lt_of_lt_of_le hi h.1.1
  have hin : vp_in (nI i) 12 := nI_in h12 (by decide)
  have h20 : d < 20 := Nat.lt_of_lt_of_le hd h.2.1.1
  have hin2 : vp_in (nI d) 20 := nI_in h20 (by decide)
  -- the place as a double
  have hpl : ∃ Q : UInt64, fN 1 Q.toNat ∧ jX4_ofReal (c_dF o i) (1 : Int32) (c_dP o i) = xb 1 Q.toNat ∧ (if (m_isFine m i) = 0 then (FP.dsub (m_pullOf m d) (FP.f2d (m_placeF m i))) else (FP.dsub (m_pullOf m d) (m_placeD m i))) = FP.dsub (m_pullOf m d) Q ∧ (c_dF o i = 0 → Q = FP.f2d (m_placeF m i)) ∧ (c_dF o i = 1 → Q = m_placeD m i) := by
    rw [hg, hP, o_real _ 1 fP.1 fP.num.2]
    rcases hb with hF | hF
    · rw [hF, qf_0] at fP ⊢
      have e := n_f2d fP.num
      refine ⟨FP.f2d (m_placeF m i), by rw [e]; exact a_wide fP, by rw [e], by simp only [z00, if_true], fun _ => rfl, fun q => absurd q (by decide)⟩
    · rw [hF, qf_1] at fP ⊢
      rw [c_id fP.num]
      exact ⟨m_placeD m i, fP, rfl, by simp only [n10, if_false], fun q => absurd q (by decide), fun _ => rfl⟩
  obtain ⟨Q, fQ, eQ, eM, q0, q1⟩ := hpl
  rw [eQ]
  have hz : nN 1 FP.dconst0.toNat := ⟨by decide +kernel, by decide +kernel⟩
  have hz0 : jX8_isEndless FP.dconst0 = 0 := by rw [e_d hz]; decide +kernel
  have hmul : ∀ g : Int32, nN 1 (FP.dmul (m_pullOf m d) (FP.i2d g)).toNat ∧ (g.toInt.natAbs ≤ 2048 → jX4_timesInt (c_vP o d) g = xb 1 (FP.dmul (m_pullOf m d) (FP.i2d g)).toNat) := by
    intro g
    have fg : fN 1 (FP.i2d g).toNat := by rw [n_i2d]; exact a_i32 g
    have e := n_dmul v4 fg
    rw [n_i2d] at e
    rw [e]
    refine ⟨by rw [← n_i2d]; exact a_mul v4 fg, fun hg => ?_⟩
    rw [v3, o_times v4.1 v4.2 hg]
  unfold sX2_force jX2_force
  rcases (show c_vS o d = 0 ∨ c_vS o d = 1 ∨ c_vS o d = 2 by omega) with hs | hs | hs
  · rw [hs] at v2
    rw [v2, hs]
    simp only [if_pos (show nI 0 = 0 from rfl), if_neg (show ¬ nI 0 = (2 : Int32) by decide), if_true]
    unfold sX6_forceAt jX6_forceAt
    have e64 : Q.toNat < 2 ^ 64 := Q.toNat_lt
    rw [eM, v3, (o_neg e64).1, o_sum 1 v4.1 (ng_fit fQ).1 v4.2 (ng_fit fQ).2, sub_ng fQ, ← n_dsub v4 fQ]
    have nA : nN 1 (FP.dsub (m_pullOf m d) Q).toNat := by rw [n_dsub v4 fQ]; exact a_sub v4 fQ
    refine ⟨⟨trivial, trivial, hd, hs, trivial⟩, _, FP.dconst0, _, nA, rfl, nA, hz, ⟨⟨hin, ?_⟩, trivial⟩, rfl, rfl, ?_⟩
    · rw [hg]
      rcases hb with hF | hF
      · rw [hF]
        simp only [z00, if_true]
        rw [← q0 hF]
        exact ⟨hin, nn_64 fQ.num, nn_64 nA, trivial⟩
      · rw [hF]
        simp only [n10, if_false]
        rw [← q1 hF]
        exact ⟨hin, nn_64 nA, trivial⟩
    · by_cases g : jX8_isEndless (FP.dsub (m_pullOf m d) Q) = 0
      · exact Or.inl ⟨g, hz0, trivial, rfl⟩
      · exact Or.inr (Or.inr ⟨g, g⟩)
  · rw [hs] at v2
    rw [v2, hs]
    simp only [if_neg (show ¬ nI 1 = 0 by decide), if_neg (show ¬ nI 1 = (2 : Int32) by decide), if_neg (show ¬ (1 : Nat) = 0 by decide), if_true]
    unfold sX0_forceAt jX0_forceAt
    obtain ⟨nA, eA⟩ := hmul (m_gearOf m d)
    rw [v5, eA (by omega)]
    refine ⟨⟨trivial, trivial, hd, by omega, hs, trivial⟩, _, FP.dconst0, _, nA, rfl, nA, hz, ⟨⟨hin2, nn_64 nA, trivial⟩, trivial⟩, rfl, rfl, ?_⟩
    by_cases g : jX8_isEndless (FP.dmul (m_pullOf m d) (FP.i2d (m_gearOf m d))) = 0
    · exact Or.inl ⟨g, hz0, trivial, rfl⟩
    · exact Or.inr (Or.inr ⟨g, g⟩)
  · rw [hs] at v2
    rw [v2, hs]
    simp only [if_neg (show ¬ nI 2 = 0 by decide), if_pos (show nI 2 = (2 : Int32) from rfl), if_neg (show ¬ (2 : Nat) = 0 by decide), if_neg (show ¬ (2 : Nat) = 1 by decide)]
    obtain ⟨nA, eA⟩ := hmul (m_gearOf m d)
    obtain ⟨nB, eB⟩ := hmul (m_pulled m d)
    have hn2 : (m_pulled m d).toInt.natAbs ≤ 2048 := by rw [v8, nI_toInt (by omega)]; omega
    unfold sX3_forceAt jX3_forceAt sX3_forceAt_y4 jX3_forceAt_y4 sX3_forceAt_y6 jX3_forceAt_y6
    rw [v5, eA (by omega), v7, eB hn2]
    generalize FP.dmul (m_pullOf m d) (FP.i2d (m_gearOf m d)) = A at nA
    generalize FP.dmul (m_pullOf m d) (FP.i2d (m_pulled m d)) = B at nB
    have fA := x_fit 1 nA.1
    have fB := x_fit 1 nB.1
    have eA := e_d nA
    have eB := e_d nB
    rw [fA, fB]
    by_cases gA : A.toNat % 2 ^ hN 1 < iN 1
    · rw [if_pos gA] at eA
      simp only [if_pos gA, n10, if_false]
      by_cases gB : B.toNat % 2 ^ hN 1 < iN 1
      · rw [if_pos gB] at eB
        simp only [if_pos gB, n10, if_false]
        have nF : nN 1 (FP.dadd A B).toNat := by rw [n_dadd ⟨nA.1, gA⟩ ⟨nB.1, gB⟩]; exact a_add ⟨nA.1, gA⟩ ⟨nB.1, gB⟩
        refine ⟨⟨trivial, trivial, hd, by omega, by omega, trivial, trivial, trivial⟩, A, B, FP.dadd A B, nF, ?_, nA, nB, ⟨⟨hin2, nn_64 nA, trivial⟩, hin2, nn_64 nB, trivial⟩, rfl, rfl, Or.inl ⟨eA, eB, ⟨nn_64 nF, trivial⟩, rfl⟩⟩
        rw [o_sum 1 nA.1 nB.1 gA gB, ← n_dadd ⟨nA.1, gA⟩ ⟨nB.1, gB⟩]
      · rw [if_neg gB] at eB
        simp only [if_neg gB, z00, if_true]
        refine ⟨⟨trivial, trivial, hd, by omega, by omega, trivial, trivial, trivial⟩, A, B, B, nB, rfl, nA, nB, ⟨⟨hin2, nn_64 nA, trivial⟩, hin2, nn_64 nB, trivial⟩, rfl, rfl, Or.inr (Or.inl ⟨eA, by rw [eB]; decide, by rw [eB]; decide⟩)⟩
    · rw [if_neg gA] at eA
      simp only [if_neg gA, z00, if_true]
      refine ⟨⟨trivial, trivial, hd, by omega, by omega, trivial, trivial⟩, A, B, A, nA, rfl, nA, nB, ⟨⟨hin2, nn_64 nA, trivial⟩, hin2, nn_64 nB, trivial⟩, rfl, rfl, Or.inr (Or.inr ⟨by rw [eA]; decide, by rw [eA]; decide⟩)⟩
theorem hauls_ok (h : r0 k o m) (hi : i < c_nd o) (hd : d < c_nv o) (hk : k ≤ 2048) : sX2_pullAt o d i ∧ sX8_hauls m (nI d) (nI i) ∧ (jX2_pullAt o d i).1 = (jX8_hauls m (nI d) (nI i)).1 ∧ r0 (k + 1) (jX2_pullAt o d i).2 (jX8_hauls m (nI d) (nI i)).2 ∧ keeps o (jX2_pullAt o d i).2 m (jX8_hauls m (nI d) (nI i)).2 := by
  obtain ⟨f0, A, B, F, nF, eF, nA, nB, ⟨sA, sB⟩, eA, eB, hc⟩ := force_ok h hi hd hk
  obtain ⟨t1, t2, r, o', m', e1, e2, hr, h', kp⟩ := hl_tail (up_V h hd) hi nF (y := _) rfl
  have h12 : i < 12 := Nat.lt_of_lt_of_le hi h.1.1
  have h20 : d < 20 := Nat.lt_of_lt_of_le hd h.2.1.1
  have hin2 : vp_in (nI d) 20 := nI_in h20 (by decide)
  unfold sX2_pullAt jX2_pullAt
  rw [eF]
  unfold sX2_pullAt_y4 jX2_pullAt_y4 sX2_pullAt_y5 jX2_pullAt_y5
  rw [e1]
  refine ⟨⟨trivial, hi, hd, f0, trivial, t1⟩, ?_⟩
  unfold sX8_hauls jX8_hauls sX8_hauls_y2 jX8_hauls_y2 sX8_hauls_y4 jX8_hauls_y4
  rw [nI_clamp (by omega), nI_clamp (by omega), eA, eB]
  unfold sX8_hauls_y16 jX8_hauls_y16
  rw [nI_clamp (by omega)]
  have es : m_sortOf (s_pulled m (upd (m_pulled m) d (m_pulled m d + 1))) d = m_sortOf m d := rfl
  rw [es]
  rcases hc with ⟨c1, c2, c3, c4⟩ | ⟨c1, c2, c3⟩ | ⟨c1, c2⟩
  · rw [if_pos c1, if_pos c2, if_pos c1, if_pos c2, c4]
    unfold sX8_hauls_y25 jX8_hauls_y25 sX8_hauls_y32 jX8_hauls_y32 sX8_hauls_o35 jX8_hauls_o35
    rw [nI_clamp (by omega), nI_clamp (by omega), e2]
    exact ⟨⟨trivial, hin2, trivial, hin2, sA, trivial, hin2, sB, trivial, hin2, hin2, hin2, c3, t2⟩, rfl, h', kp⟩
  · rw [if_neg c3] at e2
    rw [if_pos c1, if_neg c2, if_pos c1, if_neg c2, e2]
    exact ⟨⟨trivial, hin2, trivial, hin2, sA, trivial, hin2, sB, trivial, hin2, hin2, trivial⟩, rfl, h', kp⟩
  · rw [if_neg c2] at e2
    rw [if_neg c1, if_neg c1, e2]
    exact ⟨⟨trivial, hin2, trivial, hin2, sA, trivial, hin2, sB, trivial, hin2, hin2, trivial⟩, rfl, h', kp⟩
theorem ne_m1 {j : Nat} (h : j < 2147483648) : ¬ nI j = (-1 : Int32) := fun q => by
  have := congrArg Int32.toInt q
  rw [nI_toInt (by omega)] at this
  have e : (-1 : Int32).toInt = -1 := rfl
  omega
/-- pull -/
theorem ok_pull (h : rl k o m) (hk : k ≤ 2048) (a1 a2 : Int32) : sX7_pull o a1 a2 ∧ sX8_pull m a1 a2 ∧ (jX7_pull o a1 a2).1 = (jX8_pull m a1 a2).1 ∧ rl (k + 1) (jX7_pull o a1 a2).2 (jX8_pull m a1 a2).2 := by
  have hm := h.more (show k ≤ k + 1 by omega)
  unfold sX7_pull jX7_pull sX8_pull jX8_pull
  obtain ⟨s1, ⟨i, hi, rfl, e1, e2⟩ | ⟨e1, e2⟩⟩ := da_c h.1.1 a2
  · rw [e1, e2, om_s, om_s]
    rcases sl_c a1 with ⟨j, hj, rfl, q1, q2⟩ | ⟨q1, q2⟩
    · have hin : vp_in (nI j) 6 := nI_in hj (by decide)
      rw [q1, q2, nI_clamp (by omega)]
      simp only [n10, if_false]
      unfold sX8_pull_y5 jX8_pull_y5
      rw [nI_clamp (by omega)]
      unfold sX8_pullCause jX8_pullCause
      rcases h.1.2.2.1.1 j hj with ⟨u1, u2⟩ | ⟨d, u1, u2, u3⟩
      · rw [u1, u2, om_n, om_n]
        obtain ⟨b1, b2, b3, b4, b5⟩ := fail_ok hm.1 (v := -11) (j := 0) (by decide) (by decide)
        simp only [if_true, if_neg (show ¬ (-11 : Int32) = 0 by decide)]
        exact ⟨⟨trivial, s1, hin, b1, trivial⟩, ⟨trivial, hin, ⟨trivial, trivial⟩, trivial, b2, trivial⟩, b3.trans b4.symm, b5⟩
      · have h20 : d < 20 := Nat.lt_of_lt_of_le u2 h.1.2.1.1
        rw [u1, u3, om_s, om_s]
        simp only [if_neg (ne_m1 (show d < 2147483648 by omega))]
        obtain ⟨a1', a2', a3, a4, -⟩ := hauls_ok h.1 hi u2 hk
        rw [a3]
        by_cases q : (jX8_hauls m (nI d) (nI i)).1 = 0
        · obtain ⟨b1, b2, b3, b4, b5⟩ := fail_ok a4 (v := -15) (j := 4) (by decide) (by decide)
          simp only [if_pos q, if_neg (show ¬ (-15 : Int32) = 0 by decide)]
          exact ⟨⟨trivial, s1, hin, a1', u2, b1, trivial⟩, ⟨trivial, hin, ⟨trivial, a2', trivial⟩, trivial, b2, trivial⟩, b3.trans b4.symm, b5⟩
        · simp only [if_neg q, z00, if_true]
          exact ⟨⟨trivial, s1, hin, a1', u2, trivial⟩, ⟨trivial, hin, ⟨trivial, a2', trivial⟩, trivial, trivial⟩, rfl, done_ok a4 1⟩
    · rw [q1, q2]
      simp only [z00, if_true]
      exact ⟨⟨trivial, s1, trivial⟩, ⟨trivial, trivial⟩, (by trivial), hm⟩
  · rw [e1, e2, om_n, om_n]
    rcases sl_c a1 with ⟨j, hj, rfl, q1, q2⟩ | ⟨q1, q2⟩
    · rw [q1, q2]
      simp only [z00, n10, if_true, if_false]
      exact ⟨⟨trivial, s1, trivial⟩, ⟨trivial, trivial⟩, (by trivial), hm⟩
    · rw [q1, q2]
      simp only [z00, if_true]
      exact ⟨⟨trivial, s1, trivial⟩, ⟨trivial, trivial⟩, (by trivial), hm⟩
end PL
