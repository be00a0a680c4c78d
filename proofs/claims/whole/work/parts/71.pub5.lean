/-! recall, log -/
section PY
variable {k i : Nat} {o : Os} {m : Ms}
theorem d2f_f2d {F : UInt32} (nF : nN 0 F.toNat) : FP.d2f (FP.f2d F) = F := by
  have e1 : FP.f2d F = Jvm.FP.Core.f2d F := by unfold FP.f2d; rw [nan_f nF]; rfl
  have n1 : nN 1 (FP.f2d F).toNat := by rw [n_f2d nF]; exact a_conv 1 nF
  have e2 : FP.d2f (FP.f2d F) = Jvm.FP.Core.d2f (FP.f2d F) := by unfold FP.d2f; rw [nan_d n1]; rfl
  rw [e2, e1]
  exact Jvm.FP.Core.d2f_f2d (v_32 nF)
theorem up_PF (h : r0 k o m) (hi : i < c_nd o) (hF : c_dF o i = 0) {p : UInt32} (fp : fN 0 p.toNat) : r0 k (t_dP o (va_up (c_dP o) i (xb 0 p.toNat))) (s_placeF m (vf_upd (m_placeF m) i p)) := by
  obtain ⟨⟨h1, h2, h3⟩, hV, hS, hR, hT⟩ := h
  refine ⟨⟨h1, h2, fun j hj => ?_⟩, hV, hS, hR, hT⟩
  show dK (c_dF o j) (m_isFine m j) (c_dR o j) (va_up (c_dP o) i (xb 0 p.toNat) j) (c_dL o j) (m_rimF m j) (vf_upd (m_placeF m) i p j) (m_rimD m j) (m_placeD m j) (m_lapsOf m j)
  have hd := h3 j hj
  by_cases e : j = i
  · subst e
    rw [up_eq, uf_eq]
    obtain ⟨d1, d2, d3, d4, d5⟩ := hd
    refine ⟨d1, d2, d3, ?_, d5⟩
    rw [hF, qf_0]
    exact ⟨rfl, fp⟩
  · rw [up_ne e, uf_ne e]
    exact hd
theorem up_PD (h : r0 k o m) (hi : i < c_nd o) (hF : c_dF o i = 1) {p : UInt64} (fp : fN 1 p.toNat) : r0 k (t_dP o (va_up (c_dP o) i (xb 1 p.toNat))) (s_placeD m (vf_upd (m_placeD m) i p)) := by
  obtain ⟨⟨h1, h2, h3⟩, hV, hS, hR, hT⟩ := h
  refine ⟨⟨h1, h2, fun j hj => ?_⟩, hV, hS, hR, hT⟩
  show dK (c_dF o j) (m_isFine m j) (c_dR o j) (va_up (c_dP o) i (xb 1 p.toNat) j) (c_dL o j) (m_rimF m j) (m_placeF m j) (m_rimD m j) (vf_upd (m_placeD m) i p j) (m_lapsOf m j)
  have hd := h3 j hj
  by_cases e : j = i
  · subst e
    rw [up_eq, uf_eq]
    obtain ⟨d1, d2, d3, d4, d5⟩ := hd
    refine ⟨d1, d2, d3, ?_, d5⟩
    rw [hF, qf_1]
    exact ⟨rfl, fp⟩
  · rw [up_ne e, uf_ne e]
    exact hd
/-- what is recalled, as a double and as the dial's kind -/
theorem rc_ok (h : r0 k o m) (hi : i < c_nd o) {T : UInt64} (nT : nN 1 T.toNat) {y : Int64} (hy : y = xb (c_dF o i) (qf (c_dF o i) (FP.d2f T) T)) (a1 a2 a3 : Int32) (y4 : Int32) (d2 : Nat) (y9 : Int32) :
    sX7_recall_y13 o a1 a2 a3 (nI i) d2 i y9 y ∧ sX8_recall_y6 m a1 a2 a3 (nI i) y4 T ∧ (jX7_recall_y13 o a1 a2 a3 (nI i) d2 i y9 y).1 = (jX8_recall_y6 m a1 a2 a3 (nI i) y4 T).1 ∧ rl k (jX7_recall_y13 o a1 a2 a3 (nI i) d2 i y9 y).2 (jX8_recall_y6 m a1 a2 a3 (nI i) y4 T).2 := by
  obtain ⟨hd, hg, ⟨hR, fR, zR⟩, -, -⟩ := h.1.2.2 i hi
  have h12 : i < 12 := Nat.lt_of_lt_of_le hi h.1.1
  have hin : vp_in (nI i) 12 := nI_in h12 (by decide)
  have nN0 : nN 0 (FP.d2f T).toNat := by rw [n_d2f nT]; exact a_conv 0 nT
  obtain ⟨b1, b2, b3, b4, b5⟩ := fail_ok h (v := -15) (j := 4) (by decide) (by decide)
  unfold sX7_recall_y13 jX7_recall_y13 sX8_recall_y6 jX8_recall_y6 sX8_recall_y12 jX8_recall_y12
  rw [nI_clamp (by omega), hg, e_d nT, e_f nN0]
  rcases hd with hF | hF
  · rw [hF, qf_0] at hy hR fR
    rw [hF, qf_0] at zR
    rw [hF, hy, x_fit 0 nN0.1, hR]
    simp only [z00, if_true]
    by_cases gT : T.toNat % 2 ^ hN 1 < iN 1
    · by_cases gN : (FP.d2f T).toNat % 2 ^ hN 0 < iN 0
      · simp only [if_pos gT, if_pos gN, n10, z00, if_true, if_false]
        have hm : fN 0 (FP.frem (FP.d2f T) (m_rimF m i)).toNat := by rw [n_frem ⟨nN0.1, gN⟩ fR.num zR]; exact a_rem ⟨nN0.1, gN⟩ fR.num zR
        rw [o_rem 0 nN0.1 fR.1 gN fR.num.2 zR, ← n_frem ⟨nN0.1, gN⟩ fR.num zR]
        exact ⟨⟨trivial, trivial⟩, ⟨trivial, nn_32 nN0, trivial, hin, hin, hin, nn_32 hm.num, hin, trivial⟩, dn_eq _ _ _, done_ok (up_PF h hi hF hm) 1⟩
      · simp only [if_pos gT, if_neg gN, n10, z00, if_true, if_false]
        exact ⟨⟨trivial, b1, trivial⟩, ⟨trivial, nn_32 nN0, trivial, hin, b2, trivial⟩, b3.trans b4.symm, b5⟩
    · have hT : T.toNat % 2 ^ hN 1 = iN 1 := Nat.le_antisymm nT.2 (Nat.not_lt.mp gT)
      have gN : ¬ (FP.d2f T).toNat % 2 ^ hN 0 < iN 0 := by rw [n_d2f nT]; exact c_inf 0 nT.1 hT
      simp only [if_neg gT, if_neg gN, n10, z00, if_true, if_false]
      exact ⟨⟨trivial, b1, trivial⟩, ⟨trivial, nn_32 nN0, trivial, b2, trivial⟩, b3.trans b4.symm, b5⟩
  · rw [hF, qf_1] at hy hR fR
    rw [hF, qf_1] at zR
    rw [hF, hy, x_fit 1 nT.1, hR]
    simp only [n10, if_false]
    by_cases gT : T.toNat % 2 ^ hN 1 < iN 1
    · simp only [if_pos gT, n10, z00, if_true, if_false]
      have hm : fN 1 (FP.drem T (m_rimD m i)).toNat := by rw [n_drem ⟨nT.1, gT⟩ fR.num zR]; exact a_rem ⟨nT.1, gT⟩ fR.num zR
      rw [o_rem 1 nT.1 fR.1 gT fR.num.2 zR, ← n_drem ⟨nT.1, gT⟩ fR.num zR]
      exact ⟨⟨trivial, trivial⟩, ⟨trivial, nn_32 nN0, trivial, hin, hin, hin, nn_64 hm.num, hin, trivial⟩, dn_eq _ _ _, done_ok (up_PD h hi hF hm) 1⟩
    · simp only [if_neg gT, n10, z00, if_true, if_false]
      exact ⟨⟨trivial, b1, trivial⟩, ⟨trivial, nn_32 nN0, trivial, b2, trivial⟩, b3.trans b4.symm, b5⟩
theorem ok_recall (h : rl k o m) (a1 a2 a3 a4 : Int32) (hb : a2 = 0 ∨ a2 = 1) : sX7_recall o a1 a2 a3 a4 ∧ sX8_recall m a1 a2 a3 a4 ∧ (jX7_recall o a1 a2 a3 a4).1 = (jX8_recall m a1 a2 a3 a4).1 ∧ rl k (jX7_recall o a1 a2 a3 a4).2 (jX8_recall m a1 a2 a3 a4).2 := by
  unfold sX7_recall jX7_recall sX8_recall jX8_recall
  obtain ⟨s1, ⟨L, c, hL, hc, rfl, ec, e1, e2, e3⟩ | ⟨e1, e2⟩⟩ := ro_c o a1 a2 hb
  · rw [e1, e2, e3, om_s, om_s]
    simp only [n10, if_false]
    obtain ⟨s2, ⟨i, hi, rfl, f1, f2⟩ | ⟨f1, f2⟩⟩ := da_c h.1.1 a4
    · obtain ⟨hd, hg, -⟩ := h.1.1.2.2 i hi
      rw [f1, f2, om_s, om_s]
      simp only [n10, if_false]
      obtain ⟨c1, c2, ⟨j, hj, rfl, c3, c4⟩ | ⟨v, j, hj, hv, hv0, c3, c4⟩⟩ := ca_ok h.1.2.2.2.1 hL hc a3
      · rw [c3, c4]
        unfold sX7_recall_y9 jX7_recall_y9 sX8_recall_y4 jX8_recall_y4
        have hin : vp_in (nI j) 16 := nI_in hj (by decide)
        have hin2 : vp_in (nI (16 * L + j)) 128 := nI_in (by omega) (by decide)
        obtain ⟨r1, r2⟩ := (h.1.2.2.2.1 L hL c hc).2 j hj
        rw [nI_16, nI_clamp (by omega), nI_clamp (by omega)]
        simp only [z00, if_true]
        rcases nb_01 hc with ⟨q1, rfl⟩ | ⟨q1, rfl⟩
        · rw [q1, qf_0] at r1 r2
          rw [ec, q1] at s1 ⊢
          simp only [z00, if_true]
          have nT : nN 1 (FP.f2d (m_floats m (16 * L + j))).toNat := by rw [n_f2d r2]; exact a_conv 1 r2
          have hy : jX4_ofReal 0 (c_dF o i) (c_rP o (2 * L + 0) j) = xb (c_dF o i) (qf (c_dF o i) (FP.d2f (FP.f2d (m_floats m (16 * L + j)))) (FP.f2d (m_floats m (16 * L + j)))) := by
            rw [r1, o_real 0 _ r2.1 r2.2, d2f_f2d r2]
            rcases hd with hF | hF
            · rw [hF, qf_0, c_id r2]
            · rw [hF, qf_1, n_f2d r2]
          obtain ⟨t1, t2, t3, t4⟩ := rc_ok h.1 hi nT hy (nI L) 0 (nI j) 0 (2 * L + 0) 0
          exact ⟨⟨trivial, s1, s2, c1, by omega, trivial, hi, hin, t1⟩, ⟨trivial, c2, trivial, ⟨hin2, nn_64 nT, trivial⟩, t2⟩, t3, t4⟩
        · rw [q1, qf_1] at r1 r2
          rw [ec, q1] at s1 ⊢
          simp only [n10, if_false]
          have hy : jX4_ofReal 1 (c_dF o i) (c_rP o (2 * L + 1) j) = xb (c_dF o i) (qf (c_dF o i) (FP.d2f (m_doubles m (16 * L + j))) (m_doubles m (16 * L + j))) := by
            rw [r1, o_real 1 _ r2.1 r2.2]
            rcases hd with hF | hF
            · rw [hF, qf_0, n_d2f r2]
            · rw [hF, qf_1, c_id r2]
          obtain ⟨t1, t2, t3, t4⟩ := rc_ok h.1 hi r2 hy (nI L) 1 (nI j) 0 (2 * L + 1) 0
          exact ⟨⟨trivial, s1, s2, c1, by omega, trivial, hi, hin, t1⟩, ⟨trivial, c2, trivial, ⟨hin2, trivial⟩, t2⟩, t3, t4⟩
      · obtain ⟨b1, b2, b3, b4, b5⟩ := fail_ok h.1 hj hv
        rw [c3, c4]
        unfold sX7_recall_y9 jX7_recall_y9 sX8_recall_y4 jX8_recall_y4
        rw [if_neg hv0, if_neg hv0, if_neg hv0, if_neg hv0]
        exact ⟨⟨trivial, s1, s2, c1, by omega, trivial, b1, trivial⟩, ⟨trivial, c2, trivial, b2, trivial⟩, fe_1 (b3.trans b4.symm), fe_2 b5⟩
    · rw [f1, f2, om_n, om_n]
      simp only [z00, if_true]
      exact ⟨⟨trivial, s1, s2, trivial⟩, ⟨trivial, trivial⟩, (by trivial), h⟩
  · obtain ⟨s2, ⟨i, hi, rfl, f1, f2⟩ | ⟨f1, f2⟩⟩ := da_c h.1.1 a4
    · rw [e1, e2, om_n, om_n, f1, om_s, om_s]
      simp only [z00, if_true]
      exact ⟨⟨trivial, s1, s2, trivial⟩, ⟨trivial, trivial⟩, (by trivial), h⟩
    · rw [e1, e2, om_n, om_n, f1, om_n, om_n]
      simp only [z00, if_true]
      exact ⟨⟨trivial, s1, s2, trivial⟩, ⟨trivial, trivial⟩, (by trivial), h⟩
end PY
