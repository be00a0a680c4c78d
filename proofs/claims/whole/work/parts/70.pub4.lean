/-! write, read, note, recall -/
section PX
variable {k i : Nat} {o : Os} {m : Ms}
theorem nI_16 (L j : Nat) : (16 : Int32) * nI L + nI j = nI (16 * L + j) := by
  rw [← nI_add]
  congr 1
  exact (Int32.ofNat_mul 16 L).symm
theorem ca_ok (h : rlR o m) {L c : Nat} (hL : L < 8) (hc : c < 2) (a : Int32) : sX5_failureAt o (2 * L + c) a ∧ sX8_cause m (nI (2 * L + c)) a ∧ ((∃ j, j < 16 ∧ a = nI j ∧ jX5_failureAt o (2 * L + c) a = 0 ∧ jX8_cause m (nI (2 * L + c)) a = 0) ∨ (∃ v j, j < 5 ∧ (-11 : Int32) - v = nI j ∧ ¬ v = 0 ∧ jX5_failureAt o (2 * L + c) a = v ∧ jX8_cause m (nI (2 * L + c)) a = v)) := by
  obtain ⟨⟨h1, h2⟩, -⟩ := h L hL c hc
  have hin : vp_in (nI (2 * L + c)) 16 := nI_in (by omega) (by decide)
  unfold sX5_failureAt sX8_cause jX5_failureAt jX8_cause sX5_isMissing jX5_isMissing
  rw [nI_clamp (by omega), h1]
  by_cases g : c_rS o (2 * L + c) = -1
  · simp only [if_pos g, n10, if_false]
    exact ⟨⟨trivial, ⟨trivial, by omega, trivial⟩, by omega, trivial⟩, ⟨trivial, hin, trivial⟩, Or.inr ⟨-11, 0, by decide, by decide, by decide, (by trivial), (by trivial)⟩⟩
  · simp only [if_neg g, z00, if_true]
    obtain ⟨n, hn, en⟩ := h2.resolve_left g
    rw [en, in_c, l_m1 (by omega)]
    have t0 : (0 : Int64).toInt = 0 := rfl
    rw [t0]
    rcases rg_c a (n := n) (by omega) with ⟨j, hj, rfl⟩ | q
    · rw [nI_toInt (by omega)]
      have c1 : ¬ nI n ≤ nI j := nI_ge hj (by omega)
      simp only [if_neg (nI_pos (show j < 2 ^ 31 by omega)), if_neg c1, if_pos (show (0 : Int) ≤ (j : Int) ∧ (j : Int) ≤ (n : Int) - 1 by omega), n10, if_false]
      exact ⟨⟨trivial, ⟨trivial, by omega, trivial⟩, by omega, trivial⟩, ⟨trivial, hin, hin, trivial⟩, Or.inl ⟨j, by omega, rfl, (by trivial), (by trivial)⟩⟩
    · simp only [if_neg (show ¬ ((0 : Int) ≤ a.toInt ∧ a.toInt ≤ (n : Int) - 1) by omega), z00, if_true]
      rcases q with q | q
      · simp only [if_pos (ltz_i q)]
        exact ⟨⟨trivial, ⟨trivial, by omega, trivial⟩, by omega, trivial⟩, ⟨trivial, hin, hin, trivial⟩, Or.inr ⟨-12, 1, by decide, by decide, by decide, (by trivial), (by trivial)⟩⟩
      · have c0 : ¬ a < 0 := fun q => by have := Int32.lt_iff_toInt_lt.mp q; have e : (0 : Int32).toInt = 0 := rfl; omega
        simp only [if_neg c0, if_pos (le_n (show n < 2147483648 by omega) q)]
        exact ⟨⟨trivial, ⟨trivial, by omega, trivial⟩, by omega, trivial⟩, ⟨trivial, hin, hin, trivial⟩, Or.inr ⟨-12, 1, by decide, by decide, by decide, (by trivial), (by trivial)⟩⟩
theorem up_RF (h : r0 k o m) {L j : Nat} (hL : L < 8) (hj : j < 16) {x : UInt32} (nx : nN 0 x.toNat) : r0 k (t_rP o (va_up (c_rP o) (2 * L + 0) (vp_updL (c_rP o (2 * L + 0)) j (xb 0 x.toNat)))) (s_floats m (vf_upd (m_floats m) (16 * L + j) x)) := by
  obtain ⟨hD, hV, hS, hR, hT⟩ := h
  refine ⟨hD, hV, hS, fun L' hL' b hb => ?_, hT⟩
  obtain ⟨h1, h2⟩ := hR L' hL' b hb
  refine ⟨h1, fun q hq => ?_⟩
  obtain ⟨h3, h4⟩ := h2 q hq
  show va_up (c_rP o) (2 * L + 0) (vp_updL (c_rP o (2 * L + 0)) j (xb 0 x.toNat)) (2 * L' + b) q = xb (nI b) (qf (nI b) (vf_upd (m_floats m) (16 * L + j) x (16 * L' + q)) (m_doubles m (16 * L' + q))) ∧ nN (nI b) (qf (nI b) (vf_upd (m_floats m) (16 * L + j) x (16 * L' + q)) (m_doubles m (16 * L' + q)))
  rcases (show b = 0 ∨ b = 1 by omega) with rfl | rfl
  · rw [show nI 0 = (0 : Int32) from rfl, qf_0] at h3 h4 ⊢
    by_cases e : L' = L
    · subst e
      rw [up_eq]
      by_cases e2 : q = j
      · subst e2
        rw [ul_eq, uf_eq]
        exact ⟨rfl, nx⟩
      · rw [ul_ne e2, uf_ne (by omega)]
        exact ⟨h3, h4⟩
    · rw [up_ne (by omega), uf_ne (by omega)]
      exact ⟨h3, h4⟩
  · rw [show nI 1 = (1 : Int32) from rfl, qf_1] at h3 h4 ⊢
    rw [up_ne (by omega)]
    exact ⟨h3, h4⟩
theorem up_RD (h : r0 k o m) {L j : Nat} (hL : L < 8) (hj : j < 16) {x : UInt64} (nx : nN 1 x.toNat) : r0 k (t_rP o (va_up (c_rP o) (2 * L + 1) (vp_updL (c_rP o (2 * L + 1)) j (xb 1 x.toNat)))) (s_doubles m (vf_upd (m_doubles m) (16 * L + j) x)) := by
  obtain ⟨hD, hV, hS, hR, hT⟩ := h
  refine ⟨hD, hV, hS, fun L' hL' b hb => ?_, hT⟩
  obtain ⟨h1, h2⟩ := hR L' hL' b hb
  refine ⟨h1, fun q hq => ?_⟩
  obtain ⟨h3, h4⟩ := h2 q hq
  show va_up (c_rP o) (2 * L + 1) (vp_updL (c_rP o (2 * L + 1)) j (xb 1 x.toNat)) (2 * L' + b) q = xb (nI b) (qf (nI b) (m_floats m (16 * L' + q)) (vf_upd (m_doubles m) (16 * L + j) x (16 * L' + q))) ∧ nN (nI b) (qf (nI b) (m_floats m (16 * L' + q)) (vf_upd (m_doubles m) (16 * L + j) x (16 * L' + q)))
  rcases (show b = 1 ∨ b = 0 by omega) with rfl | rfl
  · rw [show nI 1 = (1 : Int32) from rfl, qf_1] at h3 h4 ⊢
    by_cases e : L' = L
    · subst e
      rw [up_eq]
      by_cases e2 : q = j
      · subst e2
        rw [ul_eq, uf_eq]
        exact ⟨rfl, nx⟩
      · rw [ul_ne e2, uf_ne (by omega)]
        exact ⟨h3, h4⟩
    · rw [up_ne (by omega), uf_ne (by omega)]
      exact ⟨h3, h4⟩
  · rw [show nI 0 = (0 : Int32) from rfl, qf_0] at h3 h4 ⊢
    rw [up_ne (by omega)]
    exact ⟨h3, h4⟩
theorem dn_eq (o : Os) (m : Ms) (v : Int32) : (jX7_done o v).1 = (jX8_done m v).1 := rfl
theorem fe_1 {a b : Int32} {x : Os} {y : Ms} (h : a = b) : (a, x).1 = (b, y).1 := h
theorem fe_2 {a b : Int32} {x : Os} {y : Ms} (h : rl k x y) : rl k (a, x).2 (b, y).2 := h
theorem nb_01 {c : Nat} (hc : c < 2) : nI c = 0 ∧ c = 0 ∨ nI c = 1 ∧ c = 1 := by
  rcases (show c = 0 ∨ c = 1 by omega) with rfl | rfl
  · exact Or.inl ⟨rfl, rfl⟩
  · exact Or.inr ⟨rfl, rfl⟩
theorem ok_write (h : rl k o m) (a1 a2 a3 : Int32) (a4 : Int64) (hb : a2 = 0 ∨ a2 = 1) : sX7_write o a1 a2 a3 a4 ∧ sX8_write m a1 a2 a3 a4 ∧ (jX7_write o a1 a2 a3 a4).1 = (jX8_write m a1 a2 a3 a4).1 ∧ rl k (jX7_write o a1 a2 a3 a4).2 (jX8_write m a1 a2 a3 a4).2 := by
  unfold sX7_write jX7_write sX8_write jX8_write
  obtain ⟨s1, ⟨L, c, hL, hc, rfl, ec, e1, e2, e3⟩ | ⟨e1, e2⟩⟩ := ro_c o a1 a2 hb
  · rw [e1, e2, e3, om_s, om_s]
    unfold sX7_write_y3 jX7_write_y3
    rw [cf_b hb]
    simp only [n10, if_false]
    by_cases g : jX8_isFit a2 a4 = 0
    · simp only [if_pos g]
      exact ⟨⟨trivial, s1, trivial, trivial⟩, ⟨trivial, trivial⟩, (by trivial), h⟩
    · simp only [if_neg g]
      have fa := fit_of hb g
      obtain ⟨c1, c2, ⟨j, hj, rfl, c3, c4⟩ | ⟨v, j, hj, hv, hv0, c3, c4⟩⟩ := ca_ok h.1.2.2.2.1 hL hc a3
      · rw [c3, c4]
        unfold sX7_write_y7 jX7_write_y7 sX8_write_y4 jX8_write_y4
        have hin : vp_in (nI j) 16 := nI_in hj (by decide)
        have hin2 : vp_in (nI (16 * L + j)) 128 := nI_in (by omega) (by decide)
        rw [nI_16, nI_clamp (by omega), nI_clamp (by omega), t_told hb]
        simp only [z00, if_true]
        rcases nb_01 hc with ⟨q1, rfl⟩ | ⟨q1, rfl⟩
        · rw [ec, q1] at fa s1 ⊢
          simp only [z00, if_true]
          rw [k_0] at fa ⊢
          exact ⟨⟨trivial, s1, trivial, c1, by omega, trivial, hin, trivial⟩, ⟨trivial, c2, trivial, no_sf (by rw [k_0]; exact fa.num), hin2, trivial⟩, dn_eq _ _ _, done_ok (up_RF h.1 hL hj fa.num) 1⟩
        · rw [ec, q1] at fa s1 ⊢
          simp only [n10, if_false]
          rw [k_1] at fa ⊢
          exact ⟨⟨trivial, s1, trivial, c1, by omega, trivial, hin, trivial⟩, ⟨trivial, c2, trivial, no_sd (by rw [k_1]; exact fa.num), hin2, trivial⟩, dn_eq _ _ _, done_ok (up_RD h.1 hL hj fa.num) 1⟩
      · obtain ⟨b1, b2, b3, b4, b5⟩ := fail_ok h.1 hj hv
        rw [c3, c4]
        unfold sX7_write_y7 jX7_write_y7 sX8_write_y4 jX8_write_y4
        rw [if_neg hv0, if_neg hv0, if_neg hv0, if_neg hv0]
        exact ⟨⟨trivial, s1, trivial, c1, by omega, trivial, b1, trivial⟩, ⟨trivial, c2, trivial, b2, trivial⟩, fe_1 (b3.trans b4.symm), fe_2 b5⟩
  · rw [e1, e2, om_n, om_n]
    simp only [z00, if_true]
    exact ⟨⟨trivial, s1, trivial⟩, ⟨trivial, trivial⟩, (by trivial), h⟩
theorem se_ok (h : r0 k o m) {x y : Int64} (e : x = y) : r0 k (t_se o x) (s_seen m y) := by
  obtain ⟨hD, hV, hS, hR, hT⟩ := h
  exact ⟨hD, hV, hS, hR, e, hT.2⟩
theorem ok_read (h : rl k o m) (a1 a2 a3 : Int32) (hb : a2 = 0 ∨ a2 = 1) : sX7_read o a1 a2 a3 ∧ sX8_read m a1 a2 a3 ∧ (jX7_read o a1 a2 a3).1 = (jX8_read m a1 a2 a3).1 ∧ rl k (jX7_read o a1 a2 a3).2 (jX8_read m a1 a2 a3).2 := by
  unfold sX7_read jX7_read sX8_read jX8_read
  obtain ⟨s1, ⟨L, c, hL, hc, rfl, ec, e1, e2, e3⟩ | ⟨e1, e2⟩⟩ := ro_c o a1 a2 hb
  · rw [e1, e2, e3, om_s, om_s]
    simp only [n10, if_false]
    obtain ⟨c1, c2, ⟨j, hj, rfl, c3, c4⟩ | ⟨v, j, hj, hv, hv0, c3, c4⟩⟩ := ca_ok h.1.2.2.2.1 hL hc a3
    · rw [c3, c4]
      unfold sX7_read_y5 jX7_read_y5 sX8_read_y3 jX8_read_y3 sX8_read_y5 jX8_read_y5
      have hin : vp_in (nI j) 16 := nI_in hj (by decide)
      have hin2 : vp_in (nI (16 * L + j)) 128 := nI_in (by omega) (by decide)
      obtain ⟨r1, r2⟩ := (h.1.2.2.2.1 L hL c hc).2 j hj
      rw [nI_16, nI_clamp (by omega), nI_clamp (by omega)]
      simp only [z00, if_true]
      rcases nb_01 hc with ⟨q1, rfl⟩ | ⟨q1, rfl⟩
      · rw [q1, qf_0] at r1 r2
        rw [ec, q1] at s1 ⊢
        simp only [z00, if_true]
        exact ⟨⟨trivial, s1, c1, by omega, trivial, hin, trivial⟩, ⟨trivial, c2, trivial, ⟨hin2, trivial⟩, trivial, trivial⟩, dn_eq _ _ _, done_ok (se_ok h.1 (r1.trans (b_f r2).symm)) 1⟩
      · rw [q1, qf_1] at r1 r2
        rw [ec, q1] at s1 ⊢
        simp only [n10, if_false]
        exact ⟨⟨trivial, s1, c1, by omega, trivial, hin, trivial⟩, ⟨trivial, c2, trivial, ⟨hin2, trivial⟩, trivial, trivial⟩, dn_eq _ _ _, done_ok (se_ok h.1 (r1.trans (b_d r2).symm)) 1⟩
    · obtain ⟨b1, b2, b3, b4, b5⟩ := fail_ok h.1 hj hv
      rw [c3, c4]
      unfold sX7_read_y5 jX7_read_y5 sX8_read_y3 jX8_read_y3
      rw [if_neg hv0, if_neg hv0, if_neg hv0, if_neg hv0]
      exact ⟨⟨trivial, s1, c1, by omega, trivial, b1, trivial⟩, ⟨trivial, c2, trivial, b2, trivial⟩, fe_1 (b3.trans b4.symm), fe_2 b5⟩
  · rw [e1, e2, om_n, om_n]
    simp only [z00, if_true]
    exact ⟨⟨trivial, s1, trivial⟩, ⟨trivial, trivial⟩, (by trivial), h⟩
theorem ok_note (h : rl k o m) (a1 a2 a3 a4 : Int32) (hb : a2 = 0 ∨ a2 = 1) : sX7_note o a1 a2 a3 a4 ∧ sX8_note m a1 a2 a3 a4 ∧ (jX7_note o a1 a2 a3 a4).1 = (jX8_note m a1 a2 a3 a4).1 ∧ rl k (jX7_note o a1 a2 a3 a4).2 (jX8_note m a1 a2 a3 a4).2 := by
  unfold sX7_note jX7_note sX8_note jX8_note
  obtain ⟨s1, ⟨L, c, hL, hc, rfl, ec, e1, e2, e3⟩ | ⟨e1, e2⟩⟩ := ro_c o a1 a2 hb
  · rw [e1, e2, e3, om_s, om_s]
    simp only [n10, if_false]
    obtain ⟨s2, ⟨i, hi, rfl, f1, f2⟩ | ⟨f1, f2⟩⟩ := da_c h.1.1 a4
    · obtain ⟨hd, hg, -, ⟨hP, fP⟩, -⟩ := h.1.1.2.2 i hi
      have h12 : i < 12 := Nat.lt_of_lt_of_le hi h.1.1.1
      have hin3 : vp_in (nI i) 12 := nI_in h12 (by decide)
      rw [f1, f2, om_s, om_s]
      simp only [n10, if_false]
      obtain ⟨c1, c2, ⟨j, hj, rfl, c3, c4⟩ | ⟨v, j, hj, hv, hv0, c3, c4⟩⟩ := ca_ok h.1.2.2.2.1 hL hc a3
      · rw [c3, c4]
        unfold sX7_note_y9 jX7_note_y9 sX8_note_y4 jX8_note_y4 sX8_note_y8 jX8_note_y8 sX8_note_y15 jX8_note_y15
        have hin : vp_in (nI j) 16 := nI_in hj (by decide)
        have hin2 : vp_in (nI (16 * L + j)) 128 := nI_in (by omega) (by decide)
        rw [nI_16, nI_clamp (by omega), nI_clamp (by omega), nI_clamp (by omega), hP, o_real _ _ fP.1 fP.num.2, hg]
        simp only [z00, if_true]
        rcases nb_01 hc with ⟨q1, rfl⟩ | ⟨q1, rfl⟩
        · rw [ec, q1] at s1 ⊢
          simp only [z00, if_true]
          rcases hd with hF | hF
          · rw [hF, qf_0] at fP ⊢
            rw [c_id fP.num]
            simp only [z00, if_true]
            exact ⟨⟨trivial, s1, s2, c1, by omega, trivial, hi, hin, trivial⟩, ⟨trivial, c2, trivial, hin3, ⟨hin3, trivial⟩, trivial, hin2, trivial⟩, dn_eq _ _ _, done_ok (up_RF h.1 hL hj fP.num) 1⟩
          · rw [hF, qf_1] at fP ⊢
            have nx : nN 0 (FP.d2f (m_placeD m i)).toNat := by rw [n_d2f fP.num]; exact a_conv 0 fP.num
            rw [← n_d2f fP.num]
            simp only [n10, if_false]
            exact ⟨⟨trivial, s1, s2, c1, by omega, trivial, hi, hin, trivial⟩, ⟨trivial, c2, trivial, hin3, ⟨hin3, nn_32 nx, trivial⟩, trivial, hin2, trivial⟩, dn_eq _ _ _, done_ok (up_RF h.1 hL hj nx) 1⟩
        · rw [ec, q1] at s1 ⊢
          simp only [n10, if_false]
          rcases hd with hF | hF
          · rw [hF, qf_0] at fP ⊢
            have nx : nN 1 (FP.f2d (m_placeF m i)).toNat := by rw [n_f2d fP.num]; exact a_conv 1 fP.num
            rw [← n_f2d fP.num]
            simp only [z00, if_true]
            exact ⟨⟨trivial, s1, s2, c1, by omega, trivial, hi, hin, trivial⟩, ⟨trivial, c2, trivial, hin3, ⟨hin3, nn_64 nx, trivial⟩, trivial, hin2, trivial⟩, dn_eq _ _ _, done_ok (up_RD h.1 hL hj nx) 1⟩
          · rw [hF, qf_1] at fP ⊢
            rw [c_id fP.num]
            simp only [n10, if_false]
            exact ⟨⟨trivial, s1, s2, c1, by omega, trivial, hi, hin, trivial⟩, ⟨trivial, c2, trivial, hin3, ⟨hin3, trivial⟩, trivial, hin2, trivial⟩, dn_eq _ _ _, done_ok (up_RD h.1 hL hj fP.num) 1⟩
      · obtain ⟨b1, b2, b3, b4, b5⟩ := fail_ok h.1 hj hv
        rw [c3, c4]
        unfold sX7_note_y9 jX7_note_y9 sX8_note_y4 jX8_note_y4
        rw [if_neg hv0, if_neg hv0, if_neg hv0, if_neg hv0]
        exact ⟨⟨trivial, s1, s2, c1, by omega, trivial, b1, trivial⟩, ⟨trivial, c2, trivial, b2, trivial⟩, fe_1 (b3.trans b4.symm), fe_2 b5⟩
    · rw [f1, f2, om_n, om_n]
      simp only [z00, if_true]
      exact ⟨⟨trivial, s1, s2, trivial⟩, ⟨trivial, trivial⟩, (by trivial), h⟩
  · obtain ⟨s2, ⟨i, hi, rfl, f1, f2⟩ | ⟨f1, f2⟩⟩ := da_c h.1.1 a4
    · rw [e1, e2, om_n, om_n, f1, om_s, om_s]
      simp only [z00, if_true]
      exact ⟨⟨trivial, s1, s2, trivial⟩, ⟨trivial, trivial⟩, (by trivial), h⟩
    · rw [e1, e2, om_n, om_n, f1, om_n, om_n]
      simp only [z00, if_true]
      exact ⟨⟨trivial, s1, s2, trivial⟩, ⟨trivial, trivial⟩, (by trivial), h⟩
end PX
