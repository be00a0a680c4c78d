/-! sift -/
section PQ
variable {k i : Nat} {o : Os} {m : Ms}
theorem sift_F (h : rl k o m) {L n : Nat} (hL : L < 8) (hn : n ≤ 16) (eS : c_rS o (2 * L + 0) = nI n) (eM : m_many m (2 * L + 0) = nI n) {a3 y3 : Int64} {y6 : UInt32} {y9 : UInt64} {y12 : Int32} : ∀ (f j : Nat) (v6 : Int64) (x : UInt32) (y : UInt64) (w : Int32), j ≤ n → n < j + f → v6 = xb 0 x.toNat → fN 0 x.toNat →
    sX7_sift_L o (nI L) 0 a3 (2 * L + 0) y3 f v6 w (nI j) o ∧ sX8_sift_L m (nI L) 0 a3 (nI (2 * L + 0)) y6 y9 y12 f x y w (nI (16 * L + j)) m ∧ (jX7_sift_L o (nI L) 0 a3 (2 * L + 0) y3 f v6 w (nI j) o).1 = (jX8_sift_L m (nI L) 0 a3 (nI (2 * L + 0)) y6 y9 y12 f x y w (nI (16 * L + j)) m).1 ∧ rl k (jX7_sift_L o (nI L) 0 a3 (2 * L + 0) y3 f v6 w (nI j) o).2 (jX8_sift_L m (nI L) 0 a3 (nI (2 * L + 0)) y6 y9 y12 f x y w (nI (16 * L + j)) m).2 := by
  intro f
  induction f with
  | zero => intro j v6 x y w h1 h2; omega
  | succ f ih =>
    intro j v6 x y w h1 h2 hv fx
    have hin : vp_in (nI (2 * L + 0)) 16 := nI_in (by omega) (by decide)
    have hd : 2 * L + 0 < 16 := by omega
    unfold sX7_sift_L jX7_sift_L sX8_sift_L jX8_sift_L
    unfold sX7_sift_L_S jX7_sift_L_S sX8_sift_L_S jX8_sift_L_S
    rw [nI_clamp (show 2 * L + 0 < 2 ^ 31 by omega), eS, eM, nI_16]
    by_cases c : j = n
    · have c1 : nI n ≤ nI j := nI_le (by omega) (by omega)
      have c2 : nI (16 * L + n) ≤ nI (16 * L + j) := nI_le (by omega) (by omega)
      unfold sX8_sift_y15 jX8_sift_y15
      simp only [if_pos c1, if_pos c2, z00, if_true]
      rw [b_f fx.num, hv]
      exact ⟨⟨trivial, hd, trivial⟩, ⟨trivial, hin, trivial, trivial⟩, dn_eq _ _ _, done_ok (se_ok h.1 rfl) w⟩
    · have c1 : ¬ nI n ≤ nI j := nI_ge (by omega) (by omega)
      have c2 : ¬ nI (16 * L + n) ≤ nI (16 * L + j) := nI_ge (by omega) (by omega)
      have hj1 : vp_in (nI j) 16 := nI_in (by omega) (by decide)
      have hj2 : vp_in (nI (16 * L + j)) 128 := nI_in (by omega) (by decide)
      have ev1 : nI j + (1 : Int32) = nI (j + 1) := nI_1 _
      have ev2 : nI (16 * L + j) + (1 : Int32) = nI (16 * L + (j + 1)) := nI_1 _
      obtain ⟨r1, r2⟩ := (h.1.2.2.2.1 L hL 0 (by decide)).2 j (by omega)
      rw [show nI 0 = (0 : Int32) from rfl, qf_0] at r1 r2
      unfold sX8_sift_y17 jX8_sift_y17 sX8_sift_y23 jX8_sift_y23 sX8_sift_y25 jX8_sift_y25
      rw [if_neg c1, if_neg c1, if_neg c2, if_neg c2, nI_clamp (show j < 2 ^ 31 by omega), nI_clamp (show 16 * L + j < 2 ^ 31 by omega), r1, x_zero 0 r2.1, ev1, ev2]
      by_cases z : (m_floats m (16 * L + j)).toNat % 2 ^ hN 0 = 0
      · have z' := (z_f r2).mpr z
        obtain ⟨w1, w2, w3, w4⟩ := ih (j + 1) v6 x y w (by omega) (by omega) hv fx
        have e0 : w + (0 : Int32) = w := Int32.add_zero w
        simp only [if_pos z, if_pos z', n10, z00, if_true, if_false, e0]
        exact ⟨⟨trivial, hd, hj1, w1⟩, ⟨trivial, hin, ⟨hj2, trivial⟩, trivial, trivial, trivial, w2⟩, w3, w4⟩
      · have z' : ¬ _ := fun q => z ((z_f r2).mp q)
        have hm : fN 0 (FP.frem x (m_floats m (16 * L + j))).toNat := by rw [n_frem fx r2 z]; exact a_rem fx r2 z
        unfold sX7_sift_y13 jX7_sift_y13 sX8_sift_y35 jX8_sift_y35
        obtain ⟨w1, w2, w3, w4⟩ := ih (j + 1) (xb 0 (FP.frem x (m_floats m (16 * L + j))).toNat) (FP.frem x (m_floats m (16 * L + j))) y (w + 1) (by omega) (by omega) rfl hm
        simp only [if_neg z, if_neg z', n10, z00, if_true, if_false]
        rw [hv, o_rem 0 fx.1 r2.1 fx.2 r2.2 z, ← n_frem fx r2 z, ev1, ev2]
        exact ⟨⟨trivial, hd, hj1, hj1, trivial, w1⟩, ⟨trivial, hin, ⟨hj2, trivial⟩, trivial, trivial, trivial, hj2, nn_32 hm.num, trivial, w2⟩, w3, w4⟩
theorem sift_D (h : rl k o m) {L n : Nat} (hL : L < 8) (hn : n ≤ 16) (eS : c_rS o (2 * L + 1) = nI n) (eM : m_many m (2 * L + 1) = nI n) {a3 y3 : Int64} {y6 : UInt32} {y9 : UInt64} {y12 : Int32} : ∀ (f j : Nat) (v6 : Int64) (x : UInt32) (y : UInt64) (w : Int32), j ≤ n → n < j + f → v6 = xb 1 y.toNat → fN 1 y.toNat →
    sX7_sift_L o (nI L) 1 a3 (2 * L + 1) y3 f v6 w (nI j) o ∧ sX8_sift_L m (nI L) 1 a3 (nI (2 * L + 1)) y6 y9 y12 f x y w (nI (16 * L + j)) m ∧ (jX7_sift_L o (nI L) 1 a3 (2 * L + 1) y3 f v6 w (nI j) o).1 = (jX8_sift_L m (nI L) 1 a3 (nI (2 * L + 1)) y6 y9 y12 f x y w (nI (16 * L + j)) m).1 ∧ rl k (jX7_sift_L o (nI L) 1 a3 (2 * L + 1) y3 f v6 w (nI j) o).2 (jX8_sift_L m (nI L) 1 a3 (nI (2 * L + 1)) y6 y9 y12 f x y w (nI (16 * L + j)) m).2 := by
  intro f
  induction f with
  | zero => intro j v6 x y w h1 h2; omega
  | succ f ih =>
    intro j v6 x y w h1 h2 hv fx
    have hin : vp_in (nI (2 * L + 1)) 16 := nI_in (by omega) (by decide)
    have hd : 2 * L + 1 < 16 := by omega
    unfold sX7_sift_L jX7_sift_L sX8_sift_L jX8_sift_L
    unfold sX7_sift_L_S jX7_sift_L_S sX8_sift_L_S jX8_sift_L_S
    rw [nI_clamp (show 2 * L + 1 < 2 ^ 31 by omega), eS, eM, nI_16]
    by_cases c : j = n
    · have c1 : nI n ≤ nI j := nI_le (by omega) (by omega)
      have c2 : nI (16 * L + n) ≤ nI (16 * L + j) := nI_le (by omega) (by omega)
      unfold sX8_sift_y15 jX8_sift_y15
      simp only [if_pos c1, if_pos c2, n10, if_false]
      rw [b_d fx.num, hv]
      exact ⟨⟨trivial, hd, trivial⟩, ⟨trivial, hin, trivial, trivial⟩, dn_eq _ _ _, done_ok (se_ok h.1 rfl) w⟩
    · have c1 : ¬ nI n ≤ nI j := nI_ge (by omega) (by omega)
      have c2 : ¬ nI (16 * L + n) ≤ nI (16 * L + j) := nI_ge (by omega) (by omega)
      have hj1 : vp_in (nI j) 16 := nI_in (by omega) (by decide)
      have hj2 : vp_in (nI (16 * L + j)) 128 := nI_in (by omega) (by decide)
      have ev1 : nI j + (1 : Int32) = nI (j + 1) := nI_1 _
      have ev2 : nI (16 * L + j) + (1 : Int32) = nI (16 * L + (j + 1)) := nI_1 _
      obtain ⟨r1, r2⟩ := (h.1.2.2.2.1 L hL 1 (by decide)).2 j (by omega)
      rw [show nI 1 = (1 : Int32) from rfl, qf_1] at r1 r2
      unfold sX8_sift_y17 jX8_sift_y17 sX8_sift_y23 jX8_sift_y23 sX8_sift_y25 jX8_sift_y25
      rw [if_neg c1, if_neg c1, if_neg c2, if_neg c2, nI_clamp (show j < 2 ^ 31 by omega), nI_clamp (show 16 * L + j < 2 ^ 31 by omega), r1, x_zero 1 r2.1, ev1, ev2]
      by_cases z : (m_doubles m (16 * L + j)).toNat % 2 ^ hN 1 = 0
      · have z' := (z_d r2).mpr z
        obtain ⟨w1, w2, w3, w4⟩ := ih (j + 1) v6 x y w (by omega) (by omega) hv fx
        have e0 : w + (0 : Int32) = w := Int32.add_zero w
        simp only [if_pos z, if_pos z', n10, z00, if_true, if_false, e0]
        exact ⟨⟨trivial, hd, hj1, w1⟩, ⟨trivial, hin, ⟨hj2, trivial⟩, trivial, trivial, trivial, w2⟩, w3, w4⟩
      · have z' : ¬ _ := fun q => z ((z_d r2).mp q)
        have hm : fN 1 (FP.drem y (m_doubles m (16 * L + j))).toNat := by rw [n_drem fx r2 z]; exact a_rem fx r2 z
        unfold sX7_sift_y13 jX7_sift_y13 sX8_sift_y38 jX8_sift_y38
        obtain ⟨w1, w2, w3, w4⟩ := ih (j + 1) (xb 1 (FP.drem y (m_doubles m (16 * L + j))).toNat) x (FP.drem y (m_doubles m (16 * L + j))) (w + 1) (by omega) (by omega) rfl hm
        simp only [if_neg z, if_neg z', n10, z00, if_true, if_false]
        rw [hv, o_rem 1 fx.1 r2.1 fx.2 r2.2 z, ← n_drem fx r2 z, ev1, ev2]
        exact ⟨⟨trivial, hd, hj1, hj1, trivial, w1⟩, ⟨trivial, hin, ⟨hj2, trivial⟩, trivial, trivial, trivial, hj2, nn_64 hm.num, trivial, w2⟩, w3, w4⟩
theorem ok_sift (h : rl k o m) (a1 a2 : Int32) (a3 : Int64) (hb : a2 = 0 ∨ a2 = 1) : sX7_sift o a1 a2 a3 ∧ sX8_sift m a1 a2 a3 ∧ (jX7_sift o a1 a2 a3).1 = (jX8_sift m a1 a2 a3).1 ∧ rl k (jX7_sift o a1 a2 a3).2 (jX8_sift m a1 a2 a3).2 := by
  unfold sX7_sift jX7_sift sX8_sift jX8_sift
  obtain ⟨s1, ⟨L, c, hL, hc, rfl, ec, e1, e2, e3⟩ | ⟨e1, e2⟩⟩ := ro_c o a1 a2 hb
  · rw [e1, e2, e3, om_s, om_s]
    unfold sX7_sift_y3 jX7_sift_y3
    rw [cf_b hb]
    simp only [n10, if_false]
    by_cases g : jX8_isFit a2 a3 = 0
    · simp only [if_pos g]
      exact ⟨⟨trivial, s1, trivial, trivial⟩, ⟨trivial, trivial⟩, (by trivial), h⟩
    · simp only [if_neg g]
      have fa := fit_of hb g
      obtain ⟨⟨h1, h2⟩, -⟩ := h.1.2.2.2.1 L hL c hc
      have hin : vp_in (nI (2 * L + c)) 16 := nI_in (by omega) (by decide)
      have hd : 2 * L + c < 16 := by omega
      unfold sX8_sift_y3 jX8_sift_y3 sX5_isMissing jX5_isMissing
      rw [nI_clamp (show 2 * L + c < 2 ^ 31 by omega), h1]
      by_cases q : c_rS o (2 * L + c) = -1
      · obtain ⟨b1, b2, b3, b4, b5⟩ := fail_ok h.1 (v := -11) (j := 0) (by decide) (by decide)
        simp only [if_pos q, n10, if_false]
        exact ⟨⟨trivial, s1, trivial, ⟨trivial, hd, trivial⟩, hd, b1, trivial⟩, ⟨trivial, trivial, hin, b2, trivial⟩, fe_1 (b3.trans b4.symm), fe_2 b5⟩
      · obtain ⟨n, hn, en⟩ := h2.resolve_left q
        rw [en] at h1
        have e16 : (16 : Int32) * nI L = nI (16 * L + 0) := (Int32.ofNat_mul 16 L).symm
        unfold sX8_sift_y6 jX8_sift_y6 sX8_sift_y9 jX8_sift_y9 sX8_sift_y12 jX8_sift_y12
        rw [e16, t_told hb]
        simp only [if_neg q, z00, if_true]
        rcases nb_01 hc with ⟨q1, rfl⟩ | ⟨q1, rfl⟩
        · rw [ec, q1] at fa s1 ⊢
          simp only [z00, if_true]
          rw [k_0] at fa ⊢
          obtain ⟨w1, w2, w3, w4⟩ := sift_F h hL hn en h1 (a3 := a3) (y3 := xb 0 (jX8_floatOf a3).toNat) (y6 := jX8_floatOf a3) (y9 := FP.dconst0) (y12 := nI (16 * L + 0)) 64 0 (xb 0 (jX8_floatOf a3).toNat) (jX8_floatOf a3) FP.dconst0 0 (by omega) (by omega) rfl fa
          exact ⟨⟨trivial, s1, trivial, ⟨trivial, hd, trivial⟩, hd, w1⟩, ⟨trivial, trivial, hin, ⟨no_sf (by rw [k_0]; exact fa.num), trivial⟩, trivial, trivial, trivial, trivial, w2⟩, w3, w4⟩
        · rw [ec, q1] at fa s1 ⊢
          simp only [n10, if_false]
          rw [k_1] at fa ⊢
          obtain ⟨w1, w2, w3, w4⟩ := sift_D h hL hn en h1 (a3 := a3) (y3 := xb 1 (jX8_doubleOf a3).toNat) (y6 := FP.fconst0) (y9 := jX8_doubleOf a3) (y12 := nI (16 * L + 0)) 64 0 (xb 1 (jX8_doubleOf a3).toNat) FP.fconst0 (jX8_doubleOf a3) 0 (by omega) (by omega) rfl fa
          exact ⟨⟨trivial, s1, trivial, ⟨trivial, hd, trivial⟩, hd, w1⟩, ⟨trivial, trivial, hin, trivial, trivial, ⟨no_sd (by rw [k_1]; exact fa.num), trivial⟩, trivial, trivial, w2⟩, w3, w4⟩
  · rw [e1, e2, om_n, om_n]
    simp only [z00, if_true]
    exact ⟨⟨trivial, s1, trivial⟩, ⟨trivial, trivial⟩, (by trivial), h⟩
end PQ
