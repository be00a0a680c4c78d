/-! log, sift -/
section PZ
variable {k i : Nat} {o : Os} {m : Ms}
/-- the first n places of the row r are cleared -/
def rz (o o' : Os) (r n : Nat) : Prop := o' = t_rP o (c_rP o') ∧ (∀ q, q ≠ r → c_rP o' q = c_rP o q) ∧ ∀ j, j < n → c_rP o' r j = 0
theorem rz_0 (o : Os) (r : Nat) : rz o o r 0 := ⟨rfl, fun _ _ => rfl, fun j hj => absurd hj (Nat.not_lt_zero j)⟩
theorem rz_s {o o' : Os} {r n : Nat} {a : Int32} (h : rz o o' r n) (ha : a.toNatClampNeg = n) : rz o (t_rP o' (va_up (c_rP o') r (vp_updL (c_rP o' r) a.toNatClampNeg (0 : Int64)))) r (n + 1) := by
  obtain ⟨h1, h2, h3⟩ := h
  refine ⟨?_, fun q hq => ?_, fun j hj => ?_⟩
  · show t_rP o' _ = t_rP o (va_up (c_rP o') r (vp_updL (c_rP o' r) a.toNatClampNeg (0 : Int64)))
    generalize va_up (c_rP o') r (vp_updL (c_rP o' r) a.toNatClampNeg (0 : Int64)) = f
    rw [h1]
    rfl
  · show va_up (c_rP o') r _ q = _
    rw [up_ne hq, h2 q hq]
  · show va_up (c_rP o') r _ r j = 0
    rw [up_eq, ha]
    by_cases e : j = n
    · rw [e, ul_eq]
    · rw [ul_ne e]
      exact h3 j (by omega)
def rnF (o : Os) (r : Nat) (v : Int32) (x : Os) : Prop := ∃ o', rz o o' r 16 ∧ x = t_rS o' (va_up (c_rS o') r v)
theorem rn_j32 {o : Os} {i : Nat} {a1 : Int32} {o4 o8 o12 o16 o20 o24 o28 o32 : Os} (h : rz o o32 i 16) : rnF o i a1 (jX5_renew_o32 o i a1 o4 o8 o12 o16 o20 o24 o28 o32) := ⟨o32, h, rfl⟩
theorem rn_s32 {o : Os} {i : Nat} {a1 : Int32} {o4 o8 o12 o16 o20 o24 o28 o32 : Os} (h : i < 16) : sX5_renew_o32 o i a1 o4 o8 o12 o16 o20 o24 o28 o32 := ⟨trivial, h, trivial⟩
theorem rn_j28 {o : Os} {i : Nat} {a1 : Int32} {o4 o8 o12 o16 o20 o24 o28 : Os} (h : rz o o28 i 14) : rnF o i a1 (jX5_renew_o28 o i a1 o4 o8 o12 o16 o20 o24 o28) := by
  unfold jX5_renew_o28
  exact rn_j32 (rz_s (rz_s h rfl) rfl)
theorem rn_s28 {o : Os} {i : Nat} {a1 : Int32} {o4 o8 o12 o16 o20 o24 o28 : Os} (h : i < 16) : sX5_renew_o28 o i a1 o4 o8 o12 o16 o20 o24 o28 := ⟨trivial, h, nI_in (c := 14) (by decide) (by decide), nI_in (c := 15) (by decide) (by decide), rn_s32 h⟩
theorem rn_j24 {o : Os} {i : Nat} {a1 : Int32} {o4 o8 o12 o16 o20 o24 : Os} (h : rz o o24 i 12) : rnF o i a1 (jX5_renew_o24 o i a1 o4 o8 o12 o16 o20 o24) := by
  unfold jX5_renew_o24
  exact rn_j28 (rz_s (rz_s h rfl) rfl)
theorem rn_s24 {o : Os} {i : Nat} {a1 : Int32} {o4 o8 o12 o16 o20 o24 : Os} (h : i < 16) : sX5_renew_o24 o i a1 o4 o8 o12 o16 o20 o24 := ⟨trivial, h, nI_in (c := 12) (by decide) (by decide), nI_in (c := 13) (by decide) (by decide), rn_s28 h⟩
theorem rn_j20 {o : Os} {i : Nat} {a1 : Int32} {o4 o8 o12 o16 o20 : Os} (h : rz o o20 i 10) : rnF o i a1 (jX5_renew_o20 o i a1 o4 o8 o12 o16 o20) := by
  unfold jX5_renew_o20
  exact rn_j24 (rz_s (rz_s h rfl) rfl)
theorem rn_s20 {o : Os} {i : Nat} {a1 : Int32} {o4 o8 o12 o16 o20 : Os} (h : i < 16) : sX5_renew_o20 o i a1 o4 o8 o12 o16 o20 := ⟨trivial, h, nI_in (c := 10) (by decide) (by decide), nI_in (c := 11) (by decide) (by decide), rn_s24 h⟩
theorem rn_j16 {o : Os} {i : Nat} {a1 : Int32} {o4 o8 o12 o16 : Os} (h : rz o o16 i 8) : rnF o i a1 (jX5_renew_o16 o i a1 o4 o8 o12 o16) := by
  unfold jX5_renew_o16
  exact rn_j20 (rz_s (rz_s h rfl) rfl)
theorem rn_s16 {o : Os} {i : Nat} {a1 : Int32} {o4 o8 o12 o16 : Os} (h : i < 16) : sX5_renew_o16 o i a1 o4 o8 o12 o16 := ⟨trivial, h, nI_in (c := 8) (by decide) (by decide), nI_in (c := 9) (by decide) (by decide), rn_s20 h⟩
theorem rn_j12 {o : Os} {i : Nat} {a1 : Int32} {o4 o8 o12 : Os} (h : rz o o12 i 6) : rnF o i a1 (jX5_renew_o12 o i a1 o4 o8 o12) := by
  unfold jX5_renew_o12
  exact rn_j16 (rz_s (rz_s h rfl) rfl)
theorem rn_s12 {o : Os} {i : Nat} {a1 : Int32} {o4 o8 o12 : Os} (h : i < 16) : sX5_renew_o12 o i a1 o4 o8 o12 := ⟨trivial, h, nI_in (c := 6) (by decide) (by decide), nI_in (c := 7) (by decide) (by decide), rn_s16 h⟩
theorem rn_j8 {o : Os} {i : Nat} {a1 : Int32} {o4 o8 : Os} (h : rz o o8 i 4) : rnF o i a1 (jX5_renew_o8 o i a1 o4 o8) := by
  unfold jX5_renew_o8
  exact rn_j12 (rz_s (rz_s h rfl) rfl)
theorem rn_s8 {o : Os} {i : Nat} {a1 : Int32} {o4 o8 : Os} (h : i < 16) : sX5_renew_o8 o i a1 o4 o8 := ⟨trivial, h, nI_in (c := 4) (by decide) (by decide), nI_in (c := 5) (by decide) (by decide), rn_s12 h⟩
theorem rn_j4 {o : Os} {i : Nat} {a1 : Int32} {o4 : Os} (h : rz o o4 i 2) : rnF o i a1 (jX5_renew_o4 o i a1 o4) := by
  unfold jX5_renew_o4
  exact rn_j8 (rz_s (rz_s h rfl) rfl)
theorem rn_s4 {o : Os} {i : Nat} {a1 : Int32} {o4 : Os} (h : i < 16) : sX5_renew_o4 o i a1 o4 := ⟨trivial, h, nI_in (c := 2) (by decide) (by decide), nI_in (c := 3) (by decide) (by decide), rn_s8 h⟩
theorem rn_j (o : Os) (i : Nat) (a1 : Int32) : rnF o i a1 (jX5_renew o i a1) := by
  unfold jX5_renew
  exact rn_j4 (rz_s (rz_s (rz_0 o i) rfl) rfl)
theorem rn_s (o : Os) {i : Nat} (a1 : Int32) (h : i < 16) : sX5_renew o i a1 := ⟨trivial, h, nI_in (c := 0) (by decide) (by decide), nI_in (c := 1) (by decide) (by decide), rn_s4 h⟩
/-- the reference's row, cleared as far as t -/
def mz (m m' : Ms) (b L t : Nat) : Prop := m' = s_doubles (s_floats m (m_floats m')) (m_doubles m') ∧ ∀ q, m_floats m' q = (if b = 0 ∧ 16 * L ≤ q ∧ q < 16 * L + t then FP.fconst0 else m_floats m q) ∧ m_doubles m' q = (if b = 1 ∧ 16 * L ≤ q ∧ q < 16 * L + t then FP.dconst0 else m_doubles m q)
theorem s_fd (m : Ms) (f : Nat → UInt32) (g : Nat → UInt64) : s_floats (s_doubles m g) f = s_doubles (s_floats m f) g := by
  unfold s_floats s_doubles m_dials m_isFine m_rimF m_placeF m_rimD m_placeD m_lapsOf m_drives m_sortOf m_pullOf m_gearOf m_pulled m_slots m_shafts m_many m_floats m_doubles m_seen m_failed m_counts
  rfl
theorem s_f2 (m : Ms) (f f' : Nat → UInt32) : s_floats (s_floats m f) f' = s_floats m f' := rfl
theorem s_d2 (m : Ms) (g g' : Nat → UInt64) : s_doubles (s_doubles m g) g' = s_doubles m g' := rfl
theorem s_ff (m : Ms) (f f' : Nat → UInt32) (g g' : Nat → UInt64) : s_doubles (s_floats (s_doubles (s_floats m f) g) f') g' = s_doubles (s_floats m f') g' := by
  rw [s_fd, s_f2, s_d2]
theorem s_et (m : Ms) : m = s_doubles (s_floats m (m_floats m)) (m_doubles m) := by
  obtain ⟨x1, x2, x3, x4, x5, x6, x7, x8, x9, x10, x11, x12, x13, x14, x15, x16, x17, x18, x19, x20⟩ := m
  rfl
theorem m_ff (m : Ms) (f : Nat → UInt32) (g : Nat → UInt64) : m_floats (s_doubles (s_floats m f) g) = f := rfl
theorem m_fg (m : Ms) (f : Nat → UInt32) (g : Nat → UInt64) : m_doubles (s_doubles (s_floats m f) g) = g := rfl
theorem mz_s {m m' : Ms} {b L t : Nat} (hb : b < 2) (h : mz m m' b L t) : mz m (s_doubles (s_floats m' (vf_upd (m_floats m') (16 * L + t) (if b = 0 then FP.fconst0 else m_floats m' (16 * L + t)))) (vf_upd (m_doubles m') (16 * L + t) (if b = 0 then m_doubles m' (16 * L + t) else FP.dconst0))) b L (t + 1) := by
  obtain ⟨h1, h2⟩ := h
  unfold mz
  rw [m_ff, m_fg]
  refine ⟨?_, fun q => ?_⟩
  · generalize vf_upd (m_floats m') (16 * L + t) (if b = 0 then FP.fconst0 else m_floats m' (16 * L + t)) = f
    generalize vf_upd (m_doubles m') (16 * L + t) (if b = 0 then m_doubles m' (16 * L + t) else FP.dconst0) = g
    rw [h1, s_ff]
  · skip
    obtain ⟨h3, h4⟩ := h2 q
    by_cases e : q = 16 * L + t
    · subst e
      rw [uf_eq, uf_eq]
      rcases (show b = 0 ∨ b = 1 by omega) with rfl | rfl
      · rw [if_pos rfl, if_pos rfl, if_pos (by omega), if_neg (by omega), h4, if_neg (by omega)]
        exact ⟨rfl, rfl⟩
      · rw [if_neg (by omega), if_neg (by omega), if_neg (by omega), if_pos (by omega), h3, if_neg (by omega)]
        exact ⟨rfl, rfl⟩
    · rw [uf_ne e, uf_ne e, h3, h4]
      rcases (show b = 0 ∨ b = 1 by omega) with rfl | rfl
      · rw [if_neg (show ¬ (0 = 1 ∧ _) by omega), if_neg (show ¬ (0 = 1 ∧ _) by omega)]
        by_cases g : 16 * L ≤ q ∧ q < 16 * L + t
        · rw [if_pos ⟨rfl, g⟩, if_pos (by omega)]; exact ⟨rfl, rfl⟩
        · rw [if_neg (by omega), if_neg (by omega)]; exact ⟨rfl, rfl⟩
      · rw [if_neg (show ¬ (1 = 0 ∧ _) by omega), if_neg (show ¬ (1 = 0 ∧ _) by omega)]
        by_cases g : 16 * L ≤ q ∧ q < 16 * L + t
        · rw [if_pos ⟨rfl, g⟩, if_pos (by omega)]; exact ⟨rfl, rfl⟩
        · rw [if_neg (by omega), if_neg (by omega)]; exact ⟨rfl, rfl⟩
theorem log_L {m0 mb : Ms} {L b : Nat} (hL : L < 8) (hb : b < 2) {a3 y4 : Int32} : ∀ (n t : Nat) (m : Ms), t ≤ 16 → 16 < t + n → mz mb m b L t →
    sX8_log_L m0 (nI L) (nI b) a3 y4 n (nI (16 * L + t)) m ∧ ∃ m', jX8_log_L m0 (nI L) (nI b) a3 y4 n (nI (16 * L + t)) m = ((1 : Int32), m') ∧ mz mb m' b L 16 := by
  intro n
  induction n with
  | zero => intro t m h1 h2; omega
  | succ n ih =>
    intro t m h1 h2 hz
    have e16 : (16 : Int32) * nI L + (16 : Int32) = nI (16 * L + 16) := nI_16 L 16
    unfold sX8_log_L jX8_log_L
    unfold sX8_log_L_S jX8_log_L_S
    rw [e16]
    by_cases c : t = 16
    · subst c
      rw [if_pos (nI_le (Nat.le_refl _) (by omega)), if_pos (nI_le (Nat.le_refl _) (by omega))]
      exact ⟨⟨trivial, trivial⟩, m, rfl, hz⟩
    · have hlt : ¬ nI (16 * L + 16) ≤ nI (16 * L + t) := nI_ge (by omega) (by omega)
      have hin : vp_in (nI (16 * L + t)) 128 := nI_in (by omega) (by decide)
      rw [if_neg hlt, if_neg hlt]
      unfold sX8_log_y6 jX8_log_y6 sX8_log_y10 jX8_log_y10 sX8_log_o14 jX8_log_o14
      rw [nI_clamp (by omega)]
      have ev : nI (16 * L + t) + (1 : Int32) = nI (16 * L + (t + 1)) := nI_1 _
      rw [ev]
      have hs := mz_s hb hz
      rcases nb_01 hb with ⟨q1, rfl⟩ | ⟨q1, rfl⟩
      · rw [if_pos rfl, if_pos rfl] at hs
        obtain ⟨w1, m', w2, w3⟩ := ih (t + 1) _ (by omega) (by omega) hs
        rw [q1] at w1 w2 ⊢
        rw [if_pos rfl, if_pos rfl, if_pos rfl, if_pos rfl]
        exact ⟨⟨trivial, trivial, trivial, hin, ⟨hin, trivial⟩, trivial, hin, trivial, w1⟩, m', w2, w3⟩
      · rw [if_neg (by decide), if_neg (by decide)] at hs
        obtain ⟨w1, m', w2, w3⟩ := ih (t + 1) _ (by omega) (by omega) hs
        rw [q1] at w1 w2 ⊢
        simp only [n10, if_false]
        exact ⟨⟨trivial, ⟨hin, trivial⟩, trivial, hin, trivial, trivial, hin, trivial, w1⟩, m', w2, w3⟩
theorem xb_z {c : Nat} (hc : c < 2) : xb (nI c) 0 = 0 ∧ nN (nI c) 0 := by
  rcases nb_01 hc with ⟨q1, rfl⟩ | ⟨q1, rfl⟩
  · rw [q1]; exact ⟨by decide, by decide, by decide⟩
  · rw [q1]; exact ⟨by decide, by decide, by decide⟩
theorem lg_r (h : rl k o m) {L c : Nat} (hL : L < 8) (hc : c < 2) {v : Int32} (hv : v = -1 ∨ ∃ n, n ≤ 16 ∧ v = nI n) {x : Os} (hx : rnF o (2 * L + c) v x) {m' : Ms} (hm : mz (s_many m (upd (m_many m) (2 * L + c) v)) m' c L 16) : rl k x m' := by
  obtain ⟨o', ⟨z1, z2, z3⟩, rfl⟩ := hx
  obtain ⟨y1, y2⟩ := hm
  obtain ⟨⟨hD, hV, hS, hR, hT⟩, hF⟩ := h
  have key : rlR (t_rS o' (va_up (c_rS o') (2 * L + c) v)) m' := by
    intro L' hL' b hb
    obtain ⟨⟨g1, g2⟩, g3⟩ := hR L' hL' b hb
    have eS : c_rS o' = c_rS o := by rw [z1]; rfl
    have eM : m_many m' = upd (m_many m) (2 * L + c) v := by rw [y1]; rfl
    have eF : ∀ q, m_floats (s_many m (upd (m_many m) (2 * L + c) v)) q = m_floats m q := fun _ => rfl
    have eD : ∀ q, m_doubles (s_many m (upd (m_many m) (2 * L + c) v)) q = m_doubles m q := fun _ => rfl
    show (m_many m' (2 * L' + b) = va_up (c_rS o') (2 * L + c) v (2 * L' + b) ∧ (va_up (c_rS o') (2 * L + c) v (2 * L' + b) = -1 ∨ ∃ n, n ≤ 16 ∧ va_up (c_rS o') (2 * L + c) v (2 * L' + b) = nI n)) ∧ ∀ j, j < 16 → c_rP o' (2 * L' + b) j = _ ∧ _
    rw [eS, eM]
    by_cases e : 2 * L' + b = 2 * L + c
    · have e1 : L' = L := by omega
      have e2 : b = c := by omega
      subst e1 e2
      rw [ui_eq, up_eq]
      refine ⟨⟨rfl, hv⟩, fun j hj => ?_⟩
      rw [z3 j hj]
      obtain ⟨f1, f2⟩ := y2 (16 * L' + j)
      have hq : qf (nI b) (m_floats m' (16 * L' + j)) (m_doubles m' (16 * L' + j)) = 0 := by
        rcases nb_01 hb with ⟨q1, rfl⟩ | ⟨q1, rfl⟩
        · rw [q1, qf_0, f1, if_pos (by omega)]; rfl
        · rw [q1, qf_1, f2, if_pos (by omega)]; rfl
      rw [hq]
      exact ⟨(xb_z hb).1.symm, (xb_z hb).2⟩
    · rw [ui_ne e, up_ne e]
      refine ⟨⟨g1, g2⟩, fun j hj => ?_⟩
      rw [z2 _ e]
      obtain ⟨f1, f2⟩ := y2 (16 * L' + j)
      obtain ⟨g4, g5⟩ := g3 j hj
      have hq : qf (nI b) (m_floats m' (16 * L' + j)) (m_doubles m' (16 * L' + j)) = qf (nI b) (m_floats m (16 * L' + j)) (m_doubles m (16 * L' + j)) := by
        rcases nb_01 hb with ⟨q1, rfl⟩ | ⟨q1, rfl⟩
        · rw [q1, qf_0, qf_0, f1, if_neg (by omega)]; rfl
        · rw [q1, qf_1, qf_1, f2, if_neg (by omega)]; rfl
      rw [hq]
      exact ⟨g4, g5⟩
  rw [z1, y1]
  rw [z1, y1] at key
  exact ⟨⟨hD, hV, hS, key, hT⟩, hF⟩
theorem nr_c (a : Int32) : ((a = -1 ∨ ∃ n, n ≤ 16 ∧ a = nI n) ∧ ¬ a < (-1 : Int32) ∧ a ≤ (16 : Int32) ∧ jX8_in a.toInt64 (-1 : Int64) (16 : Int64) = 1) ∨ ((a < (-1 : Int32) ∨ (¬ a < (-1 : Int32) ∧ ¬ a ≤ (16 : Int32))) ∧ jX8_in a.toInt64 (-1 : Int64) (16 : Int64) = 0) := by
  have e1 : (-1 : Int64).toInt = -1 := by decide
  have e2 : (16 : Int64).toInt = 16 := by decide
  have e3 : (-1 : Int32).toInt = -1 := by decide
  have e4 : (16 : Int32).toInt = 16 := by decide
  rw [in_c, e1, e2, Int32.lt_iff_toInt_lt, Int32.le_iff_toInt_le, e3, e4]
  by_cases g : -1 ≤ a.toInt ∧ a.toInt ≤ 16
  · refine Or.inl ⟨?_, by omega, by omega, if_pos g⟩
    by_cases q : a.toInt = -1
    · exact Or.inl (Int32.toInt_inj.mp (by rw [q, e3]))
    · exact Or.inr ⟨a.toInt.toNat, by omega, Int32.toInt_inj.mp (by rw [nI_toInt (by omega)]; omega)⟩
  · exact Or.inr ⟨by omega, if_neg g⟩
theorem ok_log (h : rl k o m) (a1 a2 a3 : Int32) (hb : a2 = 0 ∨ a2 = 1) : sX7_log o a1 a2 a3 ∧ sX8_log m a1 a2 a3 ∧ (jX7_log o a1 a2 a3).1 = (jX8_log m a1 a2 a3).1 ∧ rl k (jX7_log o a1 a2 a3).2 (jX8_log m a1 a2 a3).2 := by
  unfold sX7_log jX7_log sX8_log jX8_log
  obtain ⟨s1, ⟨L, c, hL, hc, rfl, rfl, e1, e2, e3⟩ | ⟨e1, e2⟩⟩ := ro_c o a1 a2 hb
  · rw [e1, e2, om_s, om_s]
    simp only [n10, if_false]
    rcases nr_c a3 with ⟨g1, g2, g3, g4⟩ | ⟨g1, g4⟩
    · rw [g4]
      simp only [if_neg g2, if_pos g3, n10, if_false]
      have hin : vp_in (nI (2 * L + c)) 16 := nI_in (by omega) (by decide)
      unfold sX8_log_y4 jX8_log_y4
      have e16 : (16 : Int32) * nI L = nI (16 * L + 0) := (Int32.ofNat_mul 16 L).symm
      rw [e3, e16, nI_clamp (by omega)]
      obtain ⟨w1, m', w2, w3⟩ := log_L (m0 := m) (mb := s_many m (upd (m_many m) (2 * L + c) a3)) hL hc (a3 := a3) (y4 := nI (16 * L + 0)) 64 0 (s_many m (upd (m_many m) (2 * L + c) a3)) (by omega) (by omega) ⟨s_et _, fun q => ⟨by rw [if_neg (by omega)], by rw [if_neg (by omega)]⟩⟩
      rw [w2]
      exact ⟨⟨trivial, s1, rn_s o a3 (by omega), by omega, trivial⟩, ⟨trivial, hin, trivial, w1⟩, rfl, lg_r h hL hc g1 (rn_j o (2 * L + c) a3) w3⟩
    · rw [g4]
      rcases g1 with g | ⟨g, g'⟩
      · simp only [if_pos g, z00, if_true]
        exact ⟨⟨trivial, s1, trivial⟩, ⟨trivial, trivial⟩, (by trivial), h⟩
      · simp only [if_neg g, if_neg g', z00, if_true]
        exact ⟨⟨trivial, s1, trivial⟩, ⟨trivial, trivial⟩, (by trivial), h⟩
  · rw [e1, e2, om_n, om_n]
    simp only [z00, if_true]
    exact ⟨⟨trivial, s1, trivial⟩, ⟨trivial, trivial⟩, (by trivial), h⟩
end PZ
