/-! cast, left -/
section PC
variable {k i : Nat} {o : Os} {m : Ms}
theorem tr_mv (s : Bool) (c j : Nat) (q : Int) : Jvm.FP.Core.truncate s (c * 2 ^ j) (q - (j : Int)) = Jvm.FP.Core.truncate s c q := by
  unfold Jvm.FP.Core.truncate
  congr 1
  by_cases h : q < 0
  · rw [show (q - (j : Int)).toNat = 0 by omega, show q.toNat = 0 by omega, show (-(q - (j : Int))).toNat = (-q).toNat + j by omega, Nat.pow_zero, Nat.mul_one, Nat.mul_one, Nat.pow_add, Nat.mul_div_mul_right _ _ (Nat.two_pow_pos j)]
  · by_cases g : q < j
    · have e : 2 ^ j = 2 ^ q.toNat * 2 ^ (-(q - (j : Int))).toNat := by rw [← Nat.pow_add]; congr 1; omega
      rw [show (q - (j : Int)).toNat = 0 by omega, show (-q).toNat = 0 by omega, Nat.pow_zero, Nat.mul_one, Nat.div_one, e, ← Nat.mul_assoc, Nat.mul_div_cancel _ (Nat.two_pow_pos _)]
    · rw [show (-(q - (j : Int))).toNat = 0 by omega, show (-q).toNat = 0 by omega, Nat.mul_assoc, ← Nat.pow_add, show j + (q - (j : Int)).toNat = q.toNat by omega]
theorem tr_wide (X : Nat) (lo hi : Int) : Jvm.FP.Core.toInt lo hi (Jvm.FP.Core.decode (fF 1) (Jvm.FP.Core.convert (fF 0) (fF 1) X)) = Jvm.FP.Core.toInt lo hi (Jvm.FP.Core.decode (fF 0) X) := by
  unfold Jvm.FP.Core.convert
  rw [Jvm.FP.Core.decode_encode (f_good 1) _ (Jvm.FP.Core.round_fits (f_good 1) _)]
  have hd := Jvm.FP.Core.decode_fits (f_good 0) X
  generalize Jvm.FP.Core.decode (fF 0) X = D at hd ⊢
  cases D with
  | nan => rfl
  | inf s => rfl
  | fin s c q =>
    obtain ⟨c', q', hfit, hz, hv⟩ := Jvm.FP.Core.within_fit (f_good 1) (show Jvm.FP.Core.Within (fF 0) (fF 1) from Jvm.FP.Core.within_32_64) hd
    have h1 : Jvm.FP.Core.round (fF 1) (.fin s c q) = .fin s c' q' := Jvm.FP.Core.roundRatio_exact (f_good 1) (by decide) hfit hv
    rw [h1]
    show max lo (min hi (Jvm.FP.Core.truncate s c' q')) = max lo (min hi (Jvm.FP.Core.truncate s c q))
    have e : Jvm.FP.Core.truncate s c' q' = Jvm.FP.Core.truncate s c q := by
      rw [Nat.mul_one] at hv
      by_cases g : q' ≤ q
      · rw [show (q' - q).toNat = 0 by omega, Nat.pow_zero, Nat.mul_one] at hv
        have t := tr_mv s c (q - q').toNat q
        rw [hv, show q - ((q - q').toNat : Int) = q' by omega] at t
        exact t
      · rw [show (q - q').toNat = 0 by omega, Nat.pow_zero, Nat.mul_one] at hv
        have t := tr_mv s c' (q' - q).toNat q'
        rw [← hv, show q' - ((q' - q).toNat : Int) = q by omega] at t
        exact t.symm
    rw [e]
theorem cl_32 (d : Jvm.FP.Core.Datum) : (if (if Jvm.FP.Core.toL d < (2147483647 : Int64) then Jvm.FP.Core.toL d else (2147483647 : Int64)) < (-2147483648 : Int64) then (-2147483648 : Int64) else (if Jvm.FP.Core.toL d < (2147483647 : Int64) then Jvm.FP.Core.toL d else (2147483647 : Int64))) = (Jvm.FP.Core.toI d).toInt64 := by
  have key : ∃ z : Int, Jvm.FP.Core.toInt (-2 ^ 63) (2 ^ 63 - 1) d = max (-2 ^ 63) (min (2 ^ 63 - 1) z) ∧ Jvm.FP.Core.toInt (-2 ^ 31) (2 ^ 31 - 1) d = max (-2 ^ 31) (min (2 ^ 31 - 1) z) := by
    cases d with
    | nan => exact ⟨0, by decide, by decide⟩
    | inf s =>
      cases s with
      | true => exact ⟨-2 ^ 64, by decide, by decide⟩
      | false => exact ⟨2 ^ 64, by decide, by decide⟩
    | fin s c q => exact ⟨Jvm.FP.Core.truncate s c q, rfl, rfl⟩
  obtain ⟨z, h1, h2⟩ := key
  have e1 : (Jvm.FP.Core.toL d).toInt = max (-2 ^ 63) (min (2 ^ 63 - 1) z) := by
    unfold Jvm.FP.Core.toL
    rw [h1, Int64.toInt_ofInt_of_le (by omega) (by omega)]
  have e2 : (Jvm.FP.Core.toI d).toInt64.toInt = max (-2 ^ 31) (min (2 ^ 31 - 1) z) := by
    rw [Int32.toInt_toInt64]
    unfold Jvm.FP.Core.toI
    rw [h2, Int32.toInt_ofInt_of_le (by omega) (by omega)]
  have c1 : (2147483647 : Int64).toInt = 2147483647 := by decide
  have c2 : (-2147483648 : Int64).toInt = -2147483648 := by decide
  apply Int64.toInt_inj.mp
  rw [e2]
  generalize Jvm.FP.Core.toL d = y at e1 ⊢
  by_cases g : y < (2147483647 : Int64)
  · have g' := Int64.lt_iff_toInt_lt.mp g
    rw [if_pos g]
    by_cases w : y < (-2147483648 : Int64)
    · have w' := Int64.lt_iff_toInt_lt.mp w
      rw [if_pos w, c2]
      omega
    · have w' : ¬ _ := fun q => w (Int64.lt_iff_toInt_lt.mpr q)
      rw [if_neg w]
      omega
  · have g' : ¬ _ := fun q => g (Int64.lt_iff_toInt_lt.mpr q)
    rw [if_neg g, if_neg (by decide), c1]
    omega
theorem nf_f (a : Int64) : jX8_isNone 2 a = if kF 0 a % 2 ^ hN 0 ≤ iN 0 then 0 else 1 := by
  unfold jX8_isNone
  rw [if_pos rfl, k_0, p_0, i_0]
  have e : a.toInt32 &&& (2147483647 : Int32) = nI ((jX8_floatOf a).toNat % 2147483648) := by
    rw [← Int32.toBitVec_inj, ← BitVec.toNat_inj]
    show (a.toInt32.toBitVec &&& 2147483647#32).toNat = (BitVec.ofNat 32 ((jX8_floatOf a).toNat % 2147483648)).toNat
    rw [BitVec.toNat_and]
    show (jX8_floatOf a).toNat &&& 2147483647 = (jX8_floatOf a).toNat % 2147483648 % 4294967296
    rw [show 2147483647 = 2 ^ 31 - 1 from rfl, Nat.and_two_pow_sub_one_eq_mod]
    omega
  rw [e, show (2139095040 : Int32) = nI 2139095040 from rfl]
  by_cases h : (jX8_floatOf a).toNat % 2147483648 ≤ 2139095040
  · rw [if_pos h, if_pos (nI_le h (by decide))]
  · rw [if_neg h, if_neg (fun q => h ((nI_leI (by omega) (by decide)).mp q))]
theorem nf_d (a : Int64) : jX8_isNone 3 a = if kF 1 a % 2 ^ hN 1 ≤ iN 1 then 0 else 1 := by
  unfold jX8_isNone
  rw [if_neg (by decide), if_pos rfl, k_1, p_1, i_1]
  have e0 : jX4_sizeOf 1 a = a &&& (9223372036854775807 : Int64) := by
    unfold jX4_sizeOf jX4_sizeOf_y1
    rw [if_neg (by decide)]
  have e := x_size 1 (N := (jX8_doubleOf a).toNat) (u_64 _)
  rw [← x_1 a, p_1, e0] at e
  rw [e, show (9218868437227405312 : Int64) = lN 9218868437227405312 from rfl]
  by_cases h : (jX8_doubleOf a).toNat % 9223372036854775808 ≤ 9218868437227405312
  · rw [if_pos h, if_pos ((l_le (by omega) (by decide)).mpr h)]
  · rw [if_neg h, if_neg (fun q => h ((l_le (by omega) (by decide)).mp q))]
theorem rr_0 : jX7_isReal 0 = 0 := by decide
theorem rr_1 : jX7_isReal 1 = 0 := by decide
theorem rr_2 : jX7_isReal 2 = 1 := by decide
theorem rr_3 : jX7_isReal 3 = 1 := by decide
theorem nk_4 {i : Nat} (h : i < 4) : nI i = 0 ∨ nI i = 1 ∨ nI i = 2 ∨ nI i = 3 := by
  rcases (show i = 0 ∨ i = 1 ∨ i = 2 ∨ i = 3 by omega) with rfl | rfl | rfl | rfl
  · exact Or.inl rfl
  · exact Or.inr (Or.inl rfl)
  · exact Or.inr (Or.inr (Or.inl rfl))
  · exact Or.inr (Or.inr (Or.inr rfl))
theorem cw_ok (v : Int64) {a : Int32} (h : a = 0 ∨ a = 1 ∨ a = 2 ∨ a = 3) : jX7_castWhole a v = jX8_castWhole v a := by
  unfold jX7_castWhole jX7_castWhole_y3 jX8_castWhole
  rcases h with rfl | rfl | rfl | rfl
  · rw [rr_0, if_pos rfl, if_pos rfl, if_pos rfl]
  · rw [rr_1, if_pos rfl, if_neg (by decide), if_neg (by decide), if_pos rfl]
  · rw [rr_2, if_neg (by decide), if_neg (by decide), if_neg (by decide), if_neg (by decide), if_pos rfl, o_long, b_f (by rw [n_l2f]; exact a_int 0 _), n_l2f]
  · rw [rr_3, if_neg (by decide), if_pos rfl, if_neg (by decide), if_neg (by decide), if_neg (by decide), o_long, b_d (by rw [n_l2d]; exact a_int 1 _), n_l2d]
theorem cr_ok {b : Int32} {N : Nat} {T : UInt64} (nX : nN b N) (nT : nN 1 T.toNat) (hT : T.toNat = Jvm.FP.Core.convert (fF b) (fF 1) N) (ht : ∀ lo hi, Jvm.FP.Core.toInt lo hi (Jvm.FP.Core.decode (fF 1) T.toNat) = Jvm.FP.Core.toInt lo hi (Jvm.FP.Core.decode (fF b) N)) (hf : (FP.d2f T).toNat = Jvm.FP.Core.convert (fF b) (fF 0) N) {a1 : Int32} (hb : (if a1 = (3 : Int32) then (1 : Int32) else (0 : Int32)) = b) {a : Int32} (h : a = 0 ∨ a = 1 ∨ a = 2 ∨ a = 3) : sX8_castReal T a ∧ jX7_castReal a1 a (xb b N) = jX8_castReal T a := by
  have n0 : nN 0 (FP.d2f T).toNat := by rw [n_d2f nT]; exact a_conv 0 nT
  unfold sX8_castReal jX7_castReal jX7_castReal_y2 jX7_castReal_y4 jX7_castReal_y6 jX7_castReal_y8 jX8_castReal
  rw [hb, o_cut b nX.1 nX.2]
  rcases h with rfl | rfl | rfl | rfl
  · rw [rr_0, if_pos rfl, if_pos rfl, if_neg (by decide), if_pos rfl, cl_32]
    refine ⟨⟨trivial, trivial⟩, ?_⟩
    show _ = (Jvm.FP.Core.toI (Jvm.FP.Core.decode (fF 1) T.toNat)).toInt64
    unfold Jvm.FP.Core.toI
    rw [ht]
  · rw [rr_1, if_neg (by decide), if_pos rfl, if_pos rfl, if_pos rfl, if_neg (by decide), if_pos rfl]
    refine ⟨⟨trivial, trivial⟩, ?_⟩
    show _ = Jvm.FP.Core.toL (Jvm.FP.Core.decode (fF 1) T.toNat)
    unfold Jvm.FP.Core.toL
    rw [ht]
  · simp only [rr_2, n10, if_false, show ((2 : Int32) = 0) = False by decide, show ((2 : Int32) = 1) = False by decide, show ((2 : Int32) = 3) = False by decide, if_true]
    rw [o_real b 0 nX.1 nX.2, b_f n0, hf]
    exact ⟨⟨trivial, nn_32 n0, trivial⟩, rfl⟩
  · simp only [rr_3, n10, if_false, show ((3 : Int32) = 0) = False by decide, show ((3 : Int32) = 1) = False by decide, show ((3 : Int32) = 2) = False by decide, if_true]
    rw [o_real b 1 nX.1 nX.2, b_d nT, hT]
    exact ⟨⟨trivial, trivial⟩, rfl⟩
theorem kd_c (a : Int32) : ((a = 0 ∨ a = 1 ∨ a = 2 ∨ a = 3) ∧ jX7_isKind a = 1 ∧ jX8_in a.toInt64 (0 : Int64) (3 : Int64) = 1) ∨ (jX7_isKind a = 0 ∧ jX8_in a.toInt64 (0 : Int64) (3 : Int64) = 0) := by
  unfold jX7_isKind
  rw [in_c]
  rcases rg_c a (n := 4) (by decide) with ⟨i, hi, rfl⟩ | h
  · refine Or.inl ⟨nk_4 hi, ?_, ?_⟩
    · rw [if_neg (nI_pos (by omega)), if_neg (show ¬ (3 : Int32) < nI i from fun q => by have := Int32.lt_iff_toInt_lt.mp q; rw [nI_toInt (by omega)] at this; have e3 : (3 : Int32).toInt = 3 := rfl; omega)]
    · rw [nI_toInt (by omega)]; exact if_pos ⟨by show (0 : Int) ≤ _; omega, by show _ ≤ (3 : Int); omega⟩
  · refine Or.inr ⟨?_, if_neg ?_⟩
    · rcases h with h | h
      · rw [if_pos (ltz_i h)]
      · rw [if_neg (fun g => by have := Int32.lt_iff_toInt_lt.mp g; have e : (0 : Int32).toInt = 0 := rfl; omega), if_pos (Int32.lt_iff_toInt_lt.mpr (by have e : (3 : Int32).toInt = 3 := rfl; omega))]
    · show ¬ ((0 : Int) ≤ _ ∧ _ ≤ (3 : Int)); omega
theorem ok_cast (h : rl k o m) (a1 a2 : Int32) (a3 : Int64) : sX8_cast m a1 a2 a3 ∧ (jX7_cast o a1 a2 a3).1 = (jX8_cast m a1 a2 a3).1 ∧ rl k (jX7_cast o a1 a2 a3).2 (jX8_cast m a1 a2 a3).2 := by
  have end_ : ∀ v, rl k (t_se o v) (s_seen m v) := fun v => ⟨se_ok h.1 rfl, h.2⟩
  unfold jX7_cast sX8_cast jX8_cast
  rcases kd_c a1 with ⟨g1, e1, e2⟩ | ⟨e1, e2⟩
  · rw [e1, e2]
    simp only [n10, if_false]
    rcases kd_c a2 with ⟨g2, f1, f2⟩ | ⟨f1, f2⟩
    · rw [f1, f2]
      simp only [n10, if_false]
      unfold jX7_cast_y3 jX7_cast_y7 jX7_cast_y9 jX7_cast_y12 sX8_cast_y4 jX8_cast_y4
      rcases g1 with rfl | rfl | rfl | rfl
      · have n0 : jX8_isNone 0 a3 = 0 := rfl
        simp only [n0, rr_0, if_true, z00, show ((2 : Int32) ≤ 0) = False by decide, if_false, cw_ok _ g2]
        exact ⟨⟨trivial, trivial, trivial, trivial⟩, (by trivial), end_ _⟩
      · have n0 : jX8_isNone 1 a3 = 0 := rfl
        simp only [n0, rr_1, if_true, z00, n10, show ((2 : Int32) ≤ 1) = False by decide, show ((1 : Int32) = 2) = False by decide, if_false, cw_ok _ g2]
        exact ⟨⟨trivial, trivial, trivial, trivial⟩, (by trivial), end_ _⟩
      · have ex : a3.toInt32.toInt64 = xb 0 (kF 0 a3) := t_0 a3
        rw [nf_f, ex]
        simp only [rr_2, n10, if_true, if_false, show ((2 : Int32) = 0) = False by decide, show ((2 : Int32) = 3) = False by decide, show ((2 : Int32) ≤ 2) = True by decide]
        rw [x_num 0 (kF_lt (Or.inl rfl) a3)]
        by_cases q : kF 0 a3 % 2 ^ hN 0 ≤ iN 0
        · have nX : nN 0 (kF 0 a3) := ⟨kF_lt (Or.inl rfl) a3, q⟩
          have nX' := nX
          rw [k_0] at nX'
          have nT : nN 1 (FP.f2d (jX8_floatOf a3)).toNat := by rw [n_f2d nX']; exact a_conv 1 nX'
          obtain ⟨w1, w2⟩ := cr_ok (a1 := 2) nX nT (by rw [n_f2d nX', k_0]) (fun lo hi => by rw [n_f2d nX', k_0]; exact tr_wide _ lo hi) (by rw [d2f_f2d nX', k_0, c_id nX']) (by decide) g2
          simp only [if_pos q, n10, z00, if_true, if_false, w2]
          exact ⟨⟨trivial, ⟨no_sf nX, nn_64 nT, w1, trivial⟩, trivial, trivial⟩, (by trivial), end_ _⟩
        · simp only [if_neg q, n10, z00, if_true, if_false]
          exact ⟨⟨trivial, trivial⟩, (by trivial), h⟩
      · have ex : a3 = xb 1 (kF 1 a3) := t_1 a3
        rw [nf_d]
        simp only [rr_3, n10, if_true, if_false, show ((3 : Int32) = 0) = False by decide, show ((3 : Int32) = 2) = False by decide, show ((2 : Int32) ≤ 3) = True by decide]
        have ey : jX4_isNumber 1 a3 = if kF 1 a3 % 2 ^ hN 1 ≤ iN 1 then 1 else 0 := (congrArg (jX4_isNumber 1) ex).trans (x_num 1 (kF_lt (Or.inr rfl) a3))
        rw [ey]
        by_cases q : kF 1 a3 % 2 ^ hN 1 ≤ iN 1
        · have nX : nN 1 (kF 1 a3) := ⟨kF_lt (Or.inr rfl) a3, q⟩
          have nX' := nX
          rw [k_1] at nX'
          obtain ⟨w1, w2⟩ := cr_ok (a1 := 3) nX nX' (by rw [c_id nX, k_1]) (fun lo hi => by rw [k_1]) (by rw [n_d2f nX', k_1]) (by decide) g2
          rw [← ex] at w2
          simp only [if_pos q, n10, z00, if_true, if_false, w2]
          exact ⟨⟨trivial, ⟨no_sd nX, w1, trivial⟩, trivial, trivial⟩, (by trivial), end_ _⟩
        · simp only [if_neg q, n10, z00, if_true, if_false]
          exact ⟨⟨trivial, trivial⟩, (by trivial), h⟩
    · rw [f1, f2]
      simp only [z00, if_true]
      exact ⟨⟨trivial, trivial⟩, (by trivial), h⟩
  · rw [e1, e2]
    simp only [z00, if_true]
    exact ⟨⟨trivial, trivial⟩, (by trivial), h⟩
theorem ok_left (h : rl k o m) (a1 : Int32) (a2 a4 : Int64) (hb : a1 = 0 ∨ a1 = 1) : sX8_left m a1 a2 a4 ∧ (jX7_left o a1 a2 a4).1 = (jX8_left m a1 a2 a4).1 ∧ rl k (jX7_left o a1 a2 a4).2 (jX8_left m a1 a2 a4).2 := by
  have end_ : ∀ v, rl k (t_se o v) (s_seen m v) := fun v => ⟨se_ok h.1 rfl, h.2⟩
  unfold jX7_left jX7_left_y1 jX7_left_y2 sX8_left jX8_left sX8_left_y1 jX8_left_y1 sX8_left_y3 jX8_left_y3 sX8_left_y9 jX8_left_y9 sX8_left_y19 jX8_left_y19
  rw [cf_b hb, t_told hb, t_told hb, x_zero a1 (kF_lt hb a4), x_num a1 (kF_lt hb a4)]
  by_cases g : jX8_isFit a1 a2 = 0
  · simp only [if_pos g]
    exact ⟨⟨trivial, trivial, trivial, trivial⟩, (by trivial), h⟩
  · have fa := fit_of hb g
    simp only [if_neg g]
    rcases hb with rfl | rfl
    · simp only [z00, if_true]
      rw [nf_f]
      by_cases q : kF 0 a4 % 2 ^ hN 0 ≤ iN 0
      · have n4 : nN 0 (kF 0 a4) := ⟨kF_lt (Or.inl rfl) a4, q⟩
        have n4' := n4
        have fa' := fa
        rw [k_0] at n4' fa'
        simp only [if_pos q, n10, z00, if_true, if_false]
        by_cases z : kF 0 a4 % 2 ^ hN 0 = 0
        · have z' := (z_f n4').mpr (by rw [k_0] at z; exact z)
          simp only [if_pos z, if_pos z', n10, if_false]
          exact ⟨⟨trivial, trivial, trivial, no_sf n4, trivial⟩, (by trivial), h⟩
        · have z2 : ¬ (jX8_floatOf a4).toNat % 2 ^ hN 0 = 0 := by rw [k_0] at z; exact z
          have z' : ¬ _ := fun w => z2 ((z_f n4').mp w)
          have hm : nN 0 (FP.frem (jX8_floatOf a2) (jX8_floatOf a4)).toNat := by rw [n_frem fa' n4' z2]; exact (a_rem fa' n4' z2).num
          simp only [if_neg z, if_neg z', n10, z00, if_true, if_false]
          rw [o_rem 0 fa.1 n4.1 fa.2 n4.2 z, k_0, k_0, ← n_frem fa' n4' z2, b_f hm]
          exact ⟨⟨trivial, trivial, trivial, no_sf n4, ⟨no_sf fa.num, no_sf n4, nn_32 hm, trivial⟩, trivial, trivial⟩, (by trivial), end_ _⟩
      · simp only [if_neg q, n10, z00, if_true, if_false]
        by_cases z : kF 0 a4 % 2 ^ hN 0 = 0
        · simp only [if_pos z, n10, if_false]
          exact ⟨⟨trivial, trivial, trivial, trivial⟩, (by trivial), h⟩
        · simp only [if_neg z, z00, if_true]
          exact ⟨⟨trivial, trivial, trivial, trivial⟩, (by trivial), h⟩
    · simp only [n10, if_false]
      rw [nf_d]
      by_cases q : kF 1 a4 % 2 ^ hN 1 ≤ iN 1
      · have n4 : nN 1 (kF 1 a4) := ⟨kF_lt (Or.inr rfl) a4, q⟩
        have n4' := n4
        have fa' := fa
        rw [k_1] at n4' fa'
        simp only [if_pos q, n10, z00, if_true, if_false]
        by_cases z : kF 1 a4 % 2 ^ hN 1 = 0
        · have z' := (z_d n4').mpr (by rw [k_1] at z; exact z)
          simp only [if_pos z, if_pos z', n10, if_false]
          exact ⟨⟨trivial, trivial, trivial, no_sd n4, trivial⟩, (by trivial), h⟩
        · have z2 : ¬ (jX8_doubleOf a4).toNat % 2 ^ hN 1 = 0 := by rw [k_1] at z; exact z
          have z' : ¬ _ := fun w => z2 ((z_d n4').mp w)
          have hm : nN 1 (FP.drem (jX8_doubleOf a2) (jX8_doubleOf a4)).toNat := by rw [n_drem fa' n4' z2]; exact (a_rem fa' n4' z2).num
          simp only [if_neg z, if_neg z', n10, z00, if_true, if_false]
          rw [o_rem 1 fa.1 n4.1 fa.2 n4.2 z, k_1, k_1, ← n_drem fa' n4' z2, b_d hm]
          exact ⟨⟨trivial, trivial, trivial, no_sd n4, ⟨no_sd fa.num, no_sd n4, nn_64 hm, trivial⟩, trivial, trivial⟩, (by trivial), end_ _⟩
      · simp only [if_neg q, n10, z00, if_true, if_false]
        by_cases z : kF 1 a4 % 2 ^ hN 1 = 0
        · simp only [if_pos z, n10, if_false]
          exact ⟨⟨trivial, trivial, trivial, trivial⟩, (by trivial), h⟩
        · simp only [if_neg z, z00, if_true]
          exact ⟨⟨trivial, trivial, trivial, trivial⟩, (by trivial), h⟩
end PC
