/-! the reference's operations, and the class's, on the same bits -/
theorem of32_nat {N : Nat} (h : N < 2 * 2 ^ hN 0) : (UInt32.ofNat N).toNat = N := by
  rw [p_0] at h
  rw [UInt32.toNat_ofNat']
  exact Nat.mod_eq_of_lt (by omega)
theorem of64_nat {N : Nat} (h : N < 2 * 2 ^ hN 1) : (UInt64.ofNat N).toNat = N := by
  rw [p_1] at h
  rw [UInt64.toNat_ofNat']
  exact Nat.mod_eq_of_lt (by omega)
theorem n_fadd {x y : UInt32} (hx : fN 0 x.toNat) (hy : fN 0 y.toNat) : (FP.fadd x y).toNat = Jvm.FP.Core.add (fF 0) x.toNat y.toNat := of32_nat (a_add hx hy).1
theorem n_fdiv {x y : UInt32} (hx : fN 0 x.toNat) (hy : fN 0 y.toNat) (h0 : y.toNat % 2 ^ hN 0 ≠ 0) : (FP.fdiv x y).toNat = Jvm.FP.Core.div (fF 0) x.toNat y.toNat := of32_nat (a_div hx hy h0).1
theorem n_frem {x y : UInt32} (hx : fN 0 x.toNat) (hy : nN 0 y.toNat) (h0 : y.toNat % 2 ^ hN 0 ≠ 0) : (FP.frem x y).toNat = Jvm.FP.Core.rem (fF 0) x.toNat y.toNat := of32_nat (a_rem hx hy h0).1
theorem n_dadd {x y : UInt64} (hx : fN 1 x.toNat) (hy : fN 1 y.toNat) : (FP.dadd x y).toNat = Jvm.FP.Core.add (fF 1) x.toNat y.toNat := of64_nat (a_add hx hy).1
theorem n_dsub {x y : UInt64} (hx : fN 1 x.toNat) (hy : fN 1 y.toNat) : (FP.dsub x y).toNat = Jvm.FP.Core.sub (fF 1) x.toNat y.toNat := of64_nat (a_sub hx hy).1
theorem n_dmul {x y : UInt64} (hx : fN 1 x.toNat) (hy : fN 1 y.toNat) : (FP.dmul x y).toNat = Jvm.FP.Core.mul (fF 1) x.toNat y.toNat := of64_nat (a_mul hx hy).1
theorem n_ddiv {x y : UInt64} (hx : fN 1 x.toNat) (hy : fN 1 y.toNat) (h0 : y.toNat % 2 ^ hN 1 ≠ 0) : (FP.ddiv x y).toNat = Jvm.FP.Core.div (fF 1) x.toNat y.toNat := of64_nat (a_div hx hy h0).1
theorem n_drem {x y : UInt64} (hx : fN 1 x.toNat) (hy : nN 1 y.toNat) (h0 : y.toNat % 2 ^ hN 1 ≠ 0) : (FP.drem x y).toNat = Jvm.FP.Core.rem (fF 1) x.toNat y.toNat := of64_nat (a_rem hx hy h0).1
theorem n_i2d (n : Int32) : (FP.i2d n).toNat = Jvm.FP.Core.fromInt (fF 1) n.toInt := of64_nat (a_int 1 n.toInt).1
theorem n_l2d (n : Int64) : (FP.l2d n).toNat = Jvm.FP.Core.fromInt (fF 1) n.toInt := of64_nat (a_int 1 n.toInt).1
theorem n_l2f (n : Int64) : (FP.l2f n).toNat = Jvm.FP.Core.fromInt (fF 0) n.toInt := of32_nat (a_int 0 n.toInt).1
theorem nan_f {x : UInt32} (hx : nN 0 x.toNat) : Jvm.FP.Core.fIsNaN x = false := by
  rw [Jvm.FP.Core.notNaN_iff32]
  exact dec_num (a0 := 0) hx
theorem nan_d {x : UInt64} (hx : nN 1 x.toNat) : Jvm.FP.Core.dIsNaN x = false := by
  rw [Jvm.FP.Core.notNaN_iff]
  exact dec_num (a0 := 1) hx
theorem n_f2d {x : UInt32} (hx : nN 0 x.toNat) : (FP.f2d x).toNat = Jvm.FP.Core.convert (fF 0) (fF 1) x.toNat := by
  unfold FP.f2d
  rw [nan_f hx]
  exact of64_nat (a_conv 1 hx).1
theorem n_d2f {x : UInt64} (hx : nN 1 x.toNat) : (FP.d2f x).toNat = Jvm.FP.Core.convert (fF 1) (fF 0) x.toNat := by
  unfold FP.d2f
  rw [nan_d hx]
  exact of32_nat (a_conv 0 hx).1
theorem nn_32 {x : UInt32} (h : nN 0 x.toNat) : vf_n32 x := by
  unfold vf_n32
  rw [UInt32.le_iff_toNat_le, Jvm.FP.Core.mask_toNat32]
  have := h.2
  rw [p_0, i_0] at this
  exact this
theorem nn_64 {x : UInt64} (h : nN 1 x.toNat) : vf_n64 x := by
  unfold vf_n64
  rw [UInt64.le_iff_toNat_le, Jvm.FP.Core.mask_toNat]
  have := h.2
  rw [p_1, i_1] at this
  exact this
theorem cv_pos (x y : Int) (op : CmpOp) : 0 < Op.cmpValue (some (compare x y)) op ↔ y < x := by
  cases op <;> (
  rw [Jvm.FP.Core.compare_ite]
  by_cases h1 : x < y
  · rw [if_pos h1]; exact ⟨fun h => absurd h (by decide), fun h => by omega⟩
  · rw [if_neg h1]
    by_cases h2 : x = y
    · rw [if_pos h2]; exact ⟨fun h => absurd h (by decide), fun h => by omega⟩
    · rw [if_neg h2]; exact ⟨fun _ => by omega, fun _ => by decide⟩)
theorem cv_nn (x y : Int) (op : CmpOp) : 0 ≤ Op.cmpValue (some (compare x y)) op ↔ y ≤ x := by
  cases op <;> (
  rw [Jvm.FP.Core.compare_ite]
  by_cases h1 : x < y
  · rw [if_pos h1]; exact ⟨fun h => absurd h (by decide), fun h => by omega⟩
  · rw [if_neg h1]
    by_cases h2 : x = y
    · rw [if_pos h2]; exact ⟨fun _ => by omega, fun _ => by decide⟩
    · rw [if_neg h2]; exact ⟨fun _ => by omega, fun _ => by decide⟩)
theorem cv_0 (x y : Int) (op : CmpOp) : Op.cmpValue (some (compare x y)) op = 0 ↔ x = y := by
  cases op <;> (
  rw [Jvm.FP.Core.compare_ite]
  by_cases h1 : x < y
  · rw [if_pos h1]; exact ⟨fun h => absurd h (by decide), fun h => by omega⟩
  · rw [if_neg h1]
    by_cases h2 : x = y
    · rw [if_pos h2]; exact ⟨fun _ => h2, fun _ => by decide⟩
    · rw [if_neg h2]; exact ⟨fun h => absurd h (by decide), fun h => absurd h h2⟩)
theorem v_32 {x : UInt32} (h : nN 0 x.toNat) : Jvm.FP.Core.val32 x ≠ .nan := dec_num (a0 := 0) h
theorem v_64 {x : UInt64} (h : nN 1 x.toNat) : Jvm.FP.Core.val64 x ≠ .nan := dec_num (a0 := 1) h
theorem z_f {x : UInt32} (h : nN 0 x.toNat) : (Op.cmpValue (FP.fcmp x FP.fconst0) .l = 0) ↔ x.toNat % 2 ^ hN 0 = 0 := by
  show (Op.cmpValue (Jvm.FP.Core.fcmp x 0) .l = 0) ↔ _
  rw [Jvm.FP.Core.fcmp_key (v_32 h) (by decide +kernel), cv_0, p_0]
  unfold Jvm.FP.Core.fkey
  have := x.toNat_lt
  have e : (0 : UInt32).toNat = 0 := rfl
  rw [e]
  split <;> split <;> omega
theorem z_d {x : UInt64} (h : nN 1 x.toNat) : (Op.cmpValue (FP.dcmp x FP.dconst0) .l = 0) ↔ x.toNat % 2 ^ hN 1 = 0 := by
  show (Op.cmpValue (Jvm.FP.Core.dcmp x 0) .l = 0) ↔ _
  rw [Jvm.FP.Core.dcmp_key (v_64 h) (by decide +kernel), cv_0, p_1]
  unfold Jvm.FP.Core.dkey
  have := x.toNat_lt
  have e : (0 : UInt64).toNat = 0 := rfl
  rw [e]
  split <;> split <;> omega
theorem e_f {x : UInt32} (h : nN 0 x.toNat) : jX8_isEndlessFloat x = if x.toNat % 2 ^ hN 0 < iN 0 then 0 else 1 := by
  unfold jX8_isEndlessFloat
  have h2 := h.2
  rw [p_0, i_0] at h2
  rw [show FP.fcmp x (2139095039 : UInt32) = _ from Jvm.FP.Core.fcmp_key (v_32 h) (by decide +kernel), show FP.fcmp x (4286578687 : UInt32) = _ from Jvm.FP.Core.fcmp_key (v_32 h) (by decide +kernel), p_0, i_0]
  simp only [cv_pos, cv_nn]
  unfold Jvm.FP.Core.fkey
  have := x.toNat_lt
  have e : (2139095039 : UInt32).toNat = 2139095039 := rfl
  have e2 : (4286578687 : UInt32).toNat = 4286578687 := rfl
  rw [e, e2, if_neg (show ¬ 2 ^ 31 ≤ 2139095039 by omega), if_pos (show 2 ^ 31 ≤ 4286578687 by omega)]
  by_cases g : 2 ^ 31 ≤ x.toNat
  · rw [if_pos g, if_neg (by omega)]
    by_cases k : x.toNat % 2147483648 < 2139095040
    · rw [if_pos k, if_pos (by omega)]
    · rw [if_neg k, if_neg (by omega)]
  · rw [if_neg g]
    by_cases k : x.toNat % 2147483648 < 2139095040
    · rw [if_pos k, if_neg (by omega), if_pos (by omega)]
    · rw [if_neg k, if_pos (by omega)]
theorem e_d {x : UInt64} (h : nN 1 x.toNat) : jX8_isEndless x = if x.toNat % 2 ^ hN 1 < iN 1 then 0 else 1 := by
  unfold jX8_isEndless
  have h2 := h.2
  rw [p_1, i_1] at h2
  rw [show FP.dcmp x (9218868437227405311 : UInt64) = _ from Jvm.FP.Core.dcmp_key (v_64 h) (by decide +kernel), show FP.dcmp x (18442240474082181119 : UInt64) = _ from Jvm.FP.Core.dcmp_key (v_64 h) (by decide +kernel), p_1, i_1]
  simp only [cv_pos, cv_nn]
  unfold Jvm.FP.Core.dkey
  have := x.toNat_lt
  have e : (9218868437227405311 : UInt64).toNat = 9218868437227405311 := rfl
  have e2 : (18442240474082181119 : UInt64).toNat = 18442240474082181119 := rfl
  rw [e, e2, if_neg (show ¬ 2 ^ 63 ≤ 9218868437227405311 by omega), if_pos (show 2 ^ 63 ≤ 18442240474082181119 by omega)]
  by_cases g : 2 ^ 63 ≤ x.toNat
  · rw [if_pos g, if_neg (by omega)]
    by_cases k : x.toNat % 9223372036854775808 < 9218868437227405312
    · rw [if_pos k, if_pos (by omega)]
    · rw [if_neg k, if_neg (by omega)]
  · rw [if_neg g]
    by_cases k : x.toNat % 9223372036854775808 < 9218868437227405312
    · rw [if_pos k, if_neg (by omega), if_pos (by omega)]
    · rw [if_neg k, if_pos (by omega)]
theorem b_f {x : UInt32} (h : nN 0 x.toNat) : (jJxf58ca_floatToIntBits_5c35a x).toInt64 = xb 0 x.toNat := by
  unfold jJxf58ca_floatToIntBits_5c35a jJxf58ca_isNaN_12338
  rw [show FP.fcmp x x = _ from Jvm.FP.Core.fcmp_self (v_32 h), if_pos (show Op.cmpValue (some .eq) .l = 0 from rfl), if_pos rfl, xb_0]
  congr 1
  exact Int32.toBitVec_inj.mp (by show x.toBitVec = BitVec.ofNat 32 x.toBitVec.toNat; simp)
theorem b_d {x : UInt64} (h : nN 1 x.toNat) : jJxe99ae_doubleToLongBits_ccdee x = xb 1 x.toNat := by
  unfold jJxe99ae_doubleToLongBits_ccdee jJxe99ae_isNaN_b9ae7
  rw [show FP.dcmp x x = _ from Jvm.FP.Core.dcmp_self (v_64 h), if_pos (show Op.cmpValue (some .eq) .l = 0 from rfl), if_pos rfl, xb_1]
  exact wb_inj (by show x.toBitVec = BitVec.ofNat 64 x.toBitVec.toNat; simp)
/-- what is told -/
def kF (a0 : Int32) (a : Int64) : Nat := if a0 = 0 then (jX8_floatOf a).toNat else (jX8_doubleOf a).toNat
theorem k_0 (a : Int64) : kF 0 a = (jX8_floatOf a).toNat := if_pos rfl
theorem k_1 (a : Int64) : kF 1 a = (jX8_doubleOf a).toNat := if_neg (by decide)
theorem kF_lt {a0 : Int32} (h : a0 = 0 ∨ a0 = 1) (a : Int64) : kF a0 a < 2 * 2 ^ hN a0 := by
  rcases h with rfl | rfl
  · rw [k_0]; exact u_32 _
  · rw [k_1]; exact u_64 _
theorem t_0 (a : Int64) : jX4_told 0 a = xb 0 (kF 0 a) := by
  unfold jX4_told
  rw [xb_0, k_0, if_pos rfl]
  congr 1
  exact Int32.toBitVec_inj.mp (by show a.toInt32.toBitVec = BitVec.ofNat 32 a.toInt32.toBitVec.toNat; simp)
theorem t_1 (a : Int64) : jX4_told 1 a = xb 1 (kF 1 a) := by
  unfold jX4_told
  rw [xb_1, k_1, if_neg (by decide)]
  exact wb_inj (by show a.toBitVec = BitVec.ofNat 64 a.toBitVec.toNat; simp)
theorem x_1 (a : Int64) : a = xb 1 (jX8_doubleOf a).toNat := by
  rw [xb_1]
  exact wb_inj (by show a.toBitVec = BitVec.ofNat 64 a.toBitVec.toNat; simp)
theorem t_told {a0 : Int32} (h : a0 = 0 ∨ a0 = 1) (a : Int64) : jX4_told a0 a = xb a0 (kF a0 a) := by
  rcases h with rfl | rfl
  · exact t_0 a
  · exact t_1 a
theorem and_hi (N k j : Nat) : N &&& ((2 ^ j - 1) * 2 ^ k) = (N / 2 ^ k % 2 ^ j) * 2 ^ k := by
  have e := Nat.div_add_mod (N &&& ((2 ^ j - 1) * 2 ^ k)) (2 ^ k)
  rw [Nat.and_div_two_pow, Nat.and_mod_two_pow, Nat.mul_div_cancel _ (Nat.two_pow_pos k), Nat.mul_mod_left, Nat.and_zero, Nat.and_two_pow_sub_one_eq_mod] at e
  rw [← e, Nat.add_zero, Nat.mul_comm]
theorem rf_f (a : Int64) : jX8_isFitFloat a = if kF 0 a % 2 ^ hN 0 < iN 0 then 1 else 0 := by
  unfold jX8_isFitFloat
  rw [k_0, p_0, i_0]
  have e : (a.toInt32 &&& (2139095040 : Int32) = (2139095040 : Int32)) ↔ (jX8_floatOf a).toNat &&& 2139095040 = 2139095040 := by
    rw [← Int32.toBitVec_inj, ← BitVec.toNat_inj]
    show (a.toInt32.toBitVec &&& 2139095040#32).toNat = (2139095040#32).toNat ↔ _
    rw [BitVec.toNat_and]
    exact Iff.rfl
  have e2 := and_hi (jX8_floatOf a).toNat 23 8
  rw [show (2 ^ 8 - 1) * 2 ^ 23 = 2139095040 from rfl] at e2
  rw [e2] at e
  by_cases h : (jX8_floatOf a).toNat % 2147483648 < 2139095040
  · rw [if_pos h, if_neg (fun g => by have := e.mp g; omega)]
  · rw [if_neg h, if_pos (e.mpr (by omega))]
theorem rf_d (a : Int64) : jX8_isFitDouble a = if kF 1 a % 2 ^ hN 1 < iN 1 then 1 else 0 := by
  unfold jX8_isFitDouble
  rw [k_1, p_1, i_1]
  have e : (a &&& (9218868437227405312 : Int64) = (9218868437227405312 : Int64)) ↔ (jX8_doubleOf a).toNat &&& 9218868437227405312 = 9218868437227405312 := by
    rw [← Int64.toBitVec_inj, ← BitVec.toNat_inj]
    show (a.toBitVec &&& 9218868437227405312#64).toNat = (9218868437227405312#64).toNat ↔ _
    rw [BitVec.toNat_and]
    exact Iff.rfl
  have e2 := and_hi (jX8_doubleOf a).toNat 52 11
  rw [show (2 ^ 11 - 1) * 2 ^ 52 = 9218868437227405312 from rfl] at e2
  rw [e2] at e
  by_cases h : (jX8_doubleOf a).toNat % 9223372036854775808 < 9218868437227405312
  · rw [if_pos h, if_neg (fun g => by have := e.mp g; omega)]
  · rw [if_neg h, if_pos (e.mpr (by omega))]
theorem rf_b {a0 : Int32} (h : a0 = 0 ∨ a0 = 1) (a : Int64) : jX8_isFit a0 a = if kF a0 a % 2 ^ hN a0 < iN a0 then 1 else 0 := by
  rcases h with rfl | rfl
  · exact (if_pos rfl).trans (rf_f a)
  · exact (if_neg (by decide)).trans (rf_d a)
theorem cf_b {a0 : Int32} (h : a0 = 0 ∨ a0 = 1) (a : Int64) : jX4_isFit a0 (jX4_told a0 a) = jX8_isFit a0 a := by
  rw [t_told h, x_fit a0 (kF_lt h a), rf_b h]
theorem fit_of {a0 : Int32} (h : a0 = 0 ∨ a0 = 1) {a : Int64} (g : ¬ jX8_isFit a0 a = 0) : fN a0 (kF a0 a) := by
  refine ⟨kF_lt h a, ?_⟩
  rw [rf_b h] at g
  by_cases k : kF a0 a % 2 ^ hN a0 < iN a0
  · exact k
  · rw [if_neg k] at g; exact absurd rfl g
theorem no_sf {a : Int64} (h : nN 0 (kF 0 a)) : sX8_floatOf a := by
  refine ⟨trivial, ?_, trivial⟩
  unfold vn_sni2f
  rw [k_0] at h
  have h2 := h.2
  rw [p_0, i_0] at h2
  have : ¬ (a.toInt32.toUInt32 &&& 0x7fffffff > 0x7f800000) := by
    show ¬ (0x7f800000 < a.toInt32.toUInt32 &&& 0x7fffffff)
    rw [UInt32.lt_iff_toNat_lt, Jvm.FP.Core.mask_toNat32]
    exact Nat.not_lt.mpr h2
  rw [decide_eq_false this]
  rfl
theorem no_sd {a : Int64} (h : nN 1 (kF 1 a)) : sX8_doubleOf a := by
  refine ⟨trivial, ?_, trivial⟩
  unfold vn_snl2d
  rw [k_1] at h
  have h2 := h.2
  rw [p_1, i_1] at h2
  have : ¬ (a.toUInt64 &&& 0x7fffffffffffffff > 0x7ff0000000000000) := by
    show ¬ (0x7ff0000000000000 < a.toUInt64 &&& 0x7fffffffffffffff)
    rw [UInt64.lt_iff_toNat_lt, Jvm.FP.Core.mask_toNat]
    exact Nat.not_lt.mpr h2
  rw [decide_eq_false this]
  rfl
