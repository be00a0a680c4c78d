/-! the reference's floats and doubles, by their bits -/
theorem i_0 : iN 0 = 2139095040 := by decide
theorem i_1 : iN 1 = 9218868437227405312 := by decide
theorem p_0 : 2 ^ hN 0 = 2147483648 := by decide
theorem p_1 : 2 ^ hN 1 = 9223372036854775808 := by decide
theorem u_32 (x : UInt32) : x.toNat < 2 * 2 ^ hN 0 := by have := x.toNat_lt; rw [p_0]; omega
theorem u_64 (x : UInt64) : x.toNat < 2 * 2 ^ hN 1 := by have := x.toNat_lt; rw [p_1]; omega
/-- fit; a number -/
def fN (a0 : Int32) (N : Nat) : Prop := N < 2 * 2 ^ hN a0 ∧ N % 2 ^ hN a0 < iN a0
def nN (a0 : Int32) (N : Nat) : Prop := N < 2 * 2 ^ hN a0 ∧ N % 2 ^ hN a0 ≤ iN a0
theorem fN.num {a0 : Int32} {N : Nat} (h : fN a0 N) : nN a0 N := ⟨h.1, Nat.le_of_lt h.2⟩
theorem nm_enc (a0 : Int32) {d : Jvm.FP.Core.Datum} (hf : Jvm.FP.Core.fits (fF a0) d) (hn : d ≠ .nan) : nN a0 (Jvm.FP.Core.encode (fF a0) d) := by
  refine ⟨enc_lt a0 d hf, ?_⟩
  have h := Jvm.FP.Core.decode_encode (f_good a0) d hf
  have h2 : ¬ Jvm.FP.Core.decode (fF a0) (Jvm.FP.Core.encode (fF a0) d) = .nan := by rw [h]; exact hn
  rw [Jvm.FP.Core.decode_nan, f_inf] at h2
  unfold Jvm.FP.Core.mag at h2
  rw [f_half] at h2
  exact Nat.not_lt.mp h2
theorem fi_enc (a0 : Int32) {s : Bool} {c : Nat} {q : Int} (hf : Jvm.FP.Core.fits (fF a0) (.fin s c q)) : fN a0 (Jvm.FP.Core.encode (fF a0) (.fin s c q)) := by
  obtain ⟨h1, h2⟩ := nm_enc a0 hf (by intro h; cases h)
  refine ⟨h1, ?_⟩
  rcases Nat.lt_or_eq_of_le h2 with h | h
  · exact h
  · have h3 := dec_inf a0 h1 h
    rw [Jvm.FP.Core.decode_encode (f_good a0) _ hf] at h3
    cases h3
section FLA
variable {a0 : Int32} {X Y : Nat}
theorem a_add (fX : fN a0 X) (fY : fN a0 Y) : nN a0 (Jvm.FP.Core.add (fF a0) X Y) := by
  unfold Jvm.FP.Core.add
  rw [dec_fin a0 fX.1 fX.2, dec_fin a0 fY.1 fY.2]
  exact nm_enc a0 (Jvm.FP.Core.round_fits (f_good a0) _) (fun h => by rw [Jvm.FP.Core.round_nan] at h; cases h)
theorem a_mul (fX : fN a0 X) (fY : fN a0 Y) : nN a0 (Jvm.FP.Core.mul (fF a0) X Y) := by
  unfold Jvm.FP.Core.mul
  rw [dec_fin a0 fX.1 fX.2, dec_fin a0 fY.1 fY.2]
  exact nm_enc a0 (Jvm.FP.Core.round_fits (f_good a0) _) (fun h => by rw [Jvm.FP.Core.round_nan] at h; cases h)
theorem a_sub (fX : fN a0 X) (fY : fN a0 Y) : nN a0 (Jvm.FP.Core.sub (fF a0) X Y) := by
  unfold Jvm.FP.Core.sub
  rw [dec_fin a0 fX.1 fX.2, dec_fin a0 fY.1 fY.2]
  exact nm_enc a0 (Jvm.FP.Core.round_fits (f_good a0) _) (fun h => by rw [Jvm.FP.Core.round_nan] at h; cases h)
theorem a_div (fX : fN a0 X) (fY : fN a0 Y) (h0 : Y % 2 ^ hN a0 ≠ 0) : nN a0 (Jvm.FP.Core.div (fF a0) X Y) := by
  unfold Jvm.FP.Core.div
  have hm : ¬ mN a0 Y = 0 := fun h => h0 ((mN_0 a0 Y).mp h)
  rw [dec_fin a0 fX.1 fX.2, dec_fin a0 fY.1 fY.2]
  refine nm_enc a0 (Jvm.FP.Core.quotient_fits (f_good a0) _ _) ?_
  unfold Jvm.FP.Core.quotient
  dsimp only
  rw [if_neg hm]
  exact Jvm.FP.Core.roundRatio_ne_nan _ _ _ _ _
theorem a_rem (fX : fN a0 X) (nY : nN a0 Y) (h0 : Y % 2 ^ hN a0 ≠ 0) : fN a0 (Jvm.FP.Core.rem (fF a0) X Y) := by
  unfold Jvm.FP.Core.rem
  rcases Nat.lt_or_eq_of_le nY.2 with h | h
  · have hm : ¬ mN a0 Y = 0 := fun h => h0 ((mN_0 a0 Y).mp h)
    have hx := Jvm.FP.Core.decode_fits (f_good a0) X
    have hy := Jvm.FP.Core.decode_fits (f_good a0) Y
    rw [dec_fin a0 fX.1 fX.2] at hx ⊢
    rw [dec_fin a0 nY.1 h] at hy ⊢
    obtain ⟨c, q, h1, -⟩ := Jvm.FP.Core.remainder_exact (f_good a0) hx hy hm
    have h2 := Jvm.FP.Core.round_fits (f_good a0) (Jvm.FP.Core.exactRemainder (.fin (sN2 a0 X) (mN a0 X) (eN a0 X)) (.fin (sN2 a0 Y) (mN a0 Y) (eN a0 Y)))
    rw [h1] at h2 ⊢
    exact fi_enc a0 h2
  · rw [dec_fin a0 fX.1 fX.2, dec_inf a0 nY.1 h]
    show fN a0 (Jvm.FP.Core.encode (fF a0) (Jvm.FP.Core.round (fF a0) (.fin (sN2 a0 X) (mN a0 X) (eN a0 X))))
    rw [enc_back a0 fX.1 fX.2]
    exact fX
theorem dec_num (h : nN a0 X) : Jvm.FP.Core.decode (fF a0) X ≠ .nan := by
  rw [Ne, Jvm.FP.Core.decode_nan, f_inf]
  unfold Jvm.FP.Core.mag
  rw [f_half]
  exact Nat.not_lt.mpr h.2
theorem a_conv (a1 : Int32) (nX : nN a0 X) : nN a1 (Jvm.FP.Core.convert (fF a0) (fF a1) X) := by
  unfold Jvm.FP.Core.convert
  exact nm_enc a1 (Jvm.FP.Core.round_fits (f_good a1) _) (fun h => by rw [Jvm.FP.Core.round_nan] at h; exact dec_num nX h)
theorem inf_split (h : X < 2 * 2 ^ hN a0) (hi : X % 2 ^ hN a0 = iN a0) : X = (sN2 a0 X).toNat * 2 ^ hN a0 + iN a0 := by
  unfold sN2
  by_cases g : 2 ^ hN a0 ≤ X
  · rw [decide_eq_true g]
    have e : X % 2 ^ hN a0 = X - 2 ^ hN a0 := by
      rw [Nat.mod_eq_sub_mod g, Nat.mod_eq_of_lt (by omega)]
    rw [← hi, e]
    show X = 1 * 2 ^ hN a0 + _
    omega
  · rw [decide_eq_false g, ← hi, Nat.mod_eq_of_lt (by omega)]
    show X = 0 * 2 ^ hN a0 + X
    omega
theorem c_id (nX : nN a0 X) : Jvm.FP.Core.convert (fF a0) (fF a0) X = X := by
  unfold Jvm.FP.Core.convert
  rcases Nat.lt_or_eq_of_le nX.2 with h | h
  · rw [dec_fin a0 nX.1 h]
    exact enc_back a0 nX.1 h
  · rw [dec_inf a0 nX.1 h]
    show Jvm.FP.Core.encode (fF a0) (.inf _) = X
    rw [enc_inf]
    exact (inf_split nX.1 h).symm
theorem c_inf (a1 : Int32) (h : X < 2 * 2 ^ hN a0) (hi : X % 2 ^ hN a0 = iN a0) : ¬ Jvm.FP.Core.convert (fF a0) (fF a1) X % 2 ^ hN a1 < iN a1 := by
  unfold Jvm.FP.Core.convert
  rw [dec_inf a0 h hi]
  show ¬ Jvm.FP.Core.encode (fF a1) (.inf _) % 2 ^ hN a1 < iN a1
  rw [enc_inf, Nat.mul_comm, Nat.mul_add_mod, Nat.mod_eq_of_lt (iN_lt a1)]
  exact Nat.lt_irrefl _
end FLA
theorem a_int (a0 : Int32) (z : Int) : nN a0 (Jvm.FP.Core.fromInt (fF a0) z) := by
  unfold Jvm.FP.Core.fromInt
  exact nm_enc a0 (Jvm.FP.Core.round_fits (f_good a0) _) (fun h => by rw [Jvm.FP.Core.round_nan] at h; cases h)
theorem a_i32 (n : Int32) : fN 1 (Jvm.FP.Core.fromInt (fF 1) n.toInt) := by
  refine ⟨(a_int 1 n.toInt).1, ?_⟩
  rw [f_1, ← Jvm.FP.Core.toNat_i2d, p_1, i_1]
  by_cases h : n.toInt = 0
  · have : n = 0 := Int32.toInt_inj.mp h
    rw [this]
    decide +kernel
  · have := (Jvm.FP.Core.i2d_big h).2
    omega
theorem a_wide {X : Nat} (h : fN 0 X) : fN 1 (Jvm.FP.Core.convert (fF 0) (fF 1) X) := by
  obtain ⟨h1, h2⟩ := a_conv 1 h.num
  refine ⟨h1, ?_⟩
  rcases Nat.lt_or_eq_of_le h2 with g | g
  · exact g
  · exfalso
    have hx := Jvm.FP.Core.decode_fits (f_good 0) X
    have hw := Jvm.FP.Core.round_widen (f_good 0) (f_good 1) (show Jvm.FP.Core.Within (fF 0) (fF 1) from Jvm.FP.Core.within_32_64) hx
    have h3 := dec_inf 1 h1 g
    unfold Jvm.FP.Core.convert at h3
    rw [Jvm.FP.Core.decode_encode (f_good 1) _ (Jvm.FP.Core.round_fits (f_good 1) _)] at h3
    rw [h3, dec_fin 0 h.1 h.2] at hw
    cases hw
