def sg (neg : Int32) : Bool := decide (¬ neg = 0)
theorem inf_lt (a0 : Int32) : (2 ^ (hN a0 - wN a0) - 1) * 2 ^ wN a0 < 2 ^ hN a0 := by
  have h1 := f_hw a0
  have h2 := Nat.two_pow_pos (wN a0)
  have h3 := p_e8 a0
  rw [Nat.sub_mul, h1]
  have := Nat.two_pow_pos (hN a0)
  omega
set_option maxHeartbeats 1000000 in
/-- nearest: the number nearest to W * 2^e, its bits -/
theorem r_near (a0 neg : Int32) {W : Nat} {e : Int} (hW : W < 2 ^ 64) (he : -5000 ≤ e) (he2 : e ≤ 5000) (hs : W ≤ 9223372036854775808 ∨ qN a0 ≤ e) : jX4_nearest a0 neg (lN W) (iI e) = xb a0 (Jvm.FP.Core.encode (fF a0) (Jvm.FP.Core.roundRatio (fF a0) (sg neg) W 1 e)) := by
  obtain ⟨w1, w2, w3, w4, w5, w6⟩ := wh_b a0
  have hq := q_b a0
  have he8 := p_e8 a0
  have hinf := inf_lt a0
  have hhb := p_hb a0
  have hsg : (if neg = 0 then 0 else 2 ^ hN a0) = (sg neg).toNat * Jvm.FP.Core.half (fF a0) := by
    unfold sg
    by_cases h : neg = 0 <;> simp [h, f_half]
  unfold jX4_nearest
  by_cases h0 : W = 0
  · subst h0
    rw [if_pos (show lN 0 = (0 : Int64) from rfl)]
    have := r_signed a0 neg (z := 0) (Nat.two_pow_pos _)
    rw [show (0 : Int64) = lN 0 from rfl, this, Nat.add_zero, hsg]
    congr 1
    unfold Jvm.FP.Core.roundRatio
    rw [if_pos rfl]
    unfold Jvm.FP.Core.encode
    dsimp only
    rw [if_pos (Jvm.FP.Core.tails_pos _)]
    unfold Jvm.FP.Core.assemble Jvm.FP.Core.half
    rw [Nat.add_zero, Nat.add_zero, Nat.mul_assoc]
  · rw [if_neg (show ¬ lN W = (0 : Int64) from fun q => h0 ((l_eq (b := 0) hW (by decide)).mp q))]
    unfold jX4_nearest_y2 jX4_nearest_y3 jX4_nearest_y4 jX4_nearest_y5 jX4_nearest_y7
    have hb64 := bN_64 hW
    obtain ⟨b1, b2, b3⟩ := bN_spec h0
    rw [r_least, r_len hW, r_width, r_endless]
    have e1 : ((iI e + nI (bN W)) - (1 : Int32)) - nI (wN a0) = iI (e + bN W - 1 - wN a0) := by
      rw [iI_n, iI_n, show (1 : Int32) = iI 1 by decide, iI_add, iI_sub, iI_sub]
    rw [e1]
    obtain ⟨q, hqd⟩ : ∃ q : Int, q = max (qN a0) (e + bN W - 1 - wN a0) := ⟨_, rfl⟩
    have e2 : (if iI (e + bN W - 1 - wN a0) < iI (qN a0) then iI (qN a0) else iI (e + bN W - 1 - wN a0)) = iI q := by
      split
      · rename_i h
        rw [iI_lt (by omega) (by omega) (by omega) (by omega)] at h
        congr 1; omega
      · rename_i h
        rw [iI_lt (by omega) (by omega) (by omega) (by omega)] at h
        congr 1; omega
    rw [e2]
    have hquant : q = Jvm.FP.Core.quantum (fF a0) W 1 e := by
      unfold Jvm.FP.Core.quantum
      rw [rd_lead h0, f_p, f_qmin, hqd]
      unfold bN
      rw [if_neg h0]
      congr 1
      omega
    obtain ⟨F, hF⟩ : ∃ F : Nat, q - qN a0 = (F : Int) := ⟨(q - qN a0).toNat, by omega⟩
    have e3 : (iI q - iI (qN a0)).toInt64 = lN F := by rw [iI_sub, hF, ← iI_n, nI_l (by omega)]
    have e4 : ((lN ((2 ^ (hN a0 - wN a0) - 1) * 2 ^ wN a0)).toUInt64 >>> ((nI (wN a0)).toInt64.toUInt64 &&& Int64.toUInt64 63)).toInt64 = lN (2 ^ (hN a0 - wN a0) - 1) := by
      rw [wb_shr (by omega) w1, Nat.mul_div_cancel _ (Nat.two_pow_pos _)]
    rw [e3, e4, lN_1, rd_enc (f_good a0) (sg neg) h0 e hquant]
    have hqm := f_qmax a0
    have hqi := f_qmin a0
    by_cases hc : F + 1 < 2 ^ (hN a0 - wN a0) - 1
    · rw [if_pos (show lN (F + 1) < lN (2 ^ (hN a0 - wN a0) - 1) by rw [l_lt (by omega) (by omega)]; exact hc), if_neg (by omega)]
      have ec := r_rounded (W := W) (e := e) (q := q) hW (by omega) (by omega) (by rcases hs with h | h; exact Or.inr h; exact Or.inl (by omega))
      have hcl := Jvm.FP.Core.nearest_units_le (f := fF a0) (A := W) (B := 1) (by omega) Nat.one_pos e
      rw [← hquant, f_p] at hcl
      rw [iI_sub, ec, wb_shl F w1, lN_add]
      generalize Jvm.FP.Core.nearest (Jvm.FP.Core.unitsNum W e q) (Jvm.FP.Core.unitsDen 1 e q) = cc at hcl ⊢
      have hz : F * 2 ^ wN a0 + cc < 2 ^ hN a0 := by
        rw [Nat.pow_succ] at hcl
        have h1 := Nat.mul_le_mul_right (2 ^ wN a0) (show F + 2 ≤ 2 ^ (hN a0 - wN a0) - 1 by omega)
        rw [Nat.add_mul] at h1
        omega
      rw [r_signed a0 neg hz, hsg, f_tails, hqi, hF, Int.toNat_natCast]
    · rw [if_neg (show ¬ lN (F + 1) < lN (2 ^ (hN a0 - wN a0) - 1) by rw [l_lt (by omega) (by omega)]; exact hc), if_pos (by omega), r_signed a0 neg hinf, hsg, f_inf]
