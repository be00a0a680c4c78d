/-! rounding: the odd neighbour of a ratio rounds as the ratio itself -/
theorem rd_near {A B O k : Nat} (hB : 0 < B) (hk : 2 ≤ k) (ho : O % 2 = 1) (h1 : B * (O - 1) < A) (h2 : A < B * (O + 1)) :
    Jvm.FP.Core.nearest A (B * 2 ^ k) = Jvm.FP.Core.nearest O (2 ^ k) := by
  obtain ⟨j, rfl⟩ : ∃ j, k = j + 2 := ⟨k - 2, by omega⟩
  have hD : 2 ^ (j + 2) = 4 * 2 ^ j := by rw [Nat.pow_add]; omega
  have hpos := Nat.two_pow_pos j
  rw [hD]
  generalize 2 ^ j = g at hpos ⊢
  have hO := Nat.div_add_mod O (4 * g)
  have hr := Nat.mod_lt O (show 0 < 4 * g by omega)
  have hOd : O / (4 * g) = O / (4 * g) := rfl
  unfold Jvm.FP.Core.nearest
  generalize O / (4 * g) = c at hO ⊢
  generalize O % (4 * g) = r at hO hr ⊢
  have hO' : 4 * (g * c) + r = O := by rw [← Nat.mul_assoc]; exact hO
  have hrodd : r % 2 = 1 := by omega
  have hle : B * (4 * (g * c)) ≤ B * (O - 1) := Nat.mul_le_mul_left B (by omega)
  obtain ⟨r', hr'⟩ : ∃ r', A = B * (4 * (g * c)) + r' := ⟨A - B * (4 * (g * c)), by omega⟩
  have e1 : B * (O - 1) = B * (4 * (g * c)) + B * (r - 1) := by rw [← Nat.mul_add]; congr 1; omega
  have e2 : B * (O + 1) = B * (4 * (g * c)) + B * (r + 1) := by rw [← Nat.mul_add]; congr 1; omega
  have g1 : B * (r - 1) < r' := by omega
  have g2 : r' < B * (r + 1) := by omega
  have hA : A = B * (4 * g) * c + r' := by rw [hr']; congr 1; ac_rfl
  have hBD : 0 < B * (4 * g) := Nat.mul_pos hB (by omega)
  have hlt : r' < B * (4 * g) := Nat.lt_of_lt_of_le g2 (Nat.mul_le_mul_left B (by omega))
  have hdiv : A / (B * (4 * g)) = c := by rw [hA, Nat.mul_add_div hBD, Nat.div_eq_of_lt hlt]; rfl
  have hmod : A % (B * (4 * g)) = r' := by rw [hA, Nat.mul_add_mod, Nat.mod_eq_of_lt hlt]
  rw [hdiv, hmod]
  have e3 : B * (4 * g) = 2 * (B * (2 * g)) := by rw [show 4 * g = 2 * (2 * g) by omega]; ac_rfl
  rcases Nat.lt_or_ge r (2 * g) with q | q
  · have w : r' < B * (2 * g) := Nat.lt_of_lt_of_le g2 (Nat.mul_le_mul_left B (by omega))
    rw [if_pos (by omega), if_pos (by omega)]
  · have w : B * (2 * g) < r' := Nat.lt_of_le_of_lt (Nat.mul_le_mul_left B (by omega)) g1
    rw [if_neg (by omega), if_pos (by omega), if_neg (by omega), if_pos (by omega)]
theorem rd_below1 (O : Nat) (a : Nat) : Jvm.FP.Core.Below O 1 (a : Int) ↔ O < 2 ^ a := by
  unfold Jvm.FP.Core.Below
  rw [show (-(a : Int)).toNat = 0 by omega, show ((a : Int)).toNat = a by omega]
  simp
theorem rd_belowB (A B : Nat) (a : Nat) : Jvm.FP.Core.Below A B (a : Int) ↔ A < B * 2 ^ a := by
  unfold Jvm.FP.Core.Below
  rw [show (-(a : Int)).toNat = 0 by omega, show ((a : Int)).toNat = a by omega]
  simp
theorem rd_odd {f : Jvm.FP.Core.Fmt} (s : Bool) {A B O : Nat} (e : Int) (hB : 0 < B) (ho : O % 2 = 1) (h1 : B * (O - 1) < A) (h2 : A < B * (O + 1)) (hbig : 2 ^ (f.p + 1) ≤ O) :
    Jvm.FP.Core.roundRatio f s A B e = Jvm.FP.Core.roundRatio f s O 1 e := by
  have hA : 0 < A := by omega
  have hO : 0 < O := by omega
  have hlead : (f.p : Int) + 1 < Jvm.FP.Core.leading O 1 + 1 := by
    refine Jvm.FP.Core.lt_of_below ?_ (Jvm.FP.Core.leading_spec hO (Nat.one_pos)).2
    rw [show (f.p : Int) + 1 = ((f.p + 1 : Nat) : Int) by omega, rd_below1]
    omega
  have hq2 : e + 2 ≤ Jvm.FP.Core.quantum f O 1 e := by unfold Jvm.FP.Core.quantum; omega
  have hqb := Jvm.FP.Core.quantum_below (f := f) hO Nat.one_pos e
  have hqn := Jvm.FP.Core.quantum_not_below (f := f) hO Nat.one_pos e
  have hqg := Jvm.FP.Core.quantum_ge f O 1 e
  have hq : Jvm.FP.Core.quantum f A B e = Jvm.FP.Core.quantum f O 1 e := by
    generalize Jvm.FP.Core.quantum f O 1 e = q at hq2 hqb hqn hqg ⊢
    obtain ⟨k, hk⟩ : ∃ k : Nat, q - e = (k : Int) + 2 := ⟨(q - e - 2).toNat, by omega⟩
    refine Jvm.FP.Core.quantum_eq hA hB hqg ?_ ?_
    · rw [show q - e + (f.p : Int) = ((k + 1 + f.p + 1 : Nat) : Int) by omega] at hqb ⊢
      rw [rd_below1] at hqb
      rw [rd_belowB]
      have hev : 2 ^ (k + 1 + f.p + 1) = 2 * 2 ^ (k + 1 + f.p) := by rw [Nat.pow_succ]; omega
      refine Nat.lt_of_lt_of_le h2 (Nat.mul_le_mul_left B (by omega))
    · rcases hqn with w | w
      · exact Or.inl w
      · refine Or.inr (fun hb => w ?_)
        rcases Nat.eq_zero_or_pos (k + 2 + f.p) with z | z
        · omega
        · rw [show q - e + ((f.p : Int) - 1) = ((k + f.p + 1 : Nat) : Int) by omega] at hb ⊢
          rw [rd_belowB] at hb
          rw [rd_below1]
          have hev : 2 ^ (k + f.p + 1) = 2 * 2 ^ (k + f.p) := by rw [Nat.pow_succ]; omega
          rcases Nat.lt_or_ge O (2 ^ (k + f.p + 1)) with u | u
          · exact u
          · exact absurd (Nat.lt_trans h1 hb) (Nat.not_lt.mpr (Nat.mul_le_mul_left B (by omega)))
  unfold Jvm.FP.Core.roundRatio
  rw [if_neg (by omega), if_neg (by omega), hq]
  generalize Jvm.FP.Core.quantum f O 1 e = q at hq2
  unfold Jvm.FP.Core.roundAt Jvm.FP.Core.unitsNum Jvm.FP.Core.unitsDen
  obtain ⟨k, hk⟩ : ∃ k : Nat, q = e + (k : Int) + 2 := ⟨(q - e - 2).toNat, by omega⟩
  rw [show (e - q).toNat = 0 by omega, show (q - e).toNat = k + 2 by omega, Nat.pow_zero, Nat.mul_one, Nat.mul_one, Nat.one_mul]
  rw [rd_near hB (by omega) ho h1 h2]
theorem rd_lead {n : Nat} (hn : n ≠ 0) : Jvm.FP.Core.leading n 1 = (n.log2 : Int) := by
  unfold Jvm.FP.Core.leading
  have h := Nat.log2_self_le hn
  have e1 : Nat.log2 1 = 0 := by decide
  simp only [e1]
  rw [show ((n.log2 : Int) - ((0 : Nat) : Int)) = (n.log2 : Int) by omega, show ((n.log2 : Int)).toNat = n.log2 by omega, show (-(n.log2 : Int)).toNat = 0 by omega, if_pos (by simpa using h)]
/-- the bits of a rounded number -/
theorem rd_enc {f : Jvm.FP.Core.Fmt} (hf : Jvm.FP.Core.Good f) (s : Bool) {n : Nat} (hn : n ≠ 0) (e : Int) {q : Int} (hq : q = Jvm.FP.Core.quantum f n 1 e) :
    Jvm.FP.Core.encode f (Jvm.FP.Core.roundRatio f s n 1 e) = s.toNat * Jvm.FP.Core.half f + (if f.qmax < q then Jvm.FP.Core.infBits f else (q - f.qmin).toNat * f.tails + Jvm.FP.Core.nearest (Jvm.FP.Core.unitsNum n e q) (Jvm.FP.Core.unitsDen 1 e q)) := by
  have hn' : 0 < n := by omega
  have hc := Jvm.FP.Core.nearest_units_le (f := f) hn' Nat.one_pos e
  have hlow : Jvm.FP.Core.quantum f n 1 e = f.qmin ∨ f.tails ≤ Jvm.FP.Core.nearest (Jvm.FP.Core.unitsNum n e (Jvm.FP.Core.quantum f n 1 e)) (Jvm.FP.Core.unitsDen 1 e (Jvm.FP.Core.quantum f n 1 e)) := by
    rcases Jvm.FP.Core.quantum_not_below (f := f) hn' Nat.one_pos e with h2 | h2
    · exact Or.inl h2
    · refine Or.inr (Jvm.FP.Core.nearest_ge (Jvm.FP.Core.unitsDen_pos Nat.one_pos ..) ?_)
      rw [show (f.p : Int) - 1 = ((f.p - 1 : Nat) : Int) by have := hf.2; omega, ← Jvm.FP.Core.units_below] at h2
      exact Nat.le_of_not_lt h2
  have hg := Jvm.FP.Core.quantum_ge f n 1 e
  rw [← hq] at hc hlow hg
  unfold Jvm.FP.Core.roundRatio
  rw [if_neg hn, ← hq]
  unfold Jvm.FP.Core.roundAt
  generalize Jvm.FP.Core.nearest (Jvm.FP.Core.unitsNum n e q) (Jvm.FP.Core.unitsDen 1 e q) = c at hc hlow ⊢
  have h1 := Jvm.FP.Core.two_tails hf
  have h2 := Jvm.FP.Core.tails_two hf
  have h3 := Jvm.FP.Core.qmax_qmin f
  have h4 := Jvm.FP.Core.emax_exps hf
  have h5 := Jvm.FP.Core.emax_pos hf
  have hinf : Jvm.FP.Core.encode f (.inf s) = s.toNat * Jvm.FP.Core.half f + Jvm.FP.Core.infBits f := by
    unfold Jvm.FP.Core.encode Jvm.FP.Core.assemble Jvm.FP.Core.half Jvm.FP.Core.infBits
    dsimp only
    rw [Nat.add_zero, Nat.add_mul, Nat.mul_assoc]
  unfold Jvm.FP.Core.settle Jvm.FP.Core.bound
  by_cases h : f.qmax < q
  · rw [if_pos h]
    by_cases g : c < 2 ^ f.p
    · rw [if_pos g, if_neg (by omega)]; exact hinf
    · rw [if_neg g, if_neg (by omega)]; exact hinf
  · rw [if_neg h]
    by_cases g : c < 2 ^ f.p
    · rw [if_pos g, if_pos (by omega)]
      unfold Jvm.FP.Core.encode
      by_cases k : c < f.tails
      · dsimp only
        rw [if_pos k]
        have : q = f.qmin := by omega
        subst this
        rw [Int.sub_self]
        unfold Jvm.FP.Core.assemble Jvm.FP.Core.half
        rw [Nat.add_zero, Nat.mul_assoc, Int.toNat_zero, Nat.zero_mul, Nat.zero_add]
      · dsimp only
        rw [if_neg k]
        unfold Jvm.FP.Core.assemble Jvm.FP.Core.half
        rw [Nat.add_mul, Nat.add_mul, Nat.mul_assoc, Nat.one_mul]
        omega
    · have hce : c = 2 * f.tails := by omega
      rw [if_neg g]
      by_cases k : q + 1 ≤ f.qmax
      · rw [if_pos k]
        unfold Jvm.FP.Core.encode
        dsimp only
        rw [if_neg (Nat.lt_irrefl _)]
        unfold Jvm.FP.Core.assemble Jvm.FP.Core.half
        rw [Nat.add_mul, Nat.add_mul, Nat.mul_assoc, Nat.one_mul, show (q + 1 - f.qmin).toNat = (q - f.qmin).toNat + 1 by omega, Nat.add_mul]
        omega
      · rw [if_neg k, hinf]
        unfold Jvm.FP.Core.infBits
        rw [show f.exps - 1 = (q - f.qmin).toNat + 2 by omega, Nat.add_mul]
        omega
