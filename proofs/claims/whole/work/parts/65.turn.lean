/-! a dial is turned; failures -/
theorem up_eq {α : Type} {f : Nat → α} {i : Nat} {v : α} : va_up f i v i = v := if_pos rfl
theorem up_ne {α : Type} {f : Nat → α} {i j : Nat} {v : α} (h : j ≠ i) : va_up f i v j = f j := if_neg h
theorem uf_eq {α : Type} {f : Nat → α} {i : Nat} {v : α} : vf_upd f i v i = v := if_pos rfl
theorem uf_ne {α : Type} {f : Nat → α} {i j : Nat} {v : α} (h : j ≠ i) : vf_upd f i v j = f j := if_neg h
theorem ul_eq {f : Nat → Int64} {i : Nat} {v : Int64} : vp_updL f i v i = v := if_pos rfl
theorem ul_ne {f : Nat → Int64} {i j : Nat} {v : Int64} (h : j ≠ i) : vp_updL f i v j = f j := if_neg h
theorem ui_eq {f : Nat → Int32} {i : Nat} {v : Int32} : upd f i v i = v := if_pos rfl
theorem ui_ne {f : Nat → Int32} {i j : Nat} {v : Int32} (h : j ≠ i) : upd f i v j = f j := if_neg h
section TN
variable {k i : Nat} {o : Os} {m : Ms}
theorem done_ok (h : r0 k o m) (v : Int32) : rl k (jX7_done o v).2 (jX8_done m v).2 := ⟨h, rfl⟩
theorem fail_c (o : Os) {v : Int32} {j : Nat} (hj : j < 5) (hv : (-11 : Int32) - v = nI j) : sX7_failWith o v ∧ jX7_failWith o v = (v, t_cn (t_fl o v) (upd (c_cn o) j (c_cn o j + 1))) := by
  unfold sX7_failWith jX7_failWith sX7_failWith_y1 jX7_failWith_y1 sX7_failWith_o6 jX7_failWith_o6
  have g5 : ¬ (5 : Int32) ≤ nI j := nI_ge (b := 5) (by omega) (by decide)
  rw [hv, if_neg (nI_pos (by omega)), if_neg g5, if_neg (nI_pos (by omega)), if_neg g5, nI_clamp (by omega)]
  exact ⟨⟨trivial, trivial, nI_in (by omega) (by decide), nI_in (by omega) (by decide), trivial, trivial⟩, rfl⟩
theorem fail_m (m : Ms) {v : Int32} {j : Nat} (hj : j < 5) (hv : (-11 : Int32) - v = nI j) : sX8_fails m v ∧ jX8_fails m v = (v, s_counts (s_failed m v) (upd (m_counts m) j (m_counts m j + 1))) := by
  unfold sX8_fails jX8_fails sX8_fails_o3 jX8_fails_o3
  rw [hv, nI_clamp (by omega)]
  exact ⟨⟨trivial, nI_in (by omega) (by decide), nI_in (by omega) (by decide), trivial, trivial⟩, rfl⟩
theorem fail_ok (h : r0 k o m) {v : Int32} {j : Nat} (hj : j < 5) (hv : (-11 : Int32) - v = nI j) : sX7_failWith o v ∧ sX8_fails m v ∧ (jX7_failWith o v).1 = v ∧ (jX8_fails m v).1 = v ∧ rl k (jX7_failWith o v).2 (jX8_fails m v).2 := by
  obtain ⟨a1, a2⟩ := fail_c o hj hv
  obtain ⟨b1, b2⟩ := fail_m m hj hv
  rw [a2, b2]
  refine ⟨a1, b1, rfl, rfl, ?_, rfl⟩
  obtain ⟨hD, hV, hS, hR, hT⟩ := h
  refine ⟨hD, hV, hS, hR, hT.1, fun q hq => ?_⟩
  show upd (c_cn o) j (c_cn o j + 1) q = upd (m_counts m) j (m_counts m j + 1) q
  by_cases e : q = j
  · subst e
    rw [ui_eq, ui_eq, hT.2 q hq]
  · rw [ui_ne e, ui_ne e, hT.2 q hq]
theorem tb_c {a0 : Int32} {p r x : Nat} (hi : i < c_nd o) (hF : c_dF o i = a0) (hP : c_dP o i = xb a0 p) (hR : c_dR o i = xb a0 r) (fp : fN a0 p) (fr : fN a0 r) (hr : ¬ r % 2 ^ hN a0 = 0) (fx : fN a0 x) : sX1_turnBy o i (xb a0 x) ∧ jX1_turnBy o i (xb a0 x) = if Jvm.FP.Core.add (fF a0) p x % 2 ^ hN a0 < iN a0 then ((1 : Int32), t_dP (t_dL o (va_up (c_dL o) i (c_dL o i + Jvm.FP.Core.toL (Jvm.FP.Core.decode (fF a0) (Jvm.FP.Core.div (fF a0) (Jvm.FP.Core.add (fF a0) p x) r))))) (va_up (c_dP o) i (xb a0 (Jvm.FP.Core.rem (fF a0) (Jvm.FP.Core.add (fF a0) p x) r)))) else ((0 : Int32), o) := by
  have hs := a_add fp fx
  have e1 : jX4_sum (c_dF o i) (c_dP o i) (xb a0 x) = xb a0 (Jvm.FP.Core.add (fF a0) p x) := by
    rw [hF, hP, o_sum a0 fp.1 fx.1 fp.2 fx.2]
  unfold sX1_turnBy jX1_turnBy
  rw [e1]
  generalize Jvm.FP.Core.add (fF a0) p x = s at hs
  unfold sX1_turnBy_y2 jX1_turnBy_y2 sX1_turnBy_o4 jX1_turnBy_o4
  have e2 : jX4_isFit (c_dF o i) (xb a0 s) = if s % 2 ^ hN a0 < iN a0 then 1 else 0 := by rw [hF]; exact x_fit a0 hs.1
  rw [e2]
  by_cases g : s % 2 ^ hN a0 < iN a0
  · rw [if_pos g, if_pos g, if_neg (by decide), if_neg (by decide)]
    refine ⟨⟨trivial, hi, trivial, trivial, trivial⟩, ?_⟩
    have e3 : jX4_cutToLong (c_dF o i) (jX4_quotient (c_dF o i) (xb a0 s) (c_dR o i)) = Jvm.FP.Core.toL (Jvm.FP.Core.decode (fF a0) (Jvm.FP.Core.div (fF a0) s r)) := by
      have hd := a_div ⟨hs.1, g⟩ fr hr
      rw [hF, hR, o_quot a0 hs.1 fr.1 g fr.2 hr, o_cut a0 hd.1 hd.2]
    rw [e3]
    have e4 : ∀ v, jX4_leftOver (c_dF (t_dL o v) i) (xb a0 s) (c_dR (t_dL o v) i) = xb a0 (Jvm.FP.Core.rem (fF a0) s r) := by
      intro v
      show jX4_leftOver (c_dF o i) (xb a0 s) (c_dR o i) = _
      rw [hF, hR, o_rem a0 hs.1 fr.1 g fr.num.2 hr]
    rw [e4]
    rfl
  · rw [if_neg g, if_neg g, if_pos rfl, if_pos rfl]
    exact ⟨⟨trivial, hi, trivial, trivial⟩, rfl⟩
theorem gf_c {x : UInt32} (hi : i < 12) (fp : fN 0 (m_placeF m i).toNat) (fr : fN 0 (m_rimF m i).toNat) (hr : ¬ (m_rimF m i).toNat % 2 ^ hN 0 = 0) (fx : fN 0 x.toNat) : sX8_goesFloat m (nI i) x ∧ jX8_goesFloat m (nI i) x = if (FP.fadd (m_placeF m i) x).toNat % 2 ^ hN 0 < iN 0 then ((1 : Int32), s_placeF (s_lapsOf m (vp_updL (m_lapsOf m) i (m_lapsOf m i + FP.f2l (FP.fdiv (FP.fadd (m_placeF m i) x) (m_rimF m i))))) (vf_upd (m_placeF m) i (FP.frem (FP.fadd (m_placeF m i) x) (m_rimF m i)))) else ((0 : Int32), m) := by
  have hs : nN 0 (FP.fadd (m_placeF m i) x).toNat := by rw [n_fadd fp fx]; exact a_add fp fx
  have hin : vp_in (nI i) 12 := nI_in hi (by decide)
  unfold sX8_goesFloat jX8_goesFloat
  rw [nI_clamp (by omega)]
  have hs32 := nn_32 hs
  generalize FP.fadd (m_placeF m i) x = s at hs hs32
  unfold sX8_goesFloat_y3 jX8_goesFloat_y3 sX8_goesFloat_o9 jX8_goesFloat_o9
  rw [nI_clamp (by omega), e_f hs]
  by_cases g : s.toNat % 2 ^ hN 0 < iN 0
  · rw [if_pos g, if_pos g, if_pos rfl, if_pos rfl]
    have hd : nN 0 (FP.fdiv s (m_rimF m i)).toNat := by rw [n_fdiv ⟨hs.1, g⟩ fr hr]; exact a_div ⟨hs.1, g⟩ fr hr
    have hm : fN 0 (FP.frem s (m_rimF m i)).toNat := by rw [n_frem ⟨hs.1, g⟩ fr.num hr]; exact a_rem ⟨hs.1, g⟩ fr.num hr
    exact ⟨⟨trivial, hin, hs32, trivial, hin, hin, nn_32 hd, hin, trivial, hin, nn_32 hm.num, hin, trivial⟩, rfl⟩
  · rw [if_neg g, if_neg g, if_neg (by decide), if_neg (by decide)]
    exact ⟨⟨trivial, hin, hs32, trivial, trivial⟩, rfl⟩
theorem gd_c {x : UInt64} (hi : i < 12) (fp : fN 1 (m_placeD m i).toNat) (fr : fN 1 (m_rimD m i).toNat) (hr : ¬ (m_rimD m i).toNat % 2 ^ hN 1 = 0) (fx : fN 1 x.toNat) : sX8_goesDouble m (nI i) x ∧ jX8_goesDouble m (nI i) x = if (FP.dadd (m_placeD m i) x).toNat % 2 ^ hN 1 < iN 1 then ((1 : Int32), s_placeD (s_lapsOf m (vp_updL (m_lapsOf m) i (m_lapsOf m i + FP.d2l (FP.ddiv (FP.dadd (m_placeD m i) x) (m_rimD m i))))) (vf_upd (m_placeD m) i (FP.drem (FP.dadd (m_placeD m i) x) (m_rimD m i)))) else ((0 : Int32), m) := by
  have hs : nN 1 (FP.dadd (m_placeD m i) x).toNat := by rw [n_dadd fp fx]; exact a_add fp fx
  have hin : vp_in (nI i) 12 := nI_in hi (by decide)
  unfold sX8_goesDouble jX8_goesDouble
  rw [nI_clamp (by omega)]
  have hs32 := nn_64 hs
  generalize FP.dadd (m_placeD m i) x = s at hs hs32
  unfold sX8_goesDouble_y3 jX8_goesDouble_y3 sX8_goesDouble_o9 jX8_goesDouble_o9
  rw [nI_clamp (by omega), e_d hs]
  by_cases g : s.toNat % 2 ^ hN 1 < iN 1
  · rw [if_pos g, if_pos g, if_pos rfl, if_pos rfl]
    have hd : nN 1 (FP.ddiv s (m_rimD m i)).toNat := by rw [n_ddiv ⟨hs.1, g⟩ fr hr]; exact a_div ⟨hs.1, g⟩ fr hr
    have hm : fN 1 (FP.drem s (m_rimD m i)).toNat := by rw [n_drem ⟨hs.1, g⟩ fr.num hr]; exact a_rem ⟨hs.1, g⟩ fr.num hr
    exact ⟨⟨trivial, hin, hs32, trivial, hin, hin, nn_64 hd, hin, trivial, hin, nn_64 hm.num, hin, trivial⟩, rfl⟩
  · rw [if_neg g, if_neg g, if_neg (by decide), if_neg (by decide)]
    exact ⟨⟨trivial, hin, hs32, trivial, trivial⟩, rfl⟩
/-- the dial's place is written, and its laps -/
theorem up_F (h : r0 k o m) (hi : i < c_nd o) (hF : c_dF o i = 0) {p : UInt32} (fp : fN 0 p.toNat) (L : Int64) : r0 k (t_dP (t_dL o (va_up (c_dL o) i L)) (va_up (c_dP o) i (xb 0 p.toNat))) (s_placeF (s_lapsOf m (vp_updL (m_lapsOf m) i L)) (vf_upd (m_placeF m) i p)) := by
  obtain ⟨⟨h1, h2, h3⟩, hV, hS, hR, hT⟩ := h
  refine ⟨⟨h1, h2, fun j hj => ?_⟩, hV, hS, hR, hT⟩
  show dK (c_dF o j) (m_isFine m j) (c_dR o j) (va_up (c_dP o) i (xb 0 p.toNat) j) (va_up (c_dL o) i L j) (m_rimF m j) (vf_upd (m_placeF m) i p j) (m_rimD m j) (m_placeD m j) (vp_updL (m_lapsOf m) i L j)
  have hd := h3 j hj
  by_cases e : j = i
  · subst e
    rw [up_eq, up_eq, uf_eq, ul_eq]
    obtain ⟨d1, d2, d3, d4, d5⟩ := hd
    refine ⟨d1, d2, d3, ?_, rfl⟩
    rw [hF, qf_0]
    exact ⟨rfl, fp⟩
  · rw [up_ne e, up_ne e, uf_ne e, ul_ne e]
    exact hd
theorem up_D (h : r0 k o m) (hi : i < c_nd o) (hF : c_dF o i = 1) {p : UInt64} (fp : fN 1 p.toNat) (L : Int64) : r0 k (t_dP (t_dL o (va_up (c_dL o) i L)) (va_up (c_dP o) i (xb 1 p.toNat))) (s_placeD (s_lapsOf m (vp_updL (m_lapsOf m) i L)) (vf_upd (m_placeD m) i p)) := by
  obtain ⟨⟨h1, h2, h3⟩, hV, hS, hR, hT⟩ := h
  refine ⟨⟨h1, h2, fun j hj => ?_⟩, hV, hS, hR, hT⟩
  show dK (c_dF o j) (m_isFine m j) (c_dR o j) (va_up (c_dP o) i (xb 1 p.toNat) j) (va_up (c_dL o) i L j) (m_rimF m j) (m_placeF m j) (m_rimD m j) (vf_upd (m_placeD m) i p j) (vp_updL (m_lapsOf m) i L j)
  have hd := h3 j hj
  by_cases e : j = i
  · subst e
    rw [up_eq, up_eq, uf_eq, ul_eq]
    obtain ⟨d1, d2, d3, d4, d5⟩ := hd
    refine ⟨d1, d2, d3, ?_, rfl⟩
    rw [hF, qf_1]
    exact ⟨rfl, fp⟩
  · rw [up_ne e, up_ne e, uf_ne e, ul_ne e]
    exact hd
/-- what a call leaves as it was, beside the relation -/
def keeps (o o' : Os) (m m' : Ms) : Prop := c_nd o' = c_nd o ∧ c_dF o' = c_dF o ∧ m_failed m' = m_failed m
theorem turn_F (h : r0 k o m) (hi : i < c_nd o) (hF : c_dF o i = 0) {x : UInt32} (fx : fN 0 x.toNat) : sX1_turnBy o i (xb 0 x.toNat) ∧ sX8_goesFloat m (nI i) x ∧ (jX1_turnBy o i (xb 0 x.toNat)).1 = (jX8_goesFloat m (nI i) x).1 ∧ r0 k (jX1_turnBy o i (xb 0 x.toNat)).2 (jX8_goesFloat m (nI i) x).2 ∧ keeps o (jX1_turnBy o i (xb 0 x.toNat)).2 m (jX8_goesFloat m (nI i) x).2 := by
  obtain ⟨-, -, ⟨hR, fR, zR⟩, ⟨hP, fP⟩, hL⟩ := h.1.2.2 i hi
  rw [hF, qf_0] at hR fR hP fP
  rw [hF, qf_0] at zR
  have h12 : i < 12 := Nat.lt_of_lt_of_le hi h.1.1
  obtain ⟨a1, a2⟩ := tb_c hi hF hP hR fP fR zR fx
  obtain ⟨b1, b2⟩ := gf_c h12 fP fR zR fx
  refine ⟨a1, b1, ?_⟩
  rw [a2, b2]
  have es := n_fadd fP fx
  have hs : nN 0 (FP.fadd (m_placeF m i) x).toNat := by rw [es]; exact a_add fP fx
  rw [← es]
  generalize FP.fadd (m_placeF m i) x = s at hs
  by_cases g : s.toNat % 2 ^ hN 0 < iN 0
  · rw [if_pos g, if_pos g]
    refine ⟨rfl, ?_, rfl, rfl, rfl⟩
    have hm : fN 0 (FP.frem s (m_rimF m i)).toNat := by rw [n_frem ⟨hs.1, g⟩ fR.num zR]; exact a_rem ⟨hs.1, g⟩ fR.num zR
    rw [← n_frem ⟨hs.1, g⟩ fR.num zR, ← n_fdiv ⟨hs.1, g⟩ fR zR, hL]
    exact up_F h hi hF hm _
  · rw [if_neg g, if_neg g]
    exact ⟨rfl, h, rfl, rfl, rfl⟩
theorem turn_D (h : r0 k o m) (hi : i < c_nd o) (hF : c_dF o i = 1) {x : UInt64} (fx : fN 1 x.toNat) : sX1_turnBy o i (xb 1 x.toNat) ∧ sX8_goesDouble m (nI i) x ∧ (jX1_turnBy o i (xb 1 x.toNat)).1 = (jX8_goesDouble m (nI i) x).1 ∧ r0 k (jX1_turnBy o i (xb 1 x.toNat)).2 (jX8_goesDouble m (nI i) x).2 ∧ keeps o (jX1_turnBy o i (xb 1 x.toNat)).2 m (jX8_goesDouble m (nI i) x).2 := by
  obtain ⟨-, -, ⟨hR, fR, zR⟩, ⟨hP, fP⟩, hL⟩ := h.1.2.2 i hi
  rw [hF, qf_1] at hR fR hP fP
  rw [hF, qf_1] at zR
  have h12 : i < 12 := Nat.lt_of_lt_of_le hi h.1.1
  obtain ⟨a1, a2⟩ := tb_c hi hF hP hR fP fR zR fx
  obtain ⟨b1, b2⟩ := gd_c h12 fP fR zR fx
  refine ⟨a1, b1, ?_⟩
  rw [a2, b2]
  have es := n_dadd fP fx
  have hs : nN 1 (FP.dadd (m_placeD m i) x).toNat := by rw [es]; exact a_add fP fx
  rw [← es]
  generalize FP.dadd (m_placeD m i) x = s at hs
  by_cases g : s.toNat % 2 ^ hN 1 < iN 1
  · rw [if_pos g, if_pos g]
    refine ⟨rfl, ?_, rfl, rfl, rfl⟩
    have hm : fN 1 (FP.drem s (m_rimD m i)).toNat := by rw [n_drem ⟨hs.1, g⟩ fR.num zR]; exact a_rem ⟨hs.1, g⟩ fR.num zR
    rw [← n_drem ⟨hs.1, g⟩ fR.num zR, ← n_ddiv ⟨hs.1, g⟩ fR zR, hL]
    exact up_D h hi hF hm _
  · rw [if_neg g, if_neg g]
    exact ⟨rfl, h, rfl, rfl, rfl⟩
/-- by what is told -/
theorem goes_ok (h : r0 k o m) (hi : i < c_nd o) {a : Int64} (hf : ¬ jX8_isFit (c_dF o i) a = 0) : sX1_turnBy o i (jX4_told (c_dF o i) a) ∧ sX8_goes m (nI i) a ∧ (jX1_turnBy o i (jX4_told (c_dF o i) a)).1 = (jX8_goes m (nI i) a).1 ∧ r0 k (jX1_turnBy o i (jX4_told (c_dF o i) a)).2 (jX8_goes m (nI i) a).2 ∧ keeps o (jX1_turnBy o i (jX4_told (c_dF o i) a)).2 m (jX8_goes m (nI i) a).2 := by
  obtain ⟨hb, hg, -⟩ := h.1.2.2 i hi
  have h12 : i < 12 := Nat.lt_of_lt_of_le hi h.1.1
  have hin : vp_in (nI i) 12 := nI_in h12 (by decide)
  have fa := fit_of hb hf
  unfold sX8_goes jX8_goes
  rw [nI_clamp (by omega), hg, t_told hb]
  rcases hb with hF | hF
  · rw [hF] at fa ⊢
    rw [if_pos rfl, if_pos rfl, k_0]
    obtain ⟨a1, a2, a3⟩ := turn_F h hi hF (x := jX8_floatOf a) (by rw [← k_0]; exact fa)
    exact ⟨a1, ⟨trivial, hin, no_sf fa.num, a2, trivial⟩, a3⟩
  · rw [hF] at fa ⊢
    rw [if_neg (by decide), if_neg (by decide), k_1]
    obtain ⟨a1, a2, a3⟩ := turn_D h hi hF (x := jX8_doubleOf a) (by rw [← k_1]; exact fa)
    exact ⟨a1, ⟨trivial, hin, no_sd fa.num, a2, trivial⟩, a3⟩
end TN
