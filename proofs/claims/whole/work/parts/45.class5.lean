def jX2_force (o : Os) (d : Nat) (a1 : Int64) : Int64 := if c_vS o d = 0 then jX6_forceAt o d a1 else if c_vS o d = 1 then jX0_forceAt o d a1 else jX3_forceAt o d a1
def sX2_force (o : Os) (d : Nat) (a1 : Int64) : Prop := True ∧ if c_vS o d = 0 then sX6_forceAt o d a1 else if c_vS o d = 1 then sX0_forceAt o d a1 else sX3_forceAt o d a1
def jX2_pullAt_y5 (o : Os) (d : Nat) (i : Nat) (y4 : Int64) (y5 : Int64) : Int32 × Os := (if (jX4_isFit (c_dF (t_vC o (va_up (c_vC o) d ((c_vC o d) + (1 : Int32)))) i) y5) = 0 then ((0 : Int32), (t_vC o (va_up (c_vC o) d ((c_vC o d) + (1 : Int32))))) else (if ((jX1_turnBy (t_vC o (va_up (c_vC o) d ((c_vC o d) + (1 : Int32)))) i y5).1) = 0 then ((0 : Int32), (jX1_turnBy (t_vC o (va_up (c_vC o) d ((c_vC o d) + (1 : Int32)))) i y5).2) else ((1 : Int32), (jX1_turnBy (t_vC o (va_up (c_vC o) d ((c_vC o d) + (1 : Int32)))) i y5).2)))
def sX2_pullAt_y5 (o : Os) (d : Nat) (i : Nat) (y4 : Int64) (y5 : Int64) : Prop := True ∧ (if (jX4_isFit (c_dF (t_vC o (va_up (c_vC o) d ((c_vC o d) + (1 : Int32)))) i) y5) = 0 then True else (sX1_turnBy (t_vC o (va_up (c_vC o) d ((c_vC o d) + (1 : Int32)))) i y5 ∧ (if ((jX1_turnBy (t_vC o (va_up (c_vC o) d ((c_vC o d) + (1 : Int32)))) i y5).1) = 0 then True else True)))
def jX2_pullAt_y4 (o : Os) (d : Nat) (i : Nat) (y4 : Int64) : Int32 × Os := (jX2_pullAt_y5 o d i y4 (jX4_ofReal (1 : Int32) (c_dF (t_vC o (va_up (c_vC o) d ((c_vC o d) + (1 : Int32)))) i) y4))
def sX2_pullAt_y4 (o : Os) (d : Nat) (i : Nat) (y4 : Int64) : Prop := True ∧ (sX2_pullAt_y5 o d i y4 (jX4_ofReal (1 : Int32) (c_dF (t_vC o (va_up (c_vC o) d ((c_vC o d) + (1 : Int32)))) i) y4))
def jX2_pullAt (o : Os) (d : Nat) (i : Nat) : Int32 × Os := (jX2_pullAt_y4 o d i (jX2_force o d (jX4_ofReal (c_dF o i) (1 : Int32) (c_dP o i))))
def sX2_pullAt (o : Os) (d : Nat) (i : Nat) : Prop := True ∧ (i < c_nd o ∧ (d < c_nv o ∧ (sX2_force o d (jX4_ofReal (c_dF o i) (1 : Int32) (c_dP o i)) ∧ (sX2_pullAt_y4 o d i (jX2_force o d (jX4_ofReal (c_dF o i) (1 : Int32) (c_dP o i)))))))
set_option linter.constructorNameAsVariable false in
set_option maxHeartbeats 8000000 in
set_option maxRecDepth 100000 in
theorem qX2_pullAt (l : Launch) (dC : Nat → ClassId) (dI : Nat → Nat → Nat) (cy : Nat → ClassId) (x : Nat) (ad : Nat → Nat) (sz : Nat) (o : Os) (d : Nat) (i : Nat) (hV : sX2_pullAt o d i) : Met l yX2_pullAt wsX2_pullAt ({ frames := 6, cells := 0, slots := 0, locals := 160 }) (va_Pc [.ref (ad (200 + d)), .ref (ad (100 + i))] (wI (dC, dI) (tyA cy) (WX cy x ad o) sz)) (va_Qi (fun r u => (r, u) = jX2_pullAt o d i) (fun u t => wO (dC, dI) (tyA cy) (va_A (WX cy x ad o) sz) (WX cy x ad u) t) (va_A (WX cy x ad o) sz)) 0 0 (va_A (WX cy x ad o) sz) := by
  refine Met.ofW (cc := cX2_pullAt) (maxL := 6) (ret := some .boolean) (by decide) rfl ?_
  intro p e s m args below meth c s₁ B hml hv
  obtain ⟨rfl, hsz, hP, hK, hD0, hk⟩ := hv
  have hx := B.exec
  have hb := B.bytes
  have hr := B.returns
  have hts := atoms_spec (ws := wsX2_pullAt) B.pre
  have hown : s.vm.findClass RX2 = some m.cls := findClass_of_methodNamed B.named
  have hlocks := B.notSynchronized
  subst hsz
  have hD := hD0.self (sz := s.heap.size)
  generalize hAe : va_A (WX cy x ad o) s.heap.size = A at hD ⊢
  have hA : ∀ q : Nat, s.heap.size ≤ q → A q := fun q h => by rw [← hAe]; exact Or.inr h
  obtain ⟨H, hHe⟩ : ∃ H, s.heap = H := ⟨_, rfl⟩
  have hP : va_P (dC, dI) vwCl (WX cy x ad o) H := by rw [← hHe]; exact hP
  have hS : va_S A s.heap H [] := by rw [← hHe]; exact va_S.rf
  rw [w_heap hHe]
  have hi_wsX10 : ∀ w ∈ wsX10, w ∈ wsX2_pullAt := fun _ h => List.mem_cons_of_mem _ (List.mem_append_left _ (List.mem_append_left _ (List.mem_append_left _ (List.mem_append_right _ h))))
  have hi_wsX00 : ∀ w ∈ wsX00, w ∈ wsX2_pullAt := fun _ h => List.mem_cons_of_mem _ (List.mem_append_left _ (List.mem_append_left _ (List.mem_append_right _ h)))
  have hi_wsX30 : ∀ w ∈ wsX30, w ∈ wsX2_pullAt := fun _ h => List.mem_cons_of_mem _ (List.mem_append_left _ (List.mem_append_right _ h))
  have hi_wsX60 : ∀ w ∈ wsX60, w ∈ wsX2_pullAt := fun _ h => List.mem_cons_of_mem _ (List.mem_append_right _ h)
  obtain ⟨JR, hE⟩ : ∃ q, jX2_pullAt o d i = q := ⟨_, rfl⟩
  have hJ := hE
  rw [jX2_pullAt] at hJ
  rw [sX2_pullAt] at hV
  have hV := hV.2
  have hl := lv_entry ([.ref (ad (200 + d)), .ref (ad (100 + i))]) (n := 6) (Nat.le_of_ble_eq_true rfl)
  rw [lg_entry_eq]
  generalize (lg_sl ([.ref (ad (200 + d)), .ref (ad (100 + i))]) ++ List.replicate (6 - (lg_sl ([.ref (ad (200 + d)), .ref (ad (100 + i))])).length) Slot.unset).toArray = ls at hl ⊢
  have hl : lv_has ls 6 [(0, .ref (ad (200 + d))), (1, .ref (ad (100 + i)))] := hl
  refine lv_aload_n hx hb dX2_pullAt_0 rfl (lv_at hl 0 rfl) ?_
  refine lv_aload_n hx hb dX2_pullAt_1 rfl (lv_at hl 1 rfl) ?_
  obtain ⟨hk1, hV⟩ := hV
  refine va_get (D := (dC, dI)) (ci := 1) (v := .int (c_dF o i)) (C := RX1) (T := TX1) (N := 4) (fs := (cx_dial o i)) hx hb hts hi_wsX10 hown hK hP (7 + i) (wx_dial (o := o) hk1) rfl 0 (by decide) (hts (.fieldLink RX2 20 "OrreryDials$Dial" "fine" "Z") (by decide +kernel)) (fun _ h9 => h9) rfl dX2_pullAt_2 ?_
  refine lv_iconst (v := (1 : Int32)) hx hb dX2_pullAt_5 (by decide) ?_
  refine lv_aload_n hx hb dX2_pullAt_6 rfl (lv_at hl 1 rfl) ?_
  refine va_get (D := (dC, dI)) (ci := 1) (v := .long (c_dP o i)) (C := RX1) (T := TX1) (N := 4) (fs := (cx_dial o i)) hx hb hts hi_wsX10 hown hK hP (7 + i) (wx_dial (o := o) hk1) rfl 2 (by decide) (hts (.fieldLink RX2 26 "OrreryDials$Dial" "place" "J") (by decide +kernel)) (fun _ h9 => h9) rfl dX2_pullAt_7 ?_
  refine vp_callSl (W.runS (As := [.int (c_dF o i), .int (1 : Int32), .long (c_dP o i)]) (rest := [.ref (ad (200 + d))]) ⟨hx, hb, hml, hown, hts⟩ (qX4_ofReal l (c_dF o i) (1 : Int32) (c_dP o i)) (va_cwS 3 hts gX2_pullAt_X4_ofReal rfl rfl rfl (by decide +kernel) ⟨Nat.le_of_ble_eq_true rfl, Nat.le_of_ble_eq_true rfl⟩) ⟨fun _ _ _ _ q => q, fun U hU hW => rfl⟩ rfl rfl hl.1 rfl (lv_room (Nat.le_of_ble_eq_true rfl)) dX2_pullAt_10 ⟨Nat.le_of_ble_eq_true rfl, Nat.le_of_ble_eq_true rfl⟩) (fun r hq9 => ?_)
  rw [hq9]
  obtain ⟨hk2, hV⟩ := hV
  obtain ⟨hk3, hV⟩ := hV
  refine vp_callSl (rn3 (c_vS o d = 0) (c_vS o d = 1) (fun g0 => va_Run.run (va_runU (As := [.long (jX4_ofReal (c_dF o i) (1 : Int32) (c_dP o i))]) (rest := []) ⟨hx, hb, hml, hown, hts⟩ (show Met l yX6_forceAt wsX6_forceAt _ _ (vp_Sl (fun r => r = (jX2_force o d (jX4_ofReal (c_dF o i) (1 : Int32) (c_dP o i))))) 0 0 _ from by rw [show (jX2_force o d (jX4_ofReal (c_dF o i) (1 : Int32) (c_dP o i))) = jX6_forceAt o d (jX4_ofReal (c_dF o i) (1 : Int32) (c_dP o i)) from if_pos g0]; exact qX6_forceAt l dC dI cy x ad H.size o d (jX4_ofReal (c_dF o i) (1 : Int32) (c_dP o i)) (by have := hk3; rw [sX2_force, if_pos g0] at this; exact this.2)) (va_cwA 1 hts gX2_pullAt_X6_forceAt_u35X6 rfl rfl rfl hk.2.2.2.2.2.2.2.2.2.2 (by decide +kernel) ⟨Nat.le_of_ble_eq_true rfl, Nat.le_of_ble_eq_true rfl⟩) (pV hK hP hD hk (q0 := (7 + (c_nd o + d))) (wx_spring (o := o) hk2 g0) rfl) rfl rfl hl.1 rfl (lv_room (Nat.le_of_ble_eq_true rfl)) dX2_pullAt_13 ⟨Nat.le_of_ble_eq_true rfl, Nat.le_of_ble_eq_true rfl⟩)) (fun g0 g1 => va_Run.run (va_runU (As := [.long (jX4_ofReal (c_dF o i) (1 : Int32) (c_dP o i))]) (rest := []) ⟨hx, hb, hml, hown, hts⟩ (show Met l yX0_forceAt wsX0_forceAt _ _ (vp_Sl (fun r => r = (jX2_force o d (jX4_ofReal (c_dF o i) (1 : Int32) (c_dP o i))))) 0 0 _ from by rw [show (jX2_force o d (jX4_ofReal (c_dF o i) (1 : Int32) (c_dP o i))) = jX0_forceAt o d (jX4_ofReal (c_dF o i) (1 : Int32) (c_dP o i)) from (if_neg g0).trans (if_pos g1)]; exact qX0_forceAt l dC dI cy x ad H.size o d (jX4_ofReal (c_dF o i) (1 : Int32) (c_dP o i)) (by have := hk3; rw [sX2_force, if_neg g0, if_pos g1] at this; exact this.2)) (va_cwA 1 hts gX2_pullAt_X0_forceAt_u35X0 rfl rfl rfl hk.2.2.2.2.2.2.2.2.2.2 (by decide +kernel) ⟨Nat.le_of_ble_eq_true rfl, Nat.le_of_ble_eq_true rfl⟩) (pV hK hP hD hk (q0 := (7 + (c_nd o + d))) (wx_crank (o := o) hk2 g0 g1) rfl) rfl rfl hl.1 rfl (lv_room (Nat.le_of_ble_eq_true rfl)) dX2_pullAt_13 ⟨Nat.le_of_ble_eq_true rfl, Nat.le_of_ble_eq_true rfl⟩)) (fun g0 g1 => va_Run.run (va_runU (As := [.long (jX4_ofReal (c_dF o i) (1 : Int32) (c_dP o i))]) (rest := []) ⟨hx, hb, hml, hown, hts⟩ (show Met l yX3_forceAt wsX3_forceAt _ _ (vp_Sl (fun r => r = (jX2_force o d (jX4_ofReal (c_dF o i) (1 : Int32) (c_dP o i))))) 0 0 _ from by rw [show (jX2_force o d (jX4_ofReal (c_dF o i) (1 : Int32) (c_dP o i))) = jX3_forceAt o d (jX4_ofReal (c_dF o i) (1 : Int32) (c_dP o i)) from (if_neg g0).trans (if_neg g1)]; exact qX3_forceAt l dC dI cy x ad H.size o d (jX4_ofReal (c_dF o i) (1 : Int32) (c_dP o i)) (by have := hk3; rw [sX2_force, if_neg g0, if_neg g1] at this; exact this.2)) (va_cwA 1 hts gX2_pullAt_X3_forceAt_u35X3 rfl rfl rfl hk.2.2.2.2.2.2.2.2.2.2 (by decide +kernel) ⟨Nat.le_of_ble_eq_true rfl, Nat.le_of_ble_eq_true rfl⟩) (pV hK hP hD hk (q0 := (7 + (c_nd o + d))) (wx_fly (o := o) hk2 g0 g1) rfl) rfl rfl hl.1 rfl (lv_room (Nat.le_of_ble_eq_true rfl)) dX2_pullAt_13 ⟨Nat.le_of_ble_eq_true rfl, Nat.le_of_ble_eq_true rfl⟩))) (fun r hq9 => ?_)
  rw [hq9]
  refine lv_topl (fun y4 ey4 => ?_)
  rw [← ey4] at hJ
  rw [jX2_pullAt_y4] at hJ
  rw [← ey4] at hV
  rw [sX2_pullAt_y4] at hV
  have hV := hV.2
  refine lv_lstore_n (lv' := [(2, .long y4), (0, .ref (ad (200 + d))), (1, .ref (ad (100 + i)))]) hx hb dX2_pullAt_16 rfl hl (by decide) rfl (fun ls hl => ?_)
  refine lv_aload_n hx hb dX2_pullAt_17 rfl (lv_at hl 1 rfl) ?_
  refine lv_dup hx hb dX2_pullAt_18 rfl ?_
  refine cs3 (c_vS o d = 0) (c_vS o d = 1) (fun g0 kk => va_get (D := (dC, dI)) (ci := 4) (v := .int (c_vC o d)) (C := RX6) (T := TX6) (N := 3) (fs := cx_spring o d) hx hb hts hi_wsX60 hown hK hP (7 + (c_nd o + d)) (wx_spring (o := o) hk2 g0) rfl 2 (by decide) (hts (.fieldLink RX2 7 "OrreryDials$Drive" "pullCount" "I") (by decide +kernel)) (fun _ h9 => h9) rfl dX2_pullAt_19 kk) (fun g0 g1 kk => va_get (D := (dC, dI)) (ci := 0) (v := .int (c_vC o d)) (C := RX0) (T := TX0) (N := 4) (fs := cx_crank o d) hx hb hts hi_wsX00 hown hK hP (7 + (c_nd o + d)) (wx_crank (o := o) hk2 g0 g1) rfl 2 (by decide) (hts (.fieldLink RX2 7 "OrreryDials$Drive" "pullCount" "I") (by decide +kernel)) (fun _ h9 => h9) rfl dX2_pullAt_19 kk) (fun g0 g1 kk => va_get (D := (dC, dI)) (ci := 2) (v := .int (c_vC o d)) (C := RX3) (T := TX3) (N := 4) (fs := cx_fly o d) hx hb hts hi_wsX30 hown hK hP (7 + (c_nd o + d)) (wx_fly (o := o) hk2 g0 g1) rfl 3 (by decide) (hts (.fieldLink RX2 7 "OrreryDials$Drive" "pullCount" "I") (by decide +kernel)) (fun _ h9 => h9) rfl dX2_pullAt_19 kk) ?_
  refine lv_iconst (v := (1 : Int32)) hx hb dX2_pullAt_22 (by decide) ?_
  refine lv_iadd hx hb dX2_pullAt_23 ?_
  refine cs3k (P := fun H => va_P (dC, dI) vwCl (WX cy x ad (t_vC o (va_up (c_vC o) d ((c_vC o d) + (1 : Int32))))) H) (D := va_D A (WX cy x ad (t_vC o (va_up (c_vC o) d ((c_vC o d) + (1 : Int32)))))) (c_vS o d = 0) (c_vS o d = 1) (fun g0 kk => va_put (D := (dC, dI)) (ci := 4) (v := .int ((c_vC o d) + (1 : Int32))) (ty := .int) (C := RX6) (T := TX6) (N := 3) (fs := cx_spring o d) hx hb hts hi_wsX60 tyX6 tyX6_ok nmX6 hown hK hP hD hS (7 + (c_nd o + d)) (wx_spring (o := o) hk2 g0) rfl 2 (by decide) (hts (.fieldLink RX2 7 "OrreryDials$Drive" "pullCount" "I") (by decide +kernel)) (fun _ h9 => h9) rfl (by decide +kernel) rfl rfl (Nat.le_of_ble_eq_true rfl) dX2_pullAt_24 (fun H locs hP hD hS => kk H locs (by rw [← wx_p_vC_spring (o := o) hk2 g0]; exact hP) (by rw [← wx_p_vC_spring (o := o) hk2 g0]; exact hD) hS)) (fun g0 g1 kk => va_put (D := (dC, dI)) (ci := 0) (v := .int ((c_vC o d) + (1 : Int32))) (ty := .int) (C := RX0) (T := TX0) (N := 4) (fs := cx_crank o d) hx hb hts hi_wsX00 tyX0 tyX0_ok nmX0 hown hK hP hD hS (7 + (c_nd o + d)) (wx_crank (o := o) hk2 g0 g1) rfl 2 (by decide) (hts (.fieldLink RX2 7 "OrreryDials$Drive" "pullCount" "I") (by decide +kernel)) (fun _ h9 => h9) rfl (by decide +kernel) rfl rfl (Nat.le_of_ble_eq_true rfl) dX2_pullAt_24 (fun H locs hP hD hS => kk H locs (by rw [← wx_p_vC_crank (o := o) hk2 g0 g1]; exact hP) (by rw [← wx_p_vC_crank (o := o) hk2 g0 g1]; exact hD) hS)) (fun g0 g1 kk => va_put (D := (dC, dI)) (ci := 2) (v := .int ((c_vC o d) + (1 : Int32))) (ty := .int) (C := RX3) (T := TX3) (N := 4) (fs := cx_fly o d) hx hb hts hi_wsX30 tyX3 tyX3_ok nmX3 hown hK hP hD hS (7 + (c_nd o + d)) (wx_fly (o := o) hk2 g0 g1) rfl 3 (by decide) (hts (.fieldLink RX2 7 "OrreryDials$Drive" "pullCount" "I") (by decide +kernel)) (fun _ h9 => h9) rfl (by decide +kernel) rfl rfl (Nat.le_of_ble_eq_true rfl) dX2_pullAt_24 (fun H locs hP hD hS => kk H locs (by rw [← wx_p_vC_fly (o := o) hk2 g0 g1]; exact hP) (by rw [← wx_p_vC_fly (o := o) hk2 g0 g1]; exact hD) hS)) (fun H locs hP hD hS => ?_)
  refine lv_iconst (v := (1 : Int32)) hx hb dX2_pullAt_27 (by decide) ?_
  refine lv_aload_n hx hb dX2_pullAt_28 rfl (lv_at hl 2 rfl) ?_
  refine va_get (D := (dC, dI)) (ci := 1) (v := .int (c_dF (t_vC o (va_up (c_vC o) d ((c_vC o d) + (1 : Int32)))) i)) (C := RX1) (T := TX1) (N := 4) (fs := (cx_dial (t_vC o (va_up (c_vC o) d ((c_vC o d) + (1 : Int32)))) i)) hx hb hts hi_wsX10 hown hK hP (7 + i) (wx_dial (o := (t_vC o (va_up (c_vC o) d ((c_vC o d) + (1 : Int32))))) hk1) rfl 0 (by decide) (hts (.fieldLink RX2 20 "OrreryDials$Dial" "fine" "Z") (by decide +kernel)) (fun _ h9 => h9) rfl dX2_pullAt_29 ?_
  refine lv_lload_n hx hb dX2_pullAt_32 rfl (lv_at hl 0 rfl) ?_
  refine vp_callSl (W.runS (As := [.int (1 : Int32), .int (c_dF (t_vC o (va_up (c_vC o) d ((c_vC o d) + (1 : Int32)))) i), .long y4]) (rest := []) ⟨hx, hb, hml, hown, hts⟩ (qX4_ofReal l (1 : Int32) (c_dF (t_vC o (va_up (c_vC o) d ((c_vC o d) + (1 : Int32)))) i) y4) (va_cwS 3 hts gX2_pullAt_X4_ofReal rfl rfl rfl (by decide +kernel) ⟨Nat.le_of_ble_eq_true rfl, Nat.le_of_ble_eq_true rfl⟩) ⟨fun _ _ _ _ q => q, fun U hU hW => rfl⟩ rfl rfl hl.1 rfl (lv_room (Nat.le_of_ble_eq_true rfl)) dX2_pullAt_33 ⟨Nat.le_of_ble_eq_true rfl, Nat.le_of_ble_eq_true rfl⟩) (fun r hq9 => ?_)
  rw [hq9]
  refine lv_topl (fun y5 ey5 => ?_)
  rw [← ey5] at hJ
  rw [jX2_pullAt_y5] at hJ
  rw [← ey5] at hV
  rw [sX2_pullAt_y5] at hV
  have hV := hV.2
  refine lv_lstore (lv' := [(4, .long y5), (2, .long y4), (0, .ref (ad (200 + d))), (1, .ref (ad (100 + i)))]) hx hb dX2_pullAt_36 hl (by decide) rfl (fun ls hl => ?_)
  refine lv_aload_n hx hb dX2_pullAt_38 rfl (lv_at hl 3 rfl) ?_
  refine va_get (D := (dC, dI)) (ci := 1) (v := .int (c_dF (t_vC o (va_up (c_vC o) d ((c_vC o d) + (1 : Int32)))) i)) (C := RX1) (T := TX1) (N := 4) (fs := (cx_dial (t_vC o (va_up (c_vC o) d ((c_vC o d) + (1 : Int32)))) i)) hx hb hts hi_wsX10 hown hK hP (7 + i) (wx_dial (o := (t_vC o (va_up (c_vC o) d ((c_vC o d) + (1 : Int32))))) hk1) rfl 0 (by decide) (hts (.fieldLink RX2 20 "OrreryDials$Dial" "fine" "Z") (by decide +kernel)) (fun _ h9 => h9) rfl dX2_pullAt_39 ?_
  refine lv_lload hx hb dX2_pullAt_42 (lv_at hl 0 rfl) ?_
  refine vp_callSi (W.runS (As := [.int (c_dF (t_vC o (va_up (c_vC o) d ((c_vC o d) + (1 : Int32)))) i), .long y5]) (rest := []) ⟨hx, hb, hml, hown, hts⟩ (qX4_isFit l (c_dF (t_vC o (va_up (c_vC o) d ((c_vC o d) + (1 : Int32)))) i) y5) (va_cwS 2 hts gX2_pullAt_X4_isFit rfl rfl rfl (by decide +kernel) ⟨Nat.le_of_ble_eq_true rfl, Nat.le_of_ble_eq_true rfl⟩) ⟨fun _ _ _ _ q => q, fun U hU hW => rfl⟩ rfl rfl hl.1 rfl (lv_room (Nat.le_of_ble_eq_true rfl)) dX2_pullAt_44 ⟨Nat.le_of_ble_eq_true rfl, Nat.le_of_ble_eq_true rfl⟩) (fun r hq9 => ?_)
  rw [hq9]
  refine lv_if_eq (tgt := 63) hx hb dX2_pullAt_47 (by decide) (fun c6 => ?_) (fun c6 => ?_)
  · skip
    rw [if_pos c6] at hJ
    rw [if_pos c6] at hV
    refine lv_iconst (v := (0 : Int32)) hx hb dX2_pullAt_63 (by decide) ?_
    exact W.zret hx hb hr rfl (fun t ht hW => ⟨⟨_, _, rfl, hJ.trans hE.symm, by rw [ht]; exact hP, va_K.moved hW.alike hK, hD⟩, hS.F ht⟩) hS.2.2 dX2_pullAt_64
  · skip
    rw [if_neg c6] at hJ
    rw [if_neg c6] at hV
    refine lv_aload_n hx hb dX2_pullAt_50 rfl (lv_at hl 3 rfl) ?_
    refine lv_lload hx hb dX2_pullAt_51 (lv_at hl 0 rfl) ?_
    obtain ⟨hk7, hV⟩ := hV
    refine cl_i (va_runV (As := [.long y5]) (rest := []) ⟨hx, hb, hml, hown, hts⟩ (qX1_turnBy l dC dI cy x ad H.size (t_vC o (va_up (c_vC o) d ((c_vC o d) + (1 : Int32)))) i y5 hk7) (cwV 1 hts gX2_pullAt_X1_turnBy rfl rfl rfl (by decide +kernel) ⟨Nat.le_of_ble_eq_true rfl, Nat.le_of_ble_eq_true rfl⟩) (pV hK hP hD hk (q0 := (7 + i)) (wx_dial (o := (t_vC o (va_up (c_vC o) d ((c_vC o d) + (1 : Int32))))) hk1) rfl) rfl rfl hl.1 rfl (lv_room (Nat.le_of_ble_eq_true rfl)) dX2_pullAt_53 ⟨Nat.le_of_ble_eq_true rfl, Nat.le_of_ble_eq_true rfl⟩) hD hS hA (fun r u H locs hw hP hD hS => ?_)
    have hr1 : r = (jX1_turnBy (t_vC o (va_up (c_vC o) d ((c_vC o d) + (1 : Int32)))) i y5).1 := congrArg Prod.fst hw
    have hu1 : u = (jX1_turnBy (t_vC o (va_up (c_vC o) d ((c_vC o d) + (1 : Int32)))) i y5).2 := congrArg Prod.snd hw
    rw [hu1] at hP hD
    rw [hr1]
    refine lv_if_eq (tgt := 63) hx hb dX2_pullAt_56 (by decide) (fun c8 => ?_) (fun c8 => ?_)
    · skip
      rw [if_pos c8] at hJ
      rw [if_pos c8] at hV
      refine lv_iconst (v := (0 : Int32)) hx hb dX2_pullAt_63 (by decide) ?_
      exact W.zret hx hb hr rfl (fun t ht hW => ⟨⟨_, _, rfl, hJ.trans hE.symm, by rw [ht]; exact hP, va_K.moved hW.alike hK, hD⟩, hS.F ht⟩) hS.2.2 dX2_pullAt_64
    · skip
      rw [if_neg c8] at hJ
      rw [if_neg c8] at hV
      refine lv_iconst (v := (1 : Int32)) hx hb dX2_pullAt_59 (by decide) ?_
      refine lv_goto (tgt := 64) hx hb dX2_pullAt_60 (by decide) ?_
      exact W.zret hx hb hr rfl (fun t ht hW => ⟨⟨_, _, rfl, hJ.trans hE.symm, by rw [ht]; exact hP, va_K.moved hW.alike hK, hD⟩, hS.F ht⟩) hS.2.2 dX2_pullAt_64
theorem bX2_pullAt_y5 (o : Os) (d : Nat) (i : Nat) (y4 : Int64) (y5 : Int64) : (jX2_pullAt_y5 o d i y4 y5).1 = 0 ∨ (jX2_pullAt_y5 o d i y4 y5).1 = 1 := by
  unfold jX2_pullAt_y5
  exact (ib (Or.inl rfl) (ib (Or.inl rfl) (Or.inr rfl)))
theorem bX2_pullAt_y4 (o : Os) (d : Nat) (i : Nat) (y4 : Int64) : (jX2_pullAt_y4 o d i y4).1 = 0 ∨ (jX2_pullAt_y4 o d i y4).1 = 1 := by
  unfold jX2_pullAt_y4
  exact (bX2_pullAt_y5 o d i y4 (jX4_ofReal (1 : Int32) (c_dF (t_vC o (va_up (c_vC o) d ((c_vC o d) + (1 : Int32)))) i) y4))
theorem bX2_pullAt (o : Os) (d : Nat) (i : Nat) : (jX2_pullAt o d i).1 = 0 ∨ (jX2_pullAt o d i).1 = 1 := by
  unfold jX2_pullAt
  exact (bX2_pullAt_y4 o d i (jX2_force o d (jX4_ofReal (c_dF o i) (1 : Int32) (c_dP o i))))
