def jX7_recall_y13 (o : Os) (a1 : Int32) (a2 : Int32) (a3 : Int32) (a4 : Int32) (d2 : Nat) (d6 : Nat) (y9 : Int32) (y13 : Int64) : Int32 × Os := (if (jX4_isFit (c_dF o d6) y13) = 0 then ((jX7_failWith o (-15 : Int32)).1, (jX7_failWith o (-15 : Int32)).2) else ((jX7_done (t_dP o (va_up (c_dP o) d6 (jX4_leftOver (c_dF o d6) y13 (c_dR o d6)))) (1 : Int32)).1, (jX7_done (t_dP o (va_up (c_dP o) d6 (jX4_leftOver (c_dF o d6) y13 (c_dR o d6)))) (1 : Int32)).2))
def sX7_recall_y13 (o : Os) (a1 : Int32) (a2 : Int32) (a3 : Int32) (a4 : Int32) (d2 : Nat) (d6 : Nat) (y9 : Int32) (y13 : Int64) : Prop := True ∧ (if (jX4_isFit (c_dF o d6) y13) = 0 then (sX7_failWith o (-15 : Int32) ∧ True) else True)
def jX7_recall_y9 (o : Os) (a1 : Int32) (a2 : Int32) (a3 : Int32) (a4 : Int32) (d2 : Nat) (d6 : Nat) (y9 : Int32) : Int32 × Os := (if y9 = 0 then (jX7_recall_y13 o a1 a2 a3 a4 d2 d6 y9 (jX4_ofReal a2 (c_dF o d6) (c_rP o d2 a3.toNatClampNeg))) else ((jX7_failWith o y9).1, (jX7_failWith o y9).2))
def sX7_recall_y9 (o : Os) (a1 : Int32) (a2 : Int32) (a3 : Int32) (a4 : Int32) (d2 : Nat) (d6 : Nat) (y9 : Int32) : Prop := True ∧ (if y9 = 0 then (d6 < c_nd o ∧ (vp_in a3 16 ∧ (sX7_recall_y13 o a1 a2 a3 a4 d2 d6 y9 (jX4_ofReal a2 (c_dF o d6) (c_rP o d2 a3.toNatClampNeg))))) else (sX7_failWith o y9 ∧ True))
def jX7_recall (o : Os) (a1 : Int32) (a2 : Int32) (a3 : Int32) (a4 : Int32) : Int32 × Os := (om (jX7_rowAt o a1 a2) (om (jX7_dialAt o a4) ((-101 : Int32), o) (fun d4 => ((-101 : Int32), o))) (fun d2 => (om (jX7_dialAt o a4) ((-101 : Int32), o) (fun d6 => (jX7_recall_y9 o a1 a2 a3 a4 d2 d6 (jX5_failureAt o d2 a3))))))
def sX7_recall (o : Os) (a1 : Int32) (a2 : Int32) (a3 : Int32) (a4 : Int32) : Prop := True ∧ (sX7_rowAt o a1 a2 ∧ (om (jX7_rowAt o a1 a2) (sX7_dialAt o a4 ∧ (om (jX7_dialAt o a4) True (fun d4 => True))) (fun d2 => (sX7_dialAt o a4 ∧ (om (jX7_dialAt o a4) True (fun d6 => (sX5_failureAt o d2 a3 ∧ (d2 < 16 ∧ (sX7_recall_y9 o a1 a2 a3 a4 d2 d6 (jX5_failureAt o d2 a3))))))))))
set_option linter.constructorNameAsVariable false in
set_option maxHeartbeats 8000000 in
set_option maxRecDepth 100000 in
theorem qX7_recall (l : Launch) (dC : Nat → ClassId) (dI : Nat → Nat → Nat) (cy : Nat → ClassId) (x : Nat) (ad : Nat → Nat) (sz : Nat) (o : Os) (a1 : Int32) (a2 : Int32) (a3 : Int32) (a4 : Int32) (hV : sX7_recall o a1 a2 a3 a4) : Met l yX7_recall wsX7_recall ({ frames := 5, cells := 0, slots := 0, locals := 126 }) (va_Pc [.ref x, .int a1, .int a2, .int a3, .int a4] (wI (dC, dI) (tyA cy) (WX cy x ad o) sz)) (va_Qi (fun r u => (r, u) = jX7_recall o a1 a2 a3 a4) (fun u t => wO (dC, dI) (tyA cy) (va_A (WX cy x ad o) sz) (WX cy x ad u) t) (va_A (WX cy x ad o) sz)) 0 0 (va_A (WX cy x ad o) sz) := by
  refine Met.ofW (cc := cX7_recall) (maxL := 10) (ret := some .int) (by decide) rfl ?_
  intro p e s m args below meth c s₁ B hml hv
  obtain ⟨rfl, hsz, hP, hK, hD0, hk⟩ := hv
  have hx := B.exec
  have hb := B.bytes
  have hr := B.returns
  have hts := atoms_spec (ws := wsX7_recall) B.pre
  have hown : s.vm.findClass RX7 = some m.cls := findClass_of_methodNamed B.named
  have hlocks := B.notSynchronized
  subst hsz
  have hD := hD0.self (sz := s.heap.size)
  generalize hAe : va_A (WX cy x ad o) s.heap.size = A at hD ⊢
  have hA : ∀ q : Nat, s.heap.size ≤ q → A q := fun q h => by rw [← hAe]; exact Or.inr h
  obtain ⟨H, hHe⟩ : ∃ H, s.heap = H := ⟨_, rfl⟩
  have hP : va_P (dC, dI) vwCl (WX cy x ad o) H := by rw [← hHe]; exact hP
  have hS : va_S A s.heap H [] := by rw [← hHe]; exact va_S.rf
  rw [w_heap hHe]
  have hi_wsX10 : ∀ w ∈ wsX10, w ∈ wsX7_recall := fun _ h => List.mem_cons_of_mem _ (List.mem_append_left _ (List.mem_append_left _ (List.mem_append_right _ h)))
  have hi_wsX50 : ∀ w ∈ wsX50, w ∈ wsX7_recall := fun _ h => List.mem_cons_of_mem _ (List.mem_append_left _ (List.mem_append_right _ h))
  have hi_wsX70 : ∀ w ∈ wsX70, w ∈ wsX7_recall := fun _ h => List.mem_cons_of_mem _ (List.mem_append_right _ h)
  obtain ⟨JR, hE⟩ : ∃ q, jX7_recall o a1 a2 a3 a4 = q := ⟨_, rfl⟩
  have hJ := hE
  rw [jX7_recall] at hJ
  rw [sX7_recall] at hV
  have hV := hV.2
  have hl := lv_entry ([.ref x, .int a1, .int a2, .int a3, .int a4]) (n := 10) (Nat.le_of_ble_eq_true rfl)
  rw [lg_entry_eq]
  generalize (lg_sl ([.ref x, .int a1, .int a2, .int a3, .int a4]) ++ List.replicate (10 - (lg_sl ([.ref x, .int a1, .int a2, .int a3, .int a4])).length) Slot.unset).toArray = ls at hl ⊢
  have hl : lv_has ls 10 [(0, .ref x), (1, .int a1), (2, .int a2), (3, .int a3), (4, .int a4)] := hl
  refine lv_aload_n hx hb dX7_recall_0 rfl (lv_at hl 0 rfl) ?_
  refine lv_iload_n hx hb dX7_recall_1 rfl (lv_at hl 1 rfl) ?_
  refine lv_iload_n hx hb dX7_recall_2 rfl (lv_at hl 2 rfl) ?_
  obtain ⟨hk1, hV⟩ := hV
  refine va_csq (W.runV (As := [.int a1, .int a2]) (rest := []) ⟨hx, hb, hml, hown, hts⟩ (qX7_rowAt l dC dI cy x ad H.size o a1 a2 hk1) (cwV 2 hts gX7_recall_X7_rowAt rfl rfl rfl (by decide +kernel) ⟨Nat.le_of_ble_eq_true rfl, Nat.le_of_ble_eq_true rfl⟩) (pV hK hP hD hk (q0 := 0) (wx_h (o := o) rfl) rfl) rfl rfl hl.1 rfl (lv_room (Nat.le_of_ble_eq_true rfl)) dX7_recall_3 ⟨Nat.le_of_ble_eq_true rfl, Nat.le_of_ble_eq_true rfl⟩) (fun r hq9 => ?_)
  rcases hd2 : jX7_rowAt o a1 a2 with _ | d2
  · rw [hd2, om_n] at hJ
    rw [hd2, om_n] at hV
    rw [hd2] at hq9
    refine rf_n hq9 ?_
    refine lv_astoreN (lv' := [(5, .null), (0, .ref x), (1, .int a1), (2, .int a2), (3, .int a3), (4, .int a4)]) hx hb dX7_recall_6 hl (by decide) rfl (fun ls hl => ?_)
    refine lv_aload_n hx hb dX7_recall_8 rfl (lv_at hl 1 rfl) ?_
    refine lv_iload hx hb dX7_recall_9 (lv_at hl 5 rfl) ?_
    obtain ⟨hk3, hV⟩ := hV
    refine va_csq (W.runV (As := [.int a4]) (rest := []) ⟨hx, hb, hml, hown, hts⟩ (qX7_dialAt l dC dI cy x ad H.size o a4 hk3) (cwV 1 hts gX7_recall_X7_dialAt rfl rfl rfl (by decide +kernel) ⟨Nat.le_of_ble_eq_true rfl, Nat.le_of_ble_eq_true rfl⟩) (pV hK hP hD hk (q0 := 0) (wx_h (o := o) rfl) rfl) rfl rfl hl.1 rfl (lv_room (Nat.le_of_ble_eq_true rfl)) dX7_recall_11 ⟨Nat.le_of_ble_eq_true rfl, Nat.le_of_ble_eq_true rfl⟩) (fun r hq9 => ?_)
    rcases hd4 : jX7_dialAt o a4 with _ | d4
    · rw [hd4, om_n] at hJ
      rw [hd4, om_n] at hV
      rw [hd4] at hq9
      refine rf_n hq9 ?_
      refine lv_astoreN (lv' := [(6, .null), (5, .null), (0, .ref x), (1, .int a1), (2, .int a2), (3, .int a3), (4, .int a4)]) hx hb dX7_recall_14 hl (by decide) rfl (fun ls hl => ?_)
      refine lv_aloadN hx hb dX7_recall_16 (lv_at hl 1 rfl) ?_
      refine lv_ifnullN (tgt := 26) hx hb dX7_recall_18 (by decide) ?_
      refine lv_bipush (v := (-101 : Int32)) hx hb dX7_recall_26 (by decide) ?_
      exact W.iret hx hb hr (fun t ht hW => ⟨⟨_, _, rfl, hJ.trans hE.symm, by rw [ht]; exact hP, va_K.moved hW.alike hK, hD⟩, hS.F ht⟩) hS.2.2 dX7_recall_28
    · rw [hd4, om_s] at hJ
      rw [hd4, om_s] at hV
      rw [hd4] at hq9
      refine rf_s hq9 ?_
      refine lv_astore (lv' := [(6, .ref (ad (100 + d4))), (5, .null), (0, .ref x), (1, .int a1), (2, .int a2), (3, .int a3), (4, .int a4)]) hx hb dX7_recall_14 hl (by decide) rfl (fun ls hl => ?_)
      refine lv_aloadN hx hb dX7_recall_16 (lv_at hl 1 rfl) ?_
      refine lv_ifnullN (tgt := 26) hx hb dX7_recall_18 (by decide) ?_
      refine lv_bipush (v := (-101 : Int32)) hx hb dX7_recall_26 (by decide) ?_
      exact W.iret hx hb hr (fun t ht hW => ⟨⟨_, _, rfl, hJ.trans hE.symm, by rw [ht]; exact hP, va_K.moved hW.alike hK, hD⟩, hS.F ht⟩) hS.2.2 dX7_recall_28
  · rw [hd2, om_s] at hJ
    rw [hd2, om_s] at hV
    rw [hd2] at hq9
    refine rf_s hq9 ?_
    refine lv_astore (lv' := [(5, .ref (ad (300 + d2))), (0, .ref x), (1, .int a1), (2, .int a2), (3, .int a3), (4, .int a4)]) hx hb dX7_recall_6 hl (by decide) rfl (fun ls hl => ?_)
    refine lv_aload_n hx hb dX7_recall_8 rfl (lv_at hl 1 rfl) ?_
    refine lv_iload hx hb dX7_recall_9 (lv_at hl 5 rfl) ?_
    obtain ⟨hk5, hV⟩ := hV
    refine va_csq (W.runV (As := [.int a4]) (rest := []) ⟨hx, hb, hml, hown, hts⟩ (qX7_dialAt l dC dI cy x ad H.size o a4 hk5) (cwV 1 hts gX7_recall_X7_dialAt rfl rfl rfl (by decide +kernel) ⟨Nat.le_of_ble_eq_true rfl, Nat.le_of_ble_eq_true rfl⟩) (pV hK hP hD hk (q0 := 0) (wx_h (o := o) rfl) rfl) rfl rfl hl.1 rfl (lv_room (Nat.le_of_ble_eq_true rfl)) dX7_recall_11 ⟨Nat.le_of_ble_eq_true rfl, Nat.le_of_ble_eq_true rfl⟩) (fun r hq9 => ?_)
    rcases hd6 : jX7_dialAt o a4 with _ | d6
    · rw [hd6, om_n] at hJ
      rw [hd6, om_n] at hV
      rw [hd6] at hq9
      refine rf_n hq9 ?_
      refine lv_astoreN (lv' := [(6, .null), (5, .ref (ad (300 + d2))), (0, .ref x), (1, .int a1), (2, .int a2), (3, .int a3), (4, .int a4)]) hx hb dX7_recall_14 hl (by decide) rfl (fun ls hl => ?_)
      refine lv_aload hx hb dX7_recall_16 (lv_at hl 1 rfl) ?_
      refine lv_ifnull hx hb dX7_recall_18 ?_
      refine lv_aloadN hx hb dX7_recall_21 (lv_at hl 0 rfl) ?_
      refine lv_ifnonnullN hx hb dX7_recall_23 ?_
      refine lv_bipush (v := (-101 : Int32)) hx hb dX7_recall_26 (by decide) ?_
      exact W.iret hx hb hr (fun t ht hW => ⟨⟨_, _, rfl, hJ.trans hE.symm, by rw [ht]; exact hP, va_K.moved hW.alike hK, hD⟩, hS.F ht⟩) hS.2.2 dX7_recall_28
    · rw [hd6, om_s] at hJ
      rw [hd6, om_s] at hV
      rw [hd6] at hq9
      refine rf_s hq9 ?_
      refine lv_astore (lv' := [(6, .ref (ad (100 + d6))), (5, .ref (ad (300 + d2))), (0, .ref x), (1, .int a1), (2, .int a2), (3, .int a3), (4, .int a4)]) hx hb dX7_recall_14 hl (by decide) rfl (fun ls hl => ?_)
      refine lv_aload hx hb dX7_recall_16 (lv_at hl 1 rfl) ?_
      refine lv_ifnull hx hb dX7_recall_18 ?_
      refine lv_aload hx hb dX7_recall_21 (lv_at hl 0 rfl) ?_
      refine lv_ifnonnull (tgt := 29) hx hb dX7_recall_23 (by decide) ?_
      refine lv_aload hx hb dX7_recall_29 (lv_at hl 1 rfl) ?_
      refine lv_iload_n hx hb dX7_recall_31 rfl (lv_at hl 5 rfl) ?_
      obtain ⟨hk7, hV⟩ := hV
      obtain ⟨hk8, hV⟩ := hV
      refine vp_callSi (W.runV (As := [.int a3]) (rest := []) ⟨hx, hb, hml, hown, hts⟩ (qX5_failureAt l dC dI cy x ad H.size o d2 a3 hk7) (cwV 1 hts gX7_recall_X5_failureAt rfl rfl rfl (by decide +kernel) ⟨Nat.le_of_ble_eq_true rfl, Nat.le_of_ble_eq_true rfl⟩) (pV hK hP hD hk (q0 := (7 + (c_nd o + (c_nv o + d2)))) (wx_row (o := o) hk8) rfl) rfl rfl hl.1 rfl (lv_room (Nat.le_of_ble_eq_true rfl)) dX7_recall_32 ⟨Nat.le_of_ble_eq_true rfl, Nat.le_of_ble_eq_true rfl⟩) (fun r hq9 => ?_)
      rw [hq9]
      refine lv_topi (fun y9 ey9 => ?_)
      rw [← ey9] at hJ
      rw [jX7_recall_y9] at hJ
      rw [← ey9] at hV
      rw [sX7_recall_y9] at hV
      have hV := hV.2
      refine lv_istore (lv' := [(7, .int y9), (6, .ref (ad (100 + d6))), (5, .ref (ad (300 + d2))), (0, .ref x), (1, .int a1), (2, .int a2), (3, .int a3), (4, .int a4)]) hx hb dX7_recall_35 hl (by decide) rfl (fun ls hl => ?_)
      refine lv_iload hx hb dX7_recall_37 (lv_at hl 0 rfl) ?_
      refine lv_if_eq (tgt := 49) hx hb dX7_recall_39 (by decide) (fun c10 => ?_) (fun c10 => ?_)
      · skip
        rw [if_pos c10] at hJ
        rw [if_pos c10] at hV
        refine lv_iload_n hx hb dX7_recall_49 rfl (lv_at hl 5 rfl) ?_
        refine lv_aload hx hb dX7_recall_50 (lv_at hl 1 rfl) ?_
        obtain ⟨hk11, hV⟩ := hV
        refine va_get (D := (dC, dI)) (ci := 1) (v := .int (c_dF o d6)) (C := RX1) (T := TX1) (N := 4) (fs := (cx_dial o d6)) hx hb hts hi_wsX10 hown hK hP (7 + d6) (wx_dial (o := o) hk11) rfl 0 (by decide) (hts (.fieldLink RX7 72 "OrreryDials$Dial" "fine" "Z") (by decide +kernel)) (fun _ h9 => h9) rfl dX7_recall_52 ?_
        refine lv_aload hx hb dX7_recall_55 (lv_at hl 2 rfl) ?_
        refine va_get (D := (dC, dI)) (ci := 3) (v := .ref (ad (400 + d2))) (C := RX5) (T := TX5) (N := 2) (fs := (cx_row ad o d2)) hx hb hts hi_wsX50 hown hK hP (7 + (c_nd o + (c_nv o + d2))) (wx_row (o := o) hk8) rfl 0 (by decide) (hts (.fieldLink RX7 140 "OrreryDials$Row" "places" "[J") (by decide +kernel)) (fun _ h9 => h9) rfl dX7_recall_57 ?_
        refine lv_iload_n hx hb dX7_recall_60 rfl (lv_at hl 6 rfl) ?_
        obtain ⟨hk12, hV⟩ := hV
        refine va_lald hx hb hK hP (7 + (c_nd o + (c_nv o + (16 + d2)))) 1 (wx_arr (o := o) hk8) rfl hk12 dX7_recall_61 ?_
        refine vp_callSl (W.runS (As := [.int a2, .int (c_dF o d6), .long (c_rP o d2 a3.toNatClampNeg)]) (rest := []) ⟨hx, hb, hml, hown, hts⟩ (qX4_ofReal l a2 (c_dF o d6) (c_rP o d2 a3.toNatClampNeg)) (va_cwS 3 hts gX7_recall_X4_ofReal rfl rfl rfl (by decide +kernel) ⟨Nat.le_of_ble_eq_true rfl, Nat.le_of_ble_eq_true rfl⟩) ⟨fun _ _ _ _ q => q, fun U hU hW => rfl⟩ rfl rfl hl.1 rfl (lv_room (Nat.le_of_ble_eq_true rfl)) dX7_recall_62 ⟨Nat.le_of_ble_eq_true rfl, Nat.le_of_ble_eq_true rfl⟩) (fun r hq9 => ?_)
        rw [hq9]
        refine lv_topl (fun y13 ey13 => ?_)
        rw [← ey13] at hJ
        rw [jX7_recall_y13] at hJ
        rw [← ey13] at hV
        rw [sX7_recall_y13] at hV
        have hV := hV.2
        refine lv_lstore (lv' := [(8, .long y13), (7, .int y9), (6, .ref (ad (100 + d6))), (5, .ref (ad (300 + d2))), (0, .ref x), (1, .int a1), (2, .int a2), (3, .int a3), (4, .int a4)]) hx hb dX7_recall_65 hl (by decide) rfl (fun ls hl => ?_)
        refine lv_aload hx hb dX7_recall_67 (lv_at hl 2 rfl) ?_
        refine va_get (D := (dC, dI)) (ci := 1) (v := .int (c_dF o d6)) (C := RX1) (T := TX1) (N := 4) (fs := (cx_dial o d6)) hx hb hts hi_wsX10 hown hK hP (7 + d6) (wx_dial (o := o) hk11) rfl 0 (by decide) (hts (.fieldLink RX7 72 "OrreryDials$Dial" "fine" "Z") (by decide +kernel)) (fun _ h9 => h9) rfl dX7_recall_69 ?_
        refine lv_lload hx hb dX7_recall_72 (lv_at hl 0 rfl) ?_
        refine vp_callSi (W.runS (As := [.int (c_dF o d6), .long y13]) (rest := []) ⟨hx, hb, hml, hown, hts⟩ (qX4_isFit l (c_dF o d6) y13) (va_cwS 2 hts gX7_recall_X4_isFit rfl rfl rfl (by decide +kernel) ⟨Nat.le_of_ble_eq_true rfl, Nat.le_of_ble_eq_true rfl⟩) ⟨fun _ _ _ _ q => q, fun U hU hW => rfl⟩ rfl rfl hl.1 rfl (lv_room (Nat.le_of_ble_eq_true rfl)) dX7_recall_74 ⟨Nat.le_of_ble_eq_true rfl, Nat.le_of_ble_eq_true rfl⟩) (fun r hq9 => ?_)
        rw [hq9]
        refine lv_if_ne (tgt := 87) hx hb dX7_recall_77 (by decide) (fun c14 => ?_) (fun c14 => ?_)
        · skip
          rw [if_neg c14] at hJ
          rw [if_neg c14] at hV
          refine lv_aload hx hb dX7_recall_87 (lv_at hl 2 rfl) ?_
          refine lv_aload hx hb dX7_recall_89 (lv_at hl 2 rfl) ?_
          refine va_get (D := (dC, dI)) (ci := 1) (v := .int (c_dF o d6)) (C := RX1) (T := TX1) (N := 4) (fs := (cx_dial o d6)) hx hb hts hi_wsX10 hown hK hP (7 + d6) (wx_dial (o := o) hk11) rfl 0 (by decide) (hts (.fieldLink RX7 72 "OrreryDials$Dial" "fine" "Z") (by decide +kernel)) (fun _ h9 => h9) rfl dX7_recall_91 ?_
          refine lv_lload hx hb dX7_recall_94 (lv_at hl 0 rfl) ?_
          refine lv_aload hx hb dX7_recall_96 (lv_at hl 2 rfl) ?_
          refine va_get (D := (dC, dI)) (ci := 1) (v := .long (c_dR o d6)) (C := RX1) (T := TX1) (N := 4) (fs := (cx_dial o d6)) hx hb hts hi_wsX10 hown hK hP (7 + d6) (wx_dial (o := o) hk11) rfl 1 (by decide) (hts (.fieldLink RX7 90 "OrreryDials$Dial" "rim" "J") (by decide +kernel)) (fun _ h9 => h9) rfl dX7_recall_98 ?_
          refine vp_callSl (W.runS (As := [.int (c_dF o d6), .long y13, .long (c_dR o d6)]) (rest := [.ref (ad (100 + d6))]) ⟨hx, hb, hml, hown, hts⟩ (qX4_leftOver l (c_dF o d6) y13 (c_dR o d6)) (va_cwS 3 hts gX7_recall_X4_leftOver rfl rfl rfl (by decide +kernel) ⟨Nat.le_of_ble_eq_true rfl, Nat.le_of_ble_eq_true rfl⟩) ⟨fun _ _ _ _ q => q, fun U hU hW => rfl⟩ rfl rfl hl.1 rfl (lv_room (Nat.le_of_ble_eq_true rfl)) dX7_recall_101 ⟨Nat.le_of_ble_eq_true rfl, Nat.le_of_ble_eq_true rfl⟩) (fun r hq9 => ?_)
          rw [hq9]
          refine va_put (D := (dC, dI)) (ci := 1) (v := .long (jX4_leftOver (c_dF o d6) y13 (c_dR o d6))) (ty := .long) (C := RX1) (T := TX1) (N := 4) (fs := (cx_dial o d6)) hx hb hts hi_wsX10 tyX1 tyX1_ok nmX1 hown hK hP hD hS (7 + d6) (wx_dial (o := o) hk11) rfl 2 (by decide) (hts (.fieldLink RX7 87 "OrreryDials$Dial" "place" "J") (by decide +kernel)) (fun _ h9 => h9) rfl (by decide +kernel) rfl rfl (Nat.le_of_ble_eq_true rfl) dX7_recall_104 (fun H locs hP hD hS => ?_)
          rw [wx_p_dP (o := o) hk11] at hP hD
          refine lv_aload_n hx hb dX7_recall_107 rfl (lv_at hl 4 rfl) ?_
          refine lv_iconst (v := (1 : Int32)) hx hb dX7_recall_108 (by decide) ?_
          refine cl_i (va_runV (As := [.int (1 : Int32)]) (rest := []) ⟨hx, hb, hml, hown, hts⟩ (qX7_done l dC dI cy x ad H.size (t_dP o (va_up (c_dP o) d6 (jX4_leftOver (c_dF o d6) y13 (c_dR o d6)))) (1 : Int32)) (cwV 1 hts gX7_recall_X7_done rfl rfl rfl (by decide +kernel) ⟨Nat.le_of_ble_eq_true rfl, Nat.le_of_ble_eq_true rfl⟩) (pV hK hP hD hk (q0 := 0) (wx_h (o := (t_dP o (va_up (c_dP o) d6 (jX4_leftOver (c_dF o d6) y13 (c_dR o d6))))) rfl) rfl) rfl rfl hl.1 rfl (lv_room (Nat.le_of_ble_eq_true rfl)) dX7_recall_109 ⟨Nat.le_of_ble_eq_true rfl, Nat.le_of_ble_eq_true rfl⟩) hD hS hA (fun r u H locs hw hP hD hS => ?_)
          have hr1 : r = (jX7_done (t_dP o (va_up (c_dP o) d6 (jX4_leftOver (c_dF o d6) y13 (c_dR o d6)))) (1 : Int32)).1 := congrArg Prod.fst hw
          have hu1 : u = (jX7_done (t_dP o (va_up (c_dP o) d6 (jX4_leftOver (c_dF o d6) y13 (c_dR o d6)))) (1 : Int32)).2 := congrArg Prod.snd hw
          rw [hu1] at hP hD
          rw [hr1]
          exact W.iret hx hb hr (fun t ht hW => ⟨⟨_, _, rfl, hJ.trans hE.symm, by rw [ht]; exact hP, va_K.moved hW.alike hK, hD⟩, hS.F ht⟩) hS.2.2 dX7_recall_112
        · skip
          rw [if_pos c14] at hJ
          rw [if_pos c14] at hV
          refine lv_aload_n hx hb dX7_recall_80 rfl (lv_at hl 4 rfl) ?_
          refine lv_bipush (v := (-15 : Int32)) hx hb dX7_recall_81 (by decide) ?_
          obtain ⟨hk15, hV⟩ := hV
          refine cl_i (va_runV (As := [.int (-15 : Int32)]) (rest := []) ⟨hx, hb, hml, hown, hts⟩ (qX7_failWith l dC dI cy x ad H.size o (-15 : Int32) hk15) (cwV 1 hts gX7_recall_X7_failWith rfl rfl rfl (by decide +kernel) ⟨Nat.le_of_ble_eq_true rfl, Nat.le_of_ble_eq_true rfl⟩) (pV hK hP hD hk (q0 := 0) (wx_h (o := o) rfl) rfl) rfl rfl hl.1 rfl (lv_room (Nat.le_of_ble_eq_true rfl)) dX7_recall_83 ⟨Nat.le_of_ble_eq_true rfl, Nat.le_of_ble_eq_true rfl⟩) hD hS hA (fun r u H locs hw hP hD hS => ?_)
          have hr1 : r = (jX7_failWith o (-15 : Int32)).1 := congrArg Prod.fst hw
          have hu1 : u = (jX7_failWith o (-15 : Int32)).2 := congrArg Prod.snd hw
          rw [hu1] at hP hD
          rw [hr1]
          exact W.iret hx hb hr (fun t ht hW => ⟨⟨_, _, rfl, hJ.trans hE.symm, by rw [ht]; exact hP, va_K.moved hW.alike hK, hD⟩, hS.F ht⟩) hS.2.2 dX7_recall_86
      · skip
        rw [if_neg c10] at hJ
        rw [if_neg c10] at hV
        refine lv_aload_n hx hb dX7_recall_42 rfl (lv_at hl 3 rfl) ?_
        refine lv_iload hx hb dX7_recall_43 (lv_at hl 0 rfl) ?_
        obtain ⟨hk16, hV⟩ := hV
        refine cl_i (va_runV (As := [.int y9]) (rest := []) ⟨hx, hb, hml, hown, hts⟩ (qX7_failWith l dC dI cy x ad H.size o y9 hk16) (cwV 1 hts gX7_recall_X7_failWith rfl rfl rfl (by decide +kernel) ⟨Nat.le_of_ble_eq_true rfl, Nat.le_of_ble_eq_true rfl⟩) (pV hK hP hD hk (q0 := 0) (wx_h (o := o) rfl) rfl) rfl rfl hl.1 rfl (lv_room (Nat.le_of_ble_eq_true rfl)) dX7_recall_45 ⟨Nat.le_of_ble_eq_true rfl, Nat.le_of_ble_eq_true rfl⟩) hD hS hA (fun r u H locs hw hP hD hS => ?_)
        have hr1 : r = (jX7_failWith o y9).1 := congrArg Prod.fst hw
        have hu1 : u = (jX7_failWith o y9).2 := congrArg Prod.snd hw
        rw [hu1] at hP hD
        rw [hr1]
        exact W.iret hx hb hr (fun t ht hW => ⟨⟨_, _, rfl, hJ.trans hE.symm, by rw [ht]; exact hP, va_K.moved hW.alike hK, hD⟩, hS.F ht⟩) hS.2.2 dX7_recall_48
def jX7_cast_y7 (o : Os) (a1 : Int32) (a2 : Int32) (a3 : Int64) (y3 : Int64) (y7 : Int64) : Int32 × Os := ((1 : Int32), (t_se o y7))
def jX7_cast_y12 (o : Os) (a1 : Int32) (a2 : Int32) (a3 : Int64) (y3 : Int64) (y9 : Int32) (y12 : Int64) : Int32 × Os := ((1 : Int32), (t_se o y12))
def jX7_cast_y9 (o : Os) (a1 : Int32) (a2 : Int32) (a3 : Int64) (y3 : Int64) (y9 : Int32) : Int32 × Os := (if (jX4_isNumber y9 y3) = 0 then ((-102 : Int32), o) else (jX7_cast_y12 o a1 a2 a3 y3 y9 (if (jX7_isReal a1) = 0 then (jX7_castWhole a2 y3) else (jX7_castReal a1 a2 y3))))
def jX7_cast_y3 (o : Os) (a1 : Int32) (a2 : Int32) (a3 : Int64) (y3 : Int64) : Int32 × Os := (if (jX7_isReal a1) = 0 then (jX7_cast_y7 o a1 a2 a3 y3 (if (jX7_isReal a1) = 0 then (jX7_castWhole a2 y3) else (jX7_castReal a1 a2 y3))) else (jX7_cast_y9 o a1 a2 a3 y3 (if a1 = (3 : Int32) then (1 : Int32) else (0 : Int32))))
def jX7_cast (o : Os) (a1 : Int32) (a2 : Int32) (a3 : Int64) : Int32 × Os := (if (jX7_isKind a1) = 0 then ((-102 : Int32), o) else (if (jX7_isKind a2) = 0 then ((-102 : Int32), o) else (jX7_cast_y3 o a1 a2 a3 (if a1 = 0 then ((a3.toInt32).toInt64) else (if a1 = (2 : Int32) then ((a3.toInt32).toInt64) else a3)))))
set_option linter.constructorNameAsVariable false in
set_option maxHeartbeats 8000000 in
set_option maxRecDepth 100000 in
theorem qX7_cast (l : Launch) (dC : Nat → ClassId) (dI : Nat → Nat → Nat) (cy : Nat → ClassId) (x : Nat) (ad : Nat → Nat) (sz : Nat) (o : Os) (a1 : Int32) (a2 : Int32) (a3 : Int64) : Met l yX7_cast wsX7_cast ({ frames := 6, cells := 0, slots := 0, locals := 144 }) (va_Pc [.ref x, .int a1, .int a2, .long a3] (wI (dC, dI) (tyA cy) (WX cy x ad o) sz)) (va_Qi (fun r u => (r, u) = jX7_cast o a1 a2 a3) (fun u t => wO (dC, dI) (tyA cy) (va_A (WX cy x ad o) sz) (WX cy x ad u) t) (va_A (WX cy x ad o) sz)) 0 0 (va_A (WX cy x ad o) sz) := by
  refine Met.ofW (cc := cX7_cast) (maxL := 7) (ret := some .int) (by decide) rfl ?_
  intro p e s m args below meth c s₁ B hml hv
  obtain ⟨rfl, hsz, hP, hK, hD0, hk⟩ := hv
  have hx := B.exec
  have hb := B.bytes
  have hr := B.returns
  have hts := atoms_spec (ws := wsX7_cast) B.pre
  have hown : s.vm.findClass RX7 = some m.cls := findClass_of_methodNamed B.named
  have hlocks := B.notSynchronized
  subst hsz
  have hD := hD0.self (sz := s.heap.size)
  generalize hAe : va_A (WX cy x ad o) s.heap.size = A at hD ⊢
  have hA : ∀ q : Nat, s.heap.size ≤ q → A q := fun q h => by rw [← hAe]; exact Or.inr h
  obtain ⟨H, hHe⟩ : ∃ H, s.heap = H := ⟨_, rfl⟩
  have hP : va_P (dC, dI) vwCl (WX cy x ad o) H := by rw [← hHe]; exact hP
  have hS : va_S A s.heap H [] := by rw [← hHe]; exact va_S.rf
  rw [w_heap hHe]
  have hi_wsX70 : ∀ w ∈ wsX70, w ∈ wsX7_cast := fun _ h => List.mem_cons_of_mem _ (List.mem_append_right _ h)
  obtain ⟨JR, hE⟩ : ∃ q, jX7_cast o a1 a2 a3 = q := ⟨_, rfl⟩
  have hJ := hE
  rw [jX7_cast] at hJ
  have hl := lv_entry ([.ref x, .int a1, .int a2, .long a3]) (n := 7) (Nat.le_of_ble_eq_true rfl)
  rw [lg_entry_eq]
  generalize (lg_sl ([.ref x, .int a1, .int a2, .long a3]) ++ List.replicate (7 - (lg_sl ([.ref x, .int a1, .int a2, .long a3])).length) Slot.unset).toArray = ls at hl ⊢
  have hl : lv_has ls 7 [(0, .ref x), (1, .int a1), (2, .int a2), (3, .long a3)] := hl
  refine lv_iload_n hx hb dX7_cast_0 rfl (lv_at hl 1 rfl) ?_
  refine vp_callSi (W.runS (As := [.int a1]) (rest := []) ⟨hx, hb, hml, hown, hts⟩ (qX7_isKind l a1) (va_cwS 1 hts gX7_cast_X7_isKind rfl rfl rfl (by decide +kernel) ⟨Nat.le_of_ble_eq_true rfl, Nat.le_of_ble_eq_true rfl⟩) ⟨fun _ _ _ _ q => q, fun U hU hW => rfl⟩ rfl rfl hl.1 rfl (lv_room (Nat.le_of_ble_eq_true rfl)) dX7_cast_1 ⟨Nat.le_of_ble_eq_true rfl, Nat.le_of_ble_eq_true rfl⟩) (fun r hq9 => ?_)
  rw [hq9]
  refine lv_if_eq (tgt := 14) hx hb dX7_cast_4 (by decide) (fun c1 => ?_) (fun c1 => ?_)
  · skip
    rw [if_pos c1] at hJ
    refine lv_bipush (v := (-102 : Int32)) hx hb dX7_cast_14 (by decide) ?_
    exact W.iret hx hb hr (fun t ht hW => ⟨⟨_, _, rfl, hJ.trans hE.symm, by rw [ht]; exact hP, va_K.moved hW.alike hK, hD⟩, hS.F ht⟩) hS.2.2 dX7_cast_16
  · skip
    rw [if_neg c1] at hJ
    refine lv_iload_n hx hb dX7_cast_7 rfl (lv_at hl 2 rfl) ?_
    refine vp_callSi (W.runS (As := [.int a2]) (rest := []) ⟨hx, hb, hml, hown, hts⟩ (qX7_isKind l a2) (va_cwS 1 hts gX7_cast_X7_isKind rfl rfl rfl (by decide +kernel) ⟨Nat.le_of_ble_eq_true rfl, Nat.le_of_ble_eq_true rfl⟩) ⟨fun _ _ _ _ q => q, fun U hU hW => rfl⟩ rfl rfl hl.1 rfl (lv_room (Nat.le_of_ble_eq_true rfl)) dX7_cast_8 ⟨Nat.le_of_ble_eq_true rfl, Nat.le_of_ble_eq_true rfl⟩) (fun r hq9 => ?_)
    rw [hq9]
    refine lv_if_ne (tgt := 17) hx hb dX7_cast_11 (by decide) (fun c2 => ?_) (fun c2 => ?_)
    · skip
      rw [if_neg c2] at hJ
      refine lv_iload_n hx hb dX7_cast_17 rfl (lv_at hl 1 rfl) ?_
      refine jn_l (J := 33) (ls := ls) (v := (if a1 = 0 then ((a3.toInt32).toInt64) else (if a1 = (2 : Int32) then ((a3.toInt32).toInt64) else a3))) (rest := []) ?_ (fun y3 ey3 => ?_)
      · intro hj
        refine lv_if_eq (tgt := 26) hx hb dX7_cast_18 (by decide) (fun c4 => ?_) (fun c4 => ?_)
        · skip
          rw [if_pos c4] at hj
          refine lv_lload_n hx hb dX7_cast_26 rfl (lv_at hl 3 rfl) ?_
          refine lv_l2i (v := a3.toInt32) hx hb dX7_cast_27 rfl ?_
          refine lv_i2l (v := (a3.toInt32).toInt64) hx hb dX7_cast_28 rfl ?_
          refine lv_goto (tgt := 33) hx hb dX7_cast_29 (by decide) ?_
          exact hj
        · skip
          rw [if_neg c4] at hj
          refine lv_iload_n hx hb dX7_cast_21 rfl (lv_at hl 1 rfl) ?_
          refine lv_iconst (v := (2 : Int32)) hx hb dX7_cast_22 (by decide) ?_
          refine lv_icmp_ne (tgt := 32) hx hb dX7_cast_23 (by decide) (fun c5 => ?_) (fun c5 => ?_)
          · skip
            rw [if_neg c5] at hj
            refine lv_lload_n hx hb dX7_cast_32 rfl (lv_at hl 3 rfl) ?_
            exact hj
          · skip
            rw [if_pos c5] at hj
            refine lv_lload_n hx hb dX7_cast_26 rfl (lv_at hl 3 rfl) ?_
            refine lv_l2i (v := a3.toInt32) hx hb dX7_cast_27 rfl ?_
            refine lv_i2l (v := (a3.toInt32).toInt64) hx hb dX7_cast_28 rfl ?_
            refine lv_goto (tgt := 33) hx hb dX7_cast_29 (by decide) ?_
            exact hj
      rw [← ey3] at hJ
      rw [jX7_cast_y3] at hJ
      refine lv_lstore (lv' := [(5, .long y3), (0, .ref x), (1, .int a1), (2, .int a2), (3, .long a3)]) hx hb dX7_cast_33 hl (by decide) rfl (fun ls hl => ?_)
      refine lv_iload_n hx hb dX7_cast_35 rfl (lv_at hl 2 rfl) ?_
      refine vp_callSi (W.runS (As := [.int a1]) (rest := []) ⟨hx, hb, hml, hown, hts⟩ (qX7_isReal l a1) (va_cwS 1 hts gX7_cast_X7_isReal rfl rfl rfl (by decide +kernel) ⟨Nat.le_of_ble_eq_true rfl, Nat.le_of_ble_eq_true rfl⟩) ⟨fun _ _ _ _ q => q, fun U hU hW => rfl⟩ rfl rfl hl.1 rfl (lv_room (Nat.le_of_ble_eq_true rfl)) dX7_cast_36 ⟨Nat.le_of_ble_eq_true rfl, Nat.le_of_ble_eq_true rfl⟩) (fun r hq9 => ?_)
      rw [hq9]
      refine lv_if_eq (tgt := 63) hx hb dX7_cast_39 (by decide) (fun c6 => ?_) (fun c6 => ?_)
      · skip
        rw [if_pos c6] at hJ
        refine lv_aload_n hx hb dX7_cast_63 rfl (lv_at hl 1 rfl) ?_
        refine lv_iload_n hx hb dX7_cast_64 rfl (lv_at hl 2 rfl) ?_
        refine vp_callSi (W.runS (As := [.int a1]) (rest := [.ref x]) ⟨hx, hb, hml, hown, hts⟩ (qX7_isReal l a1) (va_cwS 1 hts gX7_cast_X7_isReal rfl rfl rfl (by decide +kernel) ⟨Nat.le_of_ble_eq_true rfl, Nat.le_of_ble_eq_true rfl⟩) ⟨fun _ _ _ _ q => q, fun U hU hW => rfl⟩ rfl rfl hl.1 rfl (lv_room (Nat.le_of_ble_eq_true rfl)) dX7_cast_65 ⟨Nat.le_of_ble_eq_true rfl, Nat.le_of_ble_eq_true rfl⟩) (fun r hq9 => ?_)
        rw [hq9]
        refine jn_l (J := 87) (ls := ls) (v := (if (jX7_isReal a1) = 0 then (jX7_castWhole a2 y3) else (jX7_castReal a1 a2 y3))) (rest := [.ref x]) ?_ (fun y7 ey7 => ?_)
        · intro hj
          refine lv_if_eq (tgt := 81) hx hb dX7_cast_68 (by decide) (fun c8 => ?_) (fun c8 => ?_)
          · skip
            rw [if_pos c8] at hj
            refine lv_iload_n hx hb dX7_cast_81 rfl (lv_at hl 3 rfl) ?_
            refine lv_lload hx hb dX7_cast_82 (lv_at hl 0 rfl) ?_
            refine vp_callSl (W.runS (As := [.int a2, .long y3]) (rest := [.ref x]) ⟨hx, hb, hml, hown, hts⟩ (qX7_castWhole l a2 y3) (va_cwS 2 hts gX7_cast_X7_castWhole rfl rfl rfl (by decide +kernel) ⟨Nat.le_of_ble_eq_true rfl, Nat.le_of_ble_eq_true rfl⟩) ⟨fun _ _ _ _ q => q, fun U hU hW => rfl⟩ rfl rfl hl.1 rfl (lv_room (Nat.le_of_ble_eq_true rfl)) dX7_cast_84 ⟨Nat.le_of_ble_eq_true rfl, Nat.le_of_ble_eq_true rfl⟩) (fun r hq9 => ?_)
            rw [hq9]
            exact hj
          · skip
            rw [if_neg c8] at hj
            refine lv_iload_n hx hb dX7_cast_71 rfl (lv_at hl 2 rfl) ?_
            refine lv_iload_n hx hb dX7_cast_72 rfl (lv_at hl 3 rfl) ?_
            refine lv_lload hx hb dX7_cast_73 (lv_at hl 0 rfl) ?_
            refine vp_callSl (W.runS (As := [.int a1, .int a2, .long y3]) (rest := [.ref x]) ⟨hx, hb, hml, hown, hts⟩ (qX7_castReal l a1 a2 y3) (va_cwS 3 hts gX7_cast_X7_castReal rfl rfl rfl (by decide +kernel) ⟨Nat.le_of_ble_eq_true rfl, Nat.le_of_ble_eq_true rfl⟩) ⟨fun _ _ _ _ q => q, fun U hU hW => rfl⟩ rfl rfl hl.1 rfl (lv_room (Nat.le_of_ble_eq_true rfl)) dX7_cast_75 ⟨Nat.le_of_ble_eq_true rfl, Nat.le_of_ble_eq_true rfl⟩) (fun r hq9 => ?_)
            rw [hq9]
            refine lv_goto (tgt := 87) hx hb dX7_cast_78 (by decide) ?_
            exact hj
        rw [← ey7] at hJ
        rw [jX7_cast_y7] at hJ
        refine va_put (D := (dC, dI)) (ci := 5) (v := .long y7) (ty := .long) (C := RX7) (T := TX7) (N := 10) (fs := (cx_f ad o)) hx hb hts hi_wsX70 tyX7 tyX7_ok nmX7 hown hK hP hD hS 0 (wx_h (o := o) rfl) rfl 7 (by decide) (hts (.fieldLink RX7 40 "OrreryDials" "seenBits" "J") (by decide +kernel)) (fun _ h9 => h9) rfl (by decide +kernel) rfl rfl (Nat.le_of_ble_eq_true rfl) dX7_cast_87 (fun H locs hP hD hS => ?_)
        rw [wx_p_se] at hP hD
        refine lv_iconst (v := (1 : Int32)) hx hb dX7_cast_90 (by decide) ?_
        exact W.iret hx hb hr (fun t ht hW => ⟨⟨_, _, rfl, hJ.trans hE.symm, by rw [ht]; exact hP, va_K.moved hW.alike hK, hD⟩, hS.F ht⟩) hS.2.2 dX7_cast_91
      · skip
        rw [if_neg c6] at hJ
        refine lv_iload_n hx hb dX7_cast_42 rfl (lv_at hl 2 rfl) ?_
        refine lv_iconst (v := (3 : Int32)) hx hb dX7_cast_43 (by decide) ?_
        refine jn_i (J := 52) (ls := ls) (v := (if a1 = (3 : Int32) then (1 : Int32) else (0 : Int32))) (rest := []) ?_ (fun y9 ey9 => ?_)
        · intro hj
          refine lv_icmp_ne (tgt := 51) hx hb dX7_cast_44 (by decide) (fun c10 => ?_) (fun c10 => ?_)
          · skip
            rw [if_neg c10] at hj
            refine lv_iconst (v := (0 : Int32)) hx hb dX7_cast_51 (by decide) ?_
            exact hj
          · skip
            rw [if_pos c10] at hj
            refine lv_iconst (v := (1 : Int32)) hx hb dX7_cast_47 (by decide) ?_
            refine lv_goto (tgt := 52) hx hb dX7_cast_48 (by decide) ?_
            exact hj
        rw [← ey9] at hJ
        rw [jX7_cast_y9] at hJ
        refine lv_lload hx hb dX7_cast_52 (lv_at hl 0 rfl) ?_
        refine vp_callSi (W.runS (As := [.int y9, .long y3]) (rest := []) ⟨hx, hb, hml, hown, hts⟩ (qX4_isNumber l y9 y3) (va_cwS 2 hts gX7_cast_X4_isNumber rfl rfl rfl (by decide +kernel) ⟨Nat.le_of_ble_eq_true rfl, Nat.le_of_ble_eq_true rfl⟩) ⟨fun _ _ _ _ q => q, fun U hU hW => rfl⟩ rfl rfl hl.1 rfl (lv_room (Nat.le_of_ble_eq_true rfl)) dX7_cast_54 ⟨Nat.le_of_ble_eq_true rfl, Nat.le_of_ble_eq_true rfl⟩) (fun r hq9 => ?_)
        rw [hq9]
        refine lv_if_ne (tgt := 63) hx hb dX7_cast_57 (by decide) (fun c11 => ?_) (fun c11 => ?_)
        · skip
          rw [if_neg c11] at hJ
          refine lv_aload_n hx hb dX7_cast_63 rfl (lv_at hl 1 rfl) ?_
          refine lv_iload_n hx hb dX7_cast_64 rfl (lv_at hl 2 rfl) ?_
          refine vp_callSi (W.runS (As := [.int a1]) (rest := [.ref x]) ⟨hx, hb, hml, hown, hts⟩ (qX7_isReal l a1) (va_cwS 1 hts gX7_cast_X7_isReal rfl rfl rfl (by decide +kernel) ⟨Nat.le_of_ble_eq_true rfl, Nat.le_of_ble_eq_true rfl⟩) ⟨fun _ _ _ _ q => q, fun U hU hW => rfl⟩ rfl rfl hl.1 rfl (lv_room (Nat.le_of_ble_eq_true rfl)) dX7_cast_65 ⟨Nat.le_of_ble_eq_true rfl, Nat.le_of_ble_eq_true rfl⟩) (fun r hq9 => ?_)
          rw [hq9]
          refine jn_l (J := 87) (ls := ls) (v := (if (jX7_isReal a1) = 0 then (jX7_castWhole a2 y3) else (jX7_castReal a1 a2 y3))) (rest := [.ref x]) ?_ (fun y12 ey12 => ?_)
          · intro hj
            refine lv_if_eq (tgt := 81) hx hb dX7_cast_68 (by decide) (fun c13 => ?_) (fun c13 => ?_)
            · skip
              rw [if_pos c13] at hj
              refine lv_iload_n hx hb dX7_cast_81 rfl (lv_at hl 3 rfl) ?_
              refine lv_lload hx hb dX7_cast_82 (lv_at hl 0 rfl) ?_
              refine vp_callSl (W.runS (As := [.int a2, .long y3]) (rest := [.ref x]) ⟨hx, hb, hml, hown, hts⟩ (qX7_castWhole l a2 y3) (va_cwS 2 hts gX7_cast_X7_castWhole rfl rfl rfl (by decide +kernel) ⟨Nat.le_of_ble_eq_true rfl, Nat.le_of_ble_eq_true rfl⟩) ⟨fun _ _ _ _ q => q, fun U hU hW => rfl⟩ rfl rfl hl.1 rfl (lv_room (Nat.le_of_ble_eq_true rfl)) dX7_cast_84 ⟨Nat.le_of_ble_eq_true rfl, Nat.le_of_ble_eq_true rfl⟩) (fun r hq9 => ?_)
              rw [hq9]
              exact hj
            · skip
              rw [if_neg c13] at hj
              refine lv_iload_n hx hb dX7_cast_71 rfl (lv_at hl 2 rfl) ?_
              refine lv_iload_n hx hb dX7_cast_72 rfl (lv_at hl 3 rfl) ?_
              refine lv_lload hx hb dX7_cast_73 (lv_at hl 0 rfl) ?_
              refine vp_callSl (W.runS (As := [.int a1, .int a2, .long y3]) (rest := [.ref x]) ⟨hx, hb, hml, hown, hts⟩ (qX7_castReal l a1 a2 y3) (va_cwS 3 hts gX7_cast_X7_castReal rfl rfl rfl (by decide +kernel) ⟨Nat.le_of_ble_eq_true rfl, Nat.le_of_ble_eq_true rfl⟩) ⟨fun _ _ _ _ q => q, fun U hU hW => rfl⟩ rfl rfl hl.1 rfl (lv_room (Nat.le_of_ble_eq_true rfl)) dX7_cast_75 ⟨Nat.le_of_ble_eq_true rfl, Nat.le_of_ble_eq_true rfl⟩) (fun r hq9 => ?_)
              rw [hq9]
              refine lv_goto (tgt := 87) hx hb dX7_cast_78 (by decide) ?_
              exact hj
          rw [← ey12] at hJ
          rw [jX7_cast_y12] at hJ
          refine va_put (D := (dC, dI)) (ci := 5) (v := .long y12) (ty := .long) (C := RX7) (T := TX7) (N := 10) (fs := (cx_f ad o)) hx hb hts hi_wsX70 tyX7 tyX7_ok nmX7 hown hK hP hD hS 0 (wx_h (o := o) rfl) rfl 7 (by decide) (hts (.fieldLink RX7 40 "OrreryDials" "seenBits" "J") (by decide +kernel)) (fun _ h9 => h9) rfl (by decide +kernel) rfl rfl (Nat.le_of_ble_eq_true rfl) dX7_cast_87 (fun H locs hP hD hS => ?_)
          rw [wx_p_se] at hP hD
          refine lv_iconst (v := (1 : Int32)) hx hb dX7_cast_90 (by decide) ?_
          exact W.iret hx hb hr (fun t ht hW => ⟨⟨_, _, rfl, hJ.trans hE.symm, by rw [ht]; exact hP, va_K.moved hW.alike hK, hD⟩, hS.F ht⟩) hS.2.2 dX7_cast_91
        · skip
          rw [if_pos c11] at hJ
          refine lv_bipush (v := (-102 : Int32)) hx hb dX7_cast_60 (by decide) ?_
          exact W.iret hx hb hr (fun t ht hW => ⟨⟨_, _, rfl, hJ.trans hE.symm, by rw [ht]; exact hP, va_K.moved hW.alike hK, hD⟩, hS.F ht⟩) hS.2.2 dX7_cast_62
    · skip
      rw [if_pos c2] at hJ
      refine lv_bipush (v := (-102 : Int32)) hx hb dX7_cast_14 (by decide) ?_
      exact W.iret hx hb hr (fun t ht hW => ⟨⟨_, _, rfl, hJ.trans hE.symm, by rw [ht]; exact hP, va_K.moved hW.alike hK, hD⟩, hS.F ht⟩) hS.2.2 dX7_cast_16
def jX7_left_y2 (o : Os) (a1 : Int32) (a2 : Int64) (a4 : Int64) (y1 : Int64) (y2 : Int64) : Int32 × Os := (if (jX4_isFit a1 y1) = 0 then ((-102 : Int32), o) else (if (jX4_isZero a1 y2) = 0 then (if (jX4_isNumber a1 y2) = 0 then ((-102 : Int32), o) else ((1 : Int32), (t_se o (jX4_leftOver a1 y1 y2)))) else ((-102 : Int32), o)))
def jX7_left_y1 (o : Os) (a1 : Int32) (a2 : Int64) (a4 : Int64) (y1 : Int64) : Int32 × Os := (jX7_left_y2 o a1 a2 a4 y1 (jX4_told a1 a4))
def jX7_left (o : Os) (a1 : Int32) (a2 : Int64) (a4 : Int64) : Int32 × Os := (jX7_left_y1 o a1 a2 a4 (jX4_told a1 a2))
set_option linter.constructorNameAsVariable false in
set_option maxHeartbeats 8000000 in
set_option maxRecDepth 100000 in
theorem qX7_left (l : Launch) (dC : Nat → ClassId) (dI : Nat → Nat → Nat) (cy : Nat → ClassId) (x : Nat) (ad : Nat → Nat) (sz : Nat) (o : Os) (a1 : Int32) (a2 : Int64) (a4 : Int64) : Met l yX7_left wsX7_left ({ frames := 5, cells := 0, slots := 0, locals := 126 }) (va_Pc [.ref x, .int a1, .long a2, .long a4] (wI (dC, dI) (tyA cy) (WX cy x ad o) sz)) (va_Qi (fun r u => (r, u) = jX7_left o a1 a2 a4) (fun u t => wO (dC, dI) (tyA cy) (va_A (WX cy x ad o) sz) (WX cy x ad u) t) (va_A (WX cy x ad o) sz)) 0 0 (va_A (WX cy x ad o) sz) := by
  refine Met.ofW (cc := cX7_left) (maxL := 10) (ret := some .int) (by decide) rfl ?_
  intro p e s m args below meth c s₁ B hml hv
  obtain ⟨rfl, hsz, hP, hK, hD0, hk⟩ := hv
  have hx := B.exec
  have hb := B.bytes
  have hr := B.returns
  have hts := atoms_spec (ws := wsX7_left) B.pre
  have hown : s.vm.findClass RX7 = some m.cls := findClass_of_methodNamed B.named
  have hlocks := B.notSynchronized
  subst hsz
  have hD := hD0.self (sz := s.heap.size)
  generalize hAe : va_A (WX cy x ad o) s.heap.size = A at hD ⊢
  have hA : ∀ q : Nat, s.heap.size ≤ q → A q := fun q h => by rw [← hAe]; exact Or.inr h
  obtain ⟨H, hHe⟩ : ∃ H, s.heap = H := ⟨_, rfl⟩
  have hP : va_P (dC, dI) vwCl (WX cy x ad o) H := by rw [← hHe]; exact hP
  have hS : va_S A s.heap H [] := by rw [← hHe]; exact va_S.rf
  rw [w_heap hHe]
  have hi_wsX70 : ∀ w ∈ wsX70, w ∈ wsX7_left := fun _ h => List.mem_cons_of_mem _ (List.mem_append_right _ h)
  obtain ⟨JR, hE⟩ : ∃ q, jX7_left o a1 a2 a4 = q := ⟨_, rfl⟩
  have hJ := hE
  rw [jX7_left] at hJ
  have hl := lv_entry ([.ref x, .int a1, .long a2, .long a4]) (n := 10) (Nat.le_of_ble_eq_true rfl)
  rw [lg_entry_eq]
  generalize (lg_sl ([.ref x, .int a1, .long a2, .long a4]) ++ List.replicate (10 - (lg_sl ([.ref x, .int a1, .long a2, .long a4])).length) Slot.unset).toArray = ls at hl ⊢
  have hl : lv_has ls 10 [(0, .ref x), (1, .int a1), (2, .long a2), (4, .long a4)] := hl
  refine lv_iload_n hx hb dX7_left_0 rfl (lv_at hl 1 rfl) ?_
  refine lv_lload_n hx hb dX7_left_1 rfl (lv_at hl 2 rfl) ?_
  refine vp_callSl (W.runS (As := [.int a1, .long a2]) (rest := []) ⟨hx, hb, hml, hown, hts⟩ (qX4_told l a1 a2) (va_cwS 2 hts gX7_left_X4_told rfl rfl rfl (by decide +kernel) ⟨Nat.le_of_ble_eq_true rfl, Nat.le_of_ble_eq_true rfl⟩) ⟨fun _ _ _ _ q => q, fun U hU hW => rfl⟩ rfl rfl hl.1 rfl (lv_room (Nat.le_of_ble_eq_true rfl)) dX7_left_2 ⟨Nat.le_of_ble_eq_true rfl, Nat.le_of_ble_eq_true rfl⟩) (fun r hq9 => ?_)
  rw [hq9]
  refine lv_topl (fun y1 ey1 => ?_)
  rw [← ey1] at hJ
  rw [jX7_left_y1] at hJ
  refine lv_lstore (lv' := [(6, .long y1), (0, .ref x), (1, .int a1), (2, .long a2), (4, .long a4)]) hx hb dX7_left_5 hl (by decide) rfl (fun ls hl => ?_)
  refine lv_iload_n hx hb dX7_left_7 rfl (lv_at hl 2 rfl) ?_
  refine lv_lload hx hb dX7_left_8 (lv_at hl 4 rfl) ?_
  refine vp_callSl (W.runS (As := [.int a1, .long a4]) (rest := []) ⟨hx, hb, hml, hown, hts⟩ (qX4_told l a1 a4) (va_cwS 2 hts gX7_left_X4_told rfl rfl rfl (by decide +kernel) ⟨Nat.le_of_ble_eq_true rfl, Nat.le_of_ble_eq_true rfl⟩) ⟨fun _ _ _ _ q => q, fun U hU hW => rfl⟩ rfl rfl hl.1 rfl (lv_room (Nat.le_of_ble_eq_true rfl)) dX7_left_10 ⟨Nat.le_of_ble_eq_true rfl, Nat.le_of_ble_eq_true rfl⟩) (fun r hq9 => ?_)
  rw [hq9]
  refine lv_topl (fun y2 ey2 => ?_)
  rw [← ey2] at hJ
  rw [jX7_left_y2] at hJ
  refine lv_lstore (lv' := [(8, .long y2), (6, .long y1), (0, .ref x), (1, .int a1), (2, .long a2), (4, .long a4)]) hx hb dX7_left_13 hl (by decide) rfl (fun ls hl => ?_)
  refine lv_iload_n hx hb dX7_left_15 rfl (lv_at hl 3 rfl) ?_
  refine lv_lload hx hb dX7_left_16 (lv_at hl 1 rfl) ?_
  refine vp_callSi (W.runS (As := [.int a1, .long y1]) (rest := []) ⟨hx, hb, hml, hown, hts⟩ (qX4_isFit l a1 y1) (va_cwS 2 hts gX7_left_X4_isFit rfl rfl rfl (by decide +kernel) ⟨Nat.le_of_ble_eq_true rfl, Nat.le_of_ble_eq_true rfl⟩) ⟨fun _ _ _ _ q => q, fun U hU hW => rfl⟩ rfl rfl hl.1 rfl (lv_room (Nat.le_of_ble_eq_true rfl)) dX7_left_18 ⟨Nat.le_of_ble_eq_true rfl, Nat.le_of_ble_eq_true rfl⟩) (fun r hq9 => ?_)
  rw [hq9]
  refine lv_if_eq (tgt := 42) hx hb dX7_left_21 (by decide) (fun c3 => ?_) (fun c3 => ?_)
  · skip
    rw [if_pos c3] at hJ
    refine lv_bipush (v := (-102 : Int32)) hx hb dX7_left_42 (by decide) ?_
    exact W.iret hx hb hr (fun t ht hW => ⟨⟨_, _, rfl, hJ.trans hE.symm, by rw [ht]; exact hP, va_K.moved hW.alike hK, hD⟩, hS.F ht⟩) hS.2.2 dX7_left_44
  · skip
    rw [if_neg c3] at hJ
    refine lv_iload_n hx hb dX7_left_24 rfl (lv_at hl 3 rfl) ?_
    refine lv_lload hx hb dX7_left_25 (lv_at hl 0 rfl) ?_
    refine vp_callSi (W.runS (As := [.int a1, .long y2]) (rest := []) ⟨hx, hb, hml, hown, hts⟩ (qX4_isZero l a1 y2) (va_cwS 2 hts gX7_left_X4_isZero rfl rfl rfl (by decide +kernel) ⟨Nat.le_of_ble_eq_true rfl, Nat.le_of_ble_eq_true rfl⟩) ⟨fun _ _ _ _ q => q, fun U hU hW => rfl⟩ rfl rfl hl.1 rfl (lv_room (Nat.le_of_ble_eq_true rfl)) dX7_left_27 ⟨Nat.le_of_ble_eq_true rfl, Nat.le_of_ble_eq_true rfl⟩) (fun r hq9 => ?_)
    rw [hq9]
    refine lv_if_ne (tgt := 42) hx hb dX7_left_30 (by decide) (fun c4 => ?_) (fun c4 => ?_)
    · skip
      rw [if_neg c4] at hJ
      refine lv_bipush (v := (-102 : Int32)) hx hb dX7_left_42 (by decide) ?_
      exact W.iret hx hb hr (fun t ht hW => ⟨⟨_, _, rfl, hJ.trans hE.symm, by rw [ht]; exact hP, va_K.moved hW.alike hK, hD⟩, hS.F ht⟩) hS.2.2 dX7_left_44
    · skip
      rw [if_pos c4] at hJ
      refine lv_iload_n hx hb dX7_left_33 rfl (lv_at hl 3 rfl) ?_
      refine lv_lload hx hb dX7_left_34 (lv_at hl 0 rfl) ?_
      refine vp_callSi (W.runS (As := [.int a1, .long y2]) (rest := []) ⟨hx, hb, hml, hown, hts⟩ (qX4_isNumber l a1 y2) (va_cwS 2 hts gX7_left_X4_isNumber rfl rfl rfl (by decide +kernel) ⟨Nat.le_of_ble_eq_true rfl, Nat.le_of_ble_eq_true rfl⟩) ⟨fun _ _ _ _ q => q, fun U hU hW => rfl⟩ rfl rfl hl.1 rfl (lv_room (Nat.le_of_ble_eq_true rfl)) dX7_left_36 ⟨Nat.le_of_ble_eq_true rfl, Nat.le_of_ble_eq_true rfl⟩) (fun r hq9 => ?_)
      rw [hq9]
      refine lv_if_ne (tgt := 45) hx hb dX7_left_39 (by decide) (fun c5 => ?_) (fun c5 => ?_)
      · skip
        rw [if_neg c5] at hJ
        refine lv_aload_n hx hb dX7_left_45 rfl (lv_at hl 2 rfl) ?_
        refine lv_iload_n hx hb dX7_left_46 rfl (lv_at hl 3 rfl) ?_
        refine lv_lload hx hb dX7_left_47 (lv_at hl 1 rfl) ?_
        refine lv_lload hx hb dX7_left_49 (lv_at hl 0 rfl) ?_
        refine vp_callSl (W.runS (As := [.int a1, .long y1, .long y2]) (rest := [.ref x]) ⟨hx, hb, hml, hown, hts⟩ (qX4_leftOver l a1 y1 y2) (va_cwS 3 hts gX7_left_X4_leftOver rfl rfl rfl (by decide +kernel) ⟨Nat.le_of_ble_eq_true rfl, Nat.le_of_ble_eq_true rfl⟩) ⟨fun _ _ _ _ q => q, fun U hU hW => rfl⟩ rfl rfl hl.1 rfl (lv_room (Nat.le_of_ble_eq_true rfl)) dX7_left_51 ⟨Nat.le_of_ble_eq_true rfl, Nat.le_of_ble_eq_true rfl⟩) (fun r hq9 => ?_)
        rw [hq9]
        refine va_put (D := (dC, dI)) (ci := 5) (v := .long (jX4_leftOver a1 y1 y2)) (ty := .long) (C := RX7) (T := TX7) (N := 10) (fs := (cx_f ad o)) hx hb hts hi_wsX70 tyX7 tyX7_ok nmX7 hown hK hP hD hS 0 (wx_h (o := o) rfl) rfl 7 (by decide) (hts (.fieldLink RX7 40 "OrreryDials" "seenBits" "J") (by decide +kernel)) (fun _ h9 => h9) rfl (by decide +kernel) rfl rfl (Nat.le_of_ble_eq_true rfl) dX7_left_54 (fun H locs hP hD hS => ?_)
        rw [wx_p_se] at hP hD
        refine lv_iconst (v := (1 : Int32)) hx hb dX7_left_57 (by decide) ?_
        exact W.iret hx hb hr (fun t ht hW => ⟨⟨_, _, rfl, hJ.trans hE.symm, by rw [ht]; exact hP, va_K.moved hW.alike hK, hD⟩, hS.F ht⟩) hS.2.2 dX7_left_58
      · skip
        rw [if_pos c5] at hJ
        refine lv_bipush (v := (-102 : Int32)) hx hb dX7_left_42 (by decide) ?_
        exact W.iret hx hb hr (fun t ht hW => ⟨⟨_, _, rfl, hJ.trans hE.symm, by rw [ht]; exact hP, va_K.moved hW.alike hK, hD⟩, hS.F ht⟩) hS.2.2 dX7_left_44
def jX7_failed (o : Os) : Int32 := (c_fl o)
set_option linter.constructorNameAsVariable false in
set_option maxHeartbeats 8000000 in
set_option maxRecDepth 100000 in
theorem qX7_failed (l : Launch) (dC : Nat → ClassId) (dI : Nat → Nat → Nat) (cy : Nat → ClassId) (x : Nat) (ad : Nat → Nat) (sz : Nat) (o : Os) : Met l yX7_failed wsX7_failed ({ frames := 0, cells := 0, slots := 0, locals := 0 }) (va_Pc [.ref x] (wI (dC, dI) (tyA cy) (WX cy x ad o) sz)) (vp_Si (fun r => r = jX7_failed o)) 0 0 (fun _ => False) := by
  refine Met.ofW (cc := cX7_failed) (maxL := 1) (ret := some .int) (by decide) rfl ?_
  intro p e s m args below meth c s₁ B hml hv
  obtain ⟨rfl, hsz, hP, hK, hD0, hk⟩ := hv
  have hx := B.exec
  have hb := B.bytes
  have hr := B.returns
  have hts := atoms_spec (ws := wsX7_failed) B.pre
  have hown : s.vm.findClass RX7 = some m.cls := findClass_of_methodNamed B.named
  have hlocks := B.notSynchronized
  subst hsz
  have hD := hD0
  obtain ⟨H, hHe⟩ : ∃ H, s.heap = H := ⟨_, rfl⟩
  have hP : va_P (dC, dI) vwCl (WX cy x ad o) H := by rw [← hHe]; exact hP
  rw [w_heap hHe]
  have hi_wsX70 : ∀ w ∈ wsX70, w ∈ wsX7_failed := fun _ h => List.mem_cons_of_mem _ (List.mem_append_right _ h)
  obtain ⟨JR, hE⟩ : ∃ q, jX7_failed o = q := ⟨_, rfl⟩
  have hJ := hE
  rw [jX7_failed] at hJ
  have hl := lv_entry ([.ref x]) (n := 1) (Nat.le_of_ble_eq_true rfl)
  rw [lg_entry_eq]
  generalize (lg_sl ([.ref x]) ++ List.replicate (1 - (lg_sl ([.ref x])).length) Slot.unset).toArray = ls at hl ⊢
  have hl : lv_has ls 1 [(0, .ref x)] := hl
  refine lv_aload_n hx hb dX7_failed_0 rfl (lv_at hl 0 rfl) ?_
  refine va_get (D := (dC, dI)) (ci := 5) (v := .int (c_fl o)) (C := RX7) (T := TX7) (N := 10) (fs := (cx_f ad o)) hx hb hts hi_wsX70 hown hK hP 0 (wx_h (o := o) rfl) rfl 8 (by decide) (hts (.fieldLink RX7 44 "OrreryDials" "latestFailure" "I") (by decide +kernel)) (fun _ h9 => h9) rfl dX7_failed_1 ?_
  exact W.iret hx hb hr (fun t ht hW => ⟨_, rfl, hJ.trans hE.symm, ht.trans hHe.symm⟩) (fun q h => absurd h List.not_mem_nil) dX7_failed_4
def jX7_fit (o : Os) (a1 : Int32) (a2 : Int32) : Int32 × Os := (om (jX7_driveAt o a2) (if (jX7_isSlot a1) = 0 then ((-101 : Int32), o) else (if a2 = (-1 : Int32) then ((1 : Int32), (t_sl o (va_up (c_sl o) a1.toNatClampNeg none))) else ((-101 : Int32), o))) (fun d2 => (if (jX7_isSlot a1) = 0 then ((-101 : Int32), o) else ((1 : Int32), (t_sl o (va_up (c_sl o) a1.toNatClampNeg (some d2)))))))
def sX7_fit (o : Os) (a1 : Int32) (a2 : Int32) : Prop := True ∧ (sX7_driveAt o a2 ∧ (om (jX7_driveAt o a2) (if (jX7_isSlot a1) = 0 then True else (if a2 = (-1 : Int32) then (vp_in a1 6 ∧ True) else True)) (fun d2 => (if (jX7_isSlot a1) = 0 then True else (vp_in a1 6 ∧ (d2 < c_nv o ∧ True))))))
set_option linter.constructorNameAsVariable false in
set_option maxHeartbeats 8000000 in
set_option maxRecDepth 100000 in
theorem qX7_fit (l : Launch) (dC : Nat → ClassId) (dI : Nat → Nat → Nat) (cy : Nat → ClassId) (x : Nat) (ad : Nat → Nat) (sz : Nat) (o : Os) (a1 : Int32) (a2 : Int32) (hV : sX7_fit o a1 a2) : Met l yX7_fit wsX7_fit ({ frames := 1, cells := 0, slots := 0, locals := 21 }) (va_Pc [.ref x, .int a1, .int a2] (wI (dC, dI) (tyA cy) (WX cy x ad o) sz)) (va_Qi (fun r u => (r, u) = jX7_fit o a1 a2) (fun u t => wO (dC, dI) (tyA cy) (va_A (WX cy x ad o) sz) (WX cy x ad u) t) (va_A (WX cy x ad o) sz)) 0 0 (va_A (WX cy x ad o) sz) := by
  refine Met.ofW (cc := cX7_fit) (maxL := 4) (ret := some .int) (by decide) rfl ?_
  intro p e s m args below meth c s₁ B hml hv
  obtain ⟨rfl, hsz, hP, hK, hD0, hk⟩ := hv
  have hx := B.exec
  have hb := B.bytes
  have hr := B.returns
  have hts := atoms_spec (ws := wsX7_fit) B.pre
  have hown : s.vm.findClass RX7 = some m.cls := findClass_of_methodNamed B.named
  have hlocks := B.notSynchronized
  subst hsz
  have hD := hD0.self (sz := s.heap.size)
  generalize hAe : va_A (WX cy x ad o) s.heap.size = A at hD ⊢
  have hA : ∀ q : Nat, s.heap.size ≤ q → A q := fun q h => by rw [← hAe]; exact Or.inr h
  obtain ⟨H, hHe⟩ : ∃ H, s.heap = H := ⟨_, rfl⟩
  have hP : va_P (dC, dI) vwCl (WX cy x ad o) H := by rw [← hHe]; exact hP
  have hS : va_S A s.heap H [] := by rw [← hHe]; exact va_S.rf
  rw [w_heap hHe]
  have hi_wsX70 : ∀ w ∈ wsX70, w ∈ wsX7_fit := fun _ h => List.mem_cons_of_mem _ (List.mem_append_right _ h)
  obtain ⟨JR, hE⟩ : ∃ q, jX7_fit o a1 a2 = q := ⟨_, rfl⟩
  have hJ := hE
  rw [jX7_fit] at hJ
  rw [sX7_fit] at hV
  have hV := hV.2
  have hl := lv_entry ([.ref x, .int a1, .int a2]) (n := 4) (Nat.le_of_ble_eq_true rfl)
  rw [lg_entry_eq]
  generalize (lg_sl ([.ref x, .int a1, .int a2]) ++ List.replicate (4 - (lg_sl ([.ref x, .int a1, .int a2])).length) Slot.unset).toArray = ls at hl ⊢
  have hl : lv_has ls 4 [(0, .ref x), (1, .int a1), (2, .int a2)] := hl
  refine lv_aload_n hx hb dX7_fit_0 rfl (lv_at hl 0 rfl) ?_
  refine lv_iload_n hx hb dX7_fit_1 rfl (lv_at hl 2 rfl) ?_
  obtain ⟨hk1, hV⟩ := hV
  refine va_csq (W.runV (As := [.int a2]) (rest := []) ⟨hx, hb, hml, hown, hts⟩ (qX7_driveAt l dC dI cy x ad H.size o a2 hk1) (cwV 1 hts gX7_fit_X7_driveAt rfl rfl rfl (by decide +kernel) ⟨Nat.le_of_ble_eq_true rfl, Nat.le_of_ble_eq_true rfl⟩) (pV hK hP hD hk (q0 := 0) (wx_h (o := o) rfl) rfl) rfl rfl hl.1 rfl (lv_room (Nat.le_of_ble_eq_true rfl)) dX7_fit_2 ⟨Nat.le_of_ble_eq_true rfl, Nat.le_of_ble_eq_true rfl⟩) (fun r hq9 => ?_)
  rcases hd2 : jX7_driveAt o a2 with _ | d2
  · rw [hd2, om_n] at hJ
    rw [hd2, om_n] at hV
    rw [hd2] at hq9
    refine rf_n hq9 ?_
    refine lv_astore_nN (lv' := [(3, .null), (0, .ref x), (1, .int a1), (2, .int a2)]) hx hb dX7_fit_5 rfl hl (by decide) rfl (fun ls hl => ?_)
    refine lv_iload_n hx hb dX7_fit_6 rfl (lv_at hl 2 rfl) ?_
    refine vp_callSi (W.runS (As := [.int a1]) (rest := []) ⟨hx, hb, hml, hown, hts⟩ (qX7_isSlot l a1) (va_cwS 1 hts gX7_fit_X7_isSlot rfl rfl rfl (by decide +kernel) ⟨Nat.le_of_ble_eq_true rfl, Nat.le_of_ble_eq_true rfl⟩) ⟨fun _ _ _ _ q => q, fun U hU hW => rfl⟩ rfl rfl hl.1 rfl (lv_room (Nat.le_of_ble_eq_true rfl)) dX7_fit_7 ⟨Nat.le_of_ble_eq_true rfl, Nat.le_of_ble_eq_true rfl⟩) (fun r hq9 => ?_)
    rw [hq9]
    refine lv_if_eq (tgt := 22) hx hb dX7_fit_10 (by decide) (fun c3 => ?_) (fun c3 => ?_)
    · skip
      rw [if_pos c3] at hJ
      rw [if_pos c3] at hV
      refine lv_bipush (v := (-101 : Int32)) hx hb dX7_fit_22 (by decide) ?_
      exact W.iret hx hb hr (fun t ht hW => ⟨⟨_, _, rfl, hJ.trans hE.symm, by rw [ht]; exact hP, va_K.moved hW.alike hK, hD⟩, hS.F ht⟩) hS.2.2 dX7_fit_24
    · skip
      rw [if_neg c3] at hJ
      rw [if_neg c3] at hV
      refine lv_aload_nN hx hb dX7_fit_13 rfl (lv_at hl 0 rfl) ?_
      refine lv_ifnonnullN hx hb dX7_fit_14 ?_
      refine lv_iload_n hx hb dX7_fit_17 rfl (lv_at hl 3 rfl) ?_
      refine lv_iconst (v := (-1 : Int32)) hx hb dX7_fit_18 (by decide) ?_
      refine lv_icmp_eq (tgt := 25) hx hb dX7_fit_19 (by decide) (fun c4 => ?_) (fun c4 => ?_)
      · skip
        rw [if_pos c4] at hJ
        rw [if_pos c4] at hV
        refine lv_aload_n hx hb dX7_fit_25 rfl (lv_at hl 1 rfl) ?_
        refine va_get (D := (dC, dI)) (ci := 5) (v := .ref (ad 3)) (C := RX7) (T := TX7) (N := 10) (fs := (cx_f ad o)) hx hb hts hi_wsX70 hown hK hP 0 (wx_h (o := o) rfl) rfl 4 (by decide) (hts (.fieldLink RX7 28 "OrreryDials" "slots" "[LOrreryDials$Drive;") (by decide +kernel)) (fun _ h9 => h9) rfl dX7_fit_26 ?_
        refine lv_iload_n hx hb dX7_fit_29 rfl (lv_at hl 2 rfl) ?_
        refine lv_aload_nN hx hb dX7_fit_30 rfl (lv_at hl 0 rfl) ?_
        obtain ⟨hk5, hV⟩ := hV
        refine va_astqN hx hb hK hP hD hS 3 6 (wx_h (o := o) rfl) rfl hk5 dX7_fit_31 (fun H locs hP hD hS => ?_)
        rw [wx_a_slN] at hP hD
        refine lv_iconst (v := (1 : Int32)) hx hb dX7_fit_32 (by decide) ?_
        exact W.iret hx hb hr (fun t ht hW => ⟨⟨_, _, rfl, hJ.trans hE.symm, by rw [ht]; exact hP, va_K.moved hW.alike hK, hD⟩, hS.F ht⟩) hS.2.2 dX7_fit_33
      · skip
        rw [if_neg c4] at hJ
        rw [if_neg c4] at hV
        refine lv_bipush (v := (-101 : Int32)) hx hb dX7_fit_22 (by decide) ?_
        exact W.iret hx hb hr (fun t ht hW => ⟨⟨_, _, rfl, hJ.trans hE.symm, by rw [ht]; exact hP, va_K.moved hW.alike hK, hD⟩, hS.F ht⟩) hS.2.2 dX7_fit_24
  · rw [hd2, om_s] at hJ
    rw [hd2, om_s] at hV
    rw [hd2] at hq9
    refine rf_s hq9 ?_
    refine lv_astore_n (lv' := [(3, .ref (ad (200 + d2))), (0, .ref x), (1, .int a1), (2, .int a2)]) hx hb dX7_fit_5 rfl hl (by decide) rfl (fun ls hl => ?_)
    refine lv_iload_n hx hb dX7_fit_6 rfl (lv_at hl 2 rfl) ?_
    refine vp_callSi (W.runS (As := [.int a1]) (rest := []) ⟨hx, hb, hml, hown, hts⟩ (qX7_isSlot l a1) (va_cwS 1 hts gX7_fit_X7_isSlot rfl rfl rfl (by decide +kernel) ⟨Nat.le_of_ble_eq_true rfl, Nat.le_of_ble_eq_true rfl⟩) ⟨fun _ _ _ _ q => q, fun U hU hW => rfl⟩ rfl rfl hl.1 rfl (lv_room (Nat.le_of_ble_eq_true rfl)) dX7_fit_7 ⟨Nat.le_of_ble_eq_true rfl, Nat.le_of_ble_eq_true rfl⟩) (fun r hq9 => ?_)
    rw [hq9]
    refine lv_if_eq (tgt := 22) hx hb dX7_fit_10 (by decide) (fun c6 => ?_) (fun c6 => ?_)
    · skip
      rw [if_pos c6] at hJ
      rw [if_pos c6] at hV
      refine lv_bipush (v := (-101 : Int32)) hx hb dX7_fit_22 (by decide) ?_
      exact W.iret hx hb hr (fun t ht hW => ⟨⟨_, _, rfl, hJ.trans hE.symm, by rw [ht]; exact hP, va_K.moved hW.alike hK, hD⟩, hS.F ht⟩) hS.2.2 dX7_fit_24
    · skip
      rw [if_neg c6] at hJ
      rw [if_neg c6] at hV
      refine lv_aload_n hx hb dX7_fit_13 rfl (lv_at hl 0 rfl) ?_
      refine lv_ifnonnull (tgt := 25) hx hb dX7_fit_14 (by decide) ?_
      refine lv_aload_n hx hb dX7_fit_25 rfl (lv_at hl 1 rfl) ?_
      refine va_get (D := (dC, dI)) (ci := 5) (v := .ref (ad 3)) (C := RX7) (T := TX7) (N := 10) (fs := (cx_f ad o)) hx hb hts hi_wsX70 hown hK hP 0 (wx_h (o := o) rfl) rfl 4 (by decide) (hts (.fieldLink RX7 28 "OrreryDials" "slots" "[LOrreryDials$Drive;") (by decide +kernel)) (fun _ h9 => h9) rfl dX7_fit_26 ?_
      refine lv_iload_n hx hb dX7_fit_29 rfl (lv_at hl 2 rfl) ?_
      refine lv_aload_n hx hb dX7_fit_30 rfl (lv_at hl 0 rfl) ?_
      obtain ⟨hk7, hV⟩ := hV
      obtain ⟨hk8, hV⟩ := hV
      refine cs3 (c_vS o d2 = 0) (c_vS o d2 = 1) (fun g0 kk => va_astqO hx hb hK hP hD hS 3 6 (7 + (c_nd o + d2)) 4 (wx_h (o := o) rfl) rfl hk.2.2.1 (wx_spring (o := o) hk8 g0) rfl hk7 dX7_fit_31 kk) (fun g0 g1 kk => va_astqO hx hb hK hP hD hS 3 6 (7 + (c_nd o + d2)) 0 (wx_h (o := o) rfl) rfl hk.1 (wx_crank (o := o) hk8 g0 g1) rfl hk7 dX7_fit_31 kk) (fun g0 g1 kk => va_astqO hx hb hK hP hD hS 3 6 (7 + (c_nd o + d2)) 2 (wx_h (o := o) rfl) rfl hk.2.1 (wx_fly (o := o) hk8 g0 g1) rfl hk7 dX7_fit_31 kk) (fun H locs hP hD hS => ?_)
      rw [wx_a_slS] at hP hD
      refine lv_iconst (v := (1 : Int32)) hx hb dX7_fit_32 (by decide) ?_
      exact W.iret hx hb hr (fun t ht hW => ⟨⟨_, _, rfl, hJ.trans hE.symm, by rw [ht]; exact hP, va_K.moved hW.alike hK, hD⟩, hS.F ht⟩) hS.2.2 dX7_fit_33
def jX7_pull (o : Os) (a1 : Int32) (a2 : Int32) : Int32 × Os := (om (jX7_dialAt o a2) (if (jX7_isSlot a1) = 0 then ((-101 : Int32), o) else ((-101 : Int32), o)) (fun d2 => (if (jX7_isSlot a1) = 0 then ((-101 : Int32), o) else (om (c_sl o a1.toNatClampNeg) ((jX7_failWith o (-11 : Int32)).1, (jX7_failWith o (-11 : Int32)).2) (fun d6 => (if ((jX2_pullAt o d6 d2).1) = 0 then ((jX7_failWith ((jX2_pullAt o d6 d2).2) (-15 : Int32)).1, (jX7_failWith ((jX2_pullAt o d6 d2).2) (-15 : Int32)).2) else ((jX7_done ((jX2_pullAt o d6 d2).2) (1 : Int32)).1, (jX7_done ((jX2_pullAt o d6 d2).2) (1 : Int32)).2)))))))
def sX7_pull (o : Os) (a1 : Int32) (a2 : Int32) : Prop := True ∧ (sX7_dialAt o a2 ∧ (om (jX7_dialAt o a2) (if (jX7_isSlot a1) = 0 then True else True) (fun d2 => (if (jX7_isSlot a1) = 0 then True else (vp_in a1 6 ∧ (om (c_sl o a1.toNatClampNeg) (sX7_failWith o (-11 : Int32) ∧ True) (fun d6 => (sX2_pullAt o d6 d2 ∧ (d6 < c_nv o ∧ (if ((jX2_pullAt o d6 d2).1) = 0 then (sX7_failWith ((jX2_pullAt o d6 d2).2) (-15 : Int32) ∧ True) else True))))))))))
set_option linter.constructorNameAsVariable false in
set_option maxHeartbeats 8000000 in
set_option maxRecDepth 100000 in
theorem qX7_pull (l : Launch) (dC : Nat → ClassId) (dI : Nat → Nat → Nat) (cy : Nat → ClassId) (x : Nat) (ad : Nat → Nat) (sz : Nat) (o : Os) (a1 : Int32) (a2 : Int32) (hV : sX7_pull o a1 a2) : Met l yX7_pull wsX7_pull ({ frames := 7, cells := 0, slots := 0, locals := 185 }) (va_Pc [.ref x, .int a1, .int a2] (wI (dC, dI) (tyA cy) (WX cy x ad o) sz)) (va_Qi (fun r u => (r, u) = jX7_pull o a1 a2) (fun u t => wO (dC, dI) (tyA cy) (va_A (WX cy x ad o) sz) (WX cy x ad u) t) (va_A (WX cy x ad o) sz)) 0 0 (va_A (WX cy x ad o) sz) := by
  refine Met.ofW (cc := cX7_pull) (maxL := 5) (ret := some .int) (by decide) rfl ?_
  intro p e s m args below meth c s₁ B hml hv
  obtain ⟨rfl, hsz, hP, hK, hD0, hk⟩ := hv
  have hx := B.exec
  have hb := B.bytes
  have hr := B.returns
  have hts := atoms_spec (ws := wsX7_pull) B.pre
  have hown : s.vm.findClass RX7 = some m.cls := findClass_of_methodNamed B.named
  have hlocks := B.notSynchronized
  subst hsz
  have hD := hD0.self (sz := s.heap.size)
  generalize hAe : va_A (WX cy x ad o) s.heap.size = A at hD ⊢
  have hA : ∀ q : Nat, s.heap.size ≤ q → A q := fun q h => by rw [← hAe]; exact Or.inr h
  obtain ⟨H, hHe⟩ : ∃ H, s.heap = H := ⟨_, rfl⟩
  have hP : va_P (dC, dI) vwCl (WX cy x ad o) H := by rw [← hHe]; exact hP
  have hS : va_S A s.heap H [] := by rw [← hHe]; exact va_S.rf
  rw [w_heap hHe]
  have hi_wsX70 : ∀ w ∈ wsX70, w ∈ wsX7_pull := fun _ h => List.mem_cons_of_mem _ (List.mem_append_left _ (List.mem_append_left _ (List.mem_append_left _ (List.mem_append_left _ (List.mem_append_right _ h)))))
  have hi_wsX10 : ∀ w ∈ wsX10, w ∈ wsX7_pull := fun _ h => List.mem_cons_of_mem _ (List.mem_append_left _ (List.mem_append_left _ (List.mem_append_left _ (List.mem_append_right _ h))))
  have hi_wsX00 : ∀ w ∈ wsX00, w ∈ wsX7_pull := fun _ h => List.mem_cons_of_mem _ (List.mem_append_left _ (List.mem_append_left _ (List.mem_append_right _ h)))
  have hi_wsX30 : ∀ w ∈ wsX30, w ∈ wsX7_pull := fun _ h => List.mem_cons_of_mem _ (List.mem_append_left _ (List.mem_append_right _ h))
  have hi_wsX60 : ∀ w ∈ wsX60, w ∈ wsX7_pull := fun _ h => List.mem_cons_of_mem _ (List.mem_append_right _ h)
  obtain ⟨JR, hE⟩ : ∃ q, jX7_pull o a1 a2 = q := ⟨_, rfl⟩
  have hJ := hE
  rw [jX7_pull] at hJ
  rw [sX7_pull] at hV
  have hV := hV.2
  have hl := lv_entry ([.ref x, .int a1, .int a2]) (n := 5) (Nat.le_of_ble_eq_true rfl)
  rw [lg_entry_eq]
  generalize (lg_sl ([.ref x, .int a1, .int a2]) ++ List.replicate (5 - (lg_sl ([.ref x, .int a1, .int a2])).length) Slot.unset).toArray = ls at hl ⊢
  have hl : lv_has ls 5 [(0, .ref x), (1, .int a1), (2, .int a2)] := hl
  refine lv_aload_n hx hb dX7_pull_0 rfl (lv_at hl 0 rfl) ?_
  refine lv_iload_n hx hb dX7_pull_1 rfl (lv_at hl 2 rfl) ?_
  obtain ⟨hk1, hV⟩ := hV
  refine va_csq (W.runV (As := [.int a2]) (rest := []) ⟨hx, hb, hml, hown, hts⟩ (qX7_dialAt l dC dI cy x ad H.size o a2 hk1) (cwV 1 hts gX7_pull_X7_dialAt rfl rfl rfl (by decide +kernel) ⟨Nat.le_of_ble_eq_true rfl, Nat.le_of_ble_eq_true rfl⟩) (pV hK hP hD hk (q0 := 0) (wx_h (o := o) rfl) rfl) rfl rfl hl.1 rfl (lv_room (Nat.le_of_ble_eq_true rfl)) dX7_pull_2 ⟨Nat.le_of_ble_eq_true rfl, Nat.le_of_ble_eq_true rfl⟩) (fun r hq9 => ?_)
  rcases hd2 : jX7_dialAt o a2 with _ | d2
  · rw [hd2, om_n] at hJ
    rw [hd2, om_n] at hV
    rw [hd2] at hq9
    refine rf_n hq9 ?_
    refine lv_astore_nN (lv' := [(3, .null), (0, .ref x), (1, .int a1), (2, .int a2)]) hx hb dX7_pull_5 rfl hl (by decide) rfl (fun ls hl => ?_)
    refine lv_iload_n hx hb dX7_pull_6 rfl (lv_at hl 2 rfl) ?_
    refine vp_callSi (W.runS (As := [.int a1]) (rest := []) ⟨hx, hb, hml, hown, hts⟩ (qX7_isSlot l a1) (va_cwS 1 hts gX7_pull_X7_isSlot rfl rfl rfl (by decide +kernel) ⟨Nat.le_of_ble_eq_true rfl, Nat.le_of_ble_eq_true rfl⟩) ⟨fun _ _ _ _ q => q, fun U hU hW => rfl⟩ rfl rfl hl.1 rfl (lv_room (Nat.le_of_ble_eq_true rfl)) dX7_pull_7 ⟨Nat.le_of_ble_eq_true rfl, Nat.le_of_ble_eq_true rfl⟩) (fun r hq9 => ?_)
    rw [hq9]
    refine lv_if_eq (tgt := 17) hx hb dX7_pull_10 (by decide) (fun c3 => ?_) (fun c3 => ?_)
    · skip
      rw [if_pos c3] at hJ
      rw [if_pos c3] at hV
      refine lv_bipush (v := (-101 : Int32)) hx hb dX7_pull_17 (by decide) ?_
      exact W.iret hx hb hr (fun t ht hW => ⟨⟨_, _, rfl, hJ.trans hE.symm, by rw [ht]; exact hP, va_K.moved hW.alike hK, hD⟩, hS.F ht⟩) hS.2.2 dX7_pull_19
    · skip
      rw [if_neg c3] at hJ
      rw [if_neg c3] at hV
      refine lv_aload_nN hx hb dX7_pull_13 rfl (lv_at hl 0 rfl) ?_
      refine lv_ifnonnullN hx hb dX7_pull_14 ?_
      refine lv_bipush (v := (-101 : Int32)) hx hb dX7_pull_17 (by decide) ?_
      exact W.iret hx hb hr (fun t ht hW => ⟨⟨_, _, rfl, hJ.trans hE.symm, by rw [ht]; exact hP, va_K.moved hW.alike hK, hD⟩, hS.F ht⟩) hS.2.2 dX7_pull_19
  · rw [hd2, om_s] at hJ
    rw [hd2, om_s] at hV
    rw [hd2] at hq9
    refine rf_s hq9 ?_
    refine lv_astore_n (lv' := [(3, .ref (ad (100 + d2))), (0, .ref x), (1, .int a1), (2, .int a2)]) hx hb dX7_pull_5 rfl hl (by decide) rfl (fun ls hl => ?_)
    refine lv_iload_n hx hb dX7_pull_6 rfl (lv_at hl 2 rfl) ?_
    refine vp_callSi (W.runS (As := [.int a1]) (rest := []) ⟨hx, hb, hml, hown, hts⟩ (qX7_isSlot l a1) (va_cwS 1 hts gX7_pull_X7_isSlot rfl rfl rfl (by decide +kernel) ⟨Nat.le_of_ble_eq_true rfl, Nat.le_of_ble_eq_true rfl⟩) ⟨fun _ _ _ _ q => q, fun U hU hW => rfl⟩ rfl rfl hl.1 rfl (lv_room (Nat.le_of_ble_eq_true rfl)) dX7_pull_7 ⟨Nat.le_of_ble_eq_true rfl, Nat.le_of_ble_eq_true rfl⟩) (fun r hq9 => ?_)
    rw [hq9]
    refine lv_if_eq (tgt := 17) hx hb dX7_pull_10 (by decide) (fun c4 => ?_) (fun c4 => ?_)
    · skip
      rw [if_pos c4] at hJ
      rw [if_pos c4] at hV
      refine lv_bipush (v := (-101 : Int32)) hx hb dX7_pull_17 (by decide) ?_
      exact W.iret hx hb hr (fun t ht hW => ⟨⟨_, _, rfl, hJ.trans hE.symm, by rw [ht]; exact hP, va_K.moved hW.alike hK, hD⟩, hS.F ht⟩) hS.2.2 dX7_pull_19
    · skip
      rw [if_neg c4] at hJ
      rw [if_neg c4] at hV
      refine lv_aload_n hx hb dX7_pull_13 rfl (lv_at hl 0 rfl) ?_
      refine lv_ifnonnull (tgt := 20) hx hb dX7_pull_14 (by decide) ?_
      refine lv_aload_n hx hb dX7_pull_20 rfl (lv_at hl 1 rfl) ?_
      refine va_get (D := (dC, dI)) (ci := 5) (v := .ref (ad 3)) (C := RX7) (T := TX7) (N := 10) (fs := (cx_f ad o)) hx hb hts hi_wsX70 hown hK hP 0 (wx_h (o := o) rfl) rfl 4 (by decide) (hts (.fieldLink RX7 28 "OrreryDials" "slots" "[LOrreryDials$Drive;") (by decide +kernel)) (fun _ h9 => h9) rfl dX7_pull_21 ?_
      refine lv_iload_n hx hb dX7_pull_24 rfl (lv_at hl 2 rfl) ?_
      obtain ⟨hk5, hV⟩ := hV
      refine va_aldq hx hb hK hP 3 6 (wx_h (o := o) rfl) rfl hk5 dX7_pull_25 ?_
      rcases hd6 : c_sl o a1.toNatClampNeg with _ | d6
      · rw [hd6, om_n] at hJ
        rw [hd6, om_n] at hV
        refine rf_n (show cx_sr ad o a1.toNatClampNeg = none by unfold cx_sr; rw [hd6]; rfl) ?_
        refine lv_astoreN (lv' := [(4, .null), (3, .ref (ad (100 + d2))), (0, .ref x), (1, .int a1), (2, .int a2)]) hx hb dX7_pull_26 hl (by decide) rfl (fun ls hl => ?_)
        refine lv_aloadN hx hb dX7_pull_28 (lv_at hl 0 rfl) ?_
        refine lv_ifnonnullN hx hb dX7_pull_30 ?_
        refine lv_aload_n hx hb dX7_pull_33 rfl (lv_at hl 2 rfl) ?_
        refine lv_bipush (v := (-11 : Int32)) hx hb dX7_pull_34 (by decide) ?_
        obtain ⟨hk7, hV⟩ := hV
        refine cl_i (va_runV (As := [.int (-11 : Int32)]) (rest := []) ⟨hx, hb, hml, hown, hts⟩ (qX7_failWith l dC dI cy x ad H.size o (-11 : Int32) hk7) (cwV 1 hts gX7_pull_X7_failWith rfl rfl rfl (by decide +kernel) ⟨Nat.le_of_ble_eq_true rfl, Nat.le_of_ble_eq_true rfl⟩) (pV hK hP hD hk (q0 := 0) (wx_h (o := o) rfl) rfl) rfl rfl hl.1 rfl (lv_room (Nat.le_of_ble_eq_true rfl)) dX7_pull_36 ⟨Nat.le_of_ble_eq_true rfl, Nat.le_of_ble_eq_true rfl⟩) hD hS hA (fun r u H locs hw hP hD hS => ?_)
        have hr1 : r = (jX7_failWith o (-11 : Int32)).1 := congrArg Prod.fst hw
        have hu1 : u = (jX7_failWith o (-11 : Int32)).2 := congrArg Prod.snd hw
        rw [hu1] at hP hD
        rw [hr1]
        exact W.iret hx hb hr (fun t ht hW => ⟨⟨_, _, rfl, hJ.trans hE.symm, by rw [ht]; exact hP, va_K.moved hW.alike hK, hD⟩, hS.F ht⟩) hS.2.2 dX7_pull_39
      · rw [hd6, om_s] at hJ
        rw [hd6, om_s] at hV
        refine rf_s (show cx_sr ad o a1.toNatClampNeg = some (ad (200 + d6)) by unfold cx_sr; rw [hd6]; rfl) ?_
        refine lv_astore (lv' := [(4, .ref (ad (200 + d6))), (3, .ref (ad (100 + d2))), (0, .ref x), (1, .int a1), (2, .int a2)]) hx hb dX7_pull_26 hl (by decide) rfl (fun ls hl => ?_)
        refine lv_aload hx hb dX7_pull_28 (lv_at hl 0 rfl) ?_
        refine lv_ifnonnull (tgt := 40) hx hb dX7_pull_30 (by decide) ?_
        refine lv_aload hx hb dX7_pull_40 (lv_at hl 0 rfl) ?_
        refine lv_aload_n hx hb dX7_pull_42 rfl (lv_at hl 1 rfl) ?_
        obtain ⟨hk8, hV⟩ := hV
        obtain ⟨hk9, hV⟩ := hV
        refine cl_i (rn3 (c_vS o d6 = 0) (c_vS o d6 = 1) (fun g0 => va_runU (As := [.ref (ad (100 + d2))]) (rest := []) ⟨hx, hb, hml, hown, hts⟩ (qX2_pullAt l dC dI cy x ad H.size o d6 d2 hk8) (va_cwU 1 hts gX7_pull_X2_pullAt_u108X6 rfl rfl rfl rfl (by decide +kernel) ⟨Nat.le_of_ble_eq_true rfl, Nat.le_of_ble_eq_true rfl⟩) (pV hK hP hD hk (q0 := (7 + (c_nd o + d6))) (wx_spring (o := o) hk9 g0) rfl) rfl rfl hl.1 rfl (lv_room (Nat.le_of_ble_eq_true rfl)) dX7_pull_43 ⟨Nat.le_of_ble_eq_true rfl, Nat.le_of_ble_eq_true rfl⟩) (fun g0 g1 => va_runU (As := [.ref (ad (100 + d2))]) (rest := []) ⟨hx, hb, hml, hown, hts⟩ (qX2_pullAt l dC dI cy x ad H.size o d6 d2 hk8) (va_cwU 1 hts gX7_pull_X2_pullAt_u108X0 rfl rfl rfl rfl (by decide +kernel) ⟨Nat.le_of_ble_eq_true rfl, Nat.le_of_ble_eq_true rfl⟩) (pV hK hP hD hk (q0 := (7 + (c_nd o + d6))) (wx_crank (o := o) hk9 g0 g1) rfl) rfl rfl hl.1 rfl (lv_room (Nat.le_of_ble_eq_true rfl)) dX7_pull_43 ⟨Nat.le_of_ble_eq_true rfl, Nat.le_of_ble_eq_true rfl⟩) (fun g0 g1 => va_runU (As := [.ref (ad (100 + d2))]) (rest := []) ⟨hx, hb, hml, hown, hts⟩ (qX2_pullAt l dC dI cy x ad H.size o d6 d2 hk8) (va_cwU 1 hts gX7_pull_X2_pullAt_u108X3 rfl rfl rfl rfl (by decide +kernel) ⟨Nat.le_of_ble_eq_true rfl, Nat.le_of_ble_eq_true rfl⟩) (pV hK hP hD hk (q0 := (7 + (c_nd o + d6))) (wx_fly (o := o) hk9 g0 g1) rfl) rfl rfl hl.1 rfl (lv_room (Nat.le_of_ble_eq_true rfl)) dX7_pull_43 ⟨Nat.le_of_ble_eq_true rfl, Nat.le_of_ble_eq_true rfl⟩)) hD hS hA (fun r u H locs hw hP hD hS => ?_)
        have hr1 : r = (jX2_pullAt o d6 d2).1 := congrArg Prod.fst hw
        have hu1 : u = (jX2_pullAt o d6 d2).2 := congrArg Prod.snd hw
        rw [hu1] at hP hD
        rw [hr1]
        refine lv_if_eq (tgt := 57) hx hb dX7_pull_46 (by decide) (fun c10 => ?_) (fun c10 => ?_)
        · skip
          rw [if_pos c10] at hJ
          rw [if_pos c10] at hV
          refine lv_aload_n hx hb dX7_pull_57 rfl (lv_at hl 2 rfl) ?_
          refine lv_bipush (v := (-15 : Int32)) hx hb dX7_pull_58 (by decide) ?_
          obtain ⟨hk11, hV⟩ := hV
          refine cl_i (va_runV (As := [.int (-15 : Int32)]) (rest := []) ⟨hx, hb, hml, hown, hts⟩ (qX7_failWith l dC dI cy x ad H.size ((jX2_pullAt o d6 d2).2) (-15 : Int32) hk11) (cwV 1 hts gX7_pull_X7_failWith rfl rfl rfl (by decide +kernel) ⟨Nat.le_of_ble_eq_true rfl, Nat.le_of_ble_eq_true rfl⟩) (pV hK hP hD hk (q0 := 0) (wx_h (o := ((jX2_pullAt o d6 d2).2)) rfl) rfl) rfl rfl hl.1 rfl (lv_room (Nat.le_of_ble_eq_true rfl)) dX7_pull_60 ⟨Nat.le_of_ble_eq_true rfl, Nat.le_of_ble_eq_true rfl⟩) hD hS hA (fun r u H locs hw hP hD hS => ?_)
          have hr1 : r = (jX7_failWith ((jX2_pullAt o d6 d2).2) (-15 : Int32)).1 := congrArg Prod.fst hw
          have hu1 : u = (jX7_failWith ((jX2_pullAt o d6 d2).2) (-15 : Int32)).2 := congrArg Prod.snd hw
          rw [hu1] at hP hD
          rw [hr1]
          exact W.iret hx hb hr (fun t ht hW => ⟨⟨_, _, rfl, hJ.trans hE.symm, by rw [ht]; exact hP, va_K.moved hW.alike hK, hD⟩, hS.F ht⟩) hS.2.2 dX7_pull_63
        · skip
          rw [if_neg c10] at hJ
          rw [if_neg c10] at hV
          refine lv_aload_n hx hb dX7_pull_49 rfl (lv_at hl 2 rfl) ?_
          refine lv_iconst (v := (1 : Int32)) hx hb dX7_pull_50 (by decide) ?_
          refine cl_i (va_runV (As := [.int (1 : Int32)]) (rest := []) ⟨hx, hb, hml, hown, hts⟩ (qX7_done l dC dI cy x ad H.size ((jX2_pullAt o d6 d2).2) (1 : Int32)) (cwV 1 hts gX7_pull_X7_done rfl rfl rfl (by decide +kernel) ⟨Nat.le_of_ble_eq_true rfl, Nat.le_of_ble_eq_true rfl⟩) (pV hK hP hD hk (q0 := 0) (wx_h (o := ((jX2_pullAt o d6 d2).2)) rfl) rfl) rfl rfl hl.1 rfl (lv_room (Nat.le_of_ble_eq_true rfl)) dX7_pull_51 ⟨Nat.le_of_ble_eq_true rfl, Nat.le_of_ble_eq_true rfl⟩) hD hS hA (fun r u H locs hw hP hD hS => ?_)
          have hr1 : r = (jX7_done ((jX2_pullAt o d6 d2).2) (1 : Int32)).1 := congrArg Prod.fst hw
          have hu1 : u = (jX7_done ((jX2_pullAt o d6 d2).2) (1 : Int32)).2 := congrArg Prod.snd hw
          rw [hu1] at hP hD
          rw [hr1]
          refine lv_goto (tgt := 63) hx hb dX7_pull_54 (by decide) ?_
          exact W.iret hx hb hr (fun t ht hW => ⟨⟨_, _, rfl, hJ.trans hE.symm, by rw [ht]; exact hP, va_K.moved hW.alike hK, hD⟩, hS.F ht⟩) hS.2.2 dX7_pull_63
def jX7_gear_y10 (o : Os) (a1 : Int32) (a2 : Int32) (d5 : Nat) (y10 : Int32) : Int32 × Os := ((jX7_done (t_vG o (va_up (c_vG o) d5 a2)) y10).1, (jX7_done (t_vG o (va_up (c_vG o) d5 a2)) y10).2)
def sX7_gear_y10 (o : Os) (a1 : Int32) (a2 : Int32) (d5 : Nat) (y10 : Int32) : Prop := True ∧ True
def jX7_gear (o : Os) (a1 : Int32) (a2 : Int32) : Int32 × Os := (if (jX7_isSlot a1) = 0 then ((-101 : Int32), o) else (if a2 < (-1000 : Int32) then ((-102 : Int32), o) else (if a2 ≤ (1000 : Int32) then (om (c_sl o a1.toNatClampNeg) ((jX7_failWith o (-11 : Int32)).1, (jX7_failWith o (-11 : Int32)).2) (fun d5 => (if c_vS o d5 = 0 then ((jX7_failWith o (-13 : Int32)).1, (jX7_failWith o (-13 : Int32)).2) else (jX7_gear_y10 o a1 a2 d5 (c_vG o d5))))) else ((-102 : Int32), o))))
def sX7_gear (o : Os) (a1 : Int32) (a2 : Int32) : Prop := True ∧ (if (jX7_isSlot a1) = 0 then True else (if a2 < (-1000 : Int32) then True else (if a2 ≤ (1000 : Int32) then (vp_in a1 6 ∧ (om (c_sl o a1.toNatClampNeg) (sX7_failWith o (-11 : Int32) ∧ True) (fun d5 => (d5 < c_nv o ∧ (if c_vS o d5 = 0 then (sX7_failWith o (-13 : Int32) ∧ True) else (sX7_gear_y10 o a1 a2 d5 (c_vG o d5))))))) else True)))
set_option linter.constructorNameAsVariable false in
set_option maxHeartbeats 8000000 in
set_option maxRecDepth 100000 in
theorem qX7_gear (l : Launch) (dC : Nat → ClassId) (dI : Nat → Nat → Nat) (cy : Nat → ClassId) (x : Nat) (ad : Nat → Nat) (sz : Nat) (o : Os) (a1 : Int32) (a2 : Int32) (hV : sX7_gear o a1 a2) : Met l yX7_gear wsX7_gear ({ frames := 1, cells := 0, slots := 0, locals := 22 }) (va_Pc [.ref x, .int a1, .int a2] (wI (dC, dI) (tyA cy) (WX cy x ad o) sz)) (va_Qi (fun r u => (r, u) = jX7_gear o a1 a2) (fun u t => wO (dC, dI) (tyA cy) (va_A (WX cy x ad o) sz) (WX cy x ad u) t) (va_A (WX cy x ad o) sz)) 0 0 (va_A (WX cy x ad o) sz) := by
  refine Met.ofW (cc := cX7_gear) (maxL := 6) (ret := some .int) (by decide) rfl ?_
  intro p e s m args below meth c s₁ B hml hv
  obtain ⟨rfl, hsz, hP, hK, hD0, hk⟩ := hv
  have hx := B.exec
  have hb := B.bytes
  have hr := B.returns
  have hts := atoms_spec (ws := wsX7_gear) B.pre
  have hown : s.vm.findClass RX7 = some m.cls := findClass_of_methodNamed B.named
  have hlocks := B.notSynchronized
  subst hsz
  have hD := hD0.self (sz := s.heap.size)
  generalize hAe : va_A (WX cy x ad o) s.heap.size = A at hD ⊢
  have hA : ∀ q : Nat, s.heap.size ≤ q → A q := fun q h => by rw [← hAe]; exact Or.inr h
  obtain ⟨H, hHe⟩ : ∃ H, s.heap = H := ⟨_, rfl⟩
  have hP : va_P (dC, dI) vwCl (WX cy x ad o) H := by rw [← hHe]; exact hP
  have hS : va_S A s.heap H [] := by rw [← hHe]; exact va_S.rf
  rw [w_heap hHe]
  have hi_wsX70 : ∀ w ∈ wsX70, w ∈ wsX7_gear := fun _ h => List.mem_cons_of_mem _ (List.mem_append_left _ (List.mem_append_left _ (List.mem_append_right _ h)))
  have hi_wsX00 : ∀ w ∈ wsX00, w ∈ wsX7_gear := fun _ h => List.mem_cons_of_mem _ (List.mem_append_left _ (List.mem_append_right _ h))
  have hi_wsX30 : ∀ w ∈ wsX30, w ∈ wsX7_gear := fun _ h => List.mem_cons_of_mem _ (List.mem_append_right _ h)
  obtain ⟨JR, hE⟩ : ∃ q, jX7_gear o a1 a2 = q := ⟨_, rfl⟩
  have hJ := hE
  rw [jX7_gear] at hJ
  rw [sX7_gear] at hV
  have hV := hV.2
  have hl := lv_entry ([.ref x, .int a1, .int a2]) (n := 6) (Nat.le_of_ble_eq_true rfl)
  rw [lg_entry_eq]
  generalize (lg_sl ([.ref x, .int a1, .int a2]) ++ List.replicate (6 - (lg_sl ([.ref x, .int a1, .int a2])).length) Slot.unset).toArray = ls at hl ⊢
  have hl : lv_has ls 6 [(0, .ref x), (1, .int a1), (2, .int a2)] := hl
  refine lv_iload_n hx hb dX7_gear_0 rfl (lv_at hl 1 rfl) ?_
  refine vp_callSi (W.runS (As := [.int a1]) (rest := []) ⟨hx, hb, hml, hown, hts⟩ (qX7_isSlot l a1) (va_cwS 1 hts gX7_gear_X7_isSlot rfl rfl rfl (by decide +kernel) ⟨Nat.le_of_ble_eq_true rfl, Nat.le_of_ble_eq_true rfl⟩) ⟨fun _ _ _ _ q => q, fun U hU hW => rfl⟩ rfl rfl hl.1 rfl (lv_room (Nat.le_of_ble_eq_true rfl)) dX7_gear_1 ⟨Nat.le_of_ble_eq_true rfl, Nat.le_of_ble_eq_true rfl⟩) (fun r hq9 => ?_)
  rw [hq9]
  refine lv_if_ne (tgt := 10) hx hb dX7_gear_4 (by decide) (fun c1 => ?_) (fun c1 => ?_)
  · skip
    rw [if_neg c1] at hJ
    rw [if_neg c1] at hV
    refine lv_iload_n hx hb dX7_gear_10 rfl (lv_at hl 2 rfl) ?_
    refine lv_sipush (v := (-1000 : Int32)) hx hb dX7_gear_11 (by decide) ?_
    refine lv_icmp_lt (tgt := 24) hx hb dX7_gear_14 (by decide) (fun c2 => ?_) (fun c2 => ?_)
    · skip
      rw [if_pos c2] at hJ
      rw [if_pos c2] at hV
      refine lv_bipush (v := (-102 : Int32)) hx hb dX7_gear_24 (by decide) ?_
      exact W.iret hx hb hr (fun t ht hW => ⟨⟨_, _, rfl, hJ.trans hE.symm, by rw [ht]; exact hP, va_K.moved hW.alike hK, hD⟩, hS.F ht⟩) hS.2.2 dX7_gear_26
    · skip
      rw [if_neg c2] at hJ
      rw [if_neg c2] at hV
      refine lv_iload_n hx hb dX7_gear_17 rfl (lv_at hl 2 rfl) ?_
      refine lv_sipush (v := (1000 : Int32)) hx hb dX7_gear_18 (by decide) ?_
      refine lv_icmp_le (tgt := 27) hx hb dX7_gear_21 (by decide) (fun c3 => ?_) (fun c3 => ?_)
      · skip
        rw [if_pos c3] at hJ
        rw [if_pos c3] at hV
        refine lv_aload_n hx hb dX7_gear_27 rfl (lv_at hl 0 rfl) ?_
        refine va_get (D := (dC, dI)) (ci := 5) (v := .ref (ad 3)) (C := RX7) (T := TX7) (N := 10) (fs := (cx_f ad o)) hx hb hts hi_wsX70 hown hK hP 0 (wx_h (o := o) rfl) rfl 4 (by decide) (hts (.fieldLink RX7 28 "OrreryDials" "slots" "[LOrreryDials$Drive;") (by decide +kernel)) (fun _ h9 => h9) rfl dX7_gear_28 ?_
        refine lv_iload_n hx hb dX7_gear_31 rfl (lv_at hl 1 rfl) ?_
        obtain ⟨hk4, hV⟩ := hV
        refine va_aldq hx hb hK hP 3 6 (wx_h (o := o) rfl) rfl hk4 dX7_gear_32 ?_
        rcases hd5 : c_sl o a1.toNatClampNeg with _ | d5
        · rw [hd5, om_n] at hJ
          rw [hd5, om_n] at hV
          refine rf_n (show cx_sr ad o a1.toNatClampNeg = none by unfold cx_sr; rw [hd5]; rfl) ?_
          refine lv_astore_nN (lv' := [(3, .null), (0, .ref x), (1, .int a1), (2, .int a2)]) hx hb dX7_gear_33 rfl hl (by decide) rfl (fun ls hl => ?_)
          refine lv_aload_nN hx hb dX7_gear_34 rfl (lv_at hl 0 rfl) ?_
          refine lv_ifnonnullN hx hb dX7_gear_35 ?_
          refine lv_aload_n hx hb dX7_gear_38 rfl (lv_at hl 1 rfl) ?_
          refine lv_bipush (v := (-11 : Int32)) hx hb dX7_gear_39 (by decide) ?_
          obtain ⟨hk6, hV⟩ := hV
          refine cl_i (va_runV (As := [.int (-11 : Int32)]) (rest := []) ⟨hx, hb, hml, hown, hts⟩ (qX7_failWith l dC dI cy x ad H.size o (-11 : Int32) hk6) (cwV 1 hts gX7_gear_X7_failWith rfl rfl rfl (by decide +kernel) ⟨Nat.le_of_ble_eq_true rfl, Nat.le_of_ble_eq_true rfl⟩) (pV hK hP hD hk (q0 := 0) (wx_h (o := o) rfl) rfl) rfl rfl hl.1 rfl (lv_room (Nat.le_of_ble_eq_true rfl)) dX7_gear_41 ⟨Nat.le_of_ble_eq_true rfl, Nat.le_of_ble_eq_true rfl⟩) hD hS hA (fun r u H locs hw hP hD hS => ?_)
          have hr1 : r = (jX7_failWith o (-11 : Int32)).1 := congrArg Prod.fst hw
          have hu1 : u = (jX7_failWith o (-11 : Int32)).2 := congrArg Prod.snd hw
          rw [hu1] at hP hD
          rw [hr1]
          exact W.iret hx hb hr (fun t ht hW => ⟨⟨_, _, rfl, hJ.trans hE.symm, by rw [ht]; exact hP, va_K.moved hW.alike hK, hD⟩, hS.F ht⟩) hS.2.2 dX7_gear_44
        · rw [hd5, om_s] at hJ
          rw [hd5, om_s] at hV
          refine rf_s (show cx_sr ad o a1.toNatClampNeg = some (ad (200 + d5)) by unfold cx_sr; rw [hd5]; rfl) ?_
          refine lv_astore_n (lv' := [(3, .ref (ad (200 + d5))), (0, .ref x), (1, .int a1), (2, .int a2)]) hx hb dX7_gear_33 rfl hl (by decide) rfl (fun ls hl => ?_)
          refine lv_aload_n hx hb dX7_gear_34 rfl (lv_at hl 0 rfl) ?_
          refine lv_ifnonnull (tgt := 45) hx hb dX7_gear_35 (by decide) ?_
          refine lv_aload_n hx hb dX7_gear_45 rfl (lv_at hl 0 rfl) ?_
          obtain ⟨hk7, hV⟩ := hV
          by_cases c8 : c_vS o d5 = 0
          · rw [if_pos c8] at hJ
            rw [if_pos c8] at hV
            refine va_instNo (C := RX6) hx hb hown (hts (.classLink RX7 112 "OrreryDials$Crank") (by decide +kernel)) hk.2.2.2.2.2.1 (va_recv hK hP (q := (RX6, TX6, 3)) rfl (wx_spring hk7 c8)) dX7_gear_46 ?_
            refine lv_if_eq (tgt := 78) hx hb dX7_gear_49 (by decide) (fun cq => ?_) (fun cq => absurd cq (by decide))
            refine lv_aload_n hx hb dX7_gear_78 rfl (lv_at hl 1 rfl) ?_
            refine lv_bipush (v := (-13 : Int32)) hx hb dX7_gear_79 (by decide) ?_
            obtain ⟨hk9, hV⟩ := hV
            refine cl_i (va_runV (As := [.int (-13 : Int32)]) (rest := []) ⟨hx, hb, hml, hown, hts⟩ (qX7_failWith l dC dI cy x ad H.size o (-13 : Int32) hk9) (cwV 1 hts gX7_gear_X7_failWith rfl rfl rfl (by decide +kernel) ⟨Nat.le_of_ble_eq_true rfl, Nat.le_of_ble_eq_true rfl⟩) (pV hK hP hD hk (q0 := 0) (wx_h (o := o) rfl) rfl) rfl rfl hl.1 rfl (lv_room (Nat.le_of_ble_eq_true rfl)) dX7_gear_81 ⟨Nat.le_of_ble_eq_true rfl, Nat.le_of_ble_eq_true rfl⟩) hD hS hA (fun r u H locs hw hP hD hS => ?_)
            have hr1 : r = (jX7_failWith o (-13 : Int32)).1 := congrArg Prod.fst hw
            have hu1 : u = (jX7_failWith o (-13 : Int32)).2 := congrArg Prod.snd hw
            rw [hu1] at hP hD
            rw [hr1]
            exact W.iret hx hb hr (fun t ht hW => ⟨⟨_, _, rfl, hJ.trans hE.symm, by rw [ht]; exact hP, va_K.moved hW.alike hK, hD⟩, hS.F ht⟩) hS.2.2 dX7_gear_84
          · rw [if_neg c8] at hJ
            rw [if_neg c8] at hV
            refine cs2 (c_vS o d5 = 1) (fun g1 kk => va_instY (C := RX0) hx hb hown (hts (.classLink RX7 112 "OrreryDials$Crank") (by decide +kernel)) hk.2.2.2.1 (va_recv hK hP (q := (RX0, TX0, 4)) rfl (wx_crank hk7 c8 g1)) dX7_gear_46 kk) (fun g1 kk => va_instY (C := RX3) hx hb hown (hts (.classLink RX7 112 "OrreryDials$Crank") (by decide +kernel)) hk.2.2.2.2.1 (va_recv hK hP (q := (RX3, TX3, 4)) rfl (wx_fly hk7 c8 g1)) dX7_gear_46 kk) ?_
            refine lv_if_eq (tgt := 78) hx hb dX7_gear_49 (by decide) (fun cq => absurd cq (by decide)) (fun cq => ?_)
            refine lv_aload_n hx hb dX7_gear_52 rfl (lv_at hl 0 rfl) ?_
            refine cs2 (c_vS o d5 = 1) (fun g1 kk => va_castY (C := RX0) hx hb hown (hts (.classLink RX7 112 "OrreryDials$Crank") (by decide +kernel)) hk.2.2.2.1 (va_recv hK hP (q := (RX0, TX0, 4)) rfl (wx_crank hk7 c8 g1)) dX7_gear_53 kk) (fun g1 kk => va_castY (C := RX3) hx hb hown (hts (.classLink RX7 112 "OrreryDials$Crank") (by decide +kernel)) hk.2.2.2.2.1 (va_recv hK hP (q := (RX3, TX3, 4)) rfl (wx_fly hk7 c8 g1)) dX7_gear_53 kk) ?_
            refine lv_astore (lv' := [(4, .ref (ad (200 + d5))), (3, .ref (ad (200 + d5))), (0, .ref x), (1, .int a1), (2, .int a2)]) hx hb dX7_gear_56 hl (by decide) rfl (fun ls hl => ?_)
            refine lv_aload hx hb dX7_gear_58 (lv_at hl 0 rfl) ?_
            refine cs2 (c_vS o d5 = 1) (fun g1 kk => (fun g0 => va_get (D := (dC, dI)) (ci := 0) (v := .int (c_vG o d5)) (C := RX0) (T := TX0) (N := 4) (fs := cx_crank o d5) hx hb hts hi_wsX00 hown hK hP (7 + (c_nd o + d5)) (wx_crank (o := o) hk7 g0 g1) rfl 3 (by decide) (hts (.fieldLink RX7 114 "OrreryDials$Crank" "gear" "I") (by decide +kernel)) (fun _ h9 => h9) rfl dX7_gear_60 kk) c8) (fun g1 kk => (fun g0 => va_get (D := (dC, dI)) (ci := 2) (v := .int (c_vG o d5)) (C := RX3) (T := TX3) (N := 4) (fs := cx_fly o d5) hx hb hts hi_wsX30 hown hK hP (7 + (c_nd o + d5)) (wx_fly (o := o) hk7 g0 g1) rfl 0 (by decide) (hts (.fieldLink RX7 114 "OrreryDials$Crank" "gear" "I") (by decide +kernel)) (fun _ h9 => h9) rfl dX7_gear_60 kk) c8) ?_
            refine lv_topi (fun y10 ey10 => ?_)
            rw [← ey10] at hJ
            rw [jX7_gear_y10] at hJ
            rw [← ey10] at hV
            rw [sX7_gear_y10] at hV
            have hV := hV.2
            refine lv_istore (lv' := [(5, .int y10), (4, .ref (ad (200 + d5))), (3, .ref (ad (200 + d5))), (0, .ref x), (1, .int a1), (2, .int a2)]) hx hb dX7_gear_63 hl (by decide) rfl (fun ls hl => ?_)
            refine lv_aload hx hb dX7_gear_65 (lv_at hl 1 rfl) ?_
            refine lv_iload_n hx hb dX7_gear_67 rfl (lv_at hl 5 rfl) ?_
            refine cs2k (P := fun H => va_P (dC, dI) vwCl (WX cy x ad (t_vG o (va_up (c_vG o) d5 a2))) H) (D := va_D A (WX cy x ad (t_vG o (va_up (c_vG o) d5 a2)))) (c_vS o d5 = 1) (fun g1 kk => (fun g0 => va_put (D := (dC, dI)) (ci := 0) (v := .int a2) (ty := .int) (C := RX0) (T := TX0) (N := 4) (fs := cx_crank o d5) hx hb hts hi_wsX00 tyX0 tyX0_ok nmX0 hown hK hP hD hS (7 + (c_nd o + d5)) (wx_crank (o := o) hk7 g0 g1) rfl 3 (by decide) (hts (.fieldLink RX7 114 "OrreryDials$Crank" "gear" "I") (by decide +kernel)) (fun _ h9 => h9) rfl (by decide +kernel) rfl rfl (Nat.le_of_ble_eq_true rfl) dX7_gear_68 (fun H locs hP hD hS => kk H locs (by rw [← wx_p_vG_crank (o := o) hk7 g0 g1]; exact hP) (by rw [← wx_p_vG_crank (o := o) hk7 g0 g1]; exact hD) hS)) c8) (fun g1 kk => (fun g0 => va_put (D := (dC, dI)) (ci := 2) (v := .int a2) (ty := .int) (C := RX3) (T := TX3) (N := 4) (fs := cx_fly o d5) hx hb hts hi_wsX30 tyX3 tyX3_ok nmX3 hown hK hP hD hS (7 + (c_nd o + d5)) (wx_fly (o := o) hk7 g0 g1) rfl 0 (by decide) (hts (.fieldLink RX7 114 "OrreryDials$Crank" "gear" "I") (by decide +kernel)) (fun _ h9 => h9) rfl (by decide +kernel) rfl rfl (Nat.le_of_ble_eq_true rfl) dX7_gear_68 (fun H locs hP hD hS => kk H locs (by rw [← wx_p_vG_fly (o := o) hk7 g0 g1]; exact hP) (by rw [← wx_p_vG_fly (o := o) hk7 g0 g1]; exact hD) hS)) c8) (fun H locs hP hD hS => ?_)
            refine lv_aload_n hx hb dX7_gear_71 rfl (lv_at hl 3 rfl) ?_
            refine lv_iload hx hb dX7_gear_72 (lv_at hl 0 rfl) ?_
            refine cl_i (va_runV (As := [.int y10]) (rest := []) ⟨hx, hb, hml, hown, hts⟩ (qX7_done l dC dI cy x ad H.size (t_vG o (va_up (c_vG o) d5 a2)) y10) (cwV 1 hts gX7_gear_X7_done rfl rfl rfl (by decide +kernel) ⟨Nat.le_of_ble_eq_true rfl, Nat.le_of_ble_eq_true rfl⟩) (pV hK hP hD hk (q0 := 0) (wx_h (o := (t_vG o (va_up (c_vG o) d5 a2))) rfl) rfl) rfl rfl hl.1 rfl (lv_room (Nat.le_of_ble_eq_true rfl)) dX7_gear_74 ⟨Nat.le_of_ble_eq_true rfl, Nat.le_of_ble_eq_true rfl⟩) hD hS hA (fun r u H locs hw hP hD hS => ?_)
            have hr1 : r = (jX7_done (t_vG o (va_up (c_vG o) d5 a2)) y10).1 := congrArg Prod.fst hw
            have hu1 : u = (jX7_done (t_vG o (va_up (c_vG o) d5 a2)) y10).2 := congrArg Prod.snd hw
            rw [hu1] at hP hD
            rw [hr1]
            exact W.iret hx hb hr (fun t ht hW => ⟨⟨_, _, rfl, hJ.trans hE.symm, by rw [ht]; exact hP, va_K.moved hW.alike hK, hD⟩, hS.F ht⟩) hS.2.2 dX7_gear_77
      · skip
        rw [if_neg c3] at hJ
        rw [if_neg c3] at hV
        refine lv_bipush (v := (-102 : Int32)) hx hb dX7_gear_24 (by decide) ?_
        exact W.iret hx hb hr (fun t ht hW => ⟨⟨_, _, rfl, hJ.trans hE.symm, by rw [ht]; exact hP, va_K.moved hW.alike hK, hD⟩, hS.F ht⟩) hS.2.2 dX7_gear_26
  · skip
    rw [if_pos c1] at hJ
    rw [if_pos c1] at hV
    refine lv_bipush (v := (-101 : Int32)) hx hb dX7_gear_7 (by decide) ?_
    exact W.iret hx hb hr (fun t ht hW => ⟨⟨_, _, rfl, hJ.trans hE.symm, by rw [ht]; exact hP, va_K.moved hW.alike hK, hD⟩, hS.F ht⟩) hS.2.2 dX7_gear_9
def jX7_lay (o : Os) (a1 : Int32) (a2 : Int32) (a3 : Int32) : Int32 × Os := (if (jX7_isShaft a1) = 0 then ((-101 : Int32), o) else (if (jX7_isSlot a3) = 0 then ((-101 : Int32), o) else (if (jX7_isShaftPlace a2) = 0 then ((jX7_failWith o (-12 : Int32)).1, (jX7_failWith o (-12 : Int32)).2) else (om (c_sl o a3.toNatClampNeg) (if a1 = (1 : Int32) then ((jX7_done (t_sh o (va_up (c_sh o) ((a1 * (4 : Int32)) + a2).toNatClampNeg none)) (1 : Int32)).1, (jX7_done (t_sh o (va_up (c_sh o) ((a1 * (4 : Int32)) + a2).toNatClampNeg none)) (1 : Int32)).2) else ((jX7_done (t_sh o (va_up (c_sh o) ((a1 * (4 : Int32)) + a2).toNatClampNeg none)) (1 : Int32)).1, (jX7_done (t_sh o (va_up (c_sh o) ((a1 * (4 : Int32)) + a2).toNatClampNeg none)) (1 : Int32)).2)) (fun d5 => (if a1 = (1 : Int32) then (if c_vS o d5 = 0 then ((jX7_failWith o (-14 : Int32)).1, (jX7_failWith o (-14 : Int32)).2) else ((jX7_done (t_sh o (va_up (c_sh o) ((a1 * (4 : Int32)) + a2).toNatClampNeg (some d5))) (1 : Int32)).1, (jX7_done (t_sh o (va_up (c_sh o) ((a1 * (4 : Int32)) + a2).toNatClampNeg (some d5))) (1 : Int32)).2)) else ((jX7_done (t_sh o (va_up (c_sh o) ((a1 * (4 : Int32)) + a2).toNatClampNeg (some d5))) (1 : Int32)).1, (jX7_done (t_sh o (va_up (c_sh o) ((a1 * (4 : Int32)) + a2).toNatClampNeg (some d5))) (1 : Int32)).2)))))))
def sX7_lay (o : Os) (a1 : Int32) (a2 : Int32) (a3 : Int32) : Prop := True ∧ (if (jX7_isShaft a1) = 0 then True else (if (jX7_isSlot a3) = 0 then True else (if (jX7_isShaftPlace a2) = 0 then (sX7_failWith o (-12 : Int32) ∧ True) else (vp_in a3 6 ∧ (om (c_sl o a3.toNatClampNeg) (if a1 = (1 : Int32) then (vp_in ((a1 * (4 : Int32)) + a2) 8 ∧ True) else (vp_in ((a1 * (4 : Int32)) + a2) 8 ∧ True)) (fun d5 => (if a1 = (1 : Int32) then (d5 < c_nv o ∧ (if c_vS o d5 = 0 then (sX7_failWith o (-14 : Int32) ∧ True) else (vp_in ((a1 * (4 : Int32)) + a2) 8 ∧ True))) else (vp_in ((a1 * (4 : Int32)) + a2) 8 ∧ (d5 < c_nv o ∧ True)))))))))
set_option linter.constructorNameAsVariable false in
set_option maxHeartbeats 8000000 in
set_option maxRecDepth 100000 in
theorem qX7_lay (l : Launch) (dC : Nat → ClassId) (dI : Nat → Nat → Nat) (cy : Nat → ClassId) (x : Nat) (ad : Nat → Nat) (sz : Nat) (o : Os) (a1 : Int32) (a2 : Int32) (a3 : Int32) (hV : sX7_lay o a1 a2 a3) : Met l yX7_lay wsX7_lay ({ frames := 1, cells := 0, slots := 0, locals := 22 }) (va_Pc [.ref x, .int a1, .int a2, .int a3] (wI (dC, dI) (tyA cy) (WX cy x ad o) sz)) (va_Qi (fun r u => (r, u) = jX7_lay o a1 a2 a3) (fun u t => wO (dC, dI) (tyA cy) (va_A (WX cy x ad o) sz) (WX cy x ad u) t) (va_A (WX cy x ad o) sz)) 0 0 (va_A (WX cy x ad o) sz) := by
  refine Met.ofW (cc := cX7_lay) (maxL := 5) (ret := some .int) (by decide) rfl ?_
  intro p e s m args below meth c s₁ B hml hv
  obtain ⟨rfl, hsz, hP, hK, hD0, hk⟩ := hv
  have hx := B.exec
  have hb := B.bytes
  have hr := B.returns
  have hts := atoms_spec (ws := wsX7_lay) B.pre
  have hown : s.vm.findClass RX7 = some m.cls := findClass_of_methodNamed B.named
  have hlocks := B.notSynchronized
  subst hsz
  have hD := hD0.self (sz := s.heap.size)
  generalize hAe : va_A (WX cy x ad o) s.heap.size = A at hD ⊢
  have hA : ∀ q : Nat, s.heap.size ≤ q → A q := fun q h => by rw [← hAe]; exact Or.inr h
  obtain ⟨H, hHe⟩ : ∃ H, s.heap = H := ⟨_, rfl⟩
  have hP : va_P (dC, dI) vwCl (WX cy x ad o) H := by rw [← hHe]; exact hP
  have hS : va_S A s.heap H [] := by rw [← hHe]; exact va_S.rf
  rw [w_heap hHe]
  have hi_wsX70 : ∀ w ∈ wsX70, w ∈ wsX7_lay := fun _ h => List.mem_cons_of_mem _ (List.mem_append_right _ h)
  obtain ⟨JR, hE⟩ : ∃ q, jX7_lay o a1 a2 a3 = q := ⟨_, rfl⟩
  have hJ := hE
  rw [jX7_lay] at hJ
  rw [sX7_lay] at hV
  have hV := hV.2
  have hl := lv_entry ([.ref x, .int a1, .int a2, .int a3]) (n := 5) (Nat.le_of_ble_eq_true rfl)
  rw [lg_entry_eq]
  generalize (lg_sl ([.ref x, .int a1, .int a2, .int a3]) ++ List.replicate (5 - (lg_sl ([.ref x, .int a1, .int a2, .int a3])).length) Slot.unset).toArray = ls at hl ⊢
  have hl : lv_has ls 5 [(0, .ref x), (1, .int a1), (2, .int a2), (3, .int a3)] := hl
  refine lv_iload_n hx hb dX7_lay_0 rfl (lv_at hl 1 rfl) ?_
  refine vp_callSi (W.runS (As := [.int a1]) (rest := []) ⟨hx, hb, hml, hown, hts⟩ (qX7_isShaft l a1) (va_cwS 1 hts gX7_lay_X7_isShaft rfl rfl rfl (by decide +kernel) ⟨Nat.le_of_ble_eq_true rfl, Nat.le_of_ble_eq_true rfl⟩) ⟨fun _ _ _ _ q => q, fun U hU hW => rfl⟩ rfl rfl hl.1 rfl (lv_room (Nat.le_of_ble_eq_true rfl)) dX7_lay_1 ⟨Nat.le_of_ble_eq_true rfl, Nat.le_of_ble_eq_true rfl⟩) (fun r hq9 => ?_)
  rw [hq9]
  refine lv_if_eq (tgt := 14) hx hb dX7_lay_4 (by decide) (fun c1 => ?_) (fun c1 => ?_)
  · skip
    rw [if_pos c1] at hJ
    rw [if_pos c1] at hV
    refine lv_bipush (v := (-101 : Int32)) hx hb dX7_lay_14 (by decide) ?_
    exact W.iret hx hb hr (fun t ht hW => ⟨⟨_, _, rfl, hJ.trans hE.symm, by rw [ht]; exact hP, va_K.moved hW.alike hK, hD⟩, hS.F ht⟩) hS.2.2 dX7_lay_16
  · skip
    rw [if_neg c1] at hJ
    rw [if_neg c1] at hV
    refine lv_iload_n hx hb dX7_lay_7 rfl (lv_at hl 3 rfl) ?_
    refine vp_callSi (W.runS (As := [.int a3]) (rest := []) ⟨hx, hb, hml, hown, hts⟩ (qX7_isSlot l a3) (va_cwS 1 hts gX7_lay_X7_isSlot rfl rfl rfl (by decide +kernel) ⟨Nat.le_of_ble_eq_true rfl, Nat.le_of_ble_eq_true rfl⟩) ⟨fun _ _ _ _ q => q, fun U hU hW => rfl⟩ rfl rfl hl.1 rfl (lv_room (Nat.le_of_ble_eq_true rfl)) dX7_lay_8 ⟨Nat.le_of_ble_eq_true rfl, Nat.le_of_ble_eq_true rfl⟩) (fun r hq9 => ?_)
    rw [hq9]
    refine lv_if_ne (tgt := 17) hx hb dX7_lay_11 (by decide) (fun c2 => ?_) (fun c2 => ?_)
    · skip
      rw [if_neg c2] at hJ
      rw [if_neg c2] at hV
      refine lv_iload_n hx hb dX7_lay_17 rfl (lv_at hl 2 rfl) ?_
      refine vp_callSi (W.runS (As := [.int a2]) (rest := []) ⟨hx, hb, hml, hown, hts⟩ (qX7_isShaftPlace l a2) (va_cwS 1 hts gX7_lay_X7_isShaftPlace rfl rfl rfl (by decide +kernel) ⟨Nat.le_of_ble_eq_true rfl, Nat.le_of_ble_eq_true rfl⟩) ⟨fun _ _ _ _ q => q, fun U hU hW => rfl⟩ rfl rfl hl.1 rfl (lv_room (Nat.le_of_ble_eq_true rfl)) dX7_lay_18 ⟨Nat.le_of_ble_eq_true rfl, Nat.le_of_ble_eq_true rfl⟩) (fun r hq9 => ?_)
      rw [hq9]
      refine lv_if_ne (tgt := 31) hx hb dX7_lay_21 (by decide) (fun c3 => ?_) (fun c3 => ?_)
      · skip
        rw [if_neg c3] at hJ
        rw [if_neg c3] at hV
        refine lv_aload_n hx hb dX7_lay_31 rfl (lv_at hl 0 rfl) ?_
        refine va_get (D := (dC, dI)) (ci := 5) (v := .ref (ad 3)) (C := RX7) (T := TX7) (N := 10) (fs := (cx_f ad o)) hx hb hts hi_wsX70 hown hK hP 0 (wx_h (o := o) rfl) rfl 4 (by decide) (hts (.fieldLink RX7 28 "OrreryDials" "slots" "[LOrreryDials$Drive;") (by decide +kernel)) (fun _ h9 => h9) rfl dX7_lay_32 ?_
        refine lv_iload_n hx hb dX7_lay_35 rfl (lv_at hl 3 rfl) ?_
        obtain ⟨hk4, hV⟩ := hV
        refine va_aldq hx hb hK hP 3 6 (wx_h (o := o) rfl) rfl hk4 dX7_lay_36 ?_
        rcases hd5 : c_sl o a3.toNatClampNeg with _ | d5
        · rw [hd5, om_n] at hJ
          rw [hd5, om_n] at hV
          refine rf_n (show cx_sr ad o a3.toNatClampNeg = none by unfold cx_sr; rw [hd5]; rfl) ?_
          refine lv_astoreN (lv' := [(4, .null), (0, .ref x), (1, .int a1), (2, .int a2), (3, .int a3)]) hx hb dX7_lay_37 hl (by decide) rfl (fun ls hl => ?_)
          refine lv_iload_n hx hb dX7_lay_39 rfl (lv_at hl 2 rfl) ?_
          refine lv_iconst (v := (1 : Int32)) hx hb dX7_lay_40 (by decide) ?_
          refine lv_icmp_ne (tgt := 64) hx hb dX7_lay_41 (by decide) (fun c6 => ?_) (fun c6 => ?_)
          · skip
            rw [if_neg c6] at hJ
            rw [if_neg c6] at hV
            refine lv_aload_n hx hb dX7_lay_64 rfl (lv_at hl 1 rfl) ?_
            refine va_get (D := (dC, dI)) (ci := 5) (v := .ref (ad 4)) (C := RX7) (T := TX7) (N := 10) (fs := (cx_f ad o)) hx hb hts hi_wsX70 hown hK hP 0 (wx_h (o := o) rfl) rfl 5 (by decide) (hts (.fieldLink RX7 31 "OrreryDials" "shaftPlaces" "[LOrreryDials$Drive;") (by decide +kernel)) (fun _ h9 => h9) rfl dX7_lay_65 ?_
            refine lv_iload_n hx hb dX7_lay_68 rfl (lv_at hl 2 rfl) ?_
            refine lv_iconst (v := (4 : Int32)) hx hb dX7_lay_69 (by decide) ?_
            refine lv_imul hx hb dX7_lay_70 ?_
            refine lv_iload_n hx hb dX7_lay_71 rfl (lv_at hl 3 rfl) ?_
            refine lv_iadd hx hb dX7_lay_72 ?_
            refine lv_aloadN hx hb dX7_lay_73 (lv_at hl 0 rfl) ?_
            obtain ⟨hk7, hV⟩ := hV
            refine va_astqN hx hb hK hP hD hS 4 6 (wx_h (o := o) rfl) rfl hk7 dX7_lay_75 (fun H locs hP hD hS => ?_)
            rw [wx_a_shN] at hP hD
            refine lv_aload_n hx hb dX7_lay_76 rfl (lv_at hl 1 rfl) ?_
            refine lv_iconst (v := (1 : Int32)) hx hb dX7_lay_77 (by decide) ?_
            refine cl_i (va_runV (As := [.int (1 : Int32)]) (rest := []) ⟨hx, hb, hml, hown, hts⟩ (qX7_done l dC dI cy x ad H.size (t_sh o (va_up (c_sh o) ((a1 * (4 : Int32)) + a2).toNatClampNeg none)) (1 : Int32)) (cwV 1 hts gX7_lay_X7_done rfl rfl rfl (by decide +kernel) ⟨Nat.le_of_ble_eq_true rfl, Nat.le_of_ble_eq_true rfl⟩) (pV hK hP hD hk (q0 := 0) (wx_h (o := (t_sh o (va_up (c_sh o) ((a1 * (4 : Int32)) + a2).toNatClampNeg none))) rfl) rfl) rfl rfl hl.1 rfl (lv_room (Nat.le_of_ble_eq_true rfl)) dX7_lay_78 ⟨Nat.le_of_ble_eq_true rfl, Nat.le_of_ble_eq_true rfl⟩) hD hS hA (fun r u H locs hw hP hD hS => ?_)
            have hr1 : r = (jX7_done (t_sh o (va_up (c_sh o) ((a1 * (4 : Int32)) + a2).toNatClampNeg none)) (1 : Int32)).1 := congrArg Prod.fst hw
            have hu1 : u = (jX7_done (t_sh o (va_up (c_sh o) ((a1 * (4 : Int32)) + a2).toNatClampNeg none)) (1 : Int32)).2 := congrArg Prod.snd hw
            rw [hu1] at hP hD
            rw [hr1]
            exact W.iret hx hb hr (fun t ht hW => ⟨⟨_, _, rfl, hJ.trans hE.symm, by rw [ht]; exact hP, va_K.moved hW.alike hK, hD⟩, hS.F ht⟩) hS.2.2 dX7_lay_81
          · skip
            rw [if_pos c6] at hJ
            rw [if_pos c6] at hV
            refine lv_aloadN hx hb dX7_lay_44 (lv_at hl 0 rfl) ?_
            refine lv_ifnullN (tgt := 64) hx hb dX7_lay_46 (by decide) ?_
            refine lv_aload_n hx hb dX7_lay_64 rfl (lv_at hl 1 rfl) ?_
            refine va_get (D := (dC, dI)) (ci := 5) (v := .ref (ad 4)) (C := RX7) (T := TX7) (N := 10) (fs := (cx_f ad o)) hx hb hts hi_wsX70 hown hK hP 0 (wx_h (o := o) rfl) rfl 5 (by decide) (hts (.fieldLink RX7 31 "OrreryDials" "shaftPlaces" "[LOrreryDials$Drive;") (by decide +kernel)) (fun _ h9 => h9) rfl dX7_lay_65 ?_
            refine lv_iload_n hx hb dX7_lay_68 rfl (lv_at hl 2 rfl) ?_
            refine lv_iconst (v := (4 : Int32)) hx hb dX7_lay_69 (by decide) ?_
            refine lv_imul hx hb dX7_lay_70 ?_
            refine lv_iload_n hx hb dX7_lay_71 rfl (lv_at hl 3 rfl) ?_
            refine lv_iadd hx hb dX7_lay_72 ?_
            refine lv_aloadN hx hb dX7_lay_73 (lv_at hl 0 rfl) ?_
            obtain ⟨hk8, hV⟩ := hV
            refine va_astqN hx hb hK hP hD hS 4 6 (wx_h (o := o) rfl) rfl hk8 dX7_lay_75 (fun H locs hP hD hS => ?_)
            rw [wx_a_shN] at hP hD
            refine lv_aload_n hx hb dX7_lay_76 rfl (lv_at hl 1 rfl) ?_
            refine lv_iconst (v := (1 : Int32)) hx hb dX7_lay_77 (by decide) ?_
            refine cl_i (va_runV (As := [.int (1 : Int32)]) (rest := []) ⟨hx, hb, hml, hown, hts⟩ (qX7_done l dC dI cy x ad H.size (t_sh o (va_up (c_sh o) ((a1 * (4 : Int32)) + a2).toNatClampNeg none)) (1 : Int32)) (cwV 1 hts gX7_lay_X7_done rfl rfl rfl (by decide +kernel) ⟨Nat.le_of_ble_eq_true rfl, Nat.le_of_ble_eq_true rfl⟩) (pV hK hP hD hk (q0 := 0) (wx_h (o := (t_sh o (va_up (c_sh o) ((a1 * (4 : Int32)) + a2).toNatClampNeg none))) rfl) rfl) rfl rfl hl.1 rfl (lv_room (Nat.le_of_ble_eq_true rfl)) dX7_lay_78 ⟨Nat.le_of_ble_eq_true rfl, Nat.le_of_ble_eq_true rfl⟩) hD hS hA (fun r u H locs hw hP hD hS => ?_)
            have hr1 : r = (jX7_done (t_sh o (va_up (c_sh o) ((a1 * (4 : Int32)) + a2).toNatClampNeg none)) (1 : Int32)).1 := congrArg Prod.fst hw
            have hu1 : u = (jX7_done (t_sh o (va_up (c_sh o) ((a1 * (4 : Int32)) + a2).toNatClampNeg none)) (1 : Int32)).2 := congrArg Prod.snd hw
            rw [hu1] at hP hD
            rw [hr1]
            exact W.iret hx hb hr (fun t ht hW => ⟨⟨_, _, rfl, hJ.trans hE.symm, by rw [ht]; exact hP, va_K.moved hW.alike hK, hD⟩, hS.F ht⟩) hS.2.2 dX7_lay_81
        · rw [hd5, om_s] at hJ
          rw [hd5, om_s] at hV
          refine rf_s (show cx_sr ad o a3.toNatClampNeg = some (ad (200 + d5)) by unfold cx_sr; rw [hd5]; rfl) ?_
          refine lv_astore (lv' := [(4, .ref (ad (200 + d5))), (0, .ref x), (1, .int a1), (2, .int a2), (3, .int a3)]) hx hb dX7_lay_37 hl (by decide) rfl (fun ls hl => ?_)
          refine lv_iload_n hx hb dX7_lay_39 rfl (lv_at hl 2 rfl) ?_
          refine lv_iconst (v := (1 : Int32)) hx hb dX7_lay_40 (by decide) ?_
          refine lv_icmp_ne (tgt := 64) hx hb dX7_lay_41 (by decide) (fun c9 => ?_) (fun c9 => ?_)
          · skip
            rw [if_neg c9] at hJ
            rw [if_neg c9] at hV
            refine lv_aload_n hx hb dX7_lay_64 rfl (lv_at hl 1 rfl) ?_
            refine va_get (D := (dC, dI)) (ci := 5) (v := .ref (ad 4)) (C := RX7) (T := TX7) (N := 10) (fs := (cx_f ad o)) hx hb hts hi_wsX70 hown hK hP 0 (wx_h (o := o) rfl) rfl 5 (by decide) (hts (.fieldLink RX7 31 "OrreryDials" "shaftPlaces" "[LOrreryDials$Drive;") (by decide +kernel)) (fun _ h9 => h9) rfl dX7_lay_65 ?_
            refine lv_iload_n hx hb dX7_lay_68 rfl (lv_at hl 2 rfl) ?_
            refine lv_iconst (v := (4 : Int32)) hx hb dX7_lay_69 (by decide) ?_
            refine lv_imul hx hb dX7_lay_70 ?_
            refine lv_iload_n hx hb dX7_lay_71 rfl (lv_at hl 3 rfl) ?_
            refine lv_iadd hx hb dX7_lay_72 ?_
            refine lv_aload hx hb dX7_lay_73 (lv_at hl 0 rfl) ?_
            obtain ⟨hk10, hV⟩ := hV
            obtain ⟨hk11, hV⟩ := hV
            refine cs3 (c_vS o d5 = 0) (c_vS o d5 = 1) (fun g0 kk => va_astqO hx hb hK hP hD hS 4 6 (7 + (c_nd o + d5)) 4 (wx_h (o := o) rfl) rfl hk.2.2.1 (wx_spring (o := o) hk11 g0) rfl hk10 dX7_lay_75 kk) (fun g0 g1 kk => va_astqO hx hb hK hP hD hS 4 6 (7 + (c_nd o + d5)) 0 (wx_h (o := o) rfl) rfl hk.1 (wx_crank (o := o) hk11 g0 g1) rfl hk10 dX7_lay_75 kk) (fun g0 g1 kk => va_astqO hx hb hK hP hD hS 4 6 (7 + (c_nd o + d5)) 2 (wx_h (o := o) rfl) rfl hk.2.1 (wx_fly (o := o) hk11 g0 g1) rfl hk10 dX7_lay_75 kk) (fun H locs hP hD hS => ?_)
            rw [wx_a_shS] at hP hD
            refine lv_aload_n hx hb dX7_lay_76 rfl (lv_at hl 1 rfl) ?_
            refine lv_iconst (v := (1 : Int32)) hx hb dX7_lay_77 (by decide) ?_
            refine cl_i (va_runV (As := [.int (1 : Int32)]) (rest := []) ⟨hx, hb, hml, hown, hts⟩ (qX7_done l dC dI cy x ad H.size (t_sh o (va_up (c_sh o) ((a1 * (4 : Int32)) + a2).toNatClampNeg (some d5))) (1 : Int32)) (cwV 1 hts gX7_lay_X7_done rfl rfl rfl (by decide +kernel) ⟨Nat.le_of_ble_eq_true rfl, Nat.le_of_ble_eq_true rfl⟩) (pV hK hP hD hk (q0 := 0) (wx_h (o := (t_sh o (va_up (c_sh o) ((a1 * (4 : Int32)) + a2).toNatClampNeg (some d5)))) rfl) rfl) rfl rfl hl.1 rfl (lv_room (Nat.le_of_ble_eq_true rfl)) dX7_lay_78 ⟨Nat.le_of_ble_eq_true rfl, Nat.le_of_ble_eq_true rfl⟩) hD hS hA (fun r u H locs hw hP hD hS => ?_)
            have hr1 : r = (jX7_done (t_sh o (va_up (c_sh o) ((a1 * (4 : Int32)) + a2).toNatClampNeg (some d5))) (1 : Int32)).1 := congrArg Prod.fst hw
            have hu1 : u = (jX7_done (t_sh o (va_up (c_sh o) ((a1 * (4 : Int32)) + a2).toNatClampNeg (some d5))) (1 : Int32)).2 := congrArg Prod.snd hw
            rw [hu1] at hP hD
            rw [hr1]
            exact W.iret hx hb hr (fun t ht hW => ⟨⟨_, _, rfl, hJ.trans hE.symm, by rw [ht]; exact hP, va_K.moved hW.alike hK, hD⟩, hS.F ht⟩) hS.2.2 dX7_lay_81
          · skip
            rw [if_pos c9] at hJ
            rw [if_pos c9] at hV
            refine lv_aload hx hb dX7_lay_44 (lv_at hl 0 rfl) ?_
            refine lv_ifnull hx hb dX7_lay_46 ?_
            refine lv_aload hx hb dX7_lay_49 (lv_at hl 0 rfl) ?_
            obtain ⟨hk12, hV⟩ := hV
            by_cases c13 : c_vS o d5 = 0
            · rw [if_pos c13] at hJ
              rw [if_pos c13] at hV
              refine va_instNo (C := RX6) hx hb hown (hts (.classLink RX7 112 "OrreryDials$Crank") (by decide +kernel)) hk.2.2.2.2.2.1 (va_recv hK hP (q := (RX6, TX6, 3)) rfl (wx_spring hk12 c13)) dX7_lay_51 ?_
              refine lv_if_ne (tgt := 64) hx hb dX7_lay_54 (by decide) (fun cq => absurd cq (by decide)) (fun cq => ?_)
              refine lv_aload_n hx hb dX7_lay_57 rfl (lv_at hl 1 rfl) ?_
              refine lv_bipush (v := (-14 : Int32)) hx hb dX7_lay_58 (by decide) ?_
              obtain ⟨hk14, hV⟩ := hV
              refine cl_i (va_runV (As := [.int (-14 : Int32)]) (rest := []) ⟨hx, hb, hml, hown, hts⟩ (qX7_failWith l dC dI cy x ad H.size o (-14 : Int32) hk14) (cwV 1 hts gX7_lay_X7_failWith rfl rfl rfl (by decide +kernel) ⟨Nat.le_of_ble_eq_true rfl, Nat.le_of_ble_eq_true rfl⟩) (pV hK hP hD hk (q0 := 0) (wx_h (o := o) rfl) rfl) rfl rfl hl.1 rfl (lv_room (Nat.le_of_ble_eq_true rfl)) dX7_lay_60 ⟨Nat.le_of_ble_eq_true rfl, Nat.le_of_ble_eq_true rfl⟩) hD hS hA (fun r u H locs hw hP hD hS => ?_)
              have hr1 : r = (jX7_failWith o (-14 : Int32)).1 := congrArg Prod.fst hw
              have hu1 : u = (jX7_failWith o (-14 : Int32)).2 := congrArg Prod.snd hw
              rw [hu1] at hP hD
              rw [hr1]
              exact W.iret hx hb hr (fun t ht hW => ⟨⟨_, _, rfl, hJ.trans hE.symm, by rw [ht]; exact hP, va_K.moved hW.alike hK, hD⟩, hS.F ht⟩) hS.2.2 dX7_lay_63
            · rw [if_neg c13] at hJ
              rw [if_neg c13] at hV
              refine cs2 (c_vS o d5 = 1) (fun g1 kk => va_instY (C := RX0) hx hb hown (hts (.classLink RX7 112 "OrreryDials$Crank") (by decide +kernel)) hk.2.2.2.1 (va_recv hK hP (q := (RX0, TX0, 4)) rfl (wx_crank hk12 c13 g1)) dX7_lay_51 kk) (fun g1 kk => va_instY (C := RX3) hx hb hown (hts (.classLink RX7 112 "OrreryDials$Crank") (by decide +kernel)) hk.2.2.2.2.1 (va_recv hK hP (q := (RX3, TX3, 4)) rfl (wx_fly hk12 c13 g1)) dX7_lay_51 kk) ?_
              refine lv_if_ne (tgt := 64) hx hb dX7_lay_54 (by decide) (fun cq => ?_) (fun cq => absurd cq (by decide))
              refine lv_aload_n hx hb dX7_lay_64 rfl (lv_at hl 1 rfl) ?_
              refine va_get (D := (dC, dI)) (ci := 5) (v := .ref (ad 4)) (C := RX7) (T := TX7) (N := 10) (fs := (cx_f ad o)) hx hb hts hi_wsX70 hown hK hP 0 (wx_h (o := o) rfl) rfl 5 (by decide) (hts (.fieldLink RX7 31 "OrreryDials" "shaftPlaces" "[LOrreryDials$Drive;") (by decide +kernel)) (fun _ h9 => h9) rfl dX7_lay_65 ?_
              refine lv_iload_n hx hb dX7_lay_68 rfl (lv_at hl 2 rfl) ?_
              refine lv_iconst (v := (4 : Int32)) hx hb dX7_lay_69 (by decide) ?_
              refine lv_imul hx hb dX7_lay_70 ?_
              refine lv_iload_n hx hb dX7_lay_71 rfl (lv_at hl 3 rfl) ?_
              refine lv_iadd hx hb dX7_lay_72 ?_
              refine lv_aload hx hb dX7_lay_73 (lv_at hl 0 rfl) ?_
              obtain ⟨hk15, hV⟩ := hV
              refine cs3 (c_vS o d5 = 0) (c_vS o d5 = 1) (fun g0 kk => va_astqO hx hb hK hP hD hS 4 6 (7 + (c_nd o + d5)) 4 (wx_h (o := o) rfl) rfl hk.2.2.1 (wx_spring (o := o) hk12 g0) rfl hk15 dX7_lay_75 kk) (fun g0 g1 kk => va_astqO hx hb hK hP hD hS 4 6 (7 + (c_nd o + d5)) 0 (wx_h (o := o) rfl) rfl hk.1 (wx_crank (o := o) hk12 g0 g1) rfl hk15 dX7_lay_75 kk) (fun g0 g1 kk => va_astqO hx hb hK hP hD hS 4 6 (7 + (c_nd o + d5)) 2 (wx_h (o := o) rfl) rfl hk.2.1 (wx_fly (o := o) hk12 g0 g1) rfl hk15 dX7_lay_75 kk) (fun H locs hP hD hS => ?_)
              rw [wx_a_shS] at hP hD
              refine lv_aload_n hx hb dX7_lay_76 rfl (lv_at hl 1 rfl) ?_
              refine lv_iconst (v := (1 : Int32)) hx hb dX7_lay_77 (by decide) ?_
              refine cl_i (va_runV (As := [.int (1 : Int32)]) (rest := []) ⟨hx, hb, hml, hown, hts⟩ (qX7_done l dC dI cy x ad H.size (t_sh o (va_up (c_sh o) ((a1 * (4 : Int32)) + a2).toNatClampNeg (some d5))) (1 : Int32)) (cwV 1 hts gX7_lay_X7_done rfl rfl rfl (by decide +kernel) ⟨Nat.le_of_ble_eq_true rfl, Nat.le_of_ble_eq_true rfl⟩) (pV hK hP hD hk (q0 := 0) (wx_h (o := (t_sh o (va_up (c_sh o) ((a1 * (4 : Int32)) + a2).toNatClampNeg (some d5)))) rfl) rfl) rfl rfl hl.1 rfl (lv_room (Nat.le_of_ble_eq_true rfl)) dX7_lay_78 ⟨Nat.le_of_ble_eq_true rfl, Nat.le_of_ble_eq_true rfl⟩) hD hS hA (fun r u H locs hw hP hD hS => ?_)
              have hr1 : r = (jX7_done (t_sh o (va_up (c_sh o) ((a1 * (4 : Int32)) + a2).toNatClampNeg (some d5))) (1 : Int32)).1 := congrArg Prod.fst hw
              have hu1 : u = (jX7_done (t_sh o (va_up (c_sh o) ((a1 * (4 : Int32)) + a2).toNatClampNeg (some d5))) (1 : Int32)).2 := congrArg Prod.snd hw
              rw [hu1] at hP hD
              rw [hr1]
              exact W.iret hx hb hr (fun t ht hW => ⟨⟨_, _, rfl, hJ.trans hE.symm, by rw [ht]; exact hP, va_K.moved hW.alike hK, hD⟩, hS.F ht⟩) hS.2.2 dX7_lay_81
      · skip
        rw [if_pos c3] at hJ
        rw [if_pos c3] at hV
        refine lv_aload_n hx hb dX7_lay_24 rfl (lv_at hl 0 rfl) ?_
        refine lv_bipush (v := (-12 : Int32)) hx hb dX7_lay_25 (by decide) ?_
        obtain ⟨hk16, hV⟩ := hV
        refine cl_i (va_runV (As := [.int (-12 : Int32)]) (rest := []) ⟨hx, hb, hml, hown, hts⟩ (qX7_failWith l dC dI cy x ad H.size o (-12 : Int32) hk16) (cwV 1 hts gX7_lay_X7_failWith rfl rfl rfl (by decide +kernel) ⟨Nat.le_of_ble_eq_true rfl, Nat.le_of_ble_eq_true rfl⟩) (pV hK hP hD hk (q0 := 0) (wx_h (o := o) rfl) rfl) rfl rfl hl.1 rfl (lv_room (Nat.le_of_ble_eq_true rfl)) dX7_lay_27 ⟨Nat.le_of_ble_eq_true rfl, Nat.le_of_ble_eq_true rfl⟩) hD hS hA (fun r u H locs hw hP hD hS => ?_)
        have hr1 : r = (jX7_failWith o (-12 : Int32)).1 := congrArg Prod.fst hw
        have hu1 : u = (jX7_failWith o (-12 : Int32)).2 := congrArg Prod.snd hw
        rw [hu1] at hP hD
        rw [hr1]
        exact W.iret hx hb hr (fun t ht hW => ⟨⟨_, _, rfl, hJ.trans hE.symm, by rw [ht]; exact hP, va_K.moved hW.alike hK, hD⟩, hS.F ht⟩) hS.2.2 dX7_lay_30
    · skip
      rw [if_pos c2] at hJ
      rw [if_pos c2] at hV
      refine lv_bipush (v := (-101 : Int32)) hx hb dX7_lay_14 (by decide) ?_
      exact W.iret hx hb hr (fun t ht hW => ⟨⟨_, _, rfl, hJ.trans hE.symm, by rw [ht]; exact hP, va_K.moved hW.alike hK, hD⟩, hS.F ht⟩) hS.2.2 dX7_lay_16
def jX7_wind_o30 (o : Os) (a1 : Int32) (a2 : Int32) (d2 : Nat) (d6 : Nat) (d12 : Nat) (d18 : Nat) (d24 : Nat) (o30 : Os) : Int32 × Os := ((3 : Int32), o30)
def sX7_wind_o30 (o : Os) (a1 : Int32) (a2 : Int32) (d2 : Nat) (d6 : Nat) (d12 : Nat) (d18 : Nat) (d24 : Nat) (o30 : Os) : Prop := True ∧ True
def jX7_wind (o : Os) (a1 : Int32) (a2 : Int32) : Int32 × Os := (om (jX7_dialAt o a2) (if (jX7_isShaft a1) = 0 then ((-101 : Int32), o) else ((-101 : Int32), o)) (fun d2 => (if (jX7_isShaft a1) = 0 then ((-101 : Int32), o) else (om (c_sh o ((a1 * (4 : Int32)) + (0 : Int32)).toNatClampNeg) ((0 : Int32), (jX7_failWith o (-11 : Int32)).2) (fun d6 => (if ((jX2_pullAt o d6 d2).1) = 0 then ((0 : Int32), (jX7_failWith ((jX2_pullAt o d6 d2).2) (-15 : Int32)).2) else (om (c_sh ((jX2_pullAt o d6 d2).2) ((a1 * (4 : Int32)) + (1 : Int32)).toNatClampNeg) ((1 : Int32), (jX7_failWith ((jX2_pullAt o d6 d2).2) (-11 : Int32)).2) (fun d12 => (if ((jX2_pullAt ((jX2_pullAt o d6 d2).2) d12 d2).1) = 0 then ((1 : Int32), (jX7_failWith ((jX2_pullAt ((jX2_pullAt o d6 d2).2) d12 d2).2) (-15 : Int32)).2) else (om (c_sh ((jX2_pullAt ((jX2_pullAt o d6 d2).2) d12 d2).2) ((a1 * (4 : Int32)) + (2 : Int32)).toNatClampNeg) ((2 : Int32), (jX7_failWith ((jX2_pullAt ((jX2_pullAt o d6 d2).2) d12 d2).2) (-11 : Int32)).2) (fun d18 => (if ((jX2_pullAt ((jX2_pullAt ((jX2_pullAt o d6 d2).2) d12 d2).2) d18 d2).1) = 0 then ((2 : Int32), (jX7_failWith ((jX2_pullAt ((jX2_pullAt ((jX2_pullAt o d6 d2).2) d12 d2).2) d18 d2).2) (-15 : Int32)).2) else (om (c_sh ((jX2_pullAt ((jX2_pullAt ((jX2_pullAt o d6 d2).2) d12 d2).2) d18 d2).2) ((a1 * (4 : Int32)) + (3 : Int32)).toNatClampNeg) ((3 : Int32), (jX7_failWith ((jX2_pullAt ((jX2_pullAt ((jX2_pullAt o d6 d2).2) d12 d2).2) d18 d2).2) (-11 : Int32)).2) (fun d24 => (if ((jX2_pullAt ((jX2_pullAt ((jX2_pullAt ((jX2_pullAt o d6 d2).2) d12 d2).2) d18 d2).2) d24 d2).1) = 0 then (jX7_wind_o30 o a1 a2 d2 d6 d12 d18 d24 ((jX7_failWith ((jX2_pullAt ((jX2_pullAt ((jX2_pullAt ((jX2_pullAt o d6 d2).2) d12 d2).2) d18 d2).2) d24 d2).2) (-15 : Int32)).2)) else ((jX7_done ((jX2_pullAt ((jX2_pullAt ((jX2_pullAt ((jX2_pullAt o d6 d2).2) d12 d2).2) d18 d2).2) d24 d2).2) (4 : Int32)).1, (jX7_done ((jX2_pullAt ((jX2_pullAt ((jX2_pullAt ((jX2_pullAt o d6 d2).2) d12 d2).2) d18 d2).2) d24 d2).2) (4 : Int32)).2))))))))))))))))
def sX7_wind (o : Os) (a1 : Int32) (a2 : Int32) : Prop := True ∧ (sX7_dialAt o a2 ∧ (om (jX7_dialAt o a2) (if (jX7_isShaft a1) = 0 then True else True) (fun d2 => (if (jX7_isShaft a1) = 0 then True else (vp_in ((a1 * (4 : Int32)) + (0 : Int32)) 8 ∧ (om (c_sh o ((a1 * (4 : Int32)) + (0 : Int32)).toNatClampNeg) (sX7_failWith o (-11 : Int32) ∧ True) (fun d6 => (sX2_pullAt o d6 d2 ∧ (d6 < c_nv o ∧ (if ((jX2_pullAt o d6 d2).1) = 0 then (sX7_failWith ((jX2_pullAt o d6 d2).2) (-15 : Int32) ∧ True) else (vp_in ((a1 * (4 : Int32)) + (1 : Int32)) 8 ∧ (om (c_sh ((jX2_pullAt o d6 d2).2) ((a1 * (4 : Int32)) + (1 : Int32)).toNatClampNeg) (sX7_failWith ((jX2_pullAt o d6 d2).2) (-11 : Int32) ∧ True) (fun d12 => (sX2_pullAt ((jX2_pullAt o d6 d2).2) d12 d2 ∧ (d12 < c_nv ((jX2_pullAt o d6 d2).2) ∧ (if ((jX2_pullAt ((jX2_pullAt o d6 d2).2) d12 d2).1) = 0 then (sX7_failWith ((jX2_pullAt ((jX2_pullAt o d6 d2).2) d12 d2).2) (-15 : Int32) ∧ True) else (vp_in ((a1 * (4 : Int32)) + (2 : Int32)) 8 ∧ (om (c_sh ((jX2_pullAt ((jX2_pullAt o d6 d2).2) d12 d2).2) ((a1 * (4 : Int32)) + (2 : Int32)).toNatClampNeg) (sX7_failWith ((jX2_pullAt ((jX2_pullAt o d6 d2).2) d12 d2).2) (-11 : Int32) ∧ True) (fun d18 => (sX2_pullAt ((jX2_pullAt ((jX2_pullAt o d6 d2).2) d12 d2).2) d18 d2 ∧ (d18 < c_nv ((jX2_pullAt ((jX2_pullAt o d6 d2).2) d12 d2).2) ∧ (if ((jX2_pullAt ((jX2_pullAt ((jX2_pullAt o d6 d2).2) d12 d2).2) d18 d2).1) = 0 then (sX7_failWith ((jX2_pullAt ((jX2_pullAt ((jX2_pullAt o d6 d2).2) d12 d2).2) d18 d2).2) (-15 : Int32) ∧ True) else (vp_in ((a1 * (4 : Int32)) + (3 : Int32)) 8 ∧ (om (c_sh ((jX2_pullAt ((jX2_pullAt ((jX2_pullAt o d6 d2).2) d12 d2).2) d18 d2).2) ((a1 * (4 : Int32)) + (3 : Int32)).toNatClampNeg) (sX7_failWith ((jX2_pullAt ((jX2_pullAt ((jX2_pullAt o d6 d2).2) d12 d2).2) d18 d2).2) (-11 : Int32) ∧ True) (fun d24 => (sX2_pullAt ((jX2_pullAt ((jX2_pullAt ((jX2_pullAt o d6 d2).2) d12 d2).2) d18 d2).2) d24 d2 ∧ (d24 < c_nv ((jX2_pullAt ((jX2_pullAt ((jX2_pullAt o d6 d2).2) d12 d2).2) d18 d2).2) ∧ (if ((jX2_pullAt ((jX2_pullAt ((jX2_pullAt ((jX2_pullAt o d6 d2).2) d12 d2).2) d18 d2).2) d24 d2).1) = 0 then (sX7_failWith ((jX2_pullAt ((jX2_pullAt ((jX2_pullAt ((jX2_pullAt o d6 d2).2) d12 d2).2) d18 d2).2) d24 d2).2) (-15 : Int32) ∧ (sX7_wind_o30 o a1 a2 d2 d6 d12 d18 d24 ((jX7_failWith ((jX2_pullAt ((jX2_pullAt ((jX2_pullAt ((jX2_pullAt o d6 d2).2) d12 d2).2) d18 d2).2) d24 d2).2) (-15 : Int32)).2))) else True))))))))))))))))))))))))))))
set_option linter.constructorNameAsVariable false in
set_option maxHeartbeats 8000000 in
set_option maxRecDepth 100000 in
theorem qX7_wind (l : Launch) (dC : Nat → ClassId) (dI : Nat → Nat → Nat) (cy : Nat → ClassId) (x : Nat) (ad : Nat → Nat) (sz : Nat) (o : Os) (a1 : Int32) (a2 : Int32) (hV : sX7_wind o a1 a2) : Met l yX7_wind wsX7_wind ({ frames := 7, cells := 0, slots := 0, locals := 185 }) (va_Pc [.ref x, .int a1, .int a2] (wI (dC, dI) (tyA cy) (WX cy x ad o) sz)) (va_Qi (fun r u => (r, u) = jX7_wind o a1 a2) (fun u t => wO (dC, dI) (tyA cy) (va_A (WX cy x ad o) sz) (WX cy x ad u) t) (va_A (WX cy x ad o) sz)) 0 0 (va_A (WX cy x ad o) sz) := by
  refine Met.ofW (cc := cX7_wind) (maxL := 6) (ret := some .int) (by decide) rfl ?_
  intro p e s m args below meth c s₁ B hml hv
  obtain ⟨rfl, hsz, hP, hK, hD0, hk⟩ := hv
  have hx := B.exec
  have hb := B.bytes
  have hr := B.returns
  have hts := atoms_spec (ws := wsX7_wind) B.pre
  have hown : s.vm.findClass RX7 = some m.cls := findClass_of_methodNamed B.named
  have hlocks := B.notSynchronized
  subst hsz
  have hD := hD0.self (sz := s.heap.size)
  generalize hAe : va_A (WX cy x ad o) s.heap.size = A at hD ⊢
  have hA : ∀ q : Nat, s.heap.size ≤ q → A q := fun q h => by rw [← hAe]; exact Or.inr h
  obtain ⟨H, hHe⟩ : ∃ H, s.heap = H := ⟨_, rfl⟩
  have hP : va_P (dC, dI) vwCl (WX cy x ad o) H := by rw [← hHe]; exact hP
  have hS : va_S A s.heap H [] := by rw [← hHe]; exact va_S.rf
  rw [w_heap hHe]
  have hi_wsX70 : ∀ w ∈ wsX70, w ∈ wsX7_wind := fun _ h => List.mem_cons_of_mem _ (List.mem_append_left _ (List.mem_append_left _ (List.mem_append_left _ (List.mem_append_left _ (List.mem_append_right _ h)))))
  have hi_wsX10 : ∀ w ∈ wsX10, w ∈ wsX7_wind := fun _ h => List.mem_cons_of_mem _ (List.mem_append_left _ (List.mem_append_left _ (List.mem_append_left _ (List.mem_append_right _ h))))
  have hi_wsX00 : ∀ w ∈ wsX00, w ∈ wsX7_wind := fun _ h => List.mem_cons_of_mem _ (List.mem_append_left _ (List.mem_append_left _ (List.mem_append_right _ h)))
  have hi_wsX30 : ∀ w ∈ wsX30, w ∈ wsX7_wind := fun _ h => List.mem_cons_of_mem _ (List.mem_append_left _ (List.mem_append_right _ h))
  have hi_wsX60 : ∀ w ∈ wsX60, w ∈ wsX7_wind := fun _ h => List.mem_cons_of_mem _ (List.mem_append_right _ h)
  obtain ⟨JR, hE⟩ : ∃ q, jX7_wind o a1 a2 = q := ⟨_, rfl⟩
  have hJ := hE
  rw [jX7_wind] at hJ
  rw [sX7_wind] at hV
  have hV := hV.2
  have hl := lv_entry ([.ref x, .int a1, .int a2]) (n := 6) (Nat.le_of_ble_eq_true rfl)
  rw [lg_entry_eq]
  generalize (lg_sl ([.ref x, .int a1, .int a2]) ++ List.replicate (6 - (lg_sl ([.ref x, .int a1, .int a2])).length) Slot.unset).toArray = ls at hl ⊢
  have hl : lv_has ls 6 [(0, .ref x), (1, .int a1), (2, .int a2)] := hl
  refine lv_aload_n hx hb dX7_wind_0 rfl (lv_at hl 0 rfl) ?_
  refine lv_iload_n hx hb dX7_wind_1 rfl (lv_at hl 2 rfl) ?_
  obtain ⟨hk1, hV⟩ := hV
  refine va_csq (W.runV (As := [.int a2]) (rest := []) ⟨hx, hb, hml, hown, hts⟩ (qX7_dialAt l dC dI cy x ad H.size o a2 hk1) (cwV 1 hts gX7_wind_X7_dialAt rfl rfl rfl (by decide +kernel) ⟨Nat.le_of_ble_eq_true rfl, Nat.le_of_ble_eq_true rfl⟩) (pV hK hP hD hk (q0 := 0) (wx_h (o := o) rfl) rfl) rfl rfl hl.1 rfl (lv_room (Nat.le_of_ble_eq_true rfl)) dX7_wind_2 ⟨Nat.le_of_ble_eq_true rfl, Nat.le_of_ble_eq_true rfl⟩) (fun r hq9 => ?_)
  rcases hd2 : jX7_dialAt o a2 with _ | d2
  · rw [hd2, om_n] at hJ
    rw [hd2, om_n] at hV
    rw [hd2] at hq9
    refine rf_n hq9 ?_
    refine lv_astore_nN (lv' := [(3, .null), (0, .ref x), (1, .int a1), (2, .int a2)]) hx hb dX7_wind_5 rfl hl (by decide) rfl (fun ls hl => ?_)
    refine lv_iload_n hx hb dX7_wind_6 rfl (lv_at hl 2 rfl) ?_
    refine vp_callSi (W.runS (As := [.int a1]) (rest := []) ⟨hx, hb, hml, hown, hts⟩ (qX7_isShaft l a1) (va_cwS 1 hts gX7_wind_X7_isShaft rfl rfl rfl (by decide +kernel) ⟨Nat.le_of_ble_eq_true rfl, Nat.le_of_ble_eq_true rfl⟩) ⟨fun _ _ _ _ q => q, fun U hU hW => rfl⟩ rfl rfl hl.1 rfl (lv_room (Nat.le_of_ble_eq_true rfl)) dX7_wind_7 ⟨Nat.le_of_ble_eq_true rfl, Nat.le_of_ble_eq_true rfl⟩) (fun r hq9 => ?_)
    rw [hq9]
    refine lv_if_eq (tgt := 17) hx hb dX7_wind_10 (by decide) (fun c3 => ?_) (fun c3 => ?_)
    · skip
      rw [if_pos c3] at hJ
      rw [if_pos c3] at hV
      refine lv_bipush (v := (-101 : Int32)) hx hb dX7_wind_17 (by decide) ?_
      exact W.iret hx hb hr (fun t ht hW => ⟨⟨_, _, rfl, hJ.trans hE.symm, by rw [ht]; exact hP, va_K.moved hW.alike hK, hD⟩, hS.F ht⟩) hS.2.2 dX7_wind_19
    · skip
      rw [if_neg c3] at hJ
      rw [if_neg c3] at hV
      refine lv_aload_nN hx hb dX7_wind_13 rfl (lv_at hl 0 rfl) ?_
      refine lv_ifnonnullN hx hb dX7_wind_14 ?_
      refine lv_bipush (v := (-101 : Int32)) hx hb dX7_wind_17 (by decide) ?_
      exact W.iret hx hb hr (fun t ht hW => ⟨⟨_, _, rfl, hJ.trans hE.symm, by rw [ht]; exact hP, va_K.moved hW.alike hK, hD⟩, hS.F ht⟩) hS.2.2 dX7_wind_19
  · rw [hd2, om_s] at hJ
    rw [hd2, om_s] at hV
    rw [hd2] at hq9
    refine rf_s hq9 ?_
    refine lv_astore_n (lv' := [(3, .ref (ad (100 + d2))), (0, .ref x), (1, .int a1), (2, .int a2)]) hx hb dX7_wind_5 rfl hl (by decide) rfl (fun ls hl => ?_)
    refine lv_iload_n hx hb dX7_wind_6 rfl (lv_at hl 2 rfl) ?_
    refine vp_callSi (W.runS (As := [.int a1]) (rest := []) ⟨hx, hb, hml, hown, hts⟩ (qX7_isShaft l a1) (va_cwS 1 hts gX7_wind_X7_isShaft rfl rfl rfl (by decide +kernel) ⟨Nat.le_of_ble_eq_true rfl, Nat.le_of_ble_eq_true rfl⟩) ⟨fun _ _ _ _ q => q, fun U hU hW => rfl⟩ rfl rfl hl.1 rfl (lv_room (Nat.le_of_ble_eq_true rfl)) dX7_wind_7 ⟨Nat.le_of_ble_eq_true rfl, Nat.le_of_ble_eq_true rfl⟩) (fun r hq9 => ?_)
    rw [hq9]
    refine lv_if_eq (tgt := 17) hx hb dX7_wind_10 (by decide) (fun c4 => ?_) (fun c4 => ?_)
    · skip
      rw [if_pos c4] at hJ
      rw [if_pos c4] at hV
      refine lv_bipush (v := (-101 : Int32)) hx hb dX7_wind_17 (by decide) ?_
      exact W.iret hx hb hr (fun t ht hW => ⟨⟨_, _, rfl, hJ.trans hE.symm, by rw [ht]; exact hP, va_K.moved hW.alike hK, hD⟩, hS.F ht⟩) hS.2.2 dX7_wind_19
    · skip
      rw [if_neg c4] at hJ
      rw [if_neg c4] at hV
      refine lv_aload_n hx hb dX7_wind_13 rfl (lv_at hl 0 rfl) ?_
      refine lv_ifnonnull (tgt := 20) hx hb dX7_wind_14 (by decide) ?_
      refine lv_iconst (v := (0 : Int32)) hx hb dX7_wind_20 (by decide) ?_
      refine lv_istore (lv' := [(4, .int (0 : Int32)), (3, .ref (ad (100 + d2))), (0, .ref x), (1, .int a1), (2, .int a2)]) hx hb dX7_wind_21 hl (by decide) rfl (fun ls hl => ?_)
      refine lv_iload hx hb dX7_wind_23 (lv_at hl 0 rfl) ?_
      refine lv_iconst (v := (4 : Int32)) hx hb dX7_wind_25 (by decide) ?_
      refine lv_icmp_ge (tgt := 82) hx hb dX7_wind_26 (by decide) (fun cq => absurd cq (by decide)) (fun cq => ?_)
      refine lv_aload_n hx hb dX7_wind_29 rfl (lv_at hl 2 rfl) ?_
      refine va_get (D := (dC, dI)) (ci := 5) (v := .ref (ad 4)) (C := RX7) (T := TX7) (N := 10) (fs := (cx_f ad o)) hx hb hts hi_wsX70 hown hK hP 0 (wx_h (o := o) rfl) rfl 5 (by decide) (hts (.fieldLink RX7 31 "OrreryDials" "shaftPlaces" "[LOrreryDials$Drive;") (by decide +kernel)) (fun _ h9 => h9) rfl dX7_wind_30 ?_
      refine lv_iload_n hx hb dX7_wind_33 rfl (lv_at hl 3 rfl) ?_
      refine lv_iconst (v := (4 : Int32)) hx hb dX7_wind_34 (by decide) ?_
      refine lv_imul hx hb dX7_wind_35 ?_
      refine lv_iload hx hb dX7_wind_36 (lv_at hl 0 rfl) ?_
      refine lv_iadd hx hb dX7_wind_38 ?_
      obtain ⟨hk5, hV⟩ := hV
      refine va_aldq hx hb hK hP 4 6 (wx_h (o := o) rfl) rfl hk5 dX7_wind_39 ?_
      rcases hd6 : c_sh o ((a1 * (4 : Int32)) + (0 : Int32)).toNatClampNeg with _ | d6
      · rw [hd6, om_n] at hJ
        rw [hd6, om_n] at hV
        refine rf_n (show cx_hr ad o ((a1 * (4 : Int32)) + (0 : Int32)).toNatClampNeg = none by unfold cx_hr; rw [hd6]; rfl) ?_
        refine lv_astoreN (lv' := [(5, .null), (4, .int (0 : Int32)), (3, .ref (ad (100 + d2))), (0, .ref x), (1, .int a1), (2, .int a2)]) hx hb dX7_wind_40 hl (by decide) rfl (fun ls hl => ?_)
        refine lv_aloadN hx hb dX7_wind_42 (lv_at hl 0 rfl) ?_
        refine lv_ifnonnullN hx hb dX7_wind_44 ?_
        refine lv_aload_n hx hb dX7_wind_47 rfl (lv_at hl 3 rfl) ?_
        refine lv_bipush (v := (-11 : Int32)) hx hb dX7_wind_48 (by decide) ?_
        obtain ⟨hk7, hV⟩ := hV
        refine cl_i (va_runV (As := [.int (-11 : Int32)]) (rest := []) ⟨hx, hb, hml, hown, hts⟩ (qX7_failWith l dC dI cy x ad H.size o (-11 : Int32) hk7) (cwV 1 hts gX7_wind_X7_failWith rfl rfl rfl (by decide +kernel) ⟨Nat.le_of_ble_eq_true rfl, Nat.le_of_ble_eq_true rfl⟩) (pV hK hP hD hk (q0 := 0) (wx_h (o := o) rfl) rfl) rfl rfl hl.1 rfl (lv_room (Nat.le_of_ble_eq_true rfl)) dX7_wind_50 ⟨Nat.le_of_ble_eq_true rfl, Nat.le_of_ble_eq_true rfl⟩) hD hS hA (fun r u H locs hw hP hD hS => ?_)
        have hr1 : r = (jX7_failWith o (-11 : Int32)).1 := congrArg Prod.fst hw
        have hu1 : u = (jX7_failWith o (-11 : Int32)).2 := congrArg Prod.snd hw
        rw [hu1] at hP hD
        rw [hr1]
        refine lv_pop hx hb dX7_wind_53 rfl ?_
        refine lv_iload hx hb dX7_wind_54 (lv_at hl 1 rfl) ?_
        exact W.iret hx hb hr (fun t ht hW => ⟨⟨_, _, rfl, hJ.trans hE.symm, by rw [ht]; exact hP, va_K.moved hW.alike hK, hD⟩, hS.F ht⟩) hS.2.2 dX7_wind_56
      · rw [hd6, om_s] at hJ
        rw [hd6, om_s] at hV
        refine rf_s (show cx_hr ad o ((a1 * (4 : Int32)) + (0 : Int32)).toNatClampNeg = some (ad (200 + d6)) by unfold cx_hr; rw [hd6]; rfl) ?_
        refine lv_astore (lv' := [(5, .ref (ad (200 + d6))), (4, .int (0 : Int32)), (3, .ref (ad (100 + d2))), (0, .ref x), (1, .int a1), (2, .int a2)]) hx hb dX7_wind_40 hl (by decide) rfl (fun ls hl => ?_)
        refine lv_aload hx hb dX7_wind_42 (lv_at hl 0 rfl) ?_
        refine lv_ifnonnull (tgt := 57) hx hb dX7_wind_44 (by decide) ?_
        refine lv_aload hx hb dX7_wind_57 (lv_at hl 0 rfl) ?_
        refine lv_aload_n hx hb dX7_wind_59 rfl (lv_at hl 2 rfl) ?_
        obtain ⟨hk8, hV⟩ := hV
        obtain ⟨hk9, hV⟩ := hV
        refine cl_i (rn3 (c_vS o d6 = 0) (c_vS o d6 = 1) (fun g0 => va_runU (As := [.ref (ad (100 + d2))]) (rest := []) ⟨hx, hb, hml, hown, hts⟩ (qX2_pullAt l dC dI cy x ad H.size o d6 d2 hk8) (va_cwU 1 hts gX7_wind_X2_pullAt_u108X6 rfl rfl rfl rfl (by decide +kernel) ⟨Nat.le_of_ble_eq_true rfl, Nat.le_of_ble_eq_true rfl⟩) (pV hK hP hD hk (q0 := (7 + (c_nd o + d6))) (wx_spring (o := o) hk9 g0) rfl) rfl rfl hl.1 rfl (lv_room (Nat.le_of_ble_eq_true rfl)) dX7_wind_60 ⟨Nat.le_of_ble_eq_true rfl, Nat.le_of_ble_eq_true rfl⟩) (fun g0 g1 => va_runU (As := [.ref (ad (100 + d2))]) (rest := []) ⟨hx, hb, hml, hown, hts⟩ (qX2_pullAt l dC dI cy x ad H.size o d6 d2 hk8) (va_cwU 1 hts gX7_wind_X2_pullAt_u108X0 rfl rfl rfl rfl (by decide +kernel) ⟨Nat.le_of_ble_eq_true rfl, Nat.le_of_ble_eq_true rfl⟩) (pV hK hP hD hk (q0 := (7 + (c_nd o + d6))) (wx_crank (o := o) hk9 g0 g1) rfl) rfl rfl hl.1 rfl (lv_room (Nat.le_of_ble_eq_true rfl)) dX7_wind_60 ⟨Nat.le_of_ble_eq_true rfl, Nat.le_of_ble_eq_true rfl⟩) (fun g0 g1 => va_runU (As := [.ref (ad (100 + d2))]) (rest := []) ⟨hx, hb, hml, hown, hts⟩ (qX2_pullAt l dC dI cy x ad H.size o d6 d2 hk8) (va_cwU 1 hts gX7_wind_X2_pullAt_u108X3 rfl rfl rfl rfl (by decide +kernel) ⟨Nat.le_of_ble_eq_true rfl, Nat.le_of_ble_eq_true rfl⟩) (pV hK hP hD hk (q0 := (7 + (c_nd o + d6))) (wx_fly (o := o) hk9 g0 g1) rfl) rfl rfl hl.1 rfl (lv_room (Nat.le_of_ble_eq_true rfl)) dX7_wind_60 ⟨Nat.le_of_ble_eq_true rfl, Nat.le_of_ble_eq_true rfl⟩)) hD hS hA (fun r u H locs hw hP hD hS => ?_)
        have hr1 : r = (jX2_pullAt o d6 d2).1 := congrArg Prod.fst hw
        have hu1 : u = (jX2_pullAt o d6 d2).2 := congrArg Prod.snd hw
        rw [hu1] at hP hD
        rw [hr1]
        refine lv_if_ne (tgt := 76) hx hb dX7_wind_63 (by decide) (fun c10 => ?_) (fun c10 => ?_)
        · skip
          rw [if_neg c10] at hJ
          rw [if_neg c10] at hV
          refine lv_iinc (v := (1 : Int32)) (lv' := [(4, .int (1 : Int32)), (5, .ref (ad (200 + d6))), (3, .ref (ad (100 + d2))), (0, .ref x), (1, .int a1), (2, .int a2)]) hx hb dX7_wind_76 hl (k := 1) rfl (by first | rfl | decide) (by decide) rfl (fun ls hl => ?_)
          refine lv_goto (tgt := 23) hx hb dX7_wind_79 (by decide) ?_
          refine lv_iload hx hb dX7_wind_23 (lv_at hl 0 rfl) ?_
          refine lv_iconst (v := (4 : Int32)) hx hb dX7_wind_25 (by decide) ?_
          refine lv_icmp_ge (tgt := 82) hx hb dX7_wind_26 (by decide) (fun cq => absurd cq (by decide)) (fun cq => ?_)
          refine lv_aload_n hx hb dX7_wind_29 rfl (lv_at hl 3 rfl) ?_
          refine va_get (D := (dC, dI)) (ci := 5) (v := .ref (ad 4)) (C := RX7) (T := TX7) (N := 10) (fs := (cx_f ad ((jX2_pullAt o d6 d2).2))) hx hb hts hi_wsX70 hown hK hP 0 (wx_h (o := ((jX2_pullAt o d6 d2).2)) rfl) rfl 5 (by decide) (hts (.fieldLink RX7 31 "OrreryDials" "shaftPlaces" "[LOrreryDials$Drive;") (by decide +kernel)) (fun _ h9 => h9) rfl dX7_wind_30 ?_
          refine lv_iload_n hx hb dX7_wind_33 rfl (lv_at hl 4 rfl) ?_
          refine lv_iconst (v := (4 : Int32)) hx hb dX7_wind_34 (by decide) ?_
          refine lv_imul hx hb dX7_wind_35 ?_
          refine lv_iload hx hb dX7_wind_36 (lv_at hl 0 rfl) ?_
          refine lv_iadd hx hb dX7_wind_38 ?_
          obtain ⟨hk11, hV⟩ := hV
          refine va_aldq hx hb hK hP 4 6 (wx_h (o := ((jX2_pullAt o d6 d2).2)) rfl) rfl hk11 dX7_wind_39 ?_
          rcases hd12 : c_sh ((jX2_pullAt o d6 d2).2) ((a1 * (4 : Int32)) + (1 : Int32)).toNatClampNeg with _ | d12
          · rw [hd12, om_n] at hJ
            rw [hd12, om_n] at hV
            refine rf_n (show cx_hr ad ((jX2_pullAt o d6 d2).2) ((a1 * (4 : Int32)) + (1 : Int32)).toNatClampNeg = none by unfold cx_hr; rw [hd12]; rfl) ?_
            refine lv_astoreN (lv' := [(5, .null), (4, .int (1 : Int32)), (3, .ref (ad (100 + d2))), (0, .ref x), (1, .int a1), (2, .int a2)]) hx hb dX7_wind_40 hl (by decide) rfl (fun ls hl => ?_)
            refine lv_aloadN hx hb dX7_wind_42 (lv_at hl 0 rfl) ?_
            refine lv_ifnonnullN hx hb dX7_wind_44 ?_
            refine lv_aload_n hx hb dX7_wind_47 rfl (lv_at hl 3 rfl) ?_
            refine lv_bipush (v := (-11 : Int32)) hx hb dX7_wind_48 (by decide) ?_
            obtain ⟨hk13, hV⟩ := hV
            refine cl_i (va_runV (As := [.int (-11 : Int32)]) (rest := []) ⟨hx, hb, hml, hown, hts⟩ (qX7_failWith l dC dI cy x ad H.size ((jX2_pullAt o d6 d2).2) (-11 : Int32) hk13) (cwV 1 hts gX7_wind_X7_failWith rfl rfl rfl (by decide +kernel) ⟨Nat.le_of_ble_eq_true rfl, Nat.le_of_ble_eq_true rfl⟩) (pV hK hP hD hk (q0 := 0) (wx_h (o := ((jX2_pullAt o d6 d2).2)) rfl) rfl) rfl rfl hl.1 rfl (lv_room (Nat.le_of_ble_eq_true rfl)) dX7_wind_50 ⟨Nat.le_of_ble_eq_true rfl, Nat.le_of_ble_eq_true rfl⟩) hD hS hA (fun r u H locs hw hP hD hS => ?_)
            have hr1 : r = (jX7_failWith ((jX2_pullAt o d6 d2).2) (-11 : Int32)).1 := congrArg Prod.fst hw
            have hu1 : u = (jX7_failWith ((jX2_pullAt o d6 d2).2) (-11 : Int32)).2 := congrArg Prod.snd hw
            rw [hu1] at hP hD
            rw [hr1]
            refine lv_pop hx hb dX7_wind_53 rfl ?_
            refine lv_iload hx hb dX7_wind_54 (lv_at hl 1 rfl) ?_
            exact W.iret hx hb hr (fun t ht hW => ⟨⟨_, _, rfl, hJ.trans hE.symm, by rw [ht]; exact hP, va_K.moved hW.alike hK, hD⟩, hS.F ht⟩) hS.2.2 dX7_wind_56
          · rw [hd12, om_s] at hJ
            rw [hd12, om_s] at hV
            refine rf_s (show cx_hr ad ((jX2_pullAt o d6 d2).2) ((a1 * (4 : Int32)) + (1 : Int32)).toNatClampNeg = some (ad (200 + d12)) by unfold cx_hr; rw [hd12]; rfl) ?_
            refine lv_astore (lv' := [(5, .ref (ad (200 + d12))), (4, .int (1 : Int32)), (3, .ref (ad (100 + d2))), (0, .ref x), (1, .int a1), (2, .int a2)]) hx hb dX7_wind_40 hl (by decide) rfl (fun ls hl => ?_)
            refine lv_aload hx hb dX7_wind_42 (lv_at hl 0 rfl) ?_
            refine lv_ifnonnull (tgt := 57) hx hb dX7_wind_44 (by decide) ?_
            refine lv_aload hx hb dX7_wind_57 (lv_at hl 0 rfl) ?_
            refine lv_aload_n hx hb dX7_wind_59 rfl (lv_at hl 2 rfl) ?_
            obtain ⟨hk14, hV⟩ := hV
            obtain ⟨hk15, hV⟩ := hV
            refine cl_i (rn3 (c_vS ((jX2_pullAt o d6 d2).2) d12 = 0) (c_vS ((jX2_pullAt o d6 d2).2) d12 = 1) (fun g0 => va_runU (As := [.ref (ad (100 + d2))]) (rest := []) ⟨hx, hb, hml, hown, hts⟩ (qX2_pullAt l dC dI cy x ad H.size ((jX2_pullAt o d6 d2).2) d12 d2 hk14) (va_cwU 1 hts gX7_wind_X2_pullAt_u108X6 rfl rfl rfl rfl (by decide +kernel) ⟨Nat.le_of_ble_eq_true rfl, Nat.le_of_ble_eq_true rfl⟩) (pV hK hP hD hk (q0 := (7 + (c_nd ((jX2_pullAt o d6 d2).2) + d12))) (wx_spring (o := ((jX2_pullAt o d6 d2).2)) hk15 g0) rfl) rfl rfl hl.1 rfl (lv_room (Nat.le_of_ble_eq_true rfl)) dX7_wind_60 ⟨Nat.le_of_ble_eq_true rfl, Nat.le_of_ble_eq_true rfl⟩) (fun g0 g1 => va_runU (As := [.ref (ad (100 + d2))]) (rest := []) ⟨hx, hb, hml, hown, hts⟩ (qX2_pullAt l dC dI cy x ad H.size ((jX2_pullAt o d6 d2).2) d12 d2 hk14) (va_cwU 1 hts gX7_wind_X2_pullAt_u108X0 rfl rfl rfl rfl (by decide +kernel) ⟨Nat.le_of_ble_eq_true rfl, Nat.le_of_ble_eq_true rfl⟩) (pV hK hP hD hk (q0 := (7 + (c_nd ((jX2_pullAt o d6 d2).2) + d12))) (wx_crank (o := ((jX2_pullAt o d6 d2).2)) hk15 g0 g1) rfl) rfl rfl hl.1 rfl (lv_room (Nat.le_of_ble_eq_true rfl)) dX7_wind_60 ⟨Nat.le_of_ble_eq_true rfl, Nat.le_of_ble_eq_true rfl⟩) (fun g0 g1 => va_runU (As := [.ref (ad (100 + d2))]) (rest := []) ⟨hx, hb, hml, hown, hts⟩ (qX2_pullAt l dC dI cy x ad H.size ((jX2_pullAt o d6 d2).2) d12 d2 hk14) (va_cwU 1 hts gX7_wind_X2_pullAt_u108X3 rfl rfl rfl rfl (by decide +kernel) ⟨Nat.le_of_ble_eq_true rfl, Nat.le_of_ble_eq_true rfl⟩) (pV hK hP hD hk (q0 := (7 + (c_nd ((jX2_pullAt o d6 d2).2) + d12))) (wx_fly (o := ((jX2_pullAt o d6 d2).2)) hk15 g0 g1) rfl) rfl rfl hl.1 rfl (lv_room (Nat.le_of_ble_eq_true rfl)) dX7_wind_60 ⟨Nat.le_of_ble_eq_true rfl, Nat.le_of_ble_eq_true rfl⟩)) hD hS hA (fun r u H locs hw hP hD hS => ?_)
            have hr1 : r = (jX2_pullAt ((jX2_pullAt o d6 d2).2) d12 d2).1 := congrArg Prod.fst hw
            have hu1 : u = (jX2_pullAt ((jX2_pullAt o d6 d2).2) d12 d2).2 := congrArg Prod.snd hw
            rw [hu1] at hP hD
            rw [hr1]
            refine lv_if_ne (tgt := 76) hx hb dX7_wind_63 (by decide) (fun c16 => ?_) (fun c16 => ?_)
            · skip
              rw [if_neg c16] at hJ
              rw [if_neg c16] at hV
              refine lv_iinc (v := (2 : Int32)) (lv' := [(4, .int (2 : Int32)), (5, .ref (ad (200 + d12))), (3, .ref (ad (100 + d2))), (0, .ref x), (1, .int a1), (2, .int a2)]) hx hb dX7_wind_76 hl (k := 1) rfl (by first | rfl | decide) (by decide) rfl (fun ls hl => ?_)
              refine lv_goto (tgt := 23) hx hb dX7_wind_79 (by decide) ?_
              refine lv_iload hx hb dX7_wind_23 (lv_at hl 0 rfl) ?_
              refine lv_iconst (v := (4 : Int32)) hx hb dX7_wind_25 (by decide) ?_
              refine lv_icmp_ge (tgt := 82) hx hb dX7_wind_26 (by decide) (fun cq => absurd cq (by decide)) (fun cq => ?_)
              refine lv_aload_n hx hb dX7_wind_29 rfl (lv_at hl 3 rfl) ?_
              refine va_get (D := (dC, dI)) (ci := 5) (v := .ref (ad 4)) (C := RX7) (T := TX7) (N := 10) (fs := (cx_f ad ((jX2_pullAt ((jX2_pullAt o d6 d2).2) d12 d2).2))) hx hb hts hi_wsX70 hown hK hP 0 (wx_h (o := ((jX2_pullAt ((jX2_pullAt o d6 d2).2) d12 d2).2)) rfl) rfl 5 (by decide) (hts (.fieldLink RX7 31 "OrreryDials" "shaftPlaces" "[LOrreryDials$Drive;") (by decide +kernel)) (fun _ h9 => h9) rfl dX7_wind_30 ?_
              refine lv_iload_n hx hb dX7_wind_33 rfl (lv_at hl 4 rfl) ?_
              refine lv_iconst (v := (4 : Int32)) hx hb dX7_wind_34 (by decide) ?_
              refine lv_imul hx hb dX7_wind_35 ?_
              refine lv_iload hx hb dX7_wind_36 (lv_at hl 0 rfl) ?_
              refine lv_iadd hx hb dX7_wind_38 ?_
              obtain ⟨hk17, hV⟩ := hV
              refine va_aldq hx hb hK hP 4 6 (wx_h (o := ((jX2_pullAt ((jX2_pullAt o d6 d2).2) d12 d2).2)) rfl) rfl hk17 dX7_wind_39 ?_
              rcases hd18 : c_sh ((jX2_pullAt ((jX2_pullAt o d6 d2).2) d12 d2).2) ((a1 * (4 : Int32)) + (2 : Int32)).toNatClampNeg with _ | d18
              · rw [hd18, om_n] at hJ
                rw [hd18, om_n] at hV
                refine rf_n (show cx_hr ad ((jX2_pullAt ((jX2_pullAt o d6 d2).2) d12 d2).2) ((a1 * (4 : Int32)) + (2 : Int32)).toNatClampNeg = none by unfold cx_hr; rw [hd18]; rfl) ?_
                refine lv_astoreN (lv' := [(5, .null), (4, .int (2 : Int32)), (3, .ref (ad (100 + d2))), (0, .ref x), (1, .int a1), (2, .int a2)]) hx hb dX7_wind_40 hl (by decide) rfl (fun ls hl => ?_)
                refine lv_aloadN hx hb dX7_wind_42 (lv_at hl 0 rfl) ?_
                refine lv_ifnonnullN hx hb dX7_wind_44 ?_
                refine lv_aload_n hx hb dX7_wind_47 rfl (lv_at hl 3 rfl) ?_
                refine lv_bipush (v := (-11 : Int32)) hx hb dX7_wind_48 (by decide) ?_
                obtain ⟨hk19, hV⟩ := hV
                refine cl_i (va_runV (As := [.int (-11 : Int32)]) (rest := []) ⟨hx, hb, hml, hown, hts⟩ (qX7_failWith l dC dI cy x ad H.size ((jX2_pullAt ((jX2_pullAt o d6 d2).2) d12 d2).2) (-11 : Int32) hk19) (cwV 1 hts gX7_wind_X7_failWith rfl rfl rfl (by decide +kernel) ⟨Nat.le_of_ble_eq_true rfl, Nat.le_of_ble_eq_true rfl⟩) (pV hK hP hD hk (q0 := 0) (wx_h (o := ((jX2_pullAt ((jX2_pullAt o d6 d2).2) d12 d2).2)) rfl) rfl) rfl rfl hl.1 rfl (lv_room (Nat.le_of_ble_eq_true rfl)) dX7_wind_50 ⟨Nat.le_of_ble_eq_true rfl, Nat.le_of_ble_eq_true rfl⟩) hD hS hA (fun r u H locs hw hP hD hS => ?_)
                have hr1 : r = (jX7_failWith ((jX2_pullAt ((jX2_pullAt o d6 d2).2) d12 d2).2) (-11 : Int32)).1 := congrArg Prod.fst hw
                have hu1 : u = (jX7_failWith ((jX2_pullAt ((jX2_pullAt o d6 d2).2) d12 d2).2) (-11 : Int32)).2 := congrArg Prod.snd hw
                rw [hu1] at hP hD
                rw [hr1]
                refine lv_pop hx hb dX7_wind_53 rfl ?_
                refine lv_iload hx hb dX7_wind_54 (lv_at hl 1 rfl) ?_
                exact W.iret hx hb hr (fun t ht hW => ⟨⟨_, _, rfl, hJ.trans hE.symm, by rw [ht]; exact hP, va_K.moved hW.alike hK, hD⟩, hS.F ht⟩) hS.2.2 dX7_wind_56
              · rw [hd18, om_s] at hJ
                rw [hd18, om_s] at hV
                refine rf_s (show cx_hr ad ((jX2_pullAt ((jX2_pullAt o d6 d2).2) d12 d2).2) ((a1 * (4 : Int32)) + (2 : Int32)).toNatClampNeg = some (ad (200 + d18)) by unfold cx_hr; rw [hd18]; rfl) ?_
                refine lv_astore (lv' := [(5, .ref (ad (200 + d18))), (4, .int (2 : Int32)), (3, .ref (ad (100 + d2))), (0, .ref x), (1, .int a1), (2, .int a2)]) hx hb dX7_wind_40 hl (by decide) rfl (fun ls hl => ?_)
                refine lv_aload hx hb dX7_wind_42 (lv_at hl 0 rfl) ?_
                refine lv_ifnonnull (tgt := 57) hx hb dX7_wind_44 (by decide) ?_
                refine lv_aload hx hb dX7_wind_57 (lv_at hl 0 rfl) ?_
                refine lv_aload_n hx hb dX7_wind_59 rfl (lv_at hl 2 rfl) ?_
                obtain ⟨hk20, hV⟩ := hV
                obtain ⟨hk21, hV⟩ := hV
                refine cl_i (rn3 (c_vS ((jX2_pullAt ((jX2_pullAt o d6 d2).2) d12 d2).2) d18 = 0) (c_vS ((jX2_pullAt ((jX2_pullAt o d6 d2).2) d12 d2).2) d18 = 1) (fun g0 => va_runU (As := [.ref (ad (100 + d2))]) (rest := []) ⟨hx, hb, hml, hown, hts⟩ (qX2_pullAt l dC dI cy x ad H.size ((jX2_pullAt ((jX2_pullAt o d6 d2).2) d12 d2).2) d18 d2 hk20) (va_cwU 1 hts gX7_wind_X2_pullAt_u108X6 rfl rfl rfl rfl (by decide +kernel) ⟨Nat.le_of_ble_eq_true rfl, Nat.le_of_ble_eq_true rfl⟩) (pV hK hP hD hk (q0 := (7 + (c_nd ((jX2_pullAt ((jX2_pullAt o d6 d2).2) d12 d2).2) + d18))) (wx_spring (o := ((jX2_pullAt ((jX2_pullAt o d6 d2).2) d12 d2).2)) hk21 g0) rfl) rfl rfl hl.1 rfl (lv_room (Nat.le_of_ble_eq_true rfl)) dX7_wind_60 ⟨Nat.le_of_ble_eq_true rfl, Nat.le_of_ble_eq_true rfl⟩) (fun g0 g1 => va_runU (As := [.ref (ad (100 + d2))]) (rest := []) ⟨hx, hb, hml, hown, hts⟩ (qX2_pullAt l dC dI cy x ad H.size ((jX2_pullAt ((jX2_pullAt o d6 d2).2) d12 d2).2) d18 d2 hk20) (va_cwU 1 hts gX7_wind_X2_pullAt_u108X0 rfl rfl rfl rfl (by decide +kernel) ⟨Nat.le_of_ble_eq_true rfl, Nat.le_of_ble_eq_true rfl⟩) (pV hK hP hD hk (q0 := (7 + (c_nd ((jX2_pullAt ((jX2_pullAt o d6 d2).2) d12 d2).2) + d18))) (wx_crank (o := ((jX2_pullAt ((jX2_pullAt o d6 d2).2) d12 d2).2)) hk21 g0 g1) rfl) rfl rfl hl.1 rfl (lv_room (Nat.le_of_ble_eq_true rfl)) dX7_wind_60 ⟨Nat.le_of_ble_eq_true rfl, Nat.le_of_ble_eq_true rfl⟩) (fun g0 g1 => va_runU (As := [.ref (ad (100 + d2))]) (rest := []) ⟨hx, hb, hml, hown, hts⟩ (qX2_pullAt l dC dI cy x ad H.size ((jX2_pullAt ((jX2_pullAt o d6 d2).2) d12 d2).2) d18 d2 hk20) (va_cwU 1 hts gX7_wind_X2_pullAt_u108X3 rfl rfl rfl rfl (by decide +kernel) ⟨Nat.le_of_ble_eq_true rfl, Nat.le_of_ble_eq_true rfl⟩) (pV hK hP hD hk (q0 := (7 + (c_nd ((jX2_pullAt ((jX2_pullAt o d6 d2).2) d12 d2).2) + d18))) (wx_fly (o := ((jX2_pullAt ((jX2_pullAt o d6 d2).2) d12 d2).2)) hk21 g0 g1) rfl) rfl rfl hl.1 rfl (lv_room (Nat.le_of_ble_eq_true rfl)) dX7_wind_60 ⟨Nat.le_of_ble_eq_true rfl, Nat.le_of_ble_eq_true rfl⟩)) hD hS hA (fun r u H locs hw hP hD hS => ?_)
                have hr1 : r = (jX2_pullAt ((jX2_pullAt ((jX2_pullAt o d6 d2).2) d12 d2).2) d18 d2).1 := congrArg Prod.fst hw
                have hu1 : u = (jX2_pullAt ((jX2_pullAt ((jX2_pullAt o d6 d2).2) d12 d2).2) d18 d2).2 := congrArg Prod.snd hw
                rw [hu1] at hP hD
                rw [hr1]
                refine lv_if_ne (tgt := 76) hx hb dX7_wind_63 (by decide) (fun c22 => ?_) (fun c22 => ?_)
                · skip
                  rw [if_neg c22] at hJ
                  rw [if_neg c22] at hV
                  refine lv_iinc (v := (3 : Int32)) (lv' := [(4, .int (3 : Int32)), (5, .ref (ad (200 + d18))), (3, .ref (ad (100 + d2))), (0, .ref x), (1, .int a1), (2, .int a2)]) hx hb dX7_wind_76 hl (k := 1) rfl (by first | rfl | decide) (by decide) rfl (fun ls hl => ?_)
                  refine lv_goto (tgt := 23) hx hb dX7_wind_79 (by decide) ?_
                  refine lv_iload hx hb dX7_wind_23 (lv_at hl 0 rfl) ?_
                  refine lv_iconst (v := (4 : Int32)) hx hb dX7_wind_25 (by decide) ?_
                  refine lv_icmp_ge (tgt := 82) hx hb dX7_wind_26 (by decide) (fun cq => absurd cq (by decide)) (fun cq => ?_)
                  refine lv_aload_n hx hb dX7_wind_29 rfl (lv_at hl 3 rfl) ?_
                  refine va_get (D := (dC, dI)) (ci := 5) (v := .ref (ad 4)) (C := RX7) (T := TX7) (N := 10) (fs := (cx_f ad ((jX2_pullAt ((jX2_pullAt ((jX2_pullAt o d6 d2).2) d12 d2).2) d18 d2).2))) hx hb hts hi_wsX70 hown hK hP 0 (wx_h (o := ((jX2_pullAt ((jX2_pullAt ((jX2_pullAt o d6 d2).2) d12 d2).2) d18 d2).2)) rfl) rfl 5 (by decide) (hts (.fieldLink RX7 31 "OrreryDials" "shaftPlaces" "[LOrreryDials$Drive;") (by decide +kernel)) (fun _ h9 => h9) rfl dX7_wind_30 ?_
                  refine lv_iload_n hx hb dX7_wind_33 rfl (lv_at hl 4 rfl) ?_
                  refine lv_iconst (v := (4 : Int32)) hx hb dX7_wind_34 (by decide) ?_
                  refine lv_imul hx hb dX7_wind_35 ?_
                  refine lv_iload hx hb dX7_wind_36 (lv_at hl 0 rfl) ?_
                  refine lv_iadd hx hb dX7_wind_38 ?_
                  obtain ⟨hk23, hV⟩ := hV
                  refine va_aldq hx hb hK hP 4 6 (wx_h (o := ((jX2_pullAt ((jX2_pullAt ((jX2_pullAt o d6 d2).2) d12 d2).2) d18 d2).2)) rfl) rfl hk23 dX7_wind_39 ?_
                  rcases hd24 : c_sh ((jX2_pullAt ((jX2_pullAt ((jX2_pullAt o d6 d2).2) d12 d2).2) d18 d2).2) ((a1 * (4 : Int32)) + (3 : Int32)).toNatClampNeg with _ | d24
                  · rw [hd24, om_n] at hJ
                    rw [hd24, om_n] at hV
                    refine rf_n (show cx_hr ad ((jX2_pullAt ((jX2_pullAt ((jX2_pullAt o d6 d2).2) d12 d2).2) d18 d2).2) ((a1 * (4 : Int32)) + (3 : Int32)).toNatClampNeg = none by unfold cx_hr; rw [hd24]; rfl) ?_
                    refine lv_astoreN (lv' := [(5, .null), (4, .int (3 : Int32)), (3, .ref (ad (100 + d2))), (0, .ref x), (1, .int a1), (2, .int a2)]) hx hb dX7_wind_40 hl (by decide) rfl (fun ls hl => ?_)
                    refine lv_aloadN hx hb dX7_wind_42 (lv_at hl 0 rfl) ?_
                    refine lv_ifnonnullN hx hb dX7_wind_44 ?_
                    refine lv_aload_n hx hb dX7_wind_47 rfl (lv_at hl 3 rfl) ?_
                    refine lv_bipush (v := (-11 : Int32)) hx hb dX7_wind_48 (by decide) ?_
                    obtain ⟨hk25, hV⟩ := hV
                    refine cl_i (va_runV (As := [.int (-11 : Int32)]) (rest := []) ⟨hx, hb, hml, hown, hts⟩ (qX7_failWith l dC dI cy x ad H.size ((jX2_pullAt ((jX2_pullAt ((jX2_pullAt o d6 d2).2) d12 d2).2) d18 d2).2) (-11 : Int32) hk25) (cwV 1 hts gX7_wind_X7_failWith rfl rfl rfl (by decide +kernel) ⟨Nat.le_of_ble_eq_true rfl, Nat.le_of_ble_eq_true rfl⟩) (pV hK hP hD hk (q0 := 0) (wx_h (o := ((jX2_pullAt ((jX2_pullAt ((jX2_pullAt o d6 d2).2) d12 d2).2) d18 d2).2)) rfl) rfl) rfl rfl hl.1 rfl (lv_room (Nat.le_of_ble_eq_true rfl)) dX7_wind_50 ⟨Nat.le_of_ble_eq_true rfl, Nat.le_of_ble_eq_true rfl⟩) hD hS hA (fun r u H locs hw hP hD hS => ?_)
                    have hr1 : r = (jX7_failWith ((jX2_pullAt ((jX2_pullAt ((jX2_pullAt o d6 d2).2) d12 d2).2) d18 d2).2) (-11 : Int32)).1 := congrArg Prod.fst hw
                    have hu1 : u = (jX7_failWith ((jX2_pullAt ((jX2_pullAt ((jX2_pullAt o d6 d2).2) d12 d2).2) d18 d2).2) (-11 : Int32)).2 := congrArg Prod.snd hw
                    rw [hu1] at hP hD
                    rw [hr1]
                    refine lv_pop hx hb dX7_wind_53 rfl ?_
                    refine lv_iload hx hb dX7_wind_54 (lv_at hl 1 rfl) ?_
                    exact W.iret hx hb hr (fun t ht hW => ⟨⟨_, _, rfl, hJ.trans hE.symm, by rw [ht]; exact hP, va_K.moved hW.alike hK, hD⟩, hS.F ht⟩) hS.2.2 dX7_wind_56
                  · rw [hd24, om_s] at hJ
                    rw [hd24, om_s] at hV
                    refine rf_s (show cx_hr ad ((jX2_pullAt ((jX2_pullAt ((jX2_pullAt o d6 d2).2) d12 d2).2) d18 d2).2) ((a1 * (4 : Int32)) + (3 : Int32)).toNatClampNeg = some (ad (200 + d24)) by unfold cx_hr; rw [hd24]; rfl) ?_
                    refine lv_astore (lv' := [(5, .ref (ad (200 + d24))), (4, .int (3 : Int32)), (3, .ref (ad (100 + d2))), (0, .ref x), (1, .int a1), (2, .int a2)]) hx hb dX7_wind_40 hl (by decide) rfl (fun ls hl => ?_)
                    refine lv_aload hx hb dX7_wind_42 (lv_at hl 0 rfl) ?_
                    refine lv_ifnonnull (tgt := 57) hx hb dX7_wind_44 (by decide) ?_
                    refine lv_aload hx hb dX7_wind_57 (lv_at hl 0 rfl) ?_
                    refine lv_aload_n hx hb dX7_wind_59 rfl (lv_at hl 2 rfl) ?_
                    obtain ⟨hk26, hV⟩ := hV
                    obtain ⟨hk27, hV⟩ := hV
                    refine cl_i (rn3 (c_vS ((jX2_pullAt ((jX2_pullAt ((jX2_pullAt o d6 d2).2) d12 d2).2) d18 d2).2) d24 = 0) (c_vS ((jX2_pullAt ((jX2_pullAt ((jX2_pullAt o d6 d2).2) d12 d2).2) d18 d2).2) d24 = 1) (fun g0 => va_runU (As := [.ref (ad (100 + d2))]) (rest := []) ⟨hx, hb, hml, hown, hts⟩ (qX2_pullAt l dC dI cy x ad H.size ((jX2_pullAt ((jX2_pullAt ((jX2_pullAt o d6 d2).2) d12 d2).2) d18 d2).2) d24 d2 hk26) (va_cwU 1 hts gX7_wind_X2_pullAt_u108X6 rfl rfl rfl rfl (by decide +kernel) ⟨Nat.le_of_ble_eq_true rfl, Nat.le_of_ble_eq_true rfl⟩) (pV hK hP hD hk (q0 := (7 + (c_nd ((jX2_pullAt ((jX2_pullAt ((jX2_pullAt o d6 d2).2) d12 d2).2) d18 d2).2) + d24))) (wx_spring (o := ((jX2_pullAt ((jX2_pullAt ((jX2_pullAt o d6 d2).2) d12 d2).2) d18 d2).2)) hk27 g0) rfl) rfl rfl hl.1 rfl (lv_room (Nat.le_of_ble_eq_true rfl)) dX7_wind_60 ⟨Nat.le_of_ble_eq_true rfl, Nat.le_of_ble_eq_true rfl⟩) (fun g0 g1 => va_runU (As := [.ref (ad (100 + d2))]) (rest := []) ⟨hx, hb, hml, hown, hts⟩ (qX2_pullAt l dC dI cy x ad H.size ((jX2_pullAt ((jX2_pullAt ((jX2_pullAt o d6 d2).2) d12 d2).2) d18 d2).2) d24 d2 hk26) (va_cwU 1 hts gX7_wind_X2_pullAt_u108X0 rfl rfl rfl rfl (by decide +kernel) ⟨Nat.le_of_ble_eq_true rfl, Nat.le_of_ble_eq_true rfl⟩) (pV hK hP hD hk (q0 := (7 + (c_nd ((jX2_pullAt ((jX2_pullAt ((jX2_pullAt o d6 d2).2) d12 d2).2) d18 d2).2) + d24))) (wx_crank (o := ((jX2_pullAt ((jX2_pullAt ((jX2_pullAt o d6 d2).2) d12 d2).2) d18 d2).2)) hk27 g0 g1) rfl) rfl rfl hl.1 rfl (lv_room (Nat.le_of_ble_eq_true rfl)) dX7_wind_60 ⟨Nat.le_of_ble_eq_true rfl, Nat.le_of_ble_eq_true rfl⟩) (fun g0 g1 => va_runU (As := [.ref (ad (100 + d2))]) (rest := []) ⟨hx, hb, hml, hown, hts⟩ (qX2_pullAt l dC dI cy x ad H.size ((jX2_pullAt ((jX2_pullAt ((jX2_pullAt o d6 d2).2) d12 d2).2) d18 d2).2) d24 d2 hk26) (va_cwU 1 hts gX7_wind_X2_pullAt_u108X3 rfl rfl rfl rfl (by decide +kernel) ⟨Nat.le_of_ble_eq_true rfl, Nat.le_of_ble_eq_true rfl⟩) (pV hK hP hD hk (q0 := (7 + (c_nd ((jX2_pullAt ((jX2_pullAt ((jX2_pullAt o d6 d2).2) d12 d2).2) d18 d2).2) + d24))) (wx_fly (o := ((jX2_pullAt ((jX2_pullAt ((jX2_pullAt o d6 d2).2) d12 d2).2) d18 d2).2)) hk27 g0 g1) rfl) rfl rfl hl.1 rfl (lv_room (Nat.le_of_ble_eq_true rfl)) dX7_wind_60 ⟨Nat.le_of_ble_eq_true rfl, Nat.le_of_ble_eq_true rfl⟩)) hD hS hA (fun r u H locs hw hP hD hS => ?_)
                    have hr1 : r = (jX2_pullAt ((jX2_pullAt ((jX2_pullAt ((jX2_pullAt o d6 d2).2) d12 d2).2) d18 d2).2) d24 d2).1 := congrArg Prod.fst hw
                    have hu1 : u = (jX2_pullAt ((jX2_pullAt ((jX2_pullAt ((jX2_pullAt o d6 d2).2) d12 d2).2) d18 d2).2) d24 d2).2 := congrArg Prod.snd hw
                    rw [hu1] at hP hD
                    rw [hr1]
                    refine lv_if_ne (tgt := 76) hx hb dX7_wind_63 (by decide) (fun c28 => ?_) (fun c28 => ?_)
                    · skip
                      rw [if_neg c28] at hJ
                      rw [if_neg c28] at hV
                      refine lv_iinc (v := (4 : Int32)) (lv' := [(4, .int (4 : Int32)), (5, .ref (ad (200 + d24))), (3, .ref (ad (100 + d2))), (0, .ref x), (1, .int a1), (2, .int a2)]) hx hb dX7_wind_76 hl (k := 1) rfl (by first | rfl | decide) (by decide) rfl (fun ls hl => ?_)
                      refine lv_goto (tgt := 23) hx hb dX7_wind_79 (by decide) ?_
                      refine lv_iload hx hb dX7_wind_23 (lv_at hl 0 rfl) ?_
                      refine lv_iconst (v := (4 : Int32)) hx hb dX7_wind_25 (by decide) ?_
                      refine lv_icmp_ge (tgt := 82) hx hb dX7_wind_26 (by decide) (fun cq => ?_) (fun cq => absurd cq (by decide))
                      refine lv_aload_n hx hb dX7_wind_82 rfl (lv_at hl 3 rfl) ?_
                      refine lv_iconst (v := (4 : Int32)) hx hb dX7_wind_83 (by decide) ?_
                      refine cl_i (va_runV (As := [.int (4 : Int32)]) (rest := []) ⟨hx, hb, hml, hown, hts⟩ (qX7_done l dC dI cy x ad H.size ((jX2_pullAt ((jX2_pullAt ((jX2_pullAt ((jX2_pullAt o d6 d2).2) d12 d2).2) d18 d2).2) d24 d2).2) (4 : Int32)) (cwV 1 hts gX7_wind_X7_done rfl rfl rfl (by decide +kernel) ⟨Nat.le_of_ble_eq_true rfl, Nat.le_of_ble_eq_true rfl⟩) (pV hK hP hD hk (q0 := 0) (wx_h (o := ((jX2_pullAt ((jX2_pullAt ((jX2_pullAt ((jX2_pullAt o d6 d2).2) d12 d2).2) d18 d2).2) d24 d2).2)) rfl) rfl) rfl rfl hl.1 rfl (lv_room (Nat.le_of_ble_eq_true rfl)) dX7_wind_84 ⟨Nat.le_of_ble_eq_true rfl, Nat.le_of_ble_eq_true rfl⟩) hD hS hA (fun r u H locs hw hP hD hS => ?_)
                      have hr1 : r = (jX7_done ((jX2_pullAt ((jX2_pullAt ((jX2_pullAt ((jX2_pullAt o d6 d2).2) d12 d2).2) d18 d2).2) d24 d2).2) (4 : Int32)).1 := congrArg Prod.fst hw
                      have hu1 : u = (jX7_done ((jX2_pullAt ((jX2_pullAt ((jX2_pullAt ((jX2_pullAt o d6 d2).2) d12 d2).2) d18 d2).2) d24 d2).2) (4 : Int32)).2 := congrArg Prod.snd hw
                      rw [hu1] at hP hD
                      rw [hr1]
                      exact W.iret hx hb hr (fun t ht hW => ⟨⟨_, _, rfl, hJ.trans hE.symm, by rw [ht]; exact hP, va_K.moved hW.alike hK, hD⟩, hS.F ht⟩) hS.2.2 dX7_wind_87
                    · skip
                      rw [if_pos c28] at hJ
                      rw [if_pos c28] at hV
                      refine lv_aload_n hx hb dX7_wind_66 rfl (lv_at hl 3 rfl) ?_
                      refine lv_bipush (v := (-15 : Int32)) hx hb dX7_wind_67 (by decide) ?_
                      obtain ⟨hk29, hV⟩ := hV
                      refine cl_i (va_runV (As := [.int (-15 : Int32)]) (rest := []) ⟨hx, hb, hml, hown, hts⟩ (qX7_failWith l dC dI cy x ad H.size ((jX2_pullAt ((jX2_pullAt ((jX2_pullAt ((jX2_pullAt o d6 d2).2) d12 d2).2) d18 d2).2) d24 d2).2) (-15 : Int32) hk29) (cwV 1 hts gX7_wind_X7_failWith rfl rfl rfl (by decide +kernel) ⟨Nat.le_of_ble_eq_true rfl, Nat.le_of_ble_eq_true rfl⟩) (pV hK hP hD hk (q0 := 0) (wx_h (o := ((jX2_pullAt ((jX2_pullAt ((jX2_pullAt ((jX2_pullAt o d6 d2).2) d12 d2).2) d18 d2).2) d24 d2).2)) rfl) rfl) rfl rfl hl.1 rfl (lv_room (Nat.le_of_ble_eq_true rfl)) dX7_wind_69 ⟨Nat.le_of_ble_eq_true rfl, Nat.le_of_ble_eq_true rfl⟩) hD hS hA (fun r u H locs hw hP hD hS => ?_)
                      have hr1 : r = (jX7_failWith ((jX2_pullAt ((jX2_pullAt ((jX2_pullAt ((jX2_pullAt o d6 d2).2) d12 d2).2) d18 d2).2) d24 d2).2) (-15 : Int32)).1 := congrArg Prod.fst hw
                      have hu1 : u = (jX7_failWith ((jX2_pullAt ((jX2_pullAt ((jX2_pullAt ((jX2_pullAt o d6 d2).2) d12 d2).2) d18 d2).2) d24 d2).2) (-15 : Int32)).2 := congrArg Prod.snd hw
                      rw [hu1] at hP hD
                      rw [hr1]
                      obtain ⟨o30, eo30⟩ : ∃ z, z = (jX7_failWith ((jX2_pullAt ((jX2_pullAt ((jX2_pullAt ((jX2_pullAt o d6 d2).2) d12 d2).2) d18 d2).2) d24 d2).2) (-15 : Int32)).2 := ⟨_, rfl⟩
                      rw [← eo30] at hP hD hJ hV
                      rw [jX7_wind_o30] at hJ
                      rw [sX7_wind_o30] at hV
                      have hV := hV.2
                      refine lv_pop hx hb dX7_wind_72 rfl ?_
                      refine lv_iload hx hb dX7_wind_73 (lv_at hl 1 rfl) ?_
                      exact W.iret hx hb hr (fun t ht hW => ⟨⟨_, _, rfl, hJ.trans hE.symm, by rw [ht]; exact hP, va_K.moved hW.alike hK, hD⟩, hS.F ht⟩) hS.2.2 dX7_wind_75
                · skip
                  rw [if_pos c22] at hJ
                  rw [if_pos c22] at hV
                  refine lv_aload_n hx hb dX7_wind_66 rfl (lv_at hl 3 rfl) ?_
                  refine lv_bipush (v := (-15 : Int32)) hx hb dX7_wind_67 (by decide) ?_
                  obtain ⟨hk31, hV⟩ := hV
                  refine cl_i (va_runV (As := [.int (-15 : Int32)]) (rest := []) ⟨hx, hb, hml, hown, hts⟩ (qX7_failWith l dC dI cy x ad H.size ((jX2_pullAt ((jX2_pullAt ((jX2_pullAt o d6 d2).2) d12 d2).2) d18 d2).2) (-15 : Int32) hk31) (cwV 1 hts gX7_wind_X7_failWith rfl rfl rfl (by decide +kernel) ⟨Nat.le_of_ble_eq_true rfl, Nat.le_of_ble_eq_true rfl⟩) (pV hK hP hD hk (q0 := 0) (wx_h (o := ((jX2_pullAt ((jX2_pullAt ((jX2_pullAt o d6 d2).2) d12 d2).2) d18 d2).2)) rfl) rfl) rfl rfl hl.1 rfl (lv_room (Nat.le_of_ble_eq_true rfl)) dX7_wind_69 ⟨Nat.le_of_ble_eq_true rfl, Nat.le_of_ble_eq_true rfl⟩) hD hS hA (fun r u H locs hw hP hD hS => ?_)
                  have hr1 : r = (jX7_failWith ((jX2_pullAt ((jX2_pullAt ((jX2_pullAt o d6 d2).2) d12 d2).2) d18 d2).2) (-15 : Int32)).1 := congrArg Prod.fst hw
                  have hu1 : u = (jX7_failWith ((jX2_pullAt ((jX2_pullAt ((jX2_pullAt o d6 d2).2) d12 d2).2) d18 d2).2) (-15 : Int32)).2 := congrArg Prod.snd hw
                  rw [hu1] at hP hD
                  rw [hr1]
                  refine lv_pop hx hb dX7_wind_72 rfl ?_
                  refine lv_iload hx hb dX7_wind_73 (lv_at hl 1 rfl) ?_
                  exact W.iret hx hb hr (fun t ht hW => ⟨⟨_, _, rfl, hJ.trans hE.symm, by rw [ht]; exact hP, va_K.moved hW.alike hK, hD⟩, hS.F ht⟩) hS.2.2 dX7_wind_75
            · skip
              rw [if_pos c16] at hJ
              rw [if_pos c16] at hV
              refine lv_aload_n hx hb dX7_wind_66 rfl (lv_at hl 3 rfl) ?_
              refine lv_bipush (v := (-15 : Int32)) hx hb dX7_wind_67 (by decide) ?_
              obtain ⟨hk32, hV⟩ := hV
              refine cl_i (va_runV (As := [.int (-15 : Int32)]) (rest := []) ⟨hx, hb, hml, hown, hts⟩ (qX7_failWith l dC dI cy x ad H.size ((jX2_pullAt ((jX2_pullAt o d6 d2).2) d12 d2).2) (-15 : Int32) hk32) (cwV 1 hts gX7_wind_X7_failWith rfl rfl rfl (by decide +kernel) ⟨Nat.le_of_ble_eq_true rfl, Nat.le_of_ble_eq_true rfl⟩) (pV hK hP hD hk (q0 := 0) (wx_h (o := ((jX2_pullAt ((jX2_pullAt o d6 d2).2) d12 d2).2)) rfl) rfl) rfl rfl hl.1 rfl (lv_room (Nat.le_of_ble_eq_true rfl)) dX7_wind_69 ⟨Nat.le_of_ble_eq_true rfl, Nat.le_of_ble_eq_true rfl⟩) hD hS hA (fun r u H locs hw hP hD hS => ?_)
              have hr1 : r = (jX7_failWith ((jX2_pullAt ((jX2_pullAt o d6 d2).2) d12 d2).2) (-15 : Int32)).1 := congrArg Prod.fst hw
              have hu1 : u = (jX7_failWith ((jX2_pullAt ((jX2_pullAt o d6 d2).2) d12 d2).2) (-15 : Int32)).2 := congrArg Prod.snd hw
              rw [hu1] at hP hD
              rw [hr1]
              refine lv_pop hx hb dX7_wind_72 rfl ?_
              refine lv_iload hx hb dX7_wind_73 (lv_at hl 1 rfl) ?_
              exact W.iret hx hb hr (fun t ht hW => ⟨⟨_, _, rfl, hJ.trans hE.symm, by rw [ht]; exact hP, va_K.moved hW.alike hK, hD⟩, hS.F ht⟩) hS.2.2 dX7_wind_75
        · skip
          rw [if_pos c10] at hJ
          rw [if_pos c10] at hV
          refine lv_aload_n hx hb dX7_wind_66 rfl (lv_at hl 3 rfl) ?_
          refine lv_bipush (v := (-15 : Int32)) hx hb dX7_wind_67 (by decide) ?_
          obtain ⟨hk33, hV⟩ := hV
          refine cl_i (va_runV (As := [.int (-15 : Int32)]) (rest := []) ⟨hx, hb, hml, hown, hts⟩ (qX7_failWith l dC dI cy x ad H.size ((jX2_pullAt o d6 d2).2) (-15 : Int32) hk33) (cwV 1 hts gX7_wind_X7_failWith rfl rfl rfl (by decide +kernel) ⟨Nat.le_of_ble_eq_true rfl, Nat.le_of_ble_eq_true rfl⟩) (pV hK hP hD hk (q0 := 0) (wx_h (o := ((jX2_pullAt o d6 d2).2)) rfl) rfl) rfl rfl hl.1 rfl (lv_room (Nat.le_of_ble_eq_true rfl)) dX7_wind_69 ⟨Nat.le_of_ble_eq_true rfl, Nat.le_of_ble_eq_true rfl⟩) hD hS hA (fun r u H locs hw hP hD hS => ?_)
          have hr1 : r = (jX7_failWith ((jX2_pullAt o d6 d2).2) (-15 : Int32)).1 := congrArg Prod.fst hw
          have hu1 : u = (jX7_failWith ((jX2_pullAt o d6 d2).2) (-15 : Int32)).2 := congrArg Prod.snd hw
          rw [hu1] at hP hD
          rw [hr1]
          refine lv_pop hx hb dX7_wind_72 rfl ?_
          refine lv_iload hx hb dX7_wind_73 (lv_at hl 1 rfl) ?_
          exact W.iret hx hb hr (fun t ht hW => ⟨⟨_, _, rfl, hJ.trans hE.symm, by rw [ht]; exact hP, va_K.moved hW.alike hK, hD⟩, hS.F ht⟩) hS.2.2 dX7_wind_75
def jX7_log (o : Os) (a1 : Int32) (a2 : Int32) (a3 : Int32) : Int32 × Os := (om (jX7_rowAt o a1 a2) ((-101 : Int32), o) (fun d2 => (if a3 < (-1 : Int32) then ((-102 : Int32), o) else (if a3 ≤ (16 : Int32) then ((1 : Int32), (jX5_renew o d2 a3)) else ((-102 : Int32), o)))))
def sX7_log (o : Os) (a1 : Int32) (a2 : Int32) (a3 : Int32) : Prop := True ∧ (sX7_rowAt o a1 a2 ∧ (om (jX7_rowAt o a1 a2) True (fun d2 => (if a3 < (-1 : Int32) then True else (if a3 ≤ (16 : Int32) then (sX5_renew o d2 a3 ∧ (d2 < 16 ∧ True)) else True)))))
set_option linter.constructorNameAsVariable false in
set_option maxHeartbeats 8000000 in
set_option maxRecDepth 100000 in
theorem qX7_log (l : Launch) (dC : Nat → ClassId) (dI : Nat → Nat → Nat) (cy : Nat → ClassId) (x : Nat) (ad : Nat → Nat) (sz : Nat) (o : Os) (a1 : Int32) (a2 : Int32) (a3 : Int32) (hV : sX7_log o a1 a2 a3) : Met l yX7_log wsX7_log ({ frames := 1, cells := 0, slots := 0, locals := 22 }) (va_Pc [.ref x, .int a1, .int a2, .int a3] (wI (dC, dI) (tyA cy) (WX cy x ad o) sz)) (va_Qi (fun r u => (r, u) = jX7_log o a1 a2 a3) (fun u t => wO (dC, dI) (tyA cy) (va_A (WX cy x ad o) sz) (WX cy x ad u) t) (va_A (WX cy x ad o) sz)) 0 0 (va_A (WX cy x ad o) sz) := by
  refine Met.ofW (cc := cX7_log) (maxL := 5) (ret := some .int) (by decide) rfl ?_
  intro p e s m args below meth c s₁ B hml hv
  obtain ⟨rfl, hsz, hP, hK, hD0, hk⟩ := hv
  have hx := B.exec
  have hb := B.bytes
  have hr := B.returns
  have hts := atoms_spec (ws := wsX7_log) B.pre
  have hown : s.vm.findClass RX7 = some m.cls := findClass_of_methodNamed B.named
  have hlocks := B.notSynchronized
  subst hsz
  have hD := hD0.self (sz := s.heap.size)
  generalize hAe : va_A (WX cy x ad o) s.heap.size = A at hD ⊢
  have hA : ∀ q : Nat, s.heap.size ≤ q → A q := fun q h => by rw [← hAe]; exact Or.inr h
  obtain ⟨H, hHe⟩ : ∃ H, s.heap = H := ⟨_, rfl⟩
  have hP : va_P (dC, dI) vwCl (WX cy x ad o) H := by rw [← hHe]; exact hP
  have hS : va_S A s.heap H [] := by rw [← hHe]; exact va_S.rf
  rw [w_heap hHe]
  have hi_wsX70 : ∀ w ∈ wsX70, w ∈ wsX7_log := fun _ h => List.mem_cons_of_mem _ (List.mem_append_left _ (List.mem_append_right _ h))
  have hi_wsX50 : ∀ w ∈ wsX50, w ∈ wsX7_log := fun _ h => List.mem_cons_of_mem _ (List.mem_append_right _ h)
  obtain ⟨JR, hE⟩ : ∃ q, jX7_log o a1 a2 a3 = q := ⟨_, rfl⟩
  have hJ := hE
  rw [jX7_log] at hJ
  rw [sX7_log] at hV
  have hV := hV.2
  have hl := lv_entry ([.ref x, .int a1, .int a2, .int a3]) (n := 5) (Nat.le_of_ble_eq_true rfl)
  rw [lg_entry_eq]
  generalize (lg_sl ([.ref x, .int a1, .int a2, .int a3]) ++ List.replicate (5 - (lg_sl ([.ref x, .int a1, .int a2, .int a3])).length) Slot.unset).toArray = ls at hl ⊢
  have hl : lv_has ls 5 [(0, .ref x), (1, .int a1), (2, .int a2), (3, .int a3)] := hl
  refine lv_aload_n hx hb dX7_log_0 rfl (lv_at hl 0 rfl) ?_
  refine lv_iload_n hx hb dX7_log_1 rfl (lv_at hl 1 rfl) ?_
  refine lv_iload_n hx hb dX7_log_2 rfl (lv_at hl 2 rfl) ?_
  obtain ⟨hk1, hV⟩ := hV
  refine va_csq (W.runV (As := [.int a1, .int a2]) (rest := []) ⟨hx, hb, hml, hown, hts⟩ (qX7_rowAt l dC dI cy x ad H.size o a1 a2 hk1) (cwV 2 hts gX7_log_X7_rowAt rfl rfl rfl (by decide +kernel) ⟨Nat.le_of_ble_eq_true rfl, Nat.le_of_ble_eq_true rfl⟩) (pV hK hP hD hk (q0 := 0) (wx_h (o := o) rfl) rfl) rfl rfl hl.1 rfl (lv_room (Nat.le_of_ble_eq_true rfl)) dX7_log_3 ⟨Nat.le_of_ble_eq_true rfl, Nat.le_of_ble_eq_true rfl⟩) (fun r hq9 => ?_)
  rcases hd2 : jX7_rowAt o a1 a2 with _ | d2
  · rw [hd2, om_n] at hJ
    rw [hd2, om_n] at hV
    rw [hd2] at hq9
    refine rf_n hq9 ?_
    refine lv_astoreN (lv' := [(4, .null), (0, .ref x), (1, .int a1), (2, .int a2), (3, .int a3)]) hx hb dX7_log_6 hl (by decide) rfl (fun ls hl => ?_)
    refine lv_aloadN hx hb dX7_log_8 (lv_at hl 0 rfl) ?_
    refine lv_ifnonnullN hx hb dX7_log_10 ?_
    refine lv_bipush (v := (-101 : Int32)) hx hb dX7_log_13 (by decide) ?_
    exact W.iret hx hb hr (fun t ht hW => ⟨⟨_, _, rfl, hJ.trans hE.symm, by rw [ht]; exact hP, va_K.moved hW.alike hK, hD⟩, hS.F ht⟩) hS.2.2 dX7_log_15
  · rw [hd2, om_s] at hJ
    rw [hd2, om_s] at hV
    rw [hd2] at hq9
    refine rf_s hq9 ?_
    refine lv_astore (lv' := [(4, .ref (ad (300 + d2))), (0, .ref x), (1, .int a1), (2, .int a2), (3, .int a3)]) hx hb dX7_log_6 hl (by decide) rfl (fun ls hl => ?_)
    refine lv_aload hx hb dX7_log_8 (lv_at hl 0 rfl) ?_
    refine lv_ifnonnull (tgt := 16) hx hb dX7_log_10 (by decide) ?_
    refine lv_iload_n hx hb dX7_log_16 rfl (lv_at hl 4 rfl) ?_
    refine lv_iconst (v := (-1 : Int32)) hx hb dX7_log_17 (by decide) ?_
    refine lv_icmp_lt (tgt := 27) hx hb dX7_log_18 (by decide) (fun c3 => ?_) (fun c3 => ?_)
    · skip
      rw [if_pos c3] at hJ
      rw [if_pos c3] at hV
      refine lv_bipush (v := (-102 : Int32)) hx hb dX7_log_27 (by decide) ?_
      exact W.iret hx hb hr (fun t ht hW => ⟨⟨_, _, rfl, hJ.trans hE.symm, by rw [ht]; exact hP, va_K.moved hW.alike hK, hD⟩, hS.F ht⟩) hS.2.2 dX7_log_29
    · skip
      rw [if_neg c3] at hJ
      rw [if_neg c3] at hV
      refine lv_iload_n hx hb dX7_log_21 rfl (lv_at hl 4 rfl) ?_
      refine lv_bipush (v := (16 : Int32)) hx hb dX7_log_22 (by decide) ?_
      refine lv_icmp_le (tgt := 30) hx hb dX7_log_24 (by decide) (fun c4 => ?_) (fun c4 => ?_)
      · skip
        rw [if_pos c4] at hJ
        rw [if_pos c4] at hV
        refine lv_aload hx hb dX7_log_30 (lv_at hl 0 rfl) ?_
        refine lv_iload_n hx hb dX7_log_32 rfl (lv_at hl 4 rfl) ?_
        obtain ⟨hk5, hV⟩ := hV
        obtain ⟨hk6, hV⟩ := hV
        refine cl_v (va_runV (As := [.int a3]) (rest := []) ⟨hx, hb, hml, hown, hts⟩ (qX5_renew l dC dI cy x ad H.size o d2 a3 hk5) (cwV 1 hts gX7_log_X5_renew rfl rfl rfl (by decide +kernel) ⟨Nat.le_of_ble_eq_true rfl, Nat.le_of_ble_eq_true rfl⟩) (pV hK hP hD hk (q0 := (7 + (c_nd o + (c_nv o + d2)))) (wx_row (o := o) hk6) rfl) rfl rfl hl.1 rfl (lv_room (Nat.le_of_ble_eq_true rfl)) dX7_log_33 ⟨Nat.le_of_ble_eq_true rfl, Nat.le_of_ble_eq_true rfl⟩) hD hS hA (fun u H locs hw hP hD hS => ?_)
        rw [hw] at hP hD
        refine lv_iconst (v := (1 : Int32)) hx hb dX7_log_36 (by decide) ?_
        exact W.iret hx hb hr (fun t ht hW => ⟨⟨_, _, rfl, hJ.trans hE.symm, by rw [ht]; exact hP, va_K.moved hW.alike hK, hD⟩, hS.F ht⟩) hS.2.2 dX7_log_37
      · skip
        rw [if_neg c4] at hJ
        rw [if_neg c4] at hV
        refine lv_bipush (v := (-102 : Int32)) hx hb dX7_log_27 (by decide) ?_
        exact W.iret hx hb hr (fun t ht hW => ⟨⟨_, _, rfl, hJ.trans hE.symm, by rw [ht]; exact hP, va_K.moved hW.alike hK, hD⟩, hS.F ht⟩) hS.2.2 dX7_log_29
def jX7_about_y3 (o : Os) (a1 : Int32) (y3 : Int32) : Int32 := (if y3 < 0 then (-102 : Int32) else (if (5 : Int32) ≤ y3 then (-102 : Int32) else (c_cn o y3.toNatClampNeg)))
def sX7_about_y3 (o : Os) (a1 : Int32) (y3 : Int32) : Prop := True ∧ (if y3 < 0 then True else (if (5 : Int32) ≤ y3 then True else (vp_in y3 5 ∧ True)))
def jX7_about (o : Os) (a1 : Int32) : Int32 := (if a1 = 0 then (nI (c_nd o)) else (if a1 = (1 : Int32) then (nI (c_nv o)) else (jX7_about_y3 o a1 (a1 - (2 : Int32)))))
def sX7_about (o : Os) (a1 : Int32) : Prop := True ∧ (if a1 = 0 then True else (if a1 = (1 : Int32) then True else (sX7_about_y3 o a1 (a1 - (2 : Int32)))))
set_option linter.constructorNameAsVariable false in
set_option maxHeartbeats 8000000 in
set_option maxRecDepth 100000 in
theorem qX7_about (l : Launch) (dC : Nat → ClassId) (dI : Nat → Nat → Nat) (cy : Nat → ClassId) (x : Nat) (ad : Nat → Nat) (sz : Nat) (o : Os) (a1 : Int32) (hV : sX7_about o a1) : Met l yX7_about wsX7_about ({ frames := 0, cells := 0, slots := 0, locals := 0 }) (va_Pc [.ref x, .int a1] (wI (dC, dI) (tyA cy) (WX cy x ad o) sz)) (vp_Si (fun r => r = jX7_about o a1)) 0 0 (fun _ => False) := by
  refine Met.ofW (cc := cX7_about) (maxL := 3) (ret := some .int) (by decide) rfl ?_
  intro p e s m args below meth c s₁ B hml hv
  obtain ⟨rfl, hsz, hP, hK, hD0, hk⟩ := hv
  have hx := B.exec
  have hb := B.bytes
  have hr := B.returns
  have hts := atoms_spec (ws := wsX7_about) B.pre
  have hown : s.vm.findClass RX7 = some m.cls := findClass_of_methodNamed B.named
  have hlocks := B.notSynchronized
  subst hsz
  have hD := hD0
  obtain ⟨H, hHe⟩ : ∃ H, s.heap = H := ⟨_, rfl⟩
  have hP : va_P (dC, dI) vwCl (WX cy x ad o) H := by rw [← hHe]; exact hP
  rw [w_heap hHe]
  have hi_wsX70 : ∀ w ∈ wsX70, w ∈ wsX7_about := fun _ h => List.mem_cons_of_mem _ (List.mem_append_right _ h)
  obtain ⟨JR, hE⟩ : ∃ q, jX7_about o a1 = q := ⟨_, rfl⟩
  have hJ := hE
  rw [jX7_about] at hJ
  rw [sX7_about] at hV
  have hV := hV.2
  have hl := lv_entry ([.ref x, .int a1]) (n := 3) (Nat.le_of_ble_eq_true rfl)
  rw [lg_entry_eq]
  generalize (lg_sl ([.ref x, .int a1]) ++ List.replicate (3 - (lg_sl ([.ref x, .int a1])).length) Slot.unset).toArray = ls at hl ⊢
  have hl : lv_has ls 3 [(0, .ref x), (1, .int a1)] := hl
  refine lv_iload_n hx hb dX7_about_0 rfl (lv_at hl 1 rfl) ?_
  refine lv_if_ne (tgt := 9) hx hb dX7_about_1 (by decide) (fun c1 => ?_) (fun c1 => ?_)
  · skip
    rw [if_neg c1] at hJ
    rw [if_neg c1] at hV
    refine lv_iload_n hx hb dX7_about_9 rfl (lv_at hl 1 rfl) ?_
    refine lv_iconst (v := (1 : Int32)) hx hb dX7_about_10 (by decide) ?_
    refine lv_icmp_ne (tgt := 19) hx hb dX7_about_11 (by decide) (fun c2 => ?_) (fun c2 => ?_)
    · skip
      rw [if_neg c2] at hJ
      rw [if_neg c2] at hV
      refine lv_iload_n hx hb dX7_about_19 rfl (lv_at hl 1 rfl) ?_
      refine lv_iconst (v := (2 : Int32)) hx hb dX7_about_20 (by decide) ?_
      refine lv_isub hx hb dX7_about_21 ?_
      refine lv_topi (fun y3 ey3 => ?_)
      rw [← ey3] at hJ
      rw [jX7_about_y3] at hJ
      rw [← ey3] at hV
      rw [sX7_about_y3] at hV
      have hV := hV.2
      refine lv_istore_n (lv' := [(2, .int y3), (0, .ref x), (1, .int a1)]) hx hb dX7_about_22 rfl hl (by decide) rfl (fun ls hl => ?_)
      refine lv_iload_n hx hb dX7_about_23 rfl (lv_at hl 0 rfl) ?_
      refine lv_if_lt (tgt := 41) hx hb dX7_about_24 (by decide) (fun c4 => ?_) (fun c4 => ?_)
      · skip
        rw [if_pos c4] at hJ
        rw [if_pos c4] at hV
        refine lv_bipush (v := (-102 : Int32)) hx hb dX7_about_41 (by decide) ?_
        exact W.iret hx hb hr (fun t ht hW => ⟨_, rfl, hJ.trans hE.symm, ht.trans hHe.symm⟩) (fun q h => absurd h List.not_mem_nil) dX7_about_43
      · skip
        rw [if_neg c4] at hJ
        rw [if_neg c4] at hV
        refine lv_iload_n hx hb dX7_about_27 rfl (lv_at hl 0 rfl) ?_
        refine lv_iconst (v := (5 : Int32)) hx hb dX7_about_28 (by decide) ?_
        refine lv_icmp_ge (tgt := 41) hx hb dX7_about_29 (by decide) (fun c5 => ?_) (fun c5 => ?_)
        · skip
          rw [if_pos c5] at hJ
          rw [if_pos c5] at hV
          refine lv_bipush (v := (-102 : Int32)) hx hb dX7_about_41 (by decide) ?_
          exact W.iret hx hb hr (fun t ht hW => ⟨_, rfl, hJ.trans hE.symm, ht.trans hHe.symm⟩) (fun q h => absurd h List.not_mem_nil) dX7_about_43
        · skip
          rw [if_neg c5] at hJ
          rw [if_neg c5] at hV
          refine lv_aload_n hx hb dX7_about_32 rfl (lv_at hl 1 rfl) ?_
          refine va_get (D := (dC, dI)) (ci := 5) (v := .ref (ad 6)) (C := RX7) (T := TX7) (N := 10) (fs := (cx_f ad o)) hx hb hts hi_wsX70 hown hK hP 0 (wx_h (o := o) rfl) rfl 9 (by decide) (hts (.fieldLink RX7 47 "OrreryDials" "failureCounts" "[I") (by decide +kernel)) (fun _ h9 => h9) rfl dX7_about_33 ?_
          refine lv_iload_n hx hb dX7_about_36 rfl (lv_at hl 0 rfl) ?_
          obtain ⟨hk6, hV⟩ := hV
          refine va_iald hx hb hK hP 6 0 (wx_h (o := o) rfl) rfl hk6 dX7_about_37 ?_
          refine lv_goto (tgt := 43) hx hb dX7_about_38 (by decide) ?_
          exact W.iret hx hb hr (fun t ht hW => ⟨_, rfl, hJ.trans hE.symm, ht.trans hHe.symm⟩) (fun q h => absurd h List.not_mem_nil) dX7_about_43
    · skip
      rw [if_pos c2] at hJ
      rw [if_pos c2] at hV
      refine lv_aload_n hx hb dX7_about_14 rfl (lv_at hl 0 rfl) ?_
      refine va_get (D := (dC, dI)) (ci := 5) (v := .int (nI (c_nv o))) (C := RX7) (T := TX7) (N := 10) (fs := (cx_f ad o)) hx hb hts hi_wsX70 hown hK hP 0 (wx_h (o := o) rfl) rfl 3 (by decide) (hts (.fieldLink RX7 25 "OrreryDials" "driveCount" "I") (by decide +kernel)) (fun _ h9 => h9) rfl dX7_about_15 ?_
      exact W.iret hx hb hr (fun t ht hW => ⟨_, rfl, hJ.trans hE.symm, ht.trans hHe.symm⟩) (fun q h => absurd h List.not_mem_nil) dX7_about_18
  · skip
    rw [if_pos c1] at hJ
    rw [if_pos c1] at hV
    refine lv_aload_n hx hb dX7_about_4 rfl (lv_at hl 0 rfl) ?_
    refine va_get (D := (dC, dI)) (ci := 5) (v := .int (nI (c_nd o))) (C := RX7) (T := TX7) (N := 10) (fs := (cx_f ad o)) hx hb hts hi_wsX70 hown hK hP 0 (wx_h (o := o) rfl) rfl 1 (by decide) (hts (.fieldLink RX7 15 "OrreryDials" "dialCount" "I") (by decide +kernel)) (fun _ h9 => h9) rfl dX7_about_5 ?_
    exact W.iret hx hb hr (fun t ht hW => ⟨_, rfl, hJ.trans hE.symm, ht.trans hHe.symm⟩) (fun q h => absurd h List.not_mem_nil) dX7_about_8
