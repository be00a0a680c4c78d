def jX1_turnBy_o4 (o : Os) (i : Nat) (a1 : Int64) (y2 : Int64) (o4 : Os) : Int32 × Os := ((1 : Int32), o4)
def sX1_turnBy_o4 (o : Os) (i : Nat) (a1 : Int64) (y2 : Int64) (o4 : Os) : Prop := True ∧ True
def jX1_turnBy_y2 (o : Os) (i : Nat) (a1 : Int64) (y2 : Int64) : Int32 × Os := (if (jX4_isFit (c_dF o i) y2) = 0 then ((0 : Int32), o) else (jX1_turnBy_o4 o i a1 y2 (t_dP (t_dL o (va_up (c_dL o) i ((c_dL o i) + (jX4_cutToLong (c_dF o i) (jX4_quotient (c_dF o i) y2 (c_dR o i)))))) (va_up (c_dP (t_dL o (va_up (c_dL o) i ((c_dL o i) + (jX4_cutToLong (c_dF o i) (jX4_quotient (c_dF o i) y2 (c_dR o i))))))) i (jX4_leftOver (c_dF (t_dL o (va_up (c_dL o) i ((c_dL o i) + (jX4_cutToLong (c_dF o i) (jX4_quotient (c_dF o i) y2 (c_dR o i)))))) i) y2 (c_dR (t_dL o (va_up (c_dL o) i ((c_dL o i) + (jX4_cutToLong (c_dF o i) (jX4_quotient (c_dF o i) y2 (c_dR o i)))))) i))))))
def sX1_turnBy_y2 (o : Os) (i : Nat) (a1 : Int64) (y2 : Int64) : Prop := True ∧ (if (jX4_isFit (c_dF o i) y2) = 0 then True else (sX1_turnBy_o4 o i a1 y2 (t_dP (t_dL o (va_up (c_dL o) i ((c_dL o i) + (jX4_cutToLong (c_dF o i) (jX4_quotient (c_dF o i) y2 (c_dR o i)))))) (va_up (c_dP (t_dL o (va_up (c_dL o) i ((c_dL o i) + (jX4_cutToLong (c_dF o i) (jX4_quotient (c_dF o i) y2 (c_dR o i))))))) i (jX4_leftOver (c_dF (t_dL o (va_up (c_dL o) i ((c_dL o i) + (jX4_cutToLong (c_dF o i) (jX4_quotient (c_dF o i) y2 (c_dR o i)))))) i) y2 (c_dR (t_dL o (va_up (c_dL o) i ((c_dL o i) + (jX4_cutToLong (c_dF o i) (jX4_quotient (c_dF o i) y2 (c_dR o i)))))) i))))))
def jX1_turnBy (o : Os) (i : Nat) (a1 : Int64) : Int32 × Os := (jX1_turnBy_y2 o i a1 (jX4_sum (c_dF o i) (c_dP o i) a1))
def sX1_turnBy (o : Os) (i : Nat) (a1 : Int64) : Prop := True ∧ (i < c_nd o ∧ (sX1_turnBy_y2 o i a1 (jX4_sum (c_dF o i) (c_dP o i) a1)))
set_option linter.constructorNameAsVariable false in
set_option maxHeartbeats 8000000 in
set_option maxRecDepth 100000 in
theorem qX1_turnBy (l : Launch) (dC : Nat → ClassId) (dI : Nat → Nat → Nat) (cy : Nat → ClassId) (x : Nat) (ad : Nat → Nat) (sz : Nat) (o : Os) (i : Nat) (a1 : Int64) (hV : sX1_turnBy o i a1) : Met l yX1_turnBy wsX1_turnBy ({ frames := 5, cells := 0, slots := 0, locals := 134 }) (va_Pc [.ref (ad (100 + i)), .long a1] (wI (dC, dI) (tyA cy) (WX cy x ad o) sz)) (va_Qi (fun r u => (r, u) = jX1_turnBy o i a1) (fun u t => wO (dC, dI) (tyA cy) (va_A (WX cy x ad o) sz) (WX cy x ad u) t) (va_A (WX cy x ad o) sz)) 0 0 (va_A (WX cy x ad o) sz) := by
  refine Met.ofW (cc := cX1_turnBy) (maxL := 5) (ret := some .boolean) (by decide) rfl ?_
  intro p e s m args below meth c s₁ B hml hv
  obtain ⟨rfl, hsz, hP, hK, hD0, hk⟩ := hv
  have hx := B.exec
  have hb := B.bytes
  have hr := B.returns
  have hts := atoms_spec (ws := wsX1_turnBy) B.pre
  have hown : s.vm.findClass RX1 = some m.cls := findClass_of_methodNamed B.named
  have hlocks := B.notSynchronized
  subst hsz
  have hD := hD0.self (sz := s.heap.size)
  generalize hAe : va_A (WX cy x ad o) s.heap.size = A at hD ⊢
  have hA : ∀ q : Nat, s.heap.size ≤ q → A q := fun q h => by rw [← hAe]; exact Or.inr h
  obtain ⟨H, hHe⟩ : ∃ H, s.heap = H := ⟨_, rfl⟩
  have hP : va_P (dC, dI) vwCl (WX cy x ad o) H := by rw [← hHe]; exact hP
  have hS : va_S A s.heap H [] := by rw [← hHe]; exact va_S.rf
  rw [w_heap hHe]
  have hi_wsX10 : ∀ w ∈ wsX10, w ∈ wsX1_turnBy := fun _ h => List.mem_cons_of_mem _ (List.mem_append_right _ h)
  obtain ⟨JR, hE⟩ : ∃ q, jX1_turnBy o i a1 = q := ⟨_, rfl⟩
  have hJ := hE
  rw [jX1_turnBy] at hJ
  rw [sX1_turnBy] at hV
  have hV := hV.2
  have hl := lv_entry ([.ref (ad (100 + i)), .long a1]) (n := 5) (Nat.le_of_ble_eq_true rfl)
  rw [lg_entry_eq]
  generalize (lg_sl ([.ref (ad (100 + i)), .long a1]) ++ List.replicate (5 - (lg_sl ([.ref (ad (100 + i)), .long a1])).length) Slot.unset).toArray = ls at hl ⊢
  have hl : lv_has ls 5 [(0, .ref (ad (100 + i))), (1, .long a1)] := hl
  refine lv_aload_n hx hb dX1_turnBy_0 rfl (lv_at hl 0 rfl) ?_
  obtain ⟨hk1, hV⟩ := hV
  refine va_get (D := (dC, dI)) (ci := 1) (v := .int (c_dF o i)) (C := RX1) (T := TX1) (N := 4) (fs := (cx_dial o i)) hx hb hts hi_wsX10 hown hK hP (7 + i) (wx_dial (o := o) hk1) rfl 0 (by decide) (hts (.fieldLink RX1 16 "OrreryDials$Dial" "fine" "Z") (by decide +kernel)) (fun _ h9 => h9) rfl dX1_turnBy_1 ?_
  refine lv_aload_n hx hb dX1_turnBy_4 rfl (lv_at hl 0 rfl) ?_
  refine va_get (D := (dC, dI)) (ci := 1) (v := .long (c_dP o i)) (C := RX1) (T := TX1) (N := 4) (fs := (cx_dial o i)) hx hb hts hi_wsX10 hown hK hP (7 + i) (wx_dial (o := o) hk1) rfl 2 (by decide) (hts (.fieldLink RX1 7 "OrreryDials$Dial" "place" "J") (by decide +kernel)) (fun _ h9 => h9) rfl dX1_turnBy_5 ?_
  refine lv_lload_n hx hb dX1_turnBy_8 rfl (lv_at hl 1 rfl) ?_
  refine vp_callSl (W.runS (As := [.int (c_dF o i), .long (c_dP o i), .long a1]) (rest := []) ⟨hx, hb, hml, hown, hts⟩ (qX4_sum l (c_dF o i) (c_dP o i) a1) (va_cwS 3 hts gX1_turnBy_X4_sum rfl rfl rfl (by decide +kernel) ⟨Nat.le_of_ble_eq_true rfl, Nat.le_of_ble_eq_true rfl⟩) ⟨fun _ _ _ _ q => q, fun U hU hW => rfl⟩ rfl rfl hl.1 rfl (lv_room (Nat.le_of_ble_eq_true rfl)) dX1_turnBy_9 ⟨Nat.le_of_ble_eq_true rfl, Nat.le_of_ble_eq_true rfl⟩) (fun r hq9 => ?_)
  rw [hq9]
  refine lv_topl (fun y2 ey2 => ?_)
  rw [← ey2] at hJ
  rw [jX1_turnBy_y2] at hJ
  rw [← ey2] at hV
  rw [sX1_turnBy_y2] at hV
  have hV := hV.2
  refine lv_lstore_n (lv' := [(3, .long y2), (0, .ref (ad (100 + i))), (1, .long a1)]) hx hb dX1_turnBy_12 rfl hl (by decide) rfl (fun ls hl => ?_)
  refine lv_aload_n hx hb dX1_turnBy_13 rfl (lv_at hl 1 rfl) ?_
  refine va_get (D := (dC, dI)) (ci := 1) (v := .int (c_dF o i)) (C := RX1) (T := TX1) (N := 4) (fs := (cx_dial o i)) hx hb hts hi_wsX10 hown hK hP (7 + i) (wx_dial (o := o) hk1) rfl 0 (by decide) (hts (.fieldLink RX1 16 "OrreryDials$Dial" "fine" "Z") (by decide +kernel)) (fun _ h9 => h9) rfl dX1_turnBy_14 ?_
  refine lv_lload_n hx hb dX1_turnBy_17 rfl (lv_at hl 0 rfl) ?_
  refine vp_callSi (W.runS (As := [.int (c_dF o i), .long y2]) (rest := []) ⟨hx, hb, hml, hown, hts⟩ (qX4_isFit l (c_dF o i) y2) (va_cwS 2 hts gX1_turnBy_X4_isFit rfl rfl rfl (by decide +kernel) ⟨Nat.le_of_ble_eq_true rfl, Nat.le_of_ble_eq_true rfl⟩) ⟨fun _ _ _ _ q => q, fun U hU hW => rfl⟩ rfl rfl hl.1 rfl (lv_room (Nat.le_of_ble_eq_true rfl)) dX1_turnBy_18 ⟨Nat.le_of_ble_eq_true rfl, Nat.le_of_ble_eq_true rfl⟩) (fun r hq9 => ?_)
  rw [hq9]
  refine lv_if_ne (tgt := 26) hx hb dX1_turnBy_21 (by decide) (fun c3 => ?_) (fun c3 => ?_)
  · skip
    rw [if_neg c3] at hJ
    rw [if_neg c3] at hV
    refine lv_aload_n hx hb dX1_turnBy_26 rfl (lv_at hl 1 rfl) ?_
    refine lv_dup hx hb dX1_turnBy_27 rfl ?_
    refine va_get (D := (dC, dI)) (ci := 1) (v := .long (c_dL o i)) (C := RX1) (T := TX1) (N := 4) (fs := (cx_dial o i)) hx hb hts hi_wsX10 hown hK hP (7 + i) (wx_dial (o := o) hk1) rfl 3 (by decide) (hts (.fieldLink RX1 13 "OrreryDials$Dial" "laps" "J") (by decide +kernel)) (fun _ h9 => h9) rfl dX1_turnBy_28 ?_
    refine lv_aload_n hx hb dX1_turnBy_31 rfl (lv_at hl 1 rfl) ?_
    refine va_get (D := (dC, dI)) (ci := 1) (v := .int (c_dF o i)) (C := RX1) (T := TX1) (N := 4) (fs := (cx_dial o i)) hx hb hts hi_wsX10 hown hK hP (7 + i) (wx_dial (o := o) hk1) rfl 0 (by decide) (hts (.fieldLink RX1 16 "OrreryDials$Dial" "fine" "Z") (by decide +kernel)) (fun _ h9 => h9) rfl dX1_turnBy_32 ?_
    refine lv_aload_n hx hb dX1_turnBy_35 rfl (lv_at hl 1 rfl) ?_
    refine va_get (D := (dC, dI)) (ci := 1) (v := .int (c_dF o i)) (C := RX1) (T := TX1) (N := 4) (fs := (cx_dial o i)) hx hb hts hi_wsX10 hown hK hP (7 + i) (wx_dial (o := o) hk1) rfl 0 (by decide) (hts (.fieldLink RX1 16 "OrreryDials$Dial" "fine" "Z") (by decide +kernel)) (fun _ h9 => h9) rfl dX1_turnBy_36 ?_
    refine lv_lload_n hx hb dX1_turnBy_39 rfl (lv_at hl 0 rfl) ?_
    refine lv_aload_n hx hb dX1_turnBy_40 rfl (lv_at hl 1 rfl) ?_
    refine va_get (D := (dC, dI)) (ci := 1) (v := .long (c_dR o i)) (C := RX1) (T := TX1) (N := 4) (fs := (cx_dial o i)) hx hb hts hi_wsX10 hown hK hP (7 + i) (wx_dial (o := o) hk1) rfl 1 (by decide) (hts (.fieldLink RX1 20 "OrreryDials$Dial" "rim" "J") (by decide +kernel)) (fun _ h9 => h9) rfl dX1_turnBy_41 ?_
    refine vp_callSl (W.runS (As := [.int (c_dF o i), .long y2, .long (c_dR o i)]) (rest := [.int (c_dF o i), .long (c_dL o i), .ref (ad (100 + i))]) ⟨hx, hb, hml, hown, hts⟩ (qX4_quotient l (c_dF o i) y2 (c_dR o i)) (va_cwS 3 hts gX1_turnBy_X4_quotient rfl rfl rfl (by decide +kernel) ⟨Nat.le_of_ble_eq_true rfl, Nat.le_of_ble_eq_true rfl⟩) ⟨fun _ _ _ _ q => q, fun U hU hW => rfl⟩ rfl rfl hl.1 rfl (lv_room (Nat.le_of_ble_eq_true rfl)) dX1_turnBy_44 ⟨Nat.le_of_ble_eq_true rfl, Nat.le_of_ble_eq_true rfl⟩) (fun r hq9 => ?_)
    rw [hq9]
    refine vp_callSl (W.runS (As := [.int (c_dF o i), .long (jX4_quotient (c_dF o i) y2 (c_dR o i))]) (rest := [.long (c_dL o i), .ref (ad (100 + i))]) ⟨hx, hb, hml, hown, hts⟩ (qX4_cutToLong l (c_dF o i) (jX4_quotient (c_dF o i) y2 (c_dR o i))) (va_cwS 2 hts gX1_turnBy_X4_cutToLong rfl rfl rfl (by decide +kernel) ⟨Nat.le_of_ble_eq_true rfl, Nat.le_of_ble_eq_true rfl⟩) ⟨fun _ _ _ _ q => q, fun U hU hW => rfl⟩ rfl rfl hl.1 rfl (lv_room (Nat.le_of_ble_eq_true rfl)) dX1_turnBy_47 ⟨Nat.le_of_ble_eq_true rfl, Nat.le_of_ble_eq_true rfl⟩) (fun r hq9 => ?_)
    rw [hq9]
    refine lv_ladd hx hb dX1_turnBy_50 ?_
    refine va_put (D := (dC, dI)) (ci := 1) (v := .long ((c_dL o i) + (jX4_cutToLong (c_dF o i) (jX4_quotient (c_dF o i) y2 (c_dR o i))))) (ty := .long) (C := RX1) (T := TX1) (N := 4) (fs := (cx_dial o i)) hx hb hts hi_wsX10 tyX1 tyX1_ok nmX1 hown hK hP hD hS (7 + i) (wx_dial (o := o) hk1) rfl 3 (by decide) (hts (.fieldLink RX1 13 "OrreryDials$Dial" "laps" "J") (by decide +kernel)) (fun _ h9 => h9) rfl (by decide +kernel) rfl rfl (Nat.le_of_ble_eq_true rfl) dX1_turnBy_51 (fun H locs hP hD hS => ?_)
    rw [wx_p_dL (o := o) hk1] at hP hD
    refine lv_aload_n hx hb dX1_turnBy_54 rfl (lv_at hl 1 rfl) ?_
    refine lv_aload_n hx hb dX1_turnBy_55 rfl (lv_at hl 1 rfl) ?_
    refine va_get (D := (dC, dI)) (ci := 1) (v := .int (c_dF (t_dL o (va_up (c_dL o) i ((c_dL o i) + (jX4_cutToLong (c_dF o i) (jX4_quotient (c_dF o i) y2 (c_dR o i)))))) i)) (C := RX1) (T := TX1) (N := 4) (fs := (cx_dial (t_dL o (va_up (c_dL o) i ((c_dL o i) + (jX4_cutToLong (c_dF o i) (jX4_quotient (c_dF o i) y2 (c_dR o i)))))) i)) hx hb hts hi_wsX10 hown hK hP (7 + i) (wx_dial (o := (t_dL o (va_up (c_dL o) i ((c_dL o i) + (jX4_cutToLong (c_dF o i) (jX4_quotient (c_dF o i) y2 (c_dR o i))))))) hk1) rfl 0 (by decide) (hts (.fieldLink RX1 16 "OrreryDials$Dial" "fine" "Z") (by decide +kernel)) (fun _ h9 => h9) rfl dX1_turnBy_56 ?_
    refine lv_lload_n hx hb dX1_turnBy_59 rfl (lv_at hl 0 rfl) ?_
    refine lv_aload_n hx hb dX1_turnBy_60 rfl (lv_at hl 1 rfl) ?_
    refine va_get (D := (dC, dI)) (ci := 1) (v := .long (c_dR (t_dL o (va_up (c_dL o) i ((c_dL o i) + (jX4_cutToLong (c_dF o i) (jX4_quotient (c_dF o i) y2 (c_dR o i)))))) i)) (C := RX1) (T := TX1) (N := 4) (fs := (cx_dial (t_dL o (va_up (c_dL o) i ((c_dL o i) + (jX4_cutToLong (c_dF o i) (jX4_quotient (c_dF o i) y2 (c_dR o i)))))) i)) hx hb hts hi_wsX10 hown hK hP (7 + i) (wx_dial (o := (t_dL o (va_up (c_dL o) i ((c_dL o i) + (jX4_cutToLong (c_dF o i) (jX4_quotient (c_dF o i) y2 (c_dR o i))))))) hk1) rfl 1 (by decide) (hts (.fieldLink RX1 20 "OrreryDials$Dial" "rim" "J") (by decide +kernel)) (fun _ h9 => h9) rfl dX1_turnBy_61 ?_
    refine vp_callSl (W.runS (As := [.int (c_dF (t_dL o (va_up (c_dL o) i ((c_dL o i) + (jX4_cutToLong (c_dF o i) (jX4_quotient (c_dF o i) y2 (c_dR o i)))))) i), .long y2, .long (c_dR (t_dL o (va_up (c_dL o) i ((c_dL o i) + (jX4_cutToLong (c_dF o i) (jX4_quotient (c_dF o i) y2 (c_dR o i)))))) i)]) (rest := [.ref (ad (100 + i))]) ⟨hx, hb, hml, hown, hts⟩ (qX4_leftOver l (c_dF (t_dL o (va_up (c_dL o) i ((c_dL o i) + (jX4_cutToLong (c_dF o i) (jX4_quotient (c_dF o i) y2 (c_dR o i)))))) i) y2 (c_dR (t_dL o (va_up (c_dL o) i ((c_dL o i) + (jX4_cutToLong (c_dF o i) (jX4_quotient (c_dF o i) y2 (c_dR o i)))))) i)) (va_cwS 3 hts gX1_turnBy_X4_leftOver rfl rfl rfl (by decide +kernel) ⟨Nat.le_of_ble_eq_true rfl, Nat.le_of_ble_eq_true rfl⟩) ⟨fun _ _ _ _ q => q, fun U hU hW => rfl⟩ rfl rfl hl.1 rfl (lv_room (Nat.le_of_ble_eq_true rfl)) dX1_turnBy_64 ⟨Nat.le_of_ble_eq_true rfl, Nat.le_of_ble_eq_true rfl⟩) (fun r hq9 => ?_)
    rw [hq9]
    refine va_put (D := (dC, dI)) (ci := 1) (v := .long (jX4_leftOver (c_dF (t_dL o (va_up (c_dL o) i ((c_dL o i) + (jX4_cutToLong (c_dF o i) (jX4_quotient (c_dF o i) y2 (c_dR o i)))))) i) y2 (c_dR (t_dL o (va_up (c_dL o) i ((c_dL o i) + (jX4_cutToLong (c_dF o i) (jX4_quotient (c_dF o i) y2 (c_dR o i)))))) i))) (ty := .long) (C := RX1) (T := TX1) (N := 4) (fs := (cx_dial (t_dL o (va_up (c_dL o) i ((c_dL o i) + (jX4_cutToLong (c_dF o i) (jX4_quotient (c_dF o i) y2 (c_dR o i)))))) i)) hx hb hts hi_wsX10 tyX1 tyX1_ok nmX1 hown hK hP hD hS (7 + i) (wx_dial (o := (t_dL o (va_up (c_dL o) i ((c_dL o i) + (jX4_cutToLong (c_dF o i) (jX4_quotient (c_dF o i) y2 (c_dR o i))))))) hk1) rfl 2 (by decide) (hts (.fieldLink RX1 7 "OrreryDials$Dial" "place" "J") (by decide +kernel)) (fun _ h9 => h9) rfl (by decide +kernel) rfl rfl (Nat.le_of_ble_eq_true rfl) dX1_turnBy_67 (fun H locs hP hD hS => ?_)
    rw [wx_p_dP (o := (t_dL o (va_up (c_dL o) i ((c_dL o i) + (jX4_cutToLong (c_dF o i) (jX4_quotient (c_dF o i) y2 (c_dR o i))))))) hk1] at hP hD
    obtain ⟨o4, eo4⟩ : ∃ z, z = (t_dP (t_dL o (va_up (c_dL o) i ((c_dL o i) + (jX4_cutToLong (c_dF o i) (jX4_quotient (c_dF o i) y2 (c_dR o i)))))) (va_up (c_dP (t_dL o (va_up (c_dL o) i ((c_dL o i) + (jX4_cutToLong (c_dF o i) (jX4_quotient (c_dF o i) y2 (c_dR o i))))))) i (jX4_leftOver (c_dF (t_dL o (va_up (c_dL o) i ((c_dL o i) + (jX4_cutToLong (c_dF o i) (jX4_quotient (c_dF o i) y2 (c_dR o i)))))) i) y2 (c_dR (t_dL o (va_up (c_dL o) i ((c_dL o i) + (jX4_cutToLong (c_dF o i) (jX4_quotient (c_dF o i) y2 (c_dR o i)))))) i)))) := ⟨_, rfl⟩
    rw [← eo4] at hP hD hJ hV
    rw [jX1_turnBy_o4] at hJ
    rw [sX1_turnBy_o4] at hV
    have hV := hV.2
    refine lv_iconst (v := (1 : Int32)) hx hb dX1_turnBy_70 (by decide) ?_
    exact W.zret hx hb hr rfl (fun t ht hW => ⟨⟨_, _, rfl, hJ.trans hE.symm, by rw [ht]; exact hP, va_K.moved hW.alike hK, hD⟩, hS.F ht⟩) hS.2.2 dX1_turnBy_71
  · skip
    rw [if_pos c3] at hJ
    rw [if_pos c3] at hV
    refine lv_iconst (v := (0 : Int32)) hx hb dX1_turnBy_24 (by decide) ?_
    exact W.zret hx hb hr rfl (fun t ht hW => ⟨⟨_, _, rfl, hJ.trans hE.symm, by rw [ht]; exact hP, va_K.moved hW.alike hK, hD⟩, hS.F ht⟩) hS.2.2 dX1_turnBy_25
theorem bX1_turnBy_o4 (o : Os) (i : Nat) (a1 : Int64) (y2 : Int64) (o4 : Os) : (jX1_turnBy_o4 o i a1 y2 o4).1 = 0 ∨ (jX1_turnBy_o4 o i a1 y2 o4).1 = 1 := by
  unfold jX1_turnBy_o4
  exact (Or.inr rfl)
theorem bX1_turnBy_y2 (o : Os) (i : Nat) (a1 : Int64) (y2 : Int64) : (jX1_turnBy_y2 o i a1 y2).1 = 0 ∨ (jX1_turnBy_y2 o i a1 y2).1 = 1 := by
  unfold jX1_turnBy_y2
  exact (ib (Or.inl rfl) (bX1_turnBy_o4 o i a1 y2 (t_dP (t_dL o (va_up (c_dL o) i ((c_dL o i) + (jX4_cutToLong (c_dF o i) (jX4_quotient (c_dF o i) y2 (c_dR o i)))))) (va_up (c_dP (t_dL o (va_up (c_dL o) i ((c_dL o i) + (jX4_cutToLong (c_dF o i) (jX4_quotient (c_dF o i) y2 (c_dR o i))))))) i (jX4_leftOver (c_dF (t_dL o (va_up (c_dL o) i ((c_dL o i) + (jX4_cutToLong (c_dF o i) (jX4_quotient (c_dF o i) y2 (c_dR o i)))))) i) y2 (c_dR (t_dL o (va_up (c_dL o) i ((c_dL o i) + (jX4_cutToLong (c_dF o i) (jX4_quotient (c_dF o i) y2 (c_dR o i)))))) i))))))
theorem bX1_turnBy (o : Os) (i : Nat) (a1 : Int64) : (jX1_turnBy o i a1).1 = 0 ∨ (jX1_turnBy o i a1).1 = 1 := by
  unfold jX1_turnBy
  exact (bX1_turnBy_y2 o i a1 (jX4_sum (c_dF o i) (c_dP o i) a1))
def jX6_forceAt (o : Os) (d : Nat) (a1 : Int64) : Int64 := (jX4_sum (1 : Int32) (c_vP o d) (jX4_negated a1))
def sX6_forceAt (o : Os) (d : Nat) (a1 : Int64) : Prop := True ∧ (d < c_nv o ∧ (c_vS o d = 0 ∧ True))
set_option linter.constructorNameAsVariable false in
set_option maxHeartbeats 8000000 in
set_option maxRecDepth 100000 in
theorem qX6_forceAt (l : Launch) (dC : Nat → ClassId) (dI : Nat → Nat → Nat) (cy : Nat → ClassId) (x : Nat) (ad : Nat → Nat) (sz : Nat) (o : Os) (d : Nat) (a1 : Int64) (hV : sX6_forceAt o d a1) : Met l yX6_forceAt wsX6_forceAt ({ frames := 5, cells := 0, slots := 0, locals := 134 }) (va_Pc [.ref (ad (200 + d)), .long a1] (wI (dC, dI) (tyA cy) (WX cy x ad o) sz)) (vp_Sl (fun r => r = jX6_forceAt o d a1)) 0 0 (fun _ => False) := by
  refine Met.ofW (cc := cX6_forceAt) (maxL := 3) (ret := some .long) (by decide) rfl ?_
  intro p e s m args below meth c s₁ B hml hv
  obtain ⟨rfl, hsz, hP, hK, hD0, hk⟩ := hv
  have hx := B.exec
  have hb := B.bytes
  have hr := B.returns
  have hts := atoms_spec (ws := wsX6_forceAt) B.pre
  have hown : s.vm.findClass RX6 = some m.cls := findClass_of_methodNamed B.named
  have hlocks := B.notSynchronized
  subst hsz
  have hD := hD0
  obtain ⟨H, hHe⟩ : ∃ H, s.heap = H := ⟨_, rfl⟩
  have hP : va_P (dC, dI) vwCl (WX cy x ad o) H := by rw [← hHe]; exact hP
  rw [w_heap hHe]
  have hi_wsX00 : ∀ w ∈ wsX00, w ∈ wsX6_forceAt := fun _ h => List.mem_cons_of_mem _ (List.mem_append_left _ (List.mem_append_left _ (List.mem_append_right _ h)))
  have hi_wsX30 : ∀ w ∈ wsX30, w ∈ wsX6_forceAt := fun _ h => List.mem_cons_of_mem _ (List.mem_append_left _ (List.mem_append_right _ h))
  have hi_wsX60 : ∀ w ∈ wsX60, w ∈ wsX6_forceAt := fun _ h => List.mem_cons_of_mem _ (List.mem_append_right _ h)
  obtain ⟨JR, hE⟩ : ∃ q, jX6_forceAt o d a1 = q := ⟨_, rfl⟩
  have hJ := hE
  rw [jX6_forceAt] at hJ
  rw [sX6_forceAt] at hV
  have hV := hV.2
  have hl := lv_entry ([.ref (ad (200 + d)), .long a1]) (n := 3) (Nat.le_of_ble_eq_true rfl)
  rw [lg_entry_eq]
  generalize (lg_sl ([.ref (ad (200 + d)), .long a1]) ++ List.replicate (3 - (lg_sl ([.ref (ad (200 + d)), .long a1])).length) Slot.unset).toArray = ls at hl ⊢
  have hl : lv_has ls 3 [(0, .ref (ad (200 + d))), (1, .long a1)] := hl
  refine lv_iconst (v := (1 : Int32)) hx hb dX6_forceAt_0 (by decide) ?_
  refine lv_aload_n hx hb dX6_forceAt_1 rfl (lv_at hl 0 rfl) ?_
  obtain ⟨hk1, hV⟩ := hV
  obtain ⟨hk2, hV⟩ := hV
  refine va_get (D := (dC, dI)) (ci := 4) (v := .long (c_vP o d)) (C := RX6) (T := TX6) (N := 3) (fs := (cx_spring o d)) hx hb hts hi_wsX60 hown hK hP (7 + (c_nd o + d)) (wx_spring (o := o) hk1 hk2) rfl 1 (by decide) (hts (.fieldLink RX6 7 "OrreryDials$Spring" "pull" "J") (by decide +kernel)) (u_same (hts (.sameField "OrreryDials$Spring" "OrreryDials$Drive" "pull" "J") (by decide +kernel))) rfl dX6_forceAt_2 ?_
  refine lv_lload_n hx hb dX6_forceAt_5 rfl (lv_at hl 1 rfl) ?_
  refine vp_callSl (W.runS (As := [.long a1]) (rest := [.long (c_vP o d), .int (1 : Int32)]) ⟨hx, hb, hml, hown, hts⟩ (qX4_negated l a1) (va_cwS 1 hts gX6_forceAt_X4_negated rfl rfl rfl (by decide +kernel) ⟨Nat.le_of_ble_eq_true rfl, Nat.le_of_ble_eq_true rfl⟩) ⟨fun _ _ _ _ q => q, fun U hU hW => rfl⟩ rfl rfl hl.1 rfl (lv_room (Nat.le_of_ble_eq_true rfl)) dX6_forceAt_6 ⟨Nat.le_of_ble_eq_true rfl, Nat.le_of_ble_eq_true rfl⟩) (fun r hq9 => ?_)
  rw [hq9]
  refine vp_callSl (W.runS (As := [.int (1 : Int32), .long (c_vP o d), .long (jX4_negated a1)]) (rest := []) ⟨hx, hb, hml, hown, hts⟩ (qX4_sum l (1 : Int32) (c_vP o d) (jX4_negated a1)) (va_cwS 3 hts gX6_forceAt_X4_sum rfl rfl rfl (by decide +kernel) ⟨Nat.le_of_ble_eq_true rfl, Nat.le_of_ble_eq_true rfl⟩) ⟨fun _ _ _ _ q => q, fun U hU hW => rfl⟩ rfl rfl hl.1 rfl (lv_room (Nat.le_of_ble_eq_true rfl)) dX6_forceAt_9 ⟨Nat.le_of_ble_eq_true rfl, Nat.le_of_ble_eq_true rfl⟩) (fun r hq9 => ?_)
  rw [hq9]
  exact W.lret hx hb hr (fun t ht hW => ⟨_, rfl, hJ.trans hE.symm, ht.trans hHe.symm⟩) (fun q h => absurd h List.not_mem_nil) dX6_forceAt_12
def jX0_forceAt (o : Os) (d : Nat) (a1 : Int64) : Int64 := (jX4_timesInt (c_vP o d) (c_vG o d))
def sX0_forceAt (o : Os) (d : Nat) (a1 : Int64) : Prop := True ∧ (d < c_nv o ∧ (¬ c_vS o d = 0 ∧ (c_vS o d = 1 ∧ True)))
set_option linter.constructorNameAsVariable false in
set_option maxHeartbeats 8000000 in
set_option maxRecDepth 100000 in
theorem qX0_forceAt (l : Launch) (dC : Nat → ClassId) (dI : Nat → Nat → Nat) (cy : Nat → ClassId) (x : Nat) (ad : Nat → Nat) (sz : Nat) (o : Os) (d : Nat) (a1 : Int64) (hV : sX0_forceAt o d a1) : Met l yX0_forceAt wsX0_forceAt ({ frames := 5, cells := 0, slots := 0, locals := 119 }) (va_Pc [.ref (ad (200 + d)), .long a1] (wI (dC, dI) (tyA cy) (WX cy x ad o) sz)) (vp_Sl (fun r => r = jX0_forceAt o d a1)) 0 0 (fun _ => False) := by
  refine Met.ofW (cc := cX0_forceAt) (maxL := 3) (ret := some .long) (by decide) rfl ?_
  intro p e s m args below meth c s₁ B hml hv
  obtain ⟨rfl, hsz, hP, hK, hD0, hk⟩ := hv
  have hx := B.exec
  have hb := B.bytes
  have hr := B.returns
  have hts := atoms_spec (ws := wsX0_forceAt) B.pre
  have hown : s.vm.findClass RX0 = some m.cls := findClass_of_methodNamed B.named
  have hlocks := B.notSynchronized
  subst hsz
  have hD := hD0
  obtain ⟨H, hHe⟩ : ∃ H, s.heap = H := ⟨_, rfl⟩
  have hP : va_P (dC, dI) vwCl (WX cy x ad o) H := by rw [← hHe]; exact hP
  rw [w_heap hHe]
  have hi_wsX00 : ∀ w ∈ wsX00, w ∈ wsX0_forceAt := fun _ h => List.mem_cons_of_mem _ (List.mem_append_left _ (List.mem_append_left _ (List.mem_append_right _ h)))
  have hi_wsX30 : ∀ w ∈ wsX30, w ∈ wsX0_forceAt := fun _ h => List.mem_cons_of_mem _ (List.mem_append_left _ (List.mem_append_right _ h))
  have hi_wsX60 : ∀ w ∈ wsX60, w ∈ wsX0_forceAt := fun _ h => List.mem_cons_of_mem _ (List.mem_append_right _ h)
  obtain ⟨JR, hE⟩ : ∃ q, jX0_forceAt o d a1 = q := ⟨_, rfl⟩
  have hJ := hE
  rw [jX0_forceAt] at hJ
  rw [sX0_forceAt] at hV
  have hV := hV.2
  have hl := lv_entry ([.ref (ad (200 + d)), .long a1]) (n := 3) (Nat.le_of_ble_eq_true rfl)
  rw [lg_entry_eq]
  generalize (lg_sl ([.ref (ad (200 + d)), .long a1]) ++ List.replicate (3 - (lg_sl ([.ref (ad (200 + d)), .long a1])).length) Slot.unset).toArray = ls at hl ⊢
  have hl : lv_has ls 3 [(0, .ref (ad (200 + d))), (1, .long a1)] := hl
  refine lv_aload_n hx hb dX0_forceAt_0 rfl (lv_at hl 0 rfl) ?_
  obtain ⟨hk1, hV⟩ := hV
  obtain ⟨hk2, hV⟩ := hV
  obtain ⟨hk3, hV⟩ := hV
  refine va_get (D := (dC, dI)) (ci := 0) (v := .long (c_vP o d)) (C := RX0) (T := TX0) (N := 4) (fs := (cx_crank o d)) hx hb hts hi_wsX00 hown hK hP (7 + (c_nd o + d)) (wx_crank (o := o) hk1 hk2 hk3) rfl 1 (by decide) (hts (.fieldLink RX0 13 "OrreryDials$Crank" "pull" "J") (by decide +kernel)) (u_same (hts (.sameField "OrreryDials$Crank" "OrreryDials$Drive" "pull" "J") (by decide +kernel))) rfl dX0_forceAt_1 ?_
  refine lv_aload_n hx hb dX0_forceAt_4 rfl (lv_at hl 0 rfl) ?_
  refine va_get (D := (dC, dI)) (ci := 0) (v := .int (c_vG o d)) (C := RX0) (T := TX0) (N := 4) (fs := (cx_crank o d)) hx hb hts hi_wsX00 hown hK hP (7 + (c_nd o + d)) (wx_crank (o := o) hk1 hk2 hk3) rfl 3 (by decide) (hts (.fieldLink RX0 7 "OrreryDials$Crank" "gear" "I") (by decide +kernel)) (fun _ h9 => h9) rfl dX0_forceAt_5 ?_
  refine vp_callSl (W.runS (As := [.long (c_vP o d), .int (c_vG o d)]) (rest := []) ⟨hx, hb, hml, hown, hts⟩ (qX4_timesInt l (c_vP o d) (c_vG o d)) (va_cwS 2 hts gX0_forceAt_X4_timesInt rfl rfl rfl (by decide +kernel) ⟨Nat.le_of_ble_eq_true rfl, Nat.le_of_ble_eq_true rfl⟩) ⟨fun _ _ _ _ q => q, fun U hU hW => rfl⟩ rfl rfl hl.1 rfl (lv_room (Nat.le_of_ble_eq_true rfl)) dX0_forceAt_8 ⟨Nat.le_of_ble_eq_true rfl, Nat.le_of_ble_eq_true rfl⟩) (fun r hq9 => ?_)
  rw [hq9]
  exact W.lret hx hb hr (fun t ht hW => ⟨_, rfl, hJ.trans hE.symm, ht.trans hHe.symm⟩) (fun q h => absurd h List.not_mem_nil) dX0_forceAt_11
def jX3_forceAt_y6 (o : Os) (d : Nat) (a1 : Int64) (y4 : Int64) (y6 : Int64) : Int64 := (if (jX4_isFit (1 : Int32) y6) = 0 then y6 else (jX4_sum (1 : Int32) y4 y6))
def sX3_forceAt_y6 (o : Os) (d : Nat) (a1 : Int64) (y4 : Int64) (y6 : Int64) : Prop := True ∧ (if (jX4_isFit (1 : Int32) y6) = 0 then True else True)
def jX3_forceAt_y4 (o : Os) (d : Nat) (a1 : Int64) (y4 : Int64) : Int64 := (if (jX4_isFit (1 : Int32) y4) = 0 then y4 else (jX3_forceAt_y6 o d a1 y4 (jX4_timesInt (c_vP o d) (c_vC o d))))
def sX3_forceAt_y4 (o : Os) (d : Nat) (a1 : Int64) (y4 : Int64) : Prop := True ∧ (if (jX4_isFit (1 : Int32) y4) = 0 then True else (sX3_forceAt_y6 o d a1 y4 (jX4_timesInt (c_vP o d) (c_vC o d))))
def jX3_forceAt (o : Os) (d : Nat) (a1 : Int64) : Int64 := (jX3_forceAt_y4 o d a1 (jX4_timesInt (c_vP o d) (c_vG o d)))
def sX3_forceAt (o : Os) (d : Nat) (a1 : Int64) : Prop := True ∧ (d < c_nv o ∧ (¬ c_vS o d = 0 ∧ (¬ c_vS o d = 1 ∧ (sX3_forceAt_y4 o d a1 (jX4_timesInt (c_vP o d) (c_vG o d))))))
set_option linter.constructorNameAsVariable false in
set_option maxHeartbeats 8000000 in
set_option maxRecDepth 100000 in
theorem qX3_forceAt (l : Launch) (dC : Nat → ClassId) (dI : Nat → Nat → Nat) (cy : Nat → ClassId) (x : Nat) (ad : Nat → Nat) (sz : Nat) (o : Os) (d : Nat) (a1 : Int64) (hV : sX3_forceAt o d a1) : Met l yX3_forceAt wsX3_forceAt ({ frames := 5, cells := 0, slots := 0, locals := 134 }) (va_Pc [.ref (ad (200 + d)), .long a1] (wI (dC, dI) (tyA cy) (WX cy x ad o) sz)) (vp_Sl (fun r => r = jX3_forceAt o d a1)) 0 0 (fun _ => False) := by
  refine Met.ofW (cc := cX3_forceAt) (maxL := 7) (ret := some .long) (by decide) rfl ?_
  intro p e s m args below meth c s₁ B hml hv
  obtain ⟨rfl, hsz, hP, hK, hD0, hk⟩ := hv
  have hx := B.exec
  have hb := B.bytes
  have hr := B.returns
  have hts := atoms_spec (ws := wsX3_forceAt) B.pre
  have hown : s.vm.findClass RX3 = some m.cls := findClass_of_methodNamed B.named
  have hlocks := B.notSynchronized
  subst hsz
  have hD := hD0
  obtain ⟨H, hHe⟩ : ∃ H, s.heap = H := ⟨_, rfl⟩
  have hP : va_P (dC, dI) vwCl (WX cy x ad o) H := by rw [← hHe]; exact hP
  rw [w_heap hHe]
  have hi_wsX00 : ∀ w ∈ wsX00, w ∈ wsX3_forceAt := fun _ h => List.mem_cons_of_mem _ (List.mem_append_left _ (List.mem_append_left _ (List.mem_append_right _ h)))
  have hi_wsX30 : ∀ w ∈ wsX30, w ∈ wsX3_forceAt := fun _ h => List.mem_cons_of_mem _ (List.mem_append_left _ (List.mem_append_right _ h))
  have hi_wsX60 : ∀ w ∈ wsX60, w ∈ wsX3_forceAt := fun _ h => List.mem_cons_of_mem _ (List.mem_append_right _ h)
  obtain ⟨JR, hE⟩ : ∃ q, jX3_forceAt o d a1 = q := ⟨_, rfl⟩
  have hJ := hE
  rw [jX3_forceAt] at hJ
  rw [sX3_forceAt] at hV
  have hV := hV.2
  have hl := lv_entry ([.ref (ad (200 + d)), .long a1]) (n := 7) (Nat.le_of_ble_eq_true rfl)
  rw [lg_entry_eq]
  generalize (lg_sl ([.ref (ad (200 + d)), .long a1]) ++ List.replicate (7 - (lg_sl ([.ref (ad (200 + d)), .long a1])).length) Slot.unset).toArray = ls at hl ⊢
  have hl : lv_has ls 7 [(0, .ref (ad (200 + d))), (1, .long a1)] := hl
  refine lv_aload_n hx hb dX3_forceAt_0 rfl (lv_at hl 0 rfl) ?_
  obtain ⟨hk1, hV⟩ := hV
  obtain ⟨hk2, hV⟩ := hV
  obtain ⟨hk3, hV⟩ := hV
  refine va_get (D := (dC, dI)) (ci := 2) (v := .long (c_vP o d)) (C := RX3) (T := TX3) (N := 4) (fs := (cx_fly o d)) hx hb hts hi_wsX30 hown hK hP (7 + (c_nd o + d)) (wx_fly (o := o) hk1 hk2 hk3) rfl 2 (by decide) (hts (.fieldLink RX3 7 "OrreryDials$Flywheel" "pull" "J") (by decide +kernel)) (u_same (hts (.sameField "OrreryDials$Flywheel" "OrreryDials$Drive" "pull" "J") (by decide +kernel))) rfl dX3_forceAt_1 ?_
  refine lv_aload_n hx hb dX3_forceAt_4 rfl (lv_at hl 0 rfl) ?_
  refine va_get (D := (dC, dI)) (ci := 2) (v := .int (c_vG o d)) (C := RX3) (T := TX3) (N := 4) (fs := (cx_fly o d)) hx hb hts hi_wsX30 hown hK hP (7 + (c_nd o + d)) (wx_fly (o := o) hk1 hk2 hk3) rfl 0 (by decide) (hts (.fieldLink RX3 13 "OrreryDials$Flywheel" "gear" "I") (by decide +kernel)) (u_same (hts (.sameField "OrreryDials$Flywheel" "OrreryDials$Crank" "gear" "I") (by decide +kernel))) rfl dX3_forceAt_5 ?_
  refine vp_callSl (W.runS (As := [.long (c_vP o d), .int (c_vG o d)]) (rest := []) ⟨hx, hb, hml, hown, hts⟩ (qX4_timesInt l (c_vP o d) (c_vG o d)) (va_cwS 2 hts gX3_forceAt_X4_timesInt rfl rfl rfl (by decide +kernel) ⟨Nat.le_of_ble_eq_true rfl, Nat.le_of_ble_eq_true rfl⟩) ⟨fun _ _ _ _ q => q, fun U hU hW => rfl⟩ rfl rfl hl.1 rfl (lv_room (Nat.le_of_ble_eq_true rfl)) dX3_forceAt_8 ⟨Nat.le_of_ble_eq_true rfl, Nat.le_of_ble_eq_true rfl⟩) (fun r hq9 => ?_)
  rw [hq9]
  refine lv_topl (fun y4 ey4 => ?_)
  rw [← ey4] at hJ
  rw [jX3_forceAt_y4] at hJ
  rw [← ey4] at hV
  rw [sX3_forceAt_y4] at hV
  have hV := hV.2
  refine lv_lstore_n (lv' := [(3, .long y4), (0, .ref (ad (200 + d))), (1, .long a1)]) hx hb dX3_forceAt_11 rfl hl (by decide) rfl (fun ls hl => ?_)
  refine lv_iconst (v := (1 : Int32)) hx hb dX3_forceAt_12 (by decide) ?_
  refine lv_lload_n hx hb dX3_forceAt_13 rfl (lv_at hl 0 rfl) ?_
  refine vp_callSi (W.runS (As := [.int (1 : Int32), .long y4]) (rest := []) ⟨hx, hb, hml, hown, hts⟩ (qX4_isFit l (1 : Int32) y4) (va_cwS 2 hts gX3_forceAt_X4_isFit rfl rfl rfl (by decide +kernel) ⟨Nat.le_of_ble_eq_true rfl, Nat.le_of_ble_eq_true rfl⟩) ⟨fun _ _ _ _ q => q, fun U hU hW => rfl⟩ rfl rfl hl.1 rfl (lv_room (Nat.le_of_ble_eq_true rfl)) dX3_forceAt_14 ⟨Nat.le_of_ble_eq_true rfl, Nat.le_of_ble_eq_true rfl⟩) (fun r hq9 => ?_)
  rw [hq9]
  refine lv_if_ne (tgt := 22) hx hb dX3_forceAt_17 (by decide) (fun c5 => ?_) (fun c5 => ?_)
  · skip
    rw [if_neg c5] at hJ
    rw [if_neg c5] at hV
    refine lv_aload_n hx hb dX3_forceAt_22 rfl (lv_at hl 1 rfl) ?_
    refine va_get (D := (dC, dI)) (ci := 2) (v := .long (c_vP o d)) (C := RX3) (T := TX3) (N := 4) (fs := (cx_fly o d)) hx hb hts hi_wsX30 hown hK hP (7 + (c_nd o + d)) (wx_fly (o := o) hk1 hk2 hk3) rfl 2 (by decide) (hts (.fieldLink RX3 7 "OrreryDials$Flywheel" "pull" "J") (by decide +kernel)) (u_same (hts (.sameField "OrreryDials$Flywheel" "OrreryDials$Drive" "pull" "J") (by decide +kernel))) rfl dX3_forceAt_23 ?_
    refine lv_aload_n hx hb dX3_forceAt_26 rfl (lv_at hl 1 rfl) ?_
    refine va_get (D := (dC, dI)) (ci := 2) (v := .int (c_vC o d)) (C := RX3) (T := TX3) (N := 4) (fs := (cx_fly o d)) hx hb hts hi_wsX30 hown hK hP (7 + (c_nd o + d)) (wx_fly (o := o) hk1 hk2 hk3) rfl 3 (by decide) (hts (.fieldLink RX3 27 "OrreryDials$Flywheel" "pullCount" "I") (by decide +kernel)) (u_same (hts (.sameField "OrreryDials$Flywheel" "OrreryDials$Drive" "pullCount" "I") (by decide +kernel))) rfl dX3_forceAt_27 ?_
    refine vp_callSl (W.runS (As := [.long (c_vP o d), .int (c_vC o d)]) (rest := []) ⟨hx, hb, hml, hown, hts⟩ (qX4_timesInt l (c_vP o d) (c_vC o d)) (va_cwS 2 hts gX3_forceAt_X4_timesInt rfl rfl rfl (by decide +kernel) ⟨Nat.le_of_ble_eq_true rfl, Nat.le_of_ble_eq_true rfl⟩) ⟨fun _ _ _ _ q => q, fun U hU hW => rfl⟩ rfl rfl hl.1 rfl (lv_room (Nat.le_of_ble_eq_true rfl)) dX3_forceAt_30 ⟨Nat.le_of_ble_eq_true rfl, Nat.le_of_ble_eq_true rfl⟩) (fun r hq9 => ?_)
    rw [hq9]
    refine lv_topl (fun y6 ey6 => ?_)
    rw [← ey6] at hJ
    rw [jX3_forceAt_y6] at hJ
    rw [← ey6] at hV
    rw [sX3_forceAt_y6] at hV
    have hV := hV.2
    refine lv_lstore (lv' := [(5, .long y6), (3, .long y4), (0, .ref (ad (200 + d))), (1, .long a1)]) hx hb dX3_forceAt_33 hl (by decide) rfl (fun ls hl => ?_)
    refine lv_iconst (v := (1 : Int32)) hx hb dX3_forceAt_35 (by decide) ?_
    refine lv_lload hx hb dX3_forceAt_36 (lv_at hl 0 rfl) ?_
    refine vp_callSi (W.runS (As := [.int (1 : Int32), .long y6]) (rest := []) ⟨hx, hb, hml, hown, hts⟩ (qX4_isFit l (1 : Int32) y6) (va_cwS 2 hts gX3_forceAt_X4_isFit rfl rfl rfl (by decide +kernel) ⟨Nat.le_of_ble_eq_true rfl, Nat.le_of_ble_eq_true rfl⟩) ⟨fun _ _ _ _ q => q, fun U hU hW => rfl⟩ rfl rfl hl.1 rfl (lv_room (Nat.le_of_ble_eq_true rfl)) dX3_forceAt_38 ⟨Nat.le_of_ble_eq_true rfl, Nat.le_of_ble_eq_true rfl⟩) (fun r hq9 => ?_)
    rw [hq9]
    refine lv_if_eq (tgt := 54) hx hb dX3_forceAt_41 (by decide) (fun c7 => ?_) (fun c7 => ?_)
    · skip
      rw [if_pos c7] at hJ
      rw [if_pos c7] at hV
      refine lv_lload hx hb dX3_forceAt_54 (lv_at hl 0 rfl) ?_
      exact W.lret hx hb hr (fun t ht hW => ⟨_, rfl, hJ.trans hE.symm, ht.trans hHe.symm⟩) (fun q h => absurd h List.not_mem_nil) dX3_forceAt_56
    · skip
      rw [if_neg c7] at hJ
      rw [if_neg c7] at hV
      refine lv_iconst (v := (1 : Int32)) hx hb dX3_forceAt_44 (by decide) ?_
      refine lv_lload_n hx hb dX3_forceAt_45 rfl (lv_at hl 1 rfl) ?_
      refine lv_lload hx hb dX3_forceAt_46 (lv_at hl 0 rfl) ?_
      refine vp_callSl (W.runS (As := [.int (1 : Int32), .long y4, .long y6]) (rest := []) ⟨hx, hb, hml, hown, hts⟩ (qX4_sum l (1 : Int32) y4 y6) (va_cwS 3 hts gX3_forceAt_X4_sum rfl rfl rfl (by decide +kernel) ⟨Nat.le_of_ble_eq_true rfl, Nat.le_of_ble_eq_true rfl⟩) ⟨fun _ _ _ _ q => q, fun U hU hW => rfl⟩ rfl rfl hl.1 rfl (lv_room (Nat.le_of_ble_eq_true rfl)) dX3_forceAt_48 ⟨Nat.le_of_ble_eq_true rfl, Nat.le_of_ble_eq_true rfl⟩) (fun r hq9 => ?_)
      rw [hq9]
      refine lv_goto (tgt := 56) hx hb dX3_forceAt_51 (by decide) ?_
      exact W.lret hx hb hr (fun t ht hW => ⟨_, rfl, hJ.trans hE.symm, ht.trans hHe.symm⟩) (fun q h => absurd h List.not_mem_nil) dX3_forceAt_56
  · skip
    rw [if_pos c5] at hJ
    rw [if_pos c5] at hV
    refine lv_lload_n hx hb dX3_forceAt_20 rfl (lv_at hl 0 rfl) ?_
    exact W.lret hx hb hr (fun t ht hW => ⟨_, rfl, hJ.trans hE.symm, ht.trans hHe.symm⟩) (fun q h => absurd h List.not_mem_nil) dX3_forceAt_21
