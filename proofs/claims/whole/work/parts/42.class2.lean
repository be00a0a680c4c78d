def jX1_turnBy_o4 (o : Os) (i : Nat) (a1 : Int64) (y2 : Int64) (o4 : Os) : Int32 × Os := ((1 : Int32), o4)
def sX1_turnBy_o4 (o : Os) (i : Nat) (a1 : Int64) (y2 : Int64) (o4 : Os) : Prop := True
def jX1_turnBy_y2 (o : Os) (i : Nat) (a1 : Int64) (y2 : Int64) : Int32 × Os := (if (jX4_isFit (c_dF o i) y2) = 0 then ((0 : Int32), o) else (jX1_turnBy_o4 o i a1 y2 (t_dP (t_dL o (va_up (c_dL o) i ((c_dL o i) + (jX4_cutToLong (c_dF o i) (jX4_quotient (c_dF o i) y2 (c_dR o i)))))) (va_up (c_dP (t_dL o (va_up (c_dL o) i ((c_dL o i) + (jX4_cutToLong (c_dF o i) (jX4_quotient (c_dF o i) y2 (c_dR o i))))))) i (jX4_leftOver (c_dF (t_dL o (va_up (c_dL o) i ((c_dL o i) + (jX4_cutToLong (c_dF o i) (jX4_quotient (c_dF o i) y2 (c_dR o i)))))) i) y2 (c_dR (t_dL o (va_up (c_dL o) i ((c_dL o i) + (jX4_cutToLong (c_dF o i) (jX4_quotient (c_dF o i) y2 (c_dR o i)))))) i))))))
def sX1_turnBy_y2 (o : Os) (i : Nat) (a1 : Int64) (y2 : Int64) : Prop := (if (jX4_isFit (c_dF o i) y2) = 0 then True else (sX1_turnBy_o4 o i a1 y2 (t_dP (t_dL o (va_up (c_dL o) i ((c_dL o i) + (jX4_cutToLong (c_dF o i) (jX4_quotient (c_dF o i) y2 (c_dR o i)))))) (va_up (c_dP (t_dL o (va_up (c_dL o) i ((c_dL o i) + (jX4_cutToLong (c_dF o i) (jX4_quotient (c_dF o i) y2 (c_dR o i))))))) i (jX4_leftOver (c_dF (t_dL o (va_up (c_dL o) i ((c_dL o i) + (jX4_cutToLong (c_dF o i) (jX4_quotient (c_dF o i) y2 (c_dR o i)))))) i) y2 (c_dR (t_dL o (va_up (c_dL o) i ((c_dL o i) + (jX4_cutToLong (c_dF o i) (jX4_quotient (c_dF o i) y2 (c_dR o i)))))) i))))))
def jX1_turnBy (o : Os) (i : Nat) (a1 : Int64) : Int32 × Os := (jX1_turnBy_y2 o i a1 (jX4_sum (c_dF o i) (c_dP o i) a1))
def sX1_turnBy (o : Os) (i : Nat) (a1 : Int64) : Prop := (i < c_nd o ∧ (sX1_turnBy_y2 o i a1 (jX4_sum (c_dF o i) (c_dP o i) a1)))
set_option maxHeartbeats 8000000 in
set_option maxRecDepth 100000 in
theorem qX1_turnBy (l : Launch) (dC : Nat → ClassId) (dI : Nat → Nat → Nat) (cy : Nat → ClassId) (x : Nat) (ad : Nat → Nat) (sz : Nat) (o : Os) (i : Nat) (a1 : Int64) (hV : sX1_turnBy o i a1) : Met l yX1_turnBy wsX1_turnBy ({ frames := 5, cells := 0, slots := 0, locals := 134 }) (va_Pc [.ref (ad (100 + i)), .long a1] (wI (dC, dI) (tyA cy) (WX cy x ad o) sz)) (va_Qi (fun r u => (r, u) = jX1_turnBy o i a1) (fun u t => wO (dC, dI) (tyA cy) (va_A (WX cy x ad o) sz) (WX cy x ad u) t) (va_A (WX cy x ad o) sz)) 0 0 (va_A (WX cy x ad o) sz) := by
  refine Met.ofW (cc := cX1_turnBy) (maxL := 5) (ret := some .boolean) (by decide) rfl ?_
  intro p e s m args below meth c s₁ B hml hv
  obtain ⟨rfl, hsz, hP, hK, hD0, hk⟩ := hv
  have hx := B.exec
  have hb := B.bytes
  have hr := B.returns
  have hts := atoms_spec (ws := wsX1_turnBy) B.pre
  have hown : s.vm.findClass RX1 = some m.cls := findClass_of_methodNamed B.named
  have hlocks := B.notSynchronized
  subst hsz
  have hD := hD0.self (sz := s.heap.size)
  generalize hAe : va_A (WX cy x ad o) s.heap.size = A at hD ⊢
  have hA : ∀ q : Nat, s.heap.size ≤ q → A q := fun q h => by rw [← hAe]; exact Or.inr h
  obtain ⟨H, hHe⟩ : ∃ H, s.heap = H := ⟨_, rfl⟩
  have hP : va_P (dC, dI) vwCl (WX cy x ad o) H := by rw [← hHe]; exact hP
  have hS : va_S A s.heap H [] := by rw [← hHe]; exact va_S.rf
  rw [w_heap hHe]
  have hi_wsX10 : ∀ w ∈ wsX10, w ∈ wsX1_turnBy := fun _ h => List.mem_cons_of_mem _ (List.mem_append_right _ h)
  obtain ⟨JR, hE⟩ : ∃ q, jX1_turnBy o i a1 = q := ⟨_, rfl⟩
  have hJ := hE
  rw [jX1_turnBy] at hJ
  rw [sX1_turnBy] at hV
  have hl := lv_entry ([.ref (ad (100 + i)), .long a1]) (n := 5) (Nat.le_of_ble_eq_true rfl)
  rw [lg_entry_eq]
  generalize (lg_sl ([.ref (ad (100 + i)), .long a1]) ++ List.replicate (5 - (lg_sl ([.ref (ad (100 + i)), .long a1])).length) Slot.unset).toArray = ls at hl ⊢
  have hl : lv_has ls 5 [(0, .ref (ad (100 + i))), (1, .long a1)] := hl
  refine lv_aload_n hx hb dX1_turnBy_0 rfl (lv_at hl 0 rfl) ?_
  obtain ⟨hk1, hV⟩ := hV
  refine va_get (D := (dC, dI)) (ci := 1) (v := .int (c_dF o i)) (C := RX1) (T := TX1) (N := 4) (fs := (cx_dial o i)) hx hb hts hi_wsX10 hown hK hP (7 + i) (wx_dial (o := o) hk1) rfl 0 (by decide) (hts (.fieldLink RX1 16 "OrreryDials$Dial" "fine" "Z") (by decide +kernel)) (fun _ h9 => h9) rfl dX1_turnBy_1 ?_
  refine lv_aload_n hx hb dX1_turnBy_4 rfl (lv_at hl 0 rfl) ?_
  refine va_get (D := (dC, dI)) (ci := 1) (v := .long (c_dP o i)) (C := RX1) (T := TX1) (N := 4) (fs := (cx_dial o i)) hx hb hts hi_wsX10 hown hK hP (7 + i) (wx_dial (o := o) hk1) rfl 2 (by decide) (hts (.fieldLink RX1 7 "OrreryDials$Dial" "place" "J") (by decide +kernel)) (fun _ h9 => h9) rfl dX1_turnBy_5 ?_
  refine lv_lload_n hx hb dX1_turnBy_8 rfl (lv_at hl 1 rfl) ?_
  refine vp_callSl (W.runS (As := [.int (c_dF o i), .long (c_dP o i), .long a1]) (rest := []) ⟨hx, hb, hml, hown, hts⟩ (qX4_sum l (c_dF o i) (c_dP o i) a1) (va_cwS 3 hts gX1_turnBy_X4_sum rfl rfl rfl (by decide +kernel) ⟨Nat.le_of_ble_eq_true rfl, Nat.le_of_ble_eq_true rfl⟩) ⟨fun _ _ _ _ q => q, fun U hU hW => rfl⟩ rfl rfl hl.1 rfl (lv_room (Nat.le_of_ble_eq_true rfl)) dX1_turnBy_9 ⟨Nat.le_of_ble_eq_true rfl, Nat.le_of_ble_eq_true rfl⟩) (fun r hr => ?_)
  rw [hr]
  refine lv_topl (fun y2 ey2 => ?_)
  rw [← ey2] at hJ
  rw [jX1_turnBy_y2] at hJ
  rw [← ey2] at hV
  rw [sX1_turnBy_y2] at hV
  refine lv_lstore_n (lv' := [(3, .long y2), (0, .ref (ad (100 + i))), (1, .long a1)]) hx hb dX1_turnBy_12 rfl hl (by decide) rfl (fun ls hl => ?_)
  refine lv_aload_n hx hb dX1_turnBy_13 rfl (lv_at hl 1 rfl) ?_
  refine va_get (D := (dC, dI)) (ci := 1) (v := .int (c_dF o i)) (C := RX1) (T := TX1) (N := 4) (fs := (cx_dial o i)) hx hb hts hi_wsX10 hown hK hP (7 + i) (wx_dial (o := o) hk1) rfl 0 (by decide) (hts (.fieldLink RX1 16 "OrreryDials$Dial" "fine" "Z") (by decide +kernel)) (fun _ h9 => h9) rfl dX1_turnBy_14 ?_
  refine lv_lload_n hx hb dX1_turnBy_17 rfl (lv_at hl 0 rfl) ?_
  refine vp_callSi (W.runS (As := [.int (c_dF o i), .long y2]) (rest := []) ⟨hx, hb, hml, hown, hts⟩ (qX4_isFit l (c_dF o i) y2) (va_cwS 2 hts gX1_turnBy_X4_isFit rfl rfl rfl (by decide +kernel) ⟨Nat.le_of_ble_eq_true rfl, Nat.le_of_ble_eq_true rfl⟩) ⟨fun _ _ _ _ q => q, fun U hU hW => rfl⟩ rfl rfl hl.1 rfl (lv_room (Nat.le_of_ble_eq_true rfl)) dX1_turnBy_18 ⟨Nat.le_of_ble_eq_true rfl, Nat.le_of_ble_eq_true rfl⟩) (fun r hr => ?_)
  rw [hr]
  refine lv_if_ne (tgt := 26) hx hb dX1_turnBy_21 (by decide) (fun c3 => ?_) (fun c3 => ?_)
  · skip
    rw [if_neg c3] at hJ
    rw [if_neg c3] at hV
    refine lv_aload_n hx hb dX1_turnBy_26 rfl (lv_at hl 1 rfl) ?_
    refine lv_dup hx hb dX1_turnBy_27 rfl ?_
    refine va_get (D := (dC, dI)) (ci := 1) (v := .long (c_dL o i)) (C := RX1) (T := TX1) (N := 4) (fs := (cx_dial o i)) hx hb hts hi_wsX10 hown hK hP (7 + i) (wx_dial (o := o) hk1) rfl 3 (by decide) (hts (.fieldLink RX1 13 "OrreryDials$Dial" "laps" "J") (by decide +kernel)) (fun _ h9 => h9) rfl dX1_turnBy_28 ?_
    refine lv_aload_n hx hb dX1_turnBy_31 rfl (lv_at hl 1 rfl) ?_
    refine va_get (D := (dC, dI)) (ci := 1) (v := .int (c_dF o i)) (C := RX1) (T := TX1) (N := 4) (fs := (cx_dial o i)) hx hb hts hi_wsX10 hown hK hP (7 + i) (wx_dial (o := o) hk1) rfl 0 (by decide) (hts (.fieldLink RX1 16 "OrreryDials$Dial" "fine" "Z") (by decide +kernel)) (fun _ h9 => h9) rfl dX1_turnBy_32 ?_
    refine lv_aload_n hx hb dX1_turnBy_35 rfl (lv_at hl 1 rfl) ?_
    refine va_get (D := (dC, dI)) (ci := 1) (v := .int (c_dF o i)) (C := RX1) (T := TX1) (N := 4) (fs := (cx_dial o i)) hx hb hts hi_wsX10 hown hK hP (7 + i) (wx_dial (o := o) hk1) rfl 0 (by decide) (hts (.fieldLink RX1 16 "OrreryDials$Dial" "fine" "Z") (by decide +kernel)) (fun _ h9 => h9) rfl dX1_turnBy_36 ?_
    refine lv_lload_n hx hb dX1_turnBy_39 rfl (lv_at hl 0 rfl) ?_
    refine lv_aload_n hx hb dX1_turnBy_40 rfl (lv_at hl 1 rfl) ?_
    refine va_get (D := (dC, dI)) (ci := 1) (v := .long (c_dR o i)) (C := RX1) (T := TX1) (N := 4) (fs := (cx_dial o i)) hx hb hts hi_wsX10 hown hK hP (7 + i) (wx_dial (o := o) hk1) rfl 1 (by decide) (hts (.fieldLink RX1 20 "OrreryDials$Dial" "rim" "J") (by decide +kernel)) (fun _ h9 => h9) rfl dX1_turnBy_41 ?_
    refine vp_callSl (W.runS (As := [.int (c_dF o i), .long y2, .long (c_dR o i)]) (rest := [.int (c_dF o i), .long (c_dL o i), .ref (ad (100 + i))]) ⟨hx, hb, hml, hown, hts⟩ (qX4_quotient l (c_dF o i) y2 (c_dR o i)) (va_cwS 3 hts gX1_turnBy_X4_quotient rfl rfl rfl (by decide +kernel) ⟨Nat.le_of_ble_eq_true rfl, Nat.le_of_ble_eq_true rfl⟩) ⟨fun _ _ _ _ q => q, fun U hU hW => rfl⟩ rfl rfl hl.1 rfl (lv_room (Nat.le_of_ble_eq_true rfl)) dX1_turnBy_44 ⟨Nat.le_of_ble_eq_true rfl, Nat.le_of_ble_eq_true rfl⟩) (fun r hr => ?_)
    rw [hr]
    refine vp_callSl (W.runS (As := [.int (c_dF o i), .long (jX4_quotient (c_dF o i) y2 (c_dR o i))]) (rest := [.long (c_dL o i), .ref (ad (100 + i))]) ⟨hx, hb, hml, hown, hts⟩ (qX4_cutToLong l (c_dF o i) (jX4_quotient (c_dF o i) y2 (c_dR o i))) (va_cwS 2 hts gX1_turnBy_X4_cutToLong rfl rfl rfl (by decide +kernel) ⟨Nat.le_of_ble_eq_true rfl, Nat.le_of_ble_eq_true rfl⟩) ⟨fun _ _ _ _ q => q, fun U hU hW => rfl⟩ rfl rfl hl.1 rfl (lv_room (Nat.le_of_ble_eq_true rfl)) dX1_turnBy_47 ⟨Nat.le_of_ble_eq_true rfl, Nat.le_of_ble_eq_true rfl⟩) (fun r hr => ?_)
    rw [hr]
    refine lv_ladd hx hb dX1_turnBy_50 ?_
    refine va_put (D := (dC, dI)) (ci := 1) (v := .long ((c_dL o i) + (jX4_cutToLong (c_dF o i) (jX4_quotient (c_dF o i) y2 (c_dR o i))))) (ty := .long) (C := RX1) (T := TX1) (N := 4) (fs := (cx_dial o i)) hx hb hts hi_wsX10 tyX1 tyX1_ok nmX1 hown hK hP hD hS (7 + i) (wx_dial (o := o) hk1) rfl 3 (by decide) (hts (.fieldLink RX1 13 "OrreryDials$Dial" "laps" "J") (by decide +kernel)) (fun _ h9 => h9) rfl (by decide +kernel) rfl rfl (Nat.le_of_ble_eq_true rfl) dX1_turnBy_51 (fun H locs hP hD hS => ?_)
    rw [wx_p_dL (o := o) hk1] at hP hD
    refine lv_aload_n hx hb dX1_turnBy_54 rfl (lv_at hl 1 rfl) ?_
    refine lv_aload_n hx hb dX1_turnBy_55 rfl (lv_at hl 1 rfl) ?_
    refine va_get (D := (dC, dI)) (ci := 1) (v := .int (c_dF (t_dL o (va_up (c_dL o) i ((c_dL o i) + (jX4_cutToLong (c_dF o i) (jX4_quotient (c_dF o i) y2 (c_dR o i)))))) i)) (C := RX1) (T := TX1) (N := 4) (fs := (cx_dial (t_dL o (va_up (c_dL o) i ((c_dL o i) + (jX4_cutToLong (c_dF o i) (jX4_quotient (c_dF o i) y2 (c_dR o i)))))) i)) hx hb hts hi_wsX10 hown hK hP (7 + i) (wx_dial (o := (t_dL o (va_up (c_dL o) i ((c_dL o i) + (jX4_cutToLong (c_dF o i) (jX4_quotient (c_dF o i) y2 (c_dR o i))))))) hk1) rfl 0 (by decide) (hts (.fieldLink RX1 16 "OrreryDials$Dial" "fine" "Z") (by decide +kernel)) (fun _ h9 => h9) rfl dX1_turnBy_56 ?_
    refine lv_lload_n hx hb dX1_turnBy_59 rfl (lv_at hl 0 rfl) ?_
    refine lv_aload_n hx hb dX1_turnBy_60 rfl (lv_at hl 1 rfl) ?_
    refine va_get (D := (dC, dI)) (ci := 1) (v := .long (c_dR (t_dL o (va_up (c_dL o) i ((c_dL o i) + (jX4_cutToLong (c_dF o i) (jX4_quotient (c_dF o i) y2 (c_dR o i)))))) i)) (C := RX1) (T := TX1) (N := 4) (fs := (cx_dial (t_dL o (va_up (c_dL o) i ((c_dL o i) + (jX4_cutToLong (c_dF o i) (jX4_quotient (c_dF o i) y2 (c_dR o i)))))) i)) hx hb hts hi_wsX10 hown hK hP (7 + i) (wx_dial (o := (t_dL o (va_up (c_dL o) i ((c_dL o i) + (jX4_cutToLong (c_dF o i) (jX4_quotient (c_dF o i) y2 (c_dR o i))))))) hk1) rfl 1 (by decide) (hts (.fieldLink RX1 20 "OrreryDials$Dial" "rim" "J") (by decide +kernel)) (fun _ h9 => h9) rfl dX1_turnBy_61 ?_
    refine vp_callSl (W.runS (As := [.int (c_dF (t_dL o (va_up (c_dL o) i ((c_dL o i) + (jX4_cutToLong (c_dF o i) (jX4_quotient (c_dF o i) y2 (c_dR o i)))))) i), .long y2, .long (c_dR (t_dL o (va_up (c_dL o) i ((c_dL o i) + (jX4_cutToLong (c_dF o i) (jX4_quotient (c_dF o i) y2 (c_dR o i)))))) i)]) (rest := [.ref (ad (100 + i))]) ⟨hx, hb, hml, hown, hts⟩ (qX4_leftOver l (c_dF (t_dL o (va_up (c_dL o) i ((c_dL o i) + (jX4_cutToLong (c_dF o i) (jX4_quotient (c_dF o i) y2 (c_dR o i)))))) i) y2 (c_dR (t_dL o (va_up (c_dL o) i ((c_dL o i) + (jX4_cutToLong (c_dF o i) (jX4_quotient (c_dF o i) y2 (c_dR o i)))))) i)) (va_cwS 3 hts gX1_turnBy_X4_leftOver rfl rfl rfl (by decide +kernel) ⟨Nat.le_of_ble_eq_true rfl, Nat.le_of_ble_eq_true rfl⟩) ⟨fun _ _ _ _ q => q, fun U hU hW => rfl⟩ rfl rfl hl.1 rfl (lv_room (Nat.le_of_ble_eq_true rfl)) dX1_turnBy_64 ⟨Nat.le_of_ble_eq_true rfl, Nat.le_of_ble_eq_true rfl⟩) (fun r hr => ?_)
    rw [hr]
    refine va_put (D := (dC, dI)) (ci := 1) (v := .long (jX4_leftOver (c_dF (t_dL o (va_up (c_dL o) i ((c_dL o i) + (jX4_cutToLong (c_dF o i) (jX4_quotient (c_dF o i) y2 (c_dR o i)))))) i) y2 (c_dR (t_dL o (va_up (c_dL o) i ((c_dL o i) + (jX4_cutToLong (c_dF o i) (jX4_quotient (c_dF o i) y2 (c_dR o i)))))) i))) (ty := .long) (C := RX1) (T := TX1) (N := 4) (fs := (cx_dial (t_dL o (va_up (c_dL o) i ((c_dL o i) + (jX4_cutToLong (c_dF o i) (jX4_quotient (c_dF o i) y2 (c_dR o i)))))) i)) hx hb hts hi_wsX10 tyX1 tyX1_ok nmX1 hown hK hP hD hS (7 + i) (wx_dial (o := (t_dL o (va_up (c_dL o) i ((c_dL o i) + (jX4_cutToLong (c_dF o i) (jX4_quotient (c_dF o i) y2 (c_dR o i))))))) hk1) rfl 2 (by decide) (hts (.fieldLink RX1 7 "OrreryDials$Dial" "place" "J") (by decide +kernel)) (fun _ h9 => h9) rfl (by decide +kernel) rfl rfl (Nat.le_of_ble_eq_true rfl) dX1_turnBy_67 (fun H locs hP hD hS => ?_)
    rw [wx_p_dP (o := (t_dL o (va_up (c_dL o) i ((c_dL o i) + (jX4_cutToLong (c_dF o i) (jX4_quotient (c_dF o i) y2 (c_dR o i))))))) hk1] at hP hD
    obtain ⟨o4, eo4⟩ : ∃ z, z = (t_dP (t_dL o (va_up (c_dL o) i ((c_dL o i) + (jX4_cutToLong (c_dF o i) (jX4_quotient (c_dF o i) y2 (c_dR o i)))))) (va_up (c_dP (t_dL o (va_up (c_dL o) i ((c_dL o i) + (jX4_cutToLong (c_dF o i) (jX4_quotient (c_dF o i) y2 (c_dR o i))))))) i (jX4_leftOver (c_dF (t_dL o (va_up (c_dL o) i ((c_dL o i) + (jX4_cutToLong (c_dF o i) (jX4_quotient (c_dF o i) y2 (c_dR o i)))))) i) y2 (c_dR (t_dL o (va_up (c_dL o) i ((c_dL o i) + (jX4_cutToLong (c_dF o i) (jX4_quotient (c_dF o i) y2 (c_dR o i)))))) i)))) := ⟨_, rfl⟩
    rw [← eo4] at hP hD hJ hV
    rw [jX1_turnBy_o4] at hJ
    rw [sX1_turnBy_o4] at hV
    refine lv_iconst (v := (1 : Int32)) hx hb dX1_turnBy_70 (by decide) ?_
    exact W.zret hx hb hr rfl (fun t ht hW => ⟨⟨_, _, rfl, hJ.trans hE.symm, by rw [ht]; exact hP, va_K.moved hW.alike hK, hD⟩, hS.F ht⟩) hS.2.2 dX1_turnBy_71
  · skip
    rw [if_pos c3] at hJ
    rw [if_pos c3] at hV
    refine lv_iconst (v := (0 : Int32)) hx hb dX1_turnBy_24 (by decide) ?_
    exact W.zret hx hb hr rfl (fun t ht hW => ⟨⟨_, _, rfl, hJ.trans hE.symm, by rw [ht]; exact hP, va_K.moved hW.alike hK, hD⟩, hS.F ht⟩) hS.2.2 dX1_turnBy_25
theorem bX1_turnBy_o4 (o : Os) (i : Nat) (a1 : Int64) (y2 : Int64) (o4 : Os) : (jX1_turnBy_o4 o i a1 y2 o4).1 = 0 ∨ (jX1_turnBy_o4 o i a1 y2 o4).1 = 1 := by
  unfold jX1_turnBy_o4
  repeat' (first | (with_reducible exact Or.inl rfl) | (with_reducible exact Or.inr rfl) | (with_reducible apply bX4_isFit) | (dsimp only; with_reducible exact Or.inl rfl) | (dsimp only; with_reducible exact Or.inr rfl) | (dsimp only; with_reducible apply bX4_isFit) | split)
theorem bX1_turnBy_y2 (o : Os) (i : Nat) (a1 : Int64) (y2 : Int64) : (jX1_turnBy_y2 o i a1 y2).1 = 0 ∨ (jX1_turnBy_y2 o i a1 y2).1 = 1 := by
  unfold jX1_turnBy_y2
  repeat' (first | (with_reducible exact Or.inl rfl) | (with_reducible exact Or.inr rfl) | (with_reducible apply bX4_isFit) | (with_reducible apply bX1_turnBy_o4) | (dsimp only; with_reducible exact Or.inl rfl) | (dsimp only; with_reducible exact Or.inr rfl) | (dsimp only; with_reducible apply bX4_isFit) | (dsimp only; with_reducible apply bX1_turnBy_o4) | split)
theorem bX1_turnBy (o : Os) (i : Nat) (a1 : Int64) : (jX1_turnBy o i a1).1 = 0 ∨ (jX1_turnBy o i a1).1 = 1 := by
  unfold jX1_turnBy
  repeat' (first | (with_reducible exact Or.inl rfl) | (with_reducible exact Or.inr rfl) | (with_reducible apply bX4_isFit) | (with_reducible apply bX1_turnBy_o4) | (with_reducible apply bX1_turnBy_y2) | (dsimp only; with_reducible exact Or.inl rfl) | (dsimp only; with_reducible exact Or.inr rfl) | (dsimp only; with_reducible apply bX4_isFit) | (dsimp only; with_reducible apply bX1_turnBy_o4) | (dsimp only; with_reducible apply bX1_turnBy_y2) | split)
def jX6_forceAt (o : Os) (d : Nat) (a1 : Int64) : Int64 := (jX4_sum (1 : Int32) (c_vP o d) (jX4_negated a1))
def sX6_forceAt (o : Os) (d : Nat) (a1 : Int64) : Prop := (d < c_nv o ∧ (c_vS o d = 0 ∧ True))
set_option maxHeartbeats 8000000 in
set_option maxRecDepth 100000 in
theorem qX6_forceAt (l : Launch) (dC : Nat → ClassId) (dI : Nat → Nat → Nat) (cy : Nat → ClassId) (x : Nat) (ad : Nat → Nat) (sz : Nat) (o : Os) (d : Nat) (a1 : Int64) (hV : sX6_forceAt o d a1) : Met l yX6_forceAt wsX6_forceAt ({ frames := 5, cells := 0, slots := 0, locals := 134 }) (va_Pc [.ref (ad (200 + d)), .long a1] (wI (dC, dI) (tyA cy) (WX cy x ad o) sz)) (vp_Sl (fun r => r = jX6_forceAt o d a1)) 0 0 (fun _ => False) := by
  refine Met.ofW (cc := cX6_forceAt) (maxL := 3) (ret := some .long) (by decide) rfl ?_
  intro p e s m args below meth c s₁ B hml hv
  obtain ⟨rfl, hsz, hP, hK, hD0, hk⟩ := hv
  have hx := B.exec
  have hb := B.bytes
  have hr := B.returns
  have hts := atoms_spec (ws := wsX6_forceAt) B.pre
  have hown : s.vm.findClass RX6 = some m.cls := findClass_of_methodNamed B.named
  have hlocks := B.notSynchronized
  subst hsz
  have hD := hD0
  obtain ⟨H, hHe⟩ : ∃ H, s.heap = H := ⟨_, rfl⟩
  have hP : va_P (dC, dI) vwCl (WX cy x ad o) H := by rw [← hHe]; exact hP
  rw [w_heap hHe]
  have hi_wsX00 : ∀ w ∈ wsX00, w ∈ wsX6_forceAt := fun _ h => List.mem_cons_of_mem _ (List.mem_append_left _ (List.mem_append_left _ (List.mem_append_right _ h)))
  have hi_wsX30 : ∀ w ∈ wsX30, w ∈ wsX6_forceAt := fun _ h => List.mem_cons_of_mem _ (List.mem_append_left _ (List.mem_append_right _ h))
  have hi_wsX60 : ∀ w ∈ wsX60, w ∈ wsX6_forceAt := fun _ h => List.mem_cons_of_mem _ (List.mem_append_right _ h)
  obtain ⟨JR, hE⟩ : ∃ q, jX6_forceAt o d a1 = q := ⟨_, rfl⟩
  have hJ := hE
  rw [jX6_forceAt] at hJ
  rw [sX6_forceAt] at hV
  have hl := lv_entry ([.ref (ad (200 + d)), .long a1]) (n := 3) (Nat.le_of_ble_eq_true rfl)
  rw [lg_entry_eq]
  generalize (lg_sl ([.ref (ad (200 + d)), .long a1]) ++ List.replicate (3 - (lg_sl ([.ref (ad (200 + d)), .long a1])).length) Slot.unset).toArray = ls at hl ⊢
  have hl : lv_has ls 3 [(0, .ref (ad (200 + d))), (1, .long a1)] := hl
  refine lv_iconst (v := (1 : Int32)) hx hb dX6_forceAt_0 (by decide) ?_
  refine lv_aload_n hx hb dX6_forceAt_1 rfl (lv_at hl 0 rfl) ?_
  obtain ⟨hk1, hV⟩ := hV
  obtain ⟨hk2, hV⟩ := hV
  refine va_get (D := (dC, dI)) (ci := 4) (v := .long (c_vP o d)) (C := RX6) (T := TX6) (N := 3) (fs := (cx_spring o d)) hx hb hts hi_wsX60 hown hK hP (7 + (c_nd o + d)) (wx_spring (o := o) hk1 hk2) rfl 1 (by decide) (hts (.fieldLink RX6 7 "OrreryDials$Spring" "pull" "J") (by decide +kernel)) (u_same (hts (.sameField "OrreryDials$Spring" "OrreryDials$Drive" "pull" "J") (by decide +kernel))) rfl dX6_forceAt_2 ?_
  refine lv_lload_n hx hb dX6_forceAt_5 rfl (lv_at hl 1 rfl) ?_
  refine vp_callSl (W.runS (As := [.long a1]) (rest := [.long (c_vP o d), .int (1 : Int32)]) ⟨hx, hb, hml, hown, hts⟩ (qX4_negated l a1) (va_cwS 1 hts gX6_forceAt_X4_negated rfl rfl rfl (by decide +kernel) ⟨Nat.le_of_ble_eq_true rfl, Nat.le_of_ble_eq_true rfl⟩) ⟨fun _ _ _ _ q => q, fun U hU hW => rfl⟩ rfl rfl hl.1 rfl (lv_room (Nat.le_of_ble_eq_true rfl)) dX6_forceAt_6 ⟨Nat.le_of_ble_eq_true rfl, Nat.le_of_ble_eq_true rfl⟩) (fun r hr => ?_)
  rw [hr]
  refine vp_callSl (W.runS (As := [.int (1 : Int32), .long (c_vP o d), .long (jX4_negated a1)]) (rest := []) ⟨hx, hb, hml, hown, hts⟩ (qX4_sum l (1 : Int32) (c_vP o d) (jX4_negated a1)) (va_cwS 3 hts gX6_forceAt_X4_sum rfl rfl rfl (by decide +kernel) ⟨Nat.le_of_ble_eq_true rfl, Nat.le_of_ble_eq_true rfl⟩) ⟨fun _ _ _ _ q => q, fun U hU hW => rfl⟩ rfl rfl hl.1 rfl (lv_room (Nat.le_of_ble_eq_true rfl)) dX6_forceAt_9 ⟨Nat.le_of_ble_eq_true rfl, Nat.le_of_ble_eq_true rfl⟩) (fun r hr => ?_)
  rw [hr]
  exact W.lret hx hb hr (fun t ht hW => ⟨_, rfl, hJ.trans hE.symm, ht.trans hHe.symm⟩) (fun q h => absurd h List.not_mem_nil) dX6_forceAt_12
def jX0_forceAt (o : Os) (d : Nat) (a1 : Int64) : Int64 := (jX4_timesInt (c_vP o d) (c_vG o d))
def sX0_forceAt (o : Os) (d : Nat) (a1 : Int64) : Prop := (d < c_nv o ∧ (¬ c_vS o d = 0 ∧ (c_vS o d = 1 ∧ True)))
set_option maxHeartbeats 8000000 in
set_option maxRecDepth 100000 in
theorem qX0_forceAt (l : Launch) (dC : Nat → ClassId) (dI : Nat → Nat → Nat) (cy : Nat → ClassId) (x : Nat) (ad : Nat → Nat) (sz : Nat) (o : Os) (d : Nat) (a1 : Int64) (hV : sX0_forceAt o d a1) : Met l yX0_forceAt wsX0_forceAt ({ frames := 5, cells := 0, slots := 0, locals := 119 }) (va_Pc [.ref (ad (200 + d)), .long a1] (wI (dC, dI) (tyA cy) (WX cy x ad o) sz)) (vp_Sl (fun r => r = jX0_forceAt o d a1)) 0 0 (fun _ => False) := by
  refine Met.ofW (cc := cX0_forceAt) (maxL := 3) (ret := some .long) (by decide) rfl ?_
  intro p e s m args below meth c s₁ B hml hv
  obtain ⟨rfl, hsz, hP, hK, hD0, hk⟩ := hv
  have hx := B.exec
  have hb := B.bytes
  have hr := B.returns
  have hts := atoms_spec (ws := wsX0_forceAt) B.pre
  have hown : s.vm.findClass RX0 = some m.cls := findClass_of_methodNamed B.named
  have hlocks := B.notSynchronized
  subst hsz
  have hD := hD0
  obtain ⟨H, hHe⟩ : ∃ H, s.heap = H := ⟨_, rfl⟩
  have hP : va_P (dC, dI) vwCl (WX cy x ad o) H := by rw [← hHe]; exact hP
  rw [w_heap hHe]
  have hi_wsX00 : ∀ w ∈ wsX00, w ∈ wsX0_forceAt := fun _ h => List.mem_cons_of_mem _ (List.mem_append_left _ (List.mem_append_left _ (List.mem_append_right _ h)))
  have hi_wsX30 : ∀ w ∈ wsX30, w ∈ wsX0_forceAt := fun _ h => List.mem_cons_of_mem _ (List.mem_append_left _ (List.mem_append_right _ h))
  have hi_wsX60 : ∀ w ∈ wsX60, w ∈ wsX0_forceAt := fun _ h => List.mem_cons_of_mem _ (List.mem_append_right _ h)
  obtain ⟨JR, hE⟩ : ∃ q, jX0_forceAt o d a1 = q := ⟨_, rfl⟩
  have hJ := hE
  rw [jX0_forceAt] at hJ
  rw [sX0_forceAt] at hV
  have hl := lv_entry ([.ref (ad (200 + d)), .long a1]) (n := 3) (Nat.le_of_ble_eq_true rfl)
  rw [lg_entry_eq]
  generalize (lg_sl ([.ref (ad (200 + d)), .long a1]) ++ List.replicate (3 - (lg_sl ([.ref (ad (200 + d)), .long a1])).length) Slot.unset).toArray = ls at hl ⊢
  have hl : lv_has ls 3 [(0, .ref (ad (200 + d))), (1, .long a1)] := hl
  refine lv_aload_n hx hb dX0_forceAt_0 rfl (lv_at hl 0 rfl) ?_
  obtain ⟨hk1, hV⟩ := hV
  obtain ⟨hk2, hV⟩ := hV
  obtain ⟨hk3, hV⟩ := hV
  refine va_get (D := (dC, dI)) (ci := 0) (v := .long (c_vP o d)) (C := RX0) (T := TX0) (N := 4) (fs := (cx_crank o d)) hx hb hts hi_wsX00 hown hK hP (7 + (c_nd o + d)) (wx_crank (o := o) hk1 hk2 hk3) rfl 1 (by decide) (hts (.fieldLink RX0 13 "OrreryDials$Crank" "pull" "J") (by decide +kernel)) (u_same (hts (.sameField "OrreryDials$Crank" "OrreryDials$Drive" "pull" "J") (by decide +kernel))) rfl dX0_forceAt_1 ?_
  refine lv_aload_n hx hb dX0_forceAt_4 rfl (lv_at hl 0 rfl) ?_
  refine va_get (D := (dC, dI)) (ci := 0) (v := .int (c_vG o d)) (C := RX0) (T := TX0) (N := 4) (fs := (cx_crank o d)) hx hb hts hi_wsX00 hown hK hP (7 + (c_nd o + d)) (wx_crank (o := o) hk1 hk2 hk3) rfl 3 (by decide) (hts (.fieldLink RX0 7 "OrreryDials$Crank" "gear" "I") (by decide +kernel)) (fun _ h9 => h9) rfl dX0_forceAt_5 ?_
  refine vp_callSl (W.runS (As := [.long (c_vP o d), .int (c_vG o d)]) (rest := []) ⟨hx, hb, hml, hown, hts⟩ (qX4_timesInt l (c_vP o d) (c_vG o d)) (va_cwS 2 hts gX0_forceAt_X4_timesInt rfl rfl rfl (by decide +kernel) ⟨Nat.le_of_ble_eq_true rfl, Nat.le_of_ble_eq_true rfl⟩) ⟨fun _ _ _ _ q => q, fun U hU hW => rfl⟩ rfl rfl hl.1 rfl (lv_room (Nat.le_of_ble_eq_true rfl)) dX0_forceAt_8 ⟨Nat.le_of_ble_eq_true rfl, Nat.le_of_ble_eq_true rfl⟩) (fun r hr => ?_)
  rw [hr]
  exact W.lret hx hb hr (fun t ht hW => ⟨_, rfl, hJ.trans hE.symm, ht.trans hHe.symm⟩) (fun q h => absurd h List.not_mem_nil) dX0_forceAt_11
def jX3_forceAt_y6 (o : Os) (d : Nat) (a1 : Int64) (y4 : Int64) (y6 : Int64) : Int64 := (if (jX4_isFit (1 : Int32) y6) = 0 then y6 else (jX4_sum (1 : Int32) y4 y6))
def sX3_forceAt_y6 (o : Os) (d : Nat) (a1 : Int64) (y4 : Int64) (y6 : Int64) : Prop := (if (jX4_isFit (1 : Int32) y6) = 0 then True else True)
def jX3_forceAt_y4 (o : Os) (d : Nat) (a1 : Int64) (y4 : Int64) : Int64 := (if (jX4_isFit (1 : Int32) y4) = 0 then y4 else (jX3_forceAt_y6 o d a1 y4 (jX4_timesInt (c_vP o d) (c_vC o d))))
def sX3_forceAt_y4 (o : Os) (d : Nat) (a1 : Int64) (y4 : Int64) : Prop := (if (jX4_isFit (1 : Int32) y4) = 0 then True else (sX3_forceAt_y6 o d a1 y4 (jX4_timesInt (c_vP o d) (c_vC o d))))
def jX3_forceAt (o : Os) (d : Nat) (a1 : Int64) : Int64 := (jX3_forceAt_y4 o d a1 (jX4_timesInt (c_vP o d) (c_vG o d)))
def sX3_forceAt (o : Os) (d : Nat) (a1 : Int64) : Prop := (d < c_nv o ∧ (¬ c_vS o d = 0 ∧ (¬ c_vS o d = 1 ∧ (sX3_forceAt_y4 o d a1 (jX4_timesInt (c_vP o d) (c_vG o d))))))
set_option maxHeartbeats 8000000 in
set_option maxRecDepth 100000 in
theorem qX3_forceAt (l : Launch) (dC : Nat → ClassId) (dI : Nat → Nat → Nat) (cy : Nat → ClassId) (x : Nat) (ad : Nat → Nat) (sz : Nat) (o : Os) (d : Nat) (a1 : Int64) (hV : sX3_forceAt o d a1) : Met l yX3_forceAt wsX3_forceAt ({ frames := 5, cells := 0, slots := 0, locals := 134 }) (va_Pc [.ref (ad (200 + d)), .long a1] (wI (dC, dI) (tyA cy) (WX cy x ad o) sz)) (vp_Sl (fun r => r = jX3_forceAt o d a1)) 0 0 (fun _ => False) := by
  refine Met.ofW (cc := cX3_forceAt) (maxL := 7) (ret := some .long) (by decide) rfl ?_
  intro p e s m args below meth c s₁ B hml hv
  obtain ⟨rfl, hsz, hP, hK, hD0, hk⟩ := hv
  have hx := B.exec
  have hb := B.bytes
  have hr := B.returns
  have hts := atoms_spec (ws := wsX3_forceAt) B.pre
  have hown : s.vm.findClass RX3 = some m.cls := findClass_of_methodNamed B.named
  have hlocks := B.notSynchronized
  subst hsz
  have hD := hD0
  obtain ⟨H, hHe⟩ : ∃ H, s.heap = H := ⟨_, rfl⟩
  have hP : va_P (dC, dI) vwCl (WX cy x ad o) H := by rw [← hHe]; exact hP
  rw [w_heap hHe]
  have hi_wsX00 : ∀ w ∈ wsX00, w ∈ wsX3_forceAt := fun _ h => List.mem_cons_of_mem _ (List.mem_append_left _ (List.mem_append_left _ (List.mem_append_right _ h)))
  have hi_wsX30 : ∀ w ∈ wsX30, w ∈ wsX3_forceAt := fun _ h => List.mem_cons_of_mem _ (List.mem_append_left _ (List.mem_append_right _ h))
  have hi_wsX60 : ∀ w ∈ wsX60, w ∈ wsX3_forceAt := fun _ h => List.mem_cons_of_mem _ (List.mem_append_right _ h)
  obtain ⟨JR, hE⟩ : ∃ q, jX3_forceAt o d a1 = q := ⟨_, rfl⟩
  have hJ := hE
  rw [jX3_forceAt] at hJ
  rw [sX3_forceAt] at hV
  have hl := lv_entry ([.ref (ad (200 + d)), .long a1]) (n := 7) (Nat.le_of_ble_eq_true rfl)
  rw [lg_entry_eq]
  generalize (lg_sl ([.ref (ad (200 + d)), .long a1]) ++ List.replicate (7 - (lg_sl ([.ref (ad (200 + d)), .long a1])).length) Slot.unset).toArray = ls at hl ⊢
  have hl : lv_has ls 7 [(0, .ref (ad (200 + d))), (1, .long a1)] := hl
  refine lv_aload_n hx hb dX3_forceAt_0 rfl (lv_at hl 0 rfl) ?_
  obtain ⟨hk1, hV⟩ := hV
  obtain ⟨hk2, hV⟩ := hV
  obtain ⟨hk3, hV⟩ := hV
  refine va_get (D := (dC, dI)) (ci := 2) (v := .long (c_vP o d)) (C := RX3) (T := TX3) (N := 4) (fs := (cx_fly o d)) hx hb hts hi_wsX30 hown hK hP (7 + (c_nd o + d)) (wx_fly (o := o) hk1 hk2 hk3) rfl 2 (by decide) (hts (.fieldLink RX3 7 "OrreryDials$Flywheel" "pull" "J") (by decide +kernel)) (u_same (hts (.sameField "OrreryDials$Flywheel" "OrreryDials$Drive" "pull" "J") (by decide +kernel))) rfl dX3_forceAt_1 ?_
  refine lv_aload_n hx hb dX3_forceAt_4 rfl (lv_at hl 0 rfl) ?_
  refine va_get (D := (dC, dI)) (ci := 2) (v := .int (c_vG o d)) (C := RX3) (T := TX3) (N := 4) (fs := (cx_fly o d)) hx hb hts hi_wsX30 hown hK hP (7 + (c_nd o + d)) (wx_fly (o := o) hk1 hk2 hk3) rfl 0 (by decide) (hts (.fieldLink RX3 13 "OrreryDials$Flywheel" "gear" "I") (by decide +kernel)) (u_same (hts (.sameField "OrreryDials$Flywheel" "OrreryDials$Crank" "gear" "I") (by decide +kernel))) rfl dX3_forceAt_5 ?_
  refine vp_callSl (W.runS (As := [.long (c_vP o d), .int (c_vG o d)]) (rest := []) ⟨hx, hb, hml, hown, hts⟩ (qX4_timesInt l (c_vP o d) (c_vG o d)) (va_cwS 2 hts gX3_forceAt_X4_timesInt rfl rfl rfl (by decide +kernel) ⟨Nat.le_of_ble_eq_true rfl, Nat.le_of_ble_eq_true rfl⟩) ⟨fun _ _ _ _ q => q, fun U hU hW => rfl⟩ rfl rfl hl.1 rfl (lv_room (Nat.le_of_ble_eq_true rfl)) dX3_forceAt_8 ⟨Nat.le_of_ble_eq_true rfl, Nat.le_of_ble_eq_true rfl⟩) (fun r hr => ?_)
  rw [hr]
  refine lv_topl (fun y4 ey4 => ?_)
  rw [← ey4] at hJ
  rw [jX3_forceAt_y4] at hJ
  rw [← ey4] at hV
  rw [sX3_forceAt_y4] at hV
  refine lv_lstore_n (lv' := [(3, .long y4), (0, .ref (ad (200 + d))), (1, .long a1)]) hx hb dX3_forceAt_11 rfl hl (by decide) rfl (fun ls hl => ?_)
  refine lv_iconst (v := (1 : Int32)) hx hb dX3_forceAt_12 (by decide) ?_
  refine lv_lload_n hx hb dX3_forceAt_13 rfl (lv_at hl 0 rfl) ?_
  refine vp_callSi (W.runS (As := [.int (1 : Int32), .long y4]) (rest := []) ⟨hx, hb, hml, hown, hts⟩ (qX4_isFit l (1 : Int32) y4) (va_cwS 2 hts gX3_forceAt_X4_isFit rfl rfl rfl (by decide +kernel) ⟨Nat.le_of_ble_eq_true rfl, Nat.le_of_ble_eq_true rfl⟩) ⟨fun _ _ _ _ q => q, fun U hU hW => rfl⟩ rfl rfl hl.1 rfl (lv_room (Nat.le_of_ble_eq_true rfl)) dX3_forceAt_14 ⟨Nat.le_of_ble_eq_true rfl, Nat.le_of_ble_eq_true rfl⟩) (fun r hr => ?_)
  rw [hr]
  refine lv_if_ne (tgt := 22) hx hb dX3_forceAt_17 (by decide) (fun c5 => ?_) (fun c5 => ?_)
  · skip
    rw [if_neg c5] at hJ
    rw [if_neg c5] at hV
    refine lv_aload_n hx hb dX3_forceAt_22 rfl (lv_at hl 1 rfl) ?_
    refine va_get (D := (dC, dI)) (ci := 2) (v := .long (c_vP o d)) (C := RX3) (T := TX3) (N := 4) (fs := (cx_fly o d)) hx hb hts hi_wsX30 hown hK hP (7 + (c_nd o + d)) (wx_fly (o := o) hk1 hk2 hk3) rfl 2 (by decide) (hts (.fieldLink RX3 7 "OrreryDials$Flywheel" "pull" "J") (by decide +kernel)) (u_same (hts (.sameField "OrreryDials$Flywheel" "OrreryDials$Drive" "pull" "J") (by decide +kernel))) rfl dX3_forceAt_23 ?_
    refine lv_aload_n hx hb dX3_forceAt_26 rfl (lv_at hl 1 rfl) ?_
    refine va_get (D := (dC, dI)) (ci := 2) (v := .int (c_vC o d)) (C := RX3) (T := TX3) (N := 4) (fs := (cx_fly o d)) hx hb hts hi_wsX30 hown hK hP (7 + (c_nd o + d)) (wx_fly (o := o) hk1 hk2 hk3) rfl 3 (by decide) (hts (.fieldLink RX3 27 "OrreryDials$Flywheel" "pullCount" "I") (by decide +kernel)) (u_same (hts (.sameField "OrreryDials$Flywheel" "OrreryDials$Drive" "pullCount" "I") (by decide +kernel))) rfl dX3_forceAt_27 ?_
    refine vp_callSl (W.runS (As := [.long (c_vP o d), .int (c_vC o d)]) (rest := []) ⟨hx, hb, hml, hown, hts⟩ (qX4_timesInt l (c_vP o d) (c_vC o d)) (va_cwS 2 hts gX3_forceAt_X4_timesInt rfl rfl rfl (by decide +kernel) ⟨Nat.le_of_ble_eq_true rfl, Nat.le_of_ble_eq_true rfl⟩) ⟨fun _ _ _ _ q => q, fun U hU hW => rfl⟩ rfl rfl hl.1 rfl (lv_room (Nat.le_of_ble_eq_true rfl)) dX3_forceAt_30 ⟨Nat.le_of_ble_eq_true rfl, Nat.le_of_ble_eq_true rfl⟩) (fun r hr => ?_)
    rw [hr]
    refine lv_topl (fun y6 ey6 => ?_)
    rw [← ey6] at hJ
    rw [jX3_forceAt_y6] at hJ
    rw [← ey6] at hV
    rw [sX3_forceAt_y6] at hV
    refine lv_lstore (lv' := [(5, .long y6), (3, .long y4), (0, .ref (ad (200 + d))), (1, .long a1)]) hx hb dX3_forceAt_33 hl (by decide) rfl (fun ls hl => ?_)
    refine lv_iconst (v := (1 : Int32)) hx hb dX3_forceAt_35 (by decide) ?_
    refine lv_lload hx hb dX3_forceAt_36 (lv_at hl 0 rfl) ?_
    refine vp_callSi (W.runS (As := [.int (1 : Int32), .long y6]) (rest := []) ⟨hx, hb, hml, hown, hts⟩ (qX4_isFit l (1 : Int32) y6) (va_cwS 2 hts gX3_forceAt_X4_isFit rfl rfl rfl (by decide +kernel) ⟨Nat.le_of_ble_eq_true rfl, Nat.le_of_ble_eq_true rfl⟩) ⟨fun _ _ _ _ q => q, fun U hU hW => rfl⟩ rfl rfl hl.1 rfl (lv_room (Nat.le_of_ble_eq_true rfl)) dX3_forceAt_38 ⟨Nat.le_of_ble_eq_true rfl, Nat.le_of_ble_eq_true rfl⟩) (fun r hr => ?_)
    rw [hr]
    refine lv_if_eq (tgt := 54) hx hb dX3_forceAt_41 (by decide) (fun c7 => ?_) (fun c7 => ?_)
    · skip
      rw [if_pos c7] at hJ
      rw [if_pos c7] at hV
      refine lv_lload hx hb dX3_forceAt_54 (lv_at hl 0 rfl) ?_
      exact W.lret hx hb hr (fun t ht hW => ⟨_, rfl, hJ.trans hE.symm, ht.trans hHe.symm⟩) (fun q h => absurd h List.not_mem_nil) dX3_forceAt_56
    · skip
      rw [if_neg c7] at hJ
      rw [if_neg c7] at hV
      refine lv_iconst (v := (1 : Int32)) hx hb dX3_forceAt_44 (by decide) ?_
      refine lv_lload_n hx hb dX3_forceAt_45 rfl (lv_at hl 1 rfl) ?_
      refine lv_lload hx hb dX3_forceAt_46 (lv_at hl 0 rfl) ?_
      refine vp_callSl (W.runS (As := [.int (1 : Int32), .long y4, .long y6]) (rest := []) ⟨hx, hb, hml, hown, hts⟩ (qX4_sum l (1 : Int32) y4 y6) (va_cwS 3 hts gX3_forceAt_X4_sum rfl rfl rfl (by decide +kernel) ⟨Nat.le_of_ble_eq_true rfl, Nat.le_of_ble_eq_true rfl⟩) ⟨fun _ _ _ _ q => q, fun U hU hW => rfl⟩ rfl rfl hl.1 rfl (lv_room (Nat.le_of_ble_eq_true rfl)) dX3_forceAt_48 ⟨Nat.le_of_ble_eq_true rfl, Nat.le_of_ble_eq_true rfl⟩) (fun r hr => ?_)
      rw [hr]
      refine lv_goto (tgt := 56) hx hb dX3_forceAt_51 (by decide) ?_
      exact W.lret hx hb hr (fun t ht hW => ⟨_, rfl, hJ.trans hE.symm, ht.trans hHe.symm⟩) (fun q h => absurd h List.not_mem_nil) dX3_forceAt_56
  · skip
    rw [if_pos c5] at hJ
    rw [if_pos c5] at hV
    refine lv_lload_n hx hb dX3_forceAt_20 rfl (lv_at hl 0 rfl) ?_
    exact W.lret hx hb hr (fun t ht hW => ⟨_, rfl, hJ.trans hE.symm, ht.trans hHe.symm⟩) (fun q h => absurd h List.not_mem_nil) dX3_forceAt_21
def jX7_done (o : Os) (a1 : Int32) : Int32 × Os := (a1, (t_fl o (0 : Int32)))
set_option maxHeartbeats 8000000 in
set_option maxRecDepth 100000 in
theorem qX7_done (l : Launch) (dC : Nat → ClassId) (dI : Nat → Nat → Nat) (cy : Nat → ClassId) (x : Nat) (ad : Nat → Nat) (sz : Nat) (o : Os) (a1 : Int32) : Met l yX7_done wsX7_done ({ frames := 0, cells := 0, slots := 0, locals := 0 }) (va_Pc [.ref x, .int a1] (wI (dC, dI) (tyA cy) (WX cy x ad o) sz)) (va_Qi (fun r u => (r, u) = jX7_done o a1) (fun u t => wO (dC, dI) (tyA cy) (va_A (WX cy x ad o) sz) (WX cy x ad u) t) (va_A (WX cy x ad o) sz)) 0 0 (va_A (WX cy x ad o) sz) := by
  refine Met.ofW (cc := cX7_done) (maxL := 2) (ret := some .int) (by decide) rfl ?_
  intro p e s m args below meth c s₁ B hml hv
  obtain ⟨rfl, hsz, hP, hK, hD0, hk⟩ := hv
  have hx := B.exec
  have hb := B.bytes
  have hr := B.returns
  have hts := atoms_spec (ws := wsX7_done) B.pre
  have hown : s.vm.findClass RX7 = some m.cls := findClass_of_methodNamed B.named
  have hlocks := B.notSynchronized
  subst hsz
  have hD := hD0.self (sz := s.heap.size)
  generalize hAe : va_A (WX cy x ad o) s.heap.size = A at hD ⊢
  have hA : ∀ q : Nat, s.heap.size ≤ q → A q := fun q h => by rw [← hAe]; exact Or.inr h
  obtain ⟨H, hHe⟩ : ∃ H, s.heap = H := ⟨_, rfl⟩
  have hP : va_P (dC, dI) vwCl (WX cy x ad o) H := by rw [← hHe]; exact hP
  have hS : va_S A s.heap H [] := by rw [← hHe]; exact va_S.rf
  rw [w_heap hHe]
  have hi_wsX70 : ∀ w ∈ wsX70, w ∈ wsX7_done := fun _ h => List.mem_cons_of_mem _ (List.mem_append_right _ h)
  obtain ⟨JR, hE⟩ : ∃ q, jX7_done o a1 = q := ⟨_, rfl⟩
  have hJ := hE
  rw [jX7_done] at hJ
  have hl := lv_entry ([.ref x, .int a1]) (n := 2) (Nat.le_of_ble_eq_true rfl)
  rw [lg_entry_eq]
  generalize (lg_sl ([.ref x, .int a1]) ++ List.replicate (2 - (lg_sl ([.ref x, .int a1])).length) Slot.unset).toArray = ls at hl ⊢
  have hl : lv_has ls 2 [(0, .ref x), (1, .int a1)] := hl
  refine lv_aload_n hx hb dX7_done_0 rfl (lv_at hl 0 rfl) ?_
  refine lv_iconst (v := (0 : Int32)) hx hb dX7_done_1 (by decide) ?_
  refine va_put (D := (dC, dI)) (ci := 5) (v := .int (0 : Int32)) (ty := .int) (C := RX7) (T := TX7) (N := 10) (fs := (cx_f ad o)) hx hb hts hi_wsX70 tyX7 tyX7_ok nmX7 hown hK hP hD hS 0 (wx_h (o := o) rfl) rfl 8 (by decide) (hts (.fieldLink RX7 44 "OrreryDials" "latestFailure" "I") (by decide +kernel)) (fun _ h9 => h9) rfl (by decide +kernel) rfl rfl (Nat.le_of_ble_eq_true rfl) dX7_done_2 (fun H locs hP hD hS => ?_)
  rw [wx_p_fl] at hP hD
  refine lv_iload_n hx hb dX7_done_5 rfl (lv_at hl 1 rfl) ?_
  exact W.iret hx hb hr (fun t ht hW => ⟨⟨_, _, rfl, hJ.trans hE.symm, by rw [ht]; exact hP, va_K.moved hW.alike hK, hD⟩, hS.F ht⟩) hS.2.2 dX7_done_6
def jX7_failWith_o6 (o : Os) (a1 : Int32) (y1 : Int32) (o6 : Os) : Int32 × Os := (a1, o6)
def sX7_failWith_o6 (o : Os) (a1 : Int32) (y1 : Int32) (o6 : Os) : Prop := True
def jX7_failWith_y1 (o : Os) (a1 : Int32) (y1 : Int32) : Int32 × Os := (if y1 < 0 then (a1, (t_fl o a1)) else (if (5 : Int32) ≤ y1 then (a1, (t_fl o a1)) else (jX7_failWith_o6 o a1 y1 (t_cn (t_fl o a1) (upd (c_cn (t_fl o a1)) y1.toNatClampNeg ((c_cn (t_fl o a1) y1.toNatClampNeg) + (1 : Int32)))))))
def sX7_failWith_y1 (o : Os) (a1 : Int32) (y1 : Int32) : Prop := (if y1 < 0 then True else (if (5 : Int32) ≤ y1 then True else (vp_in y1 5 ∧ (vp_in y1 5 ∧ (sX7_failWith_o6 o a1 y1 (t_cn (t_fl o a1) (upd (c_cn (t_fl o a1)) y1.toNatClampNeg ((c_cn (t_fl o a1) y1.toNatClampNeg) + (1 : Int32)))))))))
def jX7_failWith (o : Os) (a1 : Int32) : Int32 × Os := (jX7_failWith_y1 o a1 ((-11 : Int32) - a1))
def sX7_failWith (o : Os) (a1 : Int32) : Prop := (sX7_failWith_y1 o a1 ((-11 : Int32) - a1))
set_option maxHeartbeats 8000000 in
set_option maxRecDepth 100000 in
theorem qX7_failWith (l : Launch) (dC : Nat → ClassId) (dI : Nat → Nat → Nat) (cy : Nat → ClassId) (x : Nat) (ad : Nat → Nat) (sz : Nat) (o : Os) (a1 : Int32) (hV : sX7_failWith o a1) : Met l yX7_failWith wsX7_failWith ({ frames := 0, cells := 0, slots := 0, locals := 0 }) (va_Pc [.ref x, .int a1] (wI (dC, dI) (tyA cy) (WX cy x ad o) sz)) (va_Qi (fun r u => (r, u) = jX7_failWith o a1) (fun u t => wO (dC, dI) (tyA cy) (va_A (WX cy x ad o) sz) (WX cy x ad u) t) (va_A (WX cy x ad o) sz)) 0 0 (va_A (WX cy x ad o) sz) := by
  refine Met.ofW (cc := cX7_failWith) (maxL := 3) (ret := some .int) (by decide) rfl ?_
  intro p e s m args below meth c s₁ B hml hv
  obtain ⟨rfl, hsz, hP, hK, hD0, hk⟩ := hv
  have hx := B.exec
  have hb := B.bytes
  have hr := B.returns
  have hts := atoms_spec (ws := wsX7_failWith) B.pre
  have hown : s.vm.findClass RX7 = some m.cls := findClass_of_methodNamed B.named
  have hlocks := B.notSynchronized
  subst hsz
  have hD := hD0.self (sz := s.heap.size)
  generalize hAe : va_A (WX cy x ad o) s.heap.size = A at hD ⊢
  have hA : ∀ q : Nat, s.heap.size ≤ q → A q := fun q h => by rw [← hAe]; exact Or.inr h
  obtain ⟨H, hHe⟩ : ∃ H, s.heap = H := ⟨_, rfl⟩
  have hP : va_P (dC, dI) vwCl (WX cy x ad o) H := by rw [← hHe]; exact hP
  have hS : va_S A s.heap H [] := by rw [← hHe]; exact va_S.rf
  rw [w_heap hHe]
  have hi_wsX70 : ∀ w ∈ wsX70, w ∈ wsX7_failWith := fun _ h => List.mem_cons_of_mem _ (List.mem_append_right _ h)
  obtain ⟨JR, hE⟩ : ∃ q, jX7_failWith o a1 = q := ⟨_, rfl⟩
  have hJ := hE
  rw [jX7_failWith] at hJ
  rw [sX7_failWith] at hV
  have hl := lv_entry ([.ref x, .int a1]) (n := 3) (Nat.le_of_ble_eq_true rfl)
  rw [lg_entry_eq]
  generalize (lg_sl ([.ref x, .int a1]) ++ List.replicate (3 - (lg_sl ([.ref x, .int a1])).length) Slot.unset).toArray = ls at hl ⊢
  have hl : lv_has ls 3 [(0, .ref x), (1, .int a1)] := hl
  refine lv_aload_n hx hb dX7_failWith_0 rfl (lv_at hl 0 rfl) ?_
  refine lv_iload_n hx hb dX7_failWith_1 rfl (lv_at hl 1 rfl) ?_
  refine va_put (D := (dC, dI)) (ci := 5) (v := .int a1) (ty := .int) (C := RX7) (T := TX7) (N := 10) (fs := (cx_f ad o)) hx hb hts hi_wsX70 tyX7 tyX7_ok nmX7 hown hK hP hD hS 0 (wx_h (o := o) rfl) rfl 8 (by decide) (hts (.fieldLink RX7 44 "OrreryDials" "latestFailure" "I") (by decide +kernel)) (fun _ h9 => h9) rfl (by decide +kernel) rfl rfl (Nat.le_of_ble_eq_true rfl) dX7_failWith_2 (fun H locs hP hD hS => ?_)
  rw [wx_p_fl] at hP hD
  refine lv_bipush (v := (-11 : Int32)) hx hb dX7_failWith_5 (by decide) ?_
  refine lv_iload_n hx hb dX7_failWith_7 rfl (lv_at hl 1 rfl) ?_
  refine lv_isub hx hb dX7_failWith_8 ?_
  refine lv_topi (fun y1 ey1 => ?_)
  rw [← ey1] at hJ
  rw [jX7_failWith_y1] at hJ
  rw [← ey1] at hV
  rw [sX7_failWith_y1] at hV
  refine lv_istore_n (lv' := [(2, .int y1), (0, .ref x), (1, .int a1)]) hx hb dX7_failWith_9 rfl hl (by decide) rfl (fun ls hl => ?_)
  refine lv_iload_n hx hb dX7_failWith_10 rfl (lv_at hl 0 rfl) ?_
  refine lv_if_lt (tgt := 29) hx hb dX7_failWith_11 (by decide) (fun c2 => ?_) (fun c2 => ?_)
  · skip
    rw [if_pos c2] at hJ
    rw [if_pos c2] at hV
    refine lv_iload_n hx hb dX7_failWith_29 rfl (lv_at hl 2 rfl) ?_
    exact W.iret hx hb hr (fun t ht hW => ⟨⟨_, _, rfl, hJ.trans hE.symm, by rw [ht]; exact hP, va_K.moved hW.alike hK, hD⟩, hS.F ht⟩) hS.2.2 dX7_failWith_30
  · skip
    rw [if_neg c2] at hJ
    rw [if_neg c2] at hV
    refine lv_iload_n hx hb dX7_failWith_14 rfl (lv_at hl 0 rfl) ?_
    refine lv_iconst (v := (5 : Int32)) hx hb dX7_failWith_15 (by decide) ?_
    refine lv_icmp_ge (tgt := 29) hx hb dX7_failWith_16 (by decide) (fun c3 => ?_) (fun c3 => ?_)
    · skip
      rw [if_pos c3] at hJ
      rw [if_pos c3] at hV
      refine lv_iload_n hx hb dX7_failWith_29 rfl (lv_at hl 2 rfl) ?_
      exact W.iret hx hb hr (fun t ht hW => ⟨⟨_, _, rfl, hJ.trans hE.symm, by rw [ht]; exact hP, va_K.moved hW.alike hK, hD⟩, hS.F ht⟩) hS.2.2 dX7_failWith_30
    · skip
      rw [if_neg c3] at hJ
      rw [if_neg c3] at hV
      refine lv_aload_n hx hb dX7_failWith_19 rfl (lv_at hl 1 rfl) ?_
      refine va_get (D := (dC, dI)) (ci := 5) (v := .ref (ad 6)) (C := RX7) (T := TX7) (N := 10) (fs := (cx_f ad (t_fl o a1))) hx hb hts hi_wsX70 hown hK hP 0 (wx_h (o := (t_fl o a1)) rfl) rfl 9 (by decide) (hts (.fieldLink RX7 47 "OrreryDials" "failureCounts" "[I") (by decide +kernel)) (fun _ h9 => h9) rfl dX7_failWith_20 ?_
      refine lv_iload_n hx hb dX7_failWith_23 rfl (lv_at hl 0 rfl) ?_
      refine lv_dup2_11 hx hb dX7_failWith_24 rfl rfl ?_
      obtain ⟨hk4, hV⟩ := hV
      refine va_iald hx hb hK hP 6 0 (wx_h (o := (t_fl o a1)) rfl) rfl hk4 dX7_failWith_25 ?_
      refine lv_iconst (v := (1 : Int32)) hx hb dX7_failWith_26 (by decide) ?_
      refine lv_iadd hx hb dX7_failWith_27 ?_
      obtain ⟨hk5, hV⟩ := hV
      refine va_iast hx hb hK hP hD hS 6 0 (wx_h (o := (t_fl o a1)) rfl) rfl hk5 dX7_failWith_28 (fun H locs hP hD hS => ?_)
      rw [wx_a_cn] at hP hD
      obtain ⟨o6, eo6⟩ : ∃ z, z = (t_cn (t_fl o a1) (upd (c_cn (t_fl o a1)) y1.toNatClampNeg ((c_cn (t_fl o a1) y1.toNatClampNeg) + (1 : Int32)))) := ⟨_, rfl⟩
      rw [← eo6] at hP hD hJ hV
      rw [jX7_failWith_o6] at hJ
      rw [sX7_failWith_o6] at hV
      refine lv_iload_n hx hb dX7_failWith_29 rfl (lv_at hl 2 rfl) ?_
      exact W.iret hx hb hr (fun t ht hW => ⟨⟨_, _, rfl, hJ.trans hE.symm, by rw [ht]; exact hP, va_K.moved hW.alike hK, hD⟩, hS.F ht⟩) hS.2.2 dX7_failWith_30
def jX7_dialAt (o : Os) (a1 : Int32) : Option Nat := (if a1 < 0 then none else (if (nI (c_nd o)) ≤ a1 then none else (some a1.toNatClampNeg)))
def sX7_dialAt (o : Os) (a1 : Int32) : Prop := (if a1 < 0 then True else (if (nI (c_nd o)) ≤ a1 then True else (vp_in a1 12 ∧ (a1.toNatClampNeg < c_nd o ∧ True))))
set_option maxHeartbeats 8000000 in
set_option maxRecDepth 100000 in
theorem qX7_dialAt (l : Launch) (dC : Nat → ClassId) (dI : Nat → Nat → Nat) (cy : Nat → ClassId) (x : Nat) (ad : Nat → Nat) (sz : Nat) (o : Os) (a1 : Int32) (hV : sX7_dialAt o a1) : Met l yX7_dialAt wsX7_dialAt ({ frames := 0, cells := 0, slots := 0, locals := 0 }) (va_Pc [.ref x, .int a1] (wI (dC, dI) (tyA cy) (WX cy x ad o) sz)) (va_Sq (fun r => r = (jX7_dialAt o a1).map (fun i => ad (100 + i)))) 0 0 (fun _ => False) := by
  refine Met.ofW (cc := cX7_dialAt) (maxL := 2) (ret := (some (.object "OrreryDials$Dial"))) (by decide) rfl ?_
  intro p e s m args below meth c s₁ B hml hv
  obtain ⟨rfl, hsz, hP, hK, hD0, hk⟩ := hv
  have hx := B.exec
  have hb := B.bytes
  have hr := B.returns
  have hts := atoms_spec (ws := wsX7_dialAt) B.pre
  have hown : s.vm.findClass RX7 = some m.cls := findClass_of_methodNamed B.named
  have hlocks := B.notSynchronized
  subst hsz
  have hD := hD0
  obtain ⟨H, hHe⟩ : ∃ H, s.heap = H := ⟨_, rfl⟩
  have hP : va_P (dC, dI) vwCl (WX cy x ad o) H := by rw [← hHe]; exact hP
  rw [w_heap hHe]
  have hi_wsX70 : ∀ w ∈ wsX70, w ∈ wsX7_dialAt := fun _ h => List.mem_cons_of_mem _ (List.mem_append_right _ h)
  obtain ⟨JR, hE⟩ : ∃ q, jX7_dialAt o a1 = q := ⟨_, rfl⟩
  have hJ := hE
  rw [jX7_dialAt] at hJ
  rw [sX7_dialAt] at hV
  have hl := lv_entry ([.ref x, .int a1]) (n := 2) (Nat.le_of_ble_eq_true rfl)
  rw [lg_entry_eq]
  generalize (lg_sl ([.ref x, .int a1]) ++ List.replicate (2 - (lg_sl ([.ref x, .int a1])).length) Slot.unset).toArray = ls at hl ⊢
  have hl : lv_has ls 2 [(0, .ref x), (1, .int a1)] := hl
  refine lv_iload_n hx hb dX7_dialAt_0 rfl (lv_at hl 1 rfl) ?_
  refine lv_if_lt (tgt := 21) hx hb dX7_dialAt_1 (by decide) (fun c1 => ?_) (fun c1 => ?_)
  · skip
    rw [if_pos c1] at hJ
    rw [if_pos c1] at hV
    refine lv_null hx hb dX7_dialAt_21 ?_
    exact W.aret (v := .null) hx hb hr (Or.inl ⟨_, rfl⟩) (Or.inl rfl) (fun t ht hW => ⟨none, rfl, by rw [hE, ← hJ]; rfl, ht.trans hHe.symm⟩) (fun q h => absurd h List.not_mem_nil) dX7_dialAt_22
  · skip
    rw [if_neg c1] at hJ
    rw [if_neg c1] at hV
    refine lv_iload_n hx hb dX7_dialAt_4 rfl (lv_at hl 1 rfl) ?_
    refine lv_aload_n hx hb dX7_dialAt_5 rfl (lv_at hl 0 rfl) ?_
    refine va_get (D := (dC, dI)) (ci := 5) (v := .int (nI (c_nd o))) (C := RX7) (T := TX7) (N := 10) (fs := (cx_f ad o)) hx hb hts hi_wsX70 hown hK hP 0 (wx_h (o := o) rfl) rfl 1 (by decide) (hts (.fieldLink RX7 15 "OrreryDials" "dialCount" "I") (by decide +kernel)) (fun _ h9 => h9) rfl dX7_dialAt_6 ?_
    refine lv_icmp_ge (tgt := 21) hx hb dX7_dialAt_9 (by decide) (fun c2 => ?_) (fun c2 => ?_)
    · skip
      rw [if_pos c2] at hJ
      rw [if_pos c2] at hV
      refine lv_null hx hb dX7_dialAt_21 ?_
      exact W.aret (v := .null) hx hb hr (Or.inl ⟨_, rfl⟩) (Or.inl rfl) (fun t ht hW => ⟨none, rfl, by rw [hE, ← hJ]; rfl, ht.trans hHe.symm⟩) (fun q h => absurd h List.not_mem_nil) dX7_dialAt_22
    · skip
      rw [if_neg c2] at hJ
      rw [if_neg c2] at hV
      refine lv_aload_n hx hb dX7_dialAt_12 rfl (lv_at hl 0 rfl) ?_
      refine va_get (D := (dC, dI)) (ci := 5) (v := .ref (ad 1)) (C := RX7) (T := TX7) (N := 10) (fs := (cx_f ad o)) hx hb hts hi_wsX70 hown hK hP 0 (wx_h (o := o) rfl) rfl 0 (by decide) (hts (.fieldLink RX7 11 "OrreryDials" "dials" "[LOrreryDials$Dial;") (by decide +kernel)) (fun _ h9 => h9) rfl dX7_dialAt_13 ?_
      refine lv_iload_n hx hb dX7_dialAt_16 rfl (lv_at hl 1 rfl) ?_
      obtain ⟨hk3, hV⟩ := hV
      refine va_aldq hx hb hK hP 1 5 (wx_h (o := o) rfl) rfl hk3 dX7_dialAt_17 ?_
      obtain ⟨hk4, hV⟩ := hV
      refine rf_s (show cx_dr ad o a1.toNatClampNeg = some (ad (100 + a1.toNatClampNeg)) from if_pos hk4) ?_
      refine lv_goto (tgt := 22) hx hb dX7_dialAt_18 (by decide) ?_
      exact W.aret (v := .ref (ad (100 + a1.toNatClampNeg))) hx hb hr (Or.inl ⟨_, rfl⟩) (Or.inr ⟨_, rfl⟩) (fun t ht hW => ⟨some _, rfl, by rw [hE, ← hJ]; rfl, ht.trans hHe.symm⟩) (fun q h => absurd h List.not_mem_nil) dX7_dialAt_22
def jX7_driveAt (o : Os) (a1 : Int32) : Option Nat := (if a1 < 0 then none else (if (nI (c_nv o)) ≤ a1 then none else (some a1.toNatClampNeg)))
def sX7_driveAt (o : Os) (a1 : Int32) : Prop := (if a1 < 0 then True else (if (nI (c_nv o)) ≤ a1 then True else (vp_in a1 20 ∧ (a1.toNatClampNeg < c_nv o ∧ True))))
set_option maxHeartbeats 8000000 in
set_option maxRecDepth 100000 in
theorem qX7_driveAt (l : Launch) (dC : Nat → ClassId) (dI : Nat → Nat → Nat) (cy : Nat → ClassId) (x : Nat) (ad : Nat → Nat) (sz : Nat) (o : Os) (a1 : Int32) (hV : sX7_driveAt o a1) : Met l yX7_driveAt wsX7_driveAt ({ frames := 0, cells := 0, slots := 0, locals := 0 }) (va_Pc [.ref x, .int a1] (wI (dC, dI) (tyA cy) (WX cy x ad o) sz)) (va_Sq (fun r => r = (jX7_driveAt o a1).map (fun i => ad (200 + i)))) 0 0 (fun _ => False) := by
  refine Met.ofW (cc := cX7_driveAt) (maxL := 2) (ret := (some (.object "OrreryDials$Drive"))) (by decide) rfl ?_
  intro p e s m args below meth c s₁ B hml hv
  obtain ⟨rfl, hsz, hP, hK, hD0, hk⟩ := hv
  have hx := B.exec
  have hb := B.bytes
  have hr := B.returns
  have hts := atoms_spec (ws := wsX7_driveAt) B.pre
  have hown : s.vm.findClass RX7 = some m.cls := findClass_of_methodNamed B.named
  have hlocks := B.notSynchronized
  subst hsz
  have hD := hD0
  obtain ⟨H, hHe⟩ : ∃ H, s.heap = H := ⟨_, rfl⟩
  have hP : va_P (dC, dI) vwCl (WX cy x ad o) H := by rw [← hHe]; exact hP
  rw [w_heap hHe]
  have hi_wsX70 : ∀ w ∈ wsX70, w ∈ wsX7_driveAt := fun _ h => List.mem_cons_of_mem _ (List.mem_append_right _ h)
  obtain ⟨JR, hE⟩ : ∃ q, jX7_driveAt o a1 = q := ⟨_, rfl⟩
  have hJ := hE
  rw [jX7_driveAt] at hJ
  rw [sX7_driveAt] at hV
  have hl := lv_entry ([.ref x, .int a1]) (n := 2) (Nat.le_of_ble_eq_true rfl)
  rw [lg_entry_eq]
  generalize (lg_sl ([.ref x, .int a1]) ++ List.replicate (2 - (lg_sl ([.ref x, .int a1])).length) Slot.unset).toArray = ls at hl ⊢
  have hl : lv_has ls 2 [(0, .ref x), (1, .int a1)] := hl
  refine lv_iload_n hx hb dX7_driveAt_0 rfl (lv_at hl 1 rfl) ?_
  refine lv_if_lt (tgt := 21) hx hb dX7_driveAt_1 (by decide) (fun c1 => ?_) (fun c1 => ?_)
  · skip
    rw [if_pos c1] at hJ
    rw [if_pos c1] at hV
    refine lv_null hx hb dX7_driveAt_21 ?_
    exact W.aret (v := .null) hx hb hr (Or.inl ⟨_, rfl⟩) (Or.inl rfl) (fun t ht hW => ⟨none, rfl, by rw [hE, ← hJ]; rfl, ht.trans hHe.symm⟩) (fun q h => absurd h List.not_mem_nil) dX7_driveAt_22
  · skip
    rw [if_neg c1] at hJ
    rw [if_neg c1] at hV
    refine lv_iload_n hx hb dX7_driveAt_4 rfl (lv_at hl 1 rfl) ?_
    refine lv_aload_n hx hb dX7_driveAt_5 rfl (lv_at hl 0 rfl) ?_
    refine va_get (D := (dC, dI)) (ci := 5) (v := .int (nI (c_nv o))) (C := RX7) (T := TX7) (N := 10) (fs := (cx_f ad o)) hx hb hts hi_wsX70 hown hK hP 0 (wx_h (o := o) rfl) rfl 3 (by decide) (hts (.fieldLink RX7 25 "OrreryDials" "driveCount" "I") (by decide +kernel)) (fun _ h9 => h9) rfl dX7_driveAt_6 ?_
    refine lv_icmp_ge (tgt := 21) hx hb dX7_driveAt_9 (by decide) (fun c2 => ?_) (fun c2 => ?_)
    · skip
      rw [if_pos c2] at hJ
      rw [if_pos c2] at hV
      refine lv_null hx hb dX7_driveAt_21 ?_
      exact W.aret (v := .null) hx hb hr (Or.inl ⟨_, rfl⟩) (Or.inl rfl) (fun t ht hW => ⟨none, rfl, by rw [hE, ← hJ]; rfl, ht.trans hHe.symm⟩) (fun q h => absurd h List.not_mem_nil) dX7_driveAt_22
    · skip
      rw [if_neg c2] at hJ
      rw [if_neg c2] at hV
      refine lv_aload_n hx hb dX7_driveAt_12 rfl (lv_at hl 0 rfl) ?_
      refine va_get (D := (dC, dI)) (ci := 5) (v := .ref (ad 2)) (C := RX7) (T := TX7) (N := 10) (fs := (cx_f ad o)) hx hb hts hi_wsX70 hown hK hP 0 (wx_h (o := o) rfl) rfl 2 (by decide) (hts (.fieldLink RX7 21 "OrreryDials" "drives" "[LOrreryDials$Drive;") (by decide +kernel)) (fun _ h9 => h9) rfl dX7_driveAt_13 ?_
      refine lv_iload_n hx hb dX7_driveAt_16 rfl (lv_at hl 1 rfl) ?_
      obtain ⟨hk3, hV⟩ := hV
      refine va_aldq hx hb hK hP 2 6 (wx_h (o := o) rfl) rfl hk3 dX7_driveAt_17 ?_
      obtain ⟨hk4, hV⟩ := hV
      refine rf_s (show cx_vr ad o a1.toNatClampNeg = some (ad (200 + a1.toNatClampNeg)) from if_pos hk4) ?_
      refine lv_goto (tgt := 22) hx hb dX7_driveAt_18 (by decide) ?_
      exact W.aret (v := .ref (ad (200 + a1.toNatClampNeg))) hx hb hr (Or.inl ⟨_, rfl⟩) (Or.inr ⟨_, rfl⟩) (fun t ht hW => ⟨some _, rfl, by rw [hE, ← hJ]; rfl, ht.trans hHe.symm⟩) (fun q h => absurd h List.not_mem_nil) dX7_driveAt_22
def jX7_rowAt_y3 (o : Os) (a1 : Int32) (a2 : Int32) (y3 : Int32) : Option Nat := (some (((2 : Int32) * a1) + y3).toNatClampNeg)
def sX7_rowAt_y3 (o : Os) (a1 : Int32) (a2 : Int32) (y3 : Int32) : Prop := (vp_in (((2 : Int32) * a1) + y3) 16 ∧ True)
def jX7_rowAt (o : Os) (a1 : Int32) (a2 : Int32) : Option Nat := (if a1 < 0 then none else (if a1 < (8 : Int32) then (jX7_rowAt_y3 o a1 a2 (if a2 = 0 then (0 : Int32) else (1 : Int32))) else none))
def sX7_rowAt (o : Os) (a1 : Int32) (a2 : Int32) : Prop := (if a1 < 0 then True else (if a1 < (8 : Int32) then (sX7_rowAt_y3 o a1 a2 (if a2 = 0 then (0 : Int32) else (1 : Int32))) else True))
set_option maxHeartbeats 8000000 in
set_option maxRecDepth 100000 in
theorem qX7_rowAt (l : Launch) (dC : Nat → ClassId) (dI : Nat → Nat → Nat) (cy : Nat → ClassId) (x : Nat) (ad : Nat → Nat) (sz : Nat) (o : Os) (a1 : Int32) (a2 : Int32) (hV : sX7_rowAt o a1 a2) : Met l yX7_rowAt wsX7_rowAt ({ frames := 0, cells := 0, slots := 0, locals := 0 }) (va_Pc [.ref x, .int a1, .int a2] (wI (dC, dI) (tyA cy) (WX cy x ad o) sz)) (va_Sq (fun r => r = (jX7_rowAt o a1 a2).map (fun i => ad (300 + i)))) 0 0 (fun _ => False) := by
  refine Met.ofW (cc := cX7_rowAt) (maxL := 3) (ret := (some (.object "OrreryDials$Row"))) (by decide) rfl ?_
  intro p e s m args below meth c s₁ B hml hv
  obtain ⟨rfl, hsz, hP, hK, hD0, hk⟩ := hv
  have hx := B.exec
  have hb := B.bytes
  have hr := B.returns
  have hts := atoms_spec (ws := wsX7_rowAt) B.pre
  have hown : s.vm.findClass RX7 = some m.cls := findClass_of_methodNamed B.named
  have hlocks := B.notSynchronized
  subst hsz
  have hD := hD0
  obtain ⟨H, hHe⟩ : ∃ H, s.heap = H := ⟨_, rfl⟩
  have hP : va_P (dC, dI) vwCl (WX cy x ad o) H := by rw [← hHe]; exact hP
  rw [w_heap hHe]
  have hi_wsX70 : ∀ w ∈ wsX70, w ∈ wsX7_rowAt := fun _ h => List.mem_cons_of_mem _ (List.mem_append_right _ h)
  obtain ⟨JR, hE⟩ : ∃ q, jX7_rowAt o a1 a2 = q := ⟨_, rfl⟩
  have hJ := hE
  rw [jX7_rowAt] at hJ
  rw [sX7_rowAt] at hV
  have hl := lv_entry ([.ref x, .int a1, .int a2]) (n := 3) (Nat.le_of_ble_eq_true rfl)
  rw [lg_entry_eq]
  generalize (lg_sl ([.ref x, .int a1, .int a2]) ++ List.replicate (3 - (lg_sl ([.ref x, .int a1, .int a2])).length) Slot.unset).toArray = ls at hl ⊢
  have hl : lv_has ls 3 [(0, .ref x), (1, .int a1), (2, .int a2)] := hl
  refine lv_iload_n hx hb dX7_rowAt_0 rfl (lv_at hl 1 rfl) ?_
  refine lv_if_lt (tgt := 10) hx hb dX7_rowAt_1 (by decide) (fun c1 => ?_) (fun c1 => ?_)
  · skip
    rw [if_pos c1] at hJ
    rw [if_pos c1] at hV
    refine lv_null hx hb dX7_rowAt_10 ?_
    exact W.aret (v := .null) hx hb hr (Or.inl ⟨_, rfl⟩) (Or.inl rfl) (fun t ht hW => ⟨none, rfl, by rw [hE, ← hJ]; rfl, ht.trans hHe.symm⟩) (fun q h => absurd h List.not_mem_nil) dX7_rowAt_11
  · skip
    rw [if_neg c1] at hJ
    rw [if_neg c1] at hV
    refine lv_iload_n hx hb dX7_rowAt_4 rfl (lv_at hl 1 rfl) ?_
    refine lv_bipush (v := (8 : Int32)) hx hb dX7_rowAt_5 (by decide) ?_
    refine lv_icmp_lt (tgt := 12) hx hb dX7_rowAt_7 (by decide) (fun c2 => ?_) (fun c2 => ?_)
    · skip
      rw [if_pos c2] at hJ
      rw [if_pos c2] at hV
      refine lv_aload_n hx hb dX7_rowAt_12 rfl (lv_at hl 0 rfl) ?_
      refine va_get (D := (dC, dI)) (ci := 5) (v := .ref (ad 5)) (C := RX7) (T := TX7) (N := 10) (fs := (cx_f ad o)) hx hb hts hi_wsX70 hown hK hP 0 (wx_h (o := o) rfl) rfl 6 (by decide) (hts (.fieldLink RX7 36 "OrreryDials" "rows" "[LOrreryDials$Row;") (by decide +kernel)) (fun _ h9 => h9) rfl dX7_rowAt_13 ?_
      refine lv_iconst (v := (2 : Int32)) hx hb dX7_rowAt_16 (by decide) ?_
      refine lv_iload_n hx hb dX7_rowAt_17 rfl (lv_at hl 1 rfl) ?_
      refine lv_imul hx hb dX7_rowAt_18 ?_
      refine lv_iload_n hx hb dX7_rowAt_19 rfl (lv_at hl 2 rfl) ?_
      refine jn_i (J := 28) (ls := ls) (v := (if a2 = 0 then (0 : Int32) else (1 : Int32))) (rest := [.int ((2 : Int32) * a1), .ref (ad 5)]) ?_ (fun y3 ey3 => ?_)
      · intro hj
        refine lv_if_eq (tgt := 27) hx hb dX7_rowAt_20 (by decide) (fun c4 => ?_) (fun c4 => ?_)
        · skip
          rw [if_pos c4] at hj
          try rw [if_pos c4] at hv
          refine lv_iconst (v := (0 : Int32)) hx hb dX7_rowAt_27 (by decide) ?_
          exact hj
        · skip
          rw [if_neg c4] at hj
          try rw [if_neg c4] at hv
          refine lv_iconst (v := (1 : Int32)) hx hb dX7_rowAt_23 (by decide) ?_
          refine lv_goto (tgt := 28) hx hb dX7_rowAt_24 (by decide) ?_
          exact hj
      rw [← ey3] at hJ
      rw [jX7_rowAt_y3] at hJ
      rw [← ey3] at hV
      rw [sX7_rowAt_y3] at hV
      refine lv_iadd hx hb dX7_rowAt_28 ?_
      obtain ⟨hk5, hV⟩ := hV
      refine va_aldq hx hb hK hP 5 7 (wx_h (o := o) rfl) rfl hk5 dX7_rowAt_29 ?_
      refine rf_s (show cx_rr ad (((2 : Int32) * a1) + y3).toNatClampNeg = some (ad (300 + (((2 : Int32) * a1) + y3).toNatClampNeg)) from rfl) ?_
      exact W.aret (v := .ref (ad (300 + (((2 : Int32) * a1) + y3).toNatClampNeg))) hx hb hr (Or.inl ⟨_, rfl⟩) (Or.inr ⟨_, rfl⟩) (fun t ht hW => ⟨some _, rfl, by rw [hE, ← hJ]; rfl, ht.trans hHe.symm⟩) (fun q h => absurd h List.not_mem_nil) dX7_rowAt_30
    · skip
      rw [if_neg c2] at hJ
      rw [if_neg c2] at hV
      refine lv_null hx hb dX7_rowAt_10 ?_
      exact W.aret (v := .null) hx hb hr (Or.inl ⟨_, rfl⟩) (Or.inl rfl) (fun t ht hW => ⟨none, rfl, by rw [hE, ← hJ]; rfl, ht.trans hHe.symm⟩) (fun q h => absurd h List.not_mem_nil) dX7_rowAt_11
def jX5_renew_o32 (o : Os) (i : Nat) (a1 : Int32) (o4 : Os) (o8 : Os) (o12 : Os) (o16 : Os) (o20 : Os) (o24 : Os) (o28 : Os) (o32 : Os) : Os := (t_rS o32 (va_up (c_rS o32) i a1))
def sX5_renew_o32 (o : Os) (i : Nat) (a1 : Int32) (o4 : Os) (o8 : Os) (o12 : Os) (o16 : Os) (o20 : Os) (o24 : Os) (o28 : Os) (o32 : Os) : Prop := (i < 16 ∧ True)
def jX5_renew_o28 (o : Os) (i : Nat) (a1 : Int32) (o4 : Os) (o8 : Os) (o12 : Os) (o16 : Os) (o20 : Os) (o24 : Os) (o28 : Os) : Os := (jX5_renew_o32 o i a1 o4 o8 o12 o16 o20 o24 o28 (t_rP (t_rP o28 (va_up (c_rP o28) i (vp_updL (c_rP o28 i) (14 : Int32).toNatClampNeg (0 : Int64)))) (va_up (c_rP (t_rP o28 (va_up (c_rP o28) i (vp_updL (c_rP o28 i) (14 : Int32).toNatClampNeg (0 : Int64))))) i (vp_updL (c_rP (t_rP o28 (va_up (c_rP o28) i (vp_updL (c_rP o28 i) (14 : Int32).toNatClampNeg (0 : Int64)))) i) (15 : Int32).toNatClampNeg (0 : Int64)))))
def sX5_renew_o28 (o : Os) (i : Nat) (a1 : Int32) (o4 : Os) (o8 : Os) (o12 : Os) (o16 : Os) (o20 : Os) (o24 : Os) (o28 : Os) : Prop := (i < 16 ∧ (vp_in (14 : Int32) 16 ∧ (vp_in (15 : Int32) 16 ∧ (sX5_renew_o32 o i a1 o4 o8 o12 o16 o20 o24 o28 (t_rP (t_rP o28 (va_up (c_rP o28) i (vp_updL (c_rP o28 i) (14 : Int32).toNatClampNeg (0 : Int64)))) (va_up (c_rP (t_rP o28 (va_up (c_rP o28) i (vp_updL (c_rP o28 i) (14 : Int32).toNatClampNeg (0 : Int64))))) i (vp_updL (c_rP (t_rP o28 (va_up (c_rP o28) i (vp_updL (c_rP o28 i) (14 : Int32).toNatClampNeg (0 : Int64)))) i) (15 : Int32).toNatClampNeg (0 : Int64))))))))
def jX5_renew_o24 (o : Os) (i : Nat) (a1 : Int32) (o4 : Os) (o8 : Os) (o12 : Os) (o16 : Os) (o20 : Os) (o24 : Os) : Os := (jX5_renew_o28 o i a1 o4 o8 o12 o16 o20 o24 (t_rP (t_rP o24 (va_up (c_rP o24) i (vp_updL (c_rP o24 i) (12 : Int32).toNatClampNeg (0 : Int64)))) (va_up (c_rP (t_rP o24 (va_up (c_rP o24) i (vp_updL (c_rP o24 i) (12 : Int32).toNatClampNeg (0 : Int64))))) i (vp_updL (c_rP (t_rP o24 (va_up (c_rP o24) i (vp_updL (c_rP o24 i) (12 : Int32).toNatClampNeg (0 : Int64)))) i) (13 : Int32).toNatClampNeg (0 : Int64)))))
def sX5_renew_o24 (o : Os) (i : Nat) (a1 : Int32) (o4 : Os) (o8 : Os) (o12 : Os) (o16 : Os) (o20 : Os) (o24 : Os) : Prop := (i < 16 ∧ (vp_in (12 : Int32) 16 ∧ (vp_in (13 : Int32) 16 ∧ (sX5_renew_o28 o i a1 o4 o8 o12 o16 o20 o24 (t_rP (t_rP o24 (va_up (c_rP o24) i (vp_updL (c_rP o24 i) (12 : Int32).toNatClampNeg (0 : Int64)))) (va_up (c_rP (t_rP o24 (va_up (c_rP o24) i (vp_updL (c_rP o24 i) (12 : Int32).toNatClampNeg (0 : Int64))))) i (vp_updL (c_rP (t_rP o24 (va_up (c_rP o24) i (vp_updL (c_rP o24 i) (12 : Int32).toNatClampNeg (0 : Int64)))) i) (13 : Int32).toNatClampNeg (0 : Int64))))))))
def jX5_renew_o20 (o : Os) (i : Nat) (a1 : Int32) (o4 : Os) (o8 : Os) (o12 : Os) (o16 : Os) (o20 : Os) : Os := (jX5_renew_o24 o i a1 o4 o8 o12 o16 o20 (t_rP (t_rP o20 (va_up (c_rP o20) i (vp_updL (c_rP o20 i) (10 : Int32).toNatClampNeg (0 : Int64)))) (va_up (c_rP (t_rP o20 (va_up (c_rP o20) i (vp_updL (c_rP o20 i) (10 : Int32).toNatClampNeg (0 : Int64))))) i (vp_updL (c_rP (t_rP o20 (va_up (c_rP o20) i (vp_updL (c_rP o20 i) (10 : Int32).toNatClampNeg (0 : Int64)))) i) (11 : Int32).toNatClampNeg (0 : Int64)))))
def sX5_renew_o20 (o : Os) (i : Nat) (a1 : Int32) (o4 : Os) (o8 : Os) (o12 : Os) (o16 : Os) (o20 : Os) : Prop := (i < 16 ∧ (vp_in (10 : Int32) 16 ∧ (vp_in (11 : Int32) 16 ∧ (sX5_renew_o24 o i a1 o4 o8 o12 o16 o20 (t_rP (t_rP o20 (va_up (c_rP o20) i (vp_updL (c_rP o20 i) (10 : Int32).toNatClampNeg (0 : Int64)))) (va_up (c_rP (t_rP o20 (va_up (c_rP o20) i (vp_updL (c_rP o20 i) (10 : Int32).toNatClampNeg (0 : Int64))))) i (vp_updL (c_rP (t_rP o20 (va_up (c_rP o20) i (vp_updL (c_rP o20 i) (10 : Int32).toNatClampNeg (0 : Int64)))) i) (11 : Int32).toNatClampNeg (0 : Int64))))))))
def jX5_renew_o16 (o : Os) (i : Nat) (a1 : Int32) (o4 : Os) (o8 : Os) (o12 : Os) (o16 : Os) : Os := (jX5_renew_o20 o i a1 o4 o8 o12 o16 (t_rP (t_rP o16 (va_up (c_rP o16) i (vp_updL (c_rP o16 i) (8 : Int32).toNatClampNeg (0 : Int64)))) (va_up (c_rP (t_rP o16 (va_up (c_rP o16) i (vp_updL (c_rP o16 i) (8 : Int32).toNatClampNeg (0 : Int64))))) i (vp_updL (c_rP (t_rP o16 (va_up (c_rP o16) i (vp_updL (c_rP o16 i) (8 : Int32).toNatClampNeg (0 : Int64)))) i) (9 : Int32).toNatClampNeg (0 : Int64)))))
def sX5_renew_o16 (o : Os) (i : Nat) (a1 : Int32) (o4 : Os) (o8 : Os) (o12 : Os) (o16 : Os) : Prop := (i < 16 ∧ (vp_in (8 : Int32) 16 ∧ (vp_in (9 : Int32) 16 ∧ (sX5_renew_o20 o i a1 o4 o8 o12 o16 (t_rP (t_rP o16 (va_up (c_rP o16) i (vp_updL (c_rP o16 i) (8 : Int32).toNatClampNeg (0 : Int64)))) (va_up (c_rP (t_rP o16 (va_up (c_rP o16) i (vp_updL (c_rP o16 i) (8 : Int32).toNatClampNeg (0 : Int64))))) i (vp_updL (c_rP (t_rP o16 (va_up (c_rP o16) i (vp_updL (c_rP o16 i) (8 : Int32).toNatClampNeg (0 : Int64)))) i) (9 : Int32).toNatClampNeg (0 : Int64))))))))
def jX5_renew_o12 (o : Os) (i : Nat) (a1 : Int32) (o4 : Os) (o8 : Os) (o12 : Os) : Os := (jX5_renew_o16 o i a1 o4 o8 o12 (t_rP (t_rP o12 (va_up (c_rP o12) i (vp_updL (c_rP o12 i) (6 : Int32).toNatClampNeg (0 : Int64)))) (va_up (c_rP (t_rP o12 (va_up (c_rP o12) i (vp_updL (c_rP o12 i) (6 : Int32).toNatClampNeg (0 : Int64))))) i (vp_updL (c_rP (t_rP o12 (va_up (c_rP o12) i (vp_updL (c_rP o12 i) (6 : Int32).toNatClampNeg (0 : Int64)))) i) (7 : Int32).toNatClampNeg (0 : Int64)))))
def sX5_renew_o12 (o : Os) (i : Nat) (a1 : Int32) (o4 : Os) (o8 : Os) (o12 : Os) : Prop := (i < 16 ∧ (vp_in (6 : Int32) 16 ∧ (vp_in (7 : Int32) 16 ∧ (sX5_renew_o16 o i a1 o4 o8 o12 (t_rP (t_rP o12 (va_up (c_rP o12) i (vp_updL (c_rP o12 i) (6 : Int32).toNatClampNeg (0 : Int64)))) (va_up (c_rP (t_rP o12 (va_up (c_rP o12) i (vp_updL (c_rP o12 i) (6 : Int32).toNatClampNeg (0 : Int64))))) i (vp_updL (c_rP (t_rP o12 (va_up (c_rP o12) i (vp_updL (c_rP o12 i) (6 : Int32).toNatClampNeg (0 : Int64)))) i) (7 : Int32).toNatClampNeg (0 : Int64))))))))
def jX5_renew_o8 (o : Os) (i : Nat) (a1 : Int32) (o4 : Os) (o8 : Os) : Os := (jX5_renew_o12 o i a1 o4 o8 (t_rP (t_rP o8 (va_up (c_rP o8) i (vp_updL (c_rP o8 i) (4 : Int32).toNatClampNeg (0 : Int64)))) (va_up (c_rP (t_rP o8 (va_up (c_rP o8) i (vp_updL (c_rP o8 i) (4 : Int32).toNatClampNeg (0 : Int64))))) i (vp_updL (c_rP (t_rP o8 (va_up (c_rP o8) i (vp_updL (c_rP o8 i) (4 : Int32).toNatClampNeg (0 : Int64)))) i) (5 : Int32).toNatClampNeg (0 : Int64)))))
def sX5_renew_o8 (o : Os) (i : Nat) (a1 : Int32) (o4 : Os) (o8 : Os) : Prop := (i < 16 ∧ (vp_in (4 : Int32) 16 ∧ (vp_in (5 : Int32) 16 ∧ (sX5_renew_o12 o i a1 o4 o8 (t_rP (t_rP o8 (va_up (c_rP o8) i (vp_updL (c_rP o8 i) (4 : Int32).toNatClampNeg (0 : Int64)))) (va_up (c_rP (t_rP o8 (va_up (c_rP o8) i (vp_updL (c_rP o8 i) (4 : Int32).toNatClampNeg (0 : Int64))))) i (vp_updL (c_rP (t_rP o8 (va_up (c_rP o8) i (vp_updL (c_rP o8 i) (4 : Int32).toNatClampNeg (0 : Int64)))) i) (5 : Int32).toNatClampNeg (0 : Int64))))))))
def jX5_renew_o4 (o : Os) (i : Nat) (a1 : Int32) (o4 : Os) : Os := (jX5_renew_o8 o i a1 o4 (t_rP (t_rP o4 (va_up (c_rP o4) i (vp_updL (c_rP o4 i) (2 : Int32).toNatClampNeg (0 : Int64)))) (va_up (c_rP (t_rP o4 (va_up (c_rP o4) i (vp_updL (c_rP o4 i) (2 : Int32).toNatClampNeg (0 : Int64))))) i (vp_updL (c_rP (t_rP o4 (va_up (c_rP o4) i (vp_updL (c_rP o4 i) (2 : Int32).toNatClampNeg (0 : Int64)))) i) (3 : Int32).toNatClampNeg (0 : Int64)))))
def sX5_renew_o4 (o : Os) (i : Nat) (a1 : Int32) (o4 : Os) : Prop := (i < 16 ∧ (vp_in (2 : Int32) 16 ∧ (vp_in (3 : Int32) 16 ∧ (sX5_renew_o8 o i a1 o4 (t_rP (t_rP o4 (va_up (c_rP o4) i (vp_updL (c_rP o4 i) (2 : Int32).toNatClampNeg (0 : Int64)))) (va_up (c_rP (t_rP o4 (va_up (c_rP o4) i (vp_updL (c_rP o4 i) (2 : Int32).toNatClampNeg (0 : Int64))))) i (vp_updL (c_rP (t_rP o4 (va_up (c_rP o4) i (vp_updL (c_rP o4 i) (2 : Int32).toNatClampNeg (0 : Int64)))) i) (3 : Int32).toNatClampNeg (0 : Int64))))))))
def jX5_renew (o : Os) (i : Nat) (a1 : Int32) : Os := (jX5_renew_o4 o i a1 (t_rP (t_rP o (va_up (c_rP o) i (vp_updL (c_rP o i) (0 : Int32).toNatClampNeg (0 : Int64)))) (va_up (c_rP (t_rP o (va_up (c_rP o) i (vp_updL (c_rP o i) (0 : Int32).toNatClampNeg (0 : Int64))))) i (vp_updL (c_rP (t_rP o (va_up (c_rP o) i (vp_updL (c_rP o i) (0 : Int32).toNatClampNeg (0 : Int64)))) i) (1 : Int32).toNatClampNeg (0 : Int64)))))
def sX5_renew (o : Os) (i : Nat) (a1 : Int32) : Prop := (i < 16 ∧ (vp_in (0 : Int32) 16 ∧ (vp_in (1 : Int32) 16 ∧ (sX5_renew_o4 o i a1 (t_rP (t_rP o (va_up (c_rP o) i (vp_updL (c_rP o i) (0 : Int32).toNatClampNeg (0 : Int64)))) (va_up (c_rP (t_rP o (va_up (c_rP o) i (vp_updL (c_rP o i) (0 : Int32).toNatClampNeg (0 : Int64))))) i (vp_updL (c_rP (t_rP o (va_up (c_rP o) i (vp_updL (c_rP o i) (0 : Int32).toNatClampNeg (0 : Int64)))) i) (1 : Int32).toNatClampNeg (0 : Int64))))))))
set_option maxHeartbeats 8000000 in
set_option maxRecDepth 100000 in
theorem qX5_renew (l : Launch) (dC : Nat → ClassId) (dI : Nat → Nat → Nat) (cy : Nat → ClassId) (x : Nat) (ad : Nat → Nat) (sz : Nat) (o : Os) (i : Nat) (a1 : Int32) (hV : sX5_renew o i a1) : Met l yX5_renew wsX5_renew ({ frames := 0, cells := 0, slots := 0, locals := 0 }) (va_Pc [.ref (ad (300 + i)), .int a1] (wI (dC, dI) (tyA cy) (WX cy x ad o) sz)) (va_Qv (fun u => u = jX5_renew o i a1) (fun u t => wO (dC, dI) (tyA cy) (va_A (WX cy x ad o) sz) (WX cy x ad u) t) (va_A (WX cy x ad o) sz)) 0 0 (va_A (WX cy x ad o) sz) := by
  refine Met.ofW (cc := cX5_renew) (maxL := 3) (ret := none) (by decide) rfl ?_
  intro p e s m args below meth c s₁ B hml hv
  obtain ⟨rfl, hsz, hP, hK, hD0, hk⟩ := hv
  have hx := B.exec
  have hb := B.bytes
  have hr := B.returns
  have hts := atoms_spec (ws := wsX5_renew) B.pre
  have hown : s.vm.findClass RX5 = some m.cls := findClass_of_methodNamed B.named
  have hlocks := B.notSynchronized
  subst hsz
  have hD := hD0.self (sz := s.heap.size)
  generalize hAe : va_A (WX cy x ad o) s.heap.size = A at hD ⊢
  have hA : ∀ q : Nat, s.heap.size ≤ q → A q := fun q h => by rw [← hAe]; exact Or.inr h
  obtain ⟨H, hHe⟩ : ∃ H, s.heap = H := ⟨_, rfl⟩
  have hP : va_P (dC, dI) vwCl (WX cy x ad o) H := by rw [← hHe]; exact hP
  have hS : va_S A s.heap H [] := by rw [← hHe]; exact va_S.rf
  rw [w_heap hHe]
  have hi_wsX50 : ∀ w ∈ wsX50, w ∈ wsX5_renew := fun _ h => List.mem_cons_of_mem _ (List.mem_append_right _ h)
  obtain ⟨JR, hE⟩ : ∃ q, jX5_renew o i a1 = q := ⟨_, rfl⟩
  have hJ := hE
  rw [jX5_renew] at hJ
  rw [sX5_renew] at hV
  have hl := lv_entry ([.ref (ad (300 + i)), .int a1]) (n := 3) (Nat.le_of_ble_eq_true rfl)
  rw [lg_entry_eq]
  generalize (lg_sl ([.ref (ad (300 + i)), .int a1]) ++ List.replicate (3 - (lg_sl ([.ref (ad (300 + i)), .int a1])).length) Slot.unset).toArray = ls at hl ⊢
  have hl : lv_has ls 3 [(0, .ref (ad (300 + i))), (1, .int a1)] := hl
  refine lv_iconst (v := (0 : Int32)) hx hb dX5_renew_0 (by decide) ?_
  refine lv_istore_n (lv' := [(2, .int (0 : Int32)), (0, .ref (ad (300 + i))), (1, .int a1)]) hx hb dX5_renew_1 rfl hl (by decide) rfl (fun ls hl => ?_)
  refine lv_iload_n hx hb dX5_renew_2 rfl (lv_at hl 0 rfl) ?_
  refine lv_aload_n hx hb dX5_renew_3 rfl (lv_at hl 1 rfl) ?_
  obtain ⟨hk1, hV⟩ := hV
  refine va_get (D := (dC, dI)) (ci := 3) (v := .ref (ad (400 + i))) (C := RX5) (T := TX5) (N := 2) (fs := (cx_row ad o i)) hx hb hts hi_wsX50 hown hK hP (7 + (c_nd o + (c_nv o + i))) (wx_row (o := o) hk1) rfl 0 (by decide) (hts (.fieldLink RX5 9 "OrreryDials$Row" "places" "[J") (by decide +kernel)) (fun _ h9 => h9) rfl dX5_renew_4 ?_
  refine va_alen (v := (16 : Int32)) hx hb hK hP (7 + (c_nd o + (c_nv o + (16 + i)))) 1 (wx_arr (o := o) hk1) rfl (by decide) dX5_renew_7 ?_
  refine lv_icmp_ge (tgt := 24) hx hb dX5_renew_8 (by decide) (fun cq => absurd cq (by decide)) (fun cq => ?_)
  refine lv_aload_n hx hb dX5_renew_11 rfl (lv_at hl 1 rfl) ?_
  refine va_get (D := (dC, dI)) (ci := 3) (v := .ref (ad (400 + i))) (C := RX5) (T := TX5) (N := 2) (fs := (cx_row ad o i)) hx hb hts hi_wsX50 hown hK hP (7 + (c_nd o + (c_nv o + i))) (wx_row (o := o) hk1) rfl 0 (by decide) (hts (.fieldLink RX5 9 "OrreryDials$Row" "places" "[J") (by decide +kernel)) (fun _ h9 => h9) rfl dX5_renew_12 ?_
  refine lv_iload_n hx hb dX5_renew_15 rfl (lv_at hl 0 rfl) ?_
  refine lv_lconst (v := (0 : Int64)) hx hb dX5_renew_16 (by decide) ?_
  obtain ⟨hk2, hV⟩ := hV
  refine va_last hx hb hK hP hD hS (7 + (c_nd o + (c_nv o + (16 + i)))) 1 (wx_arr (o := o) hk1) rfl hk2 dX5_renew_17 (fun H locs hP hD hS => ?_)
  rw [wx_a_rP (o := o) hk1] at hP hD
  refine lv_iinc (v := (1 : Int32)) (lv' := [(2, .int (1 : Int32)), (0, .ref (ad (300 + i))), (1, .int a1)]) hx hb dX5_renew_18 hl (k := 0) rfl (by first | rfl | decide) (by decide) rfl (fun ls hl => ?_)
  refine lv_goto (tgt := 2) hx hb dX5_renew_21 (by decide) ?_
  refine lv_iload_n hx hb dX5_renew_2 rfl (lv_at hl 0 rfl) ?_
  refine lv_aload_n hx hb dX5_renew_3 rfl (lv_at hl 1 rfl) ?_
  refine va_get (D := (dC, dI)) (ci := 3) (v := .ref (ad (400 + i))) (C := RX5) (T := TX5) (N := 2) (fs := (cx_row ad (t_rP o (va_up (c_rP o) i (vp_updL (c_rP o i) (0 : Int32).toNatClampNeg (0 : Int64)))) i)) hx hb hts hi_wsX50 hown hK hP (7 + (c_nd (t_rP o (va_up (c_rP o) i (vp_updL (c_rP o i) (0 : Int32).toNatClampNeg (0 : Int64)))) + (c_nv (t_rP o (va_up (c_rP o) i (vp_updL (c_rP o i) (0 : Int32).toNatClampNeg (0 : Int64)))) + i))) (wx_row (o := (t_rP o (va_up (c_rP o) i (vp_updL (c_rP o i) (0 : Int32).toNatClampNeg (0 : Int64))))) hk1) rfl 0 (by decide) (hts (.fieldLink RX5 9 "OrreryDials$Row" "places" "[J") (by decide +kernel)) (fun _ h9 => h9) rfl dX5_renew_4 ?_
  refine va_alen (v := (16 : Int32)) hx hb hK hP (7 + (c_nd (t_rP o (va_up (c_rP o) i (vp_updL (c_rP o i) (0 : Int32).toNatClampNeg (0 : Int64)))) + (c_nv (t_rP o (va_up (c_rP o) i (vp_updL (c_rP o i) (0 : Int32).toNatClampNeg (0 : Int64)))) + (16 + i)))) 1 (wx_arr (o := (t_rP o (va_up (c_rP o) i (vp_updL (c_rP o i) (0 : Int32).toNatClampNeg (0 : Int64))))) hk1) rfl (by decide) dX5_renew_7 ?_
  refine lv_icmp_ge (tgt := 24) hx hb dX5_renew_8 (by decide) (fun cq => absurd cq (by decide)) (fun cq => ?_)
  refine lv_aload_n hx hb dX5_renew_11 rfl (lv_at hl 1 rfl) ?_
  refine va_get (D := (dC, dI)) (ci := 3) (v := .ref (ad (400 + i))) (C := RX5) (T := TX5) (N := 2) (fs := (cx_row ad (t_rP o (va_up (c_rP o) i (vp_updL (c_rP o i) (0 : Int32).toNatClampNeg (0 : Int64)))) i)) hx hb hts hi_wsX50 hown hK hP (7 + (c_nd (t_rP o (va_up (c_rP o) i (vp_updL (c_rP o i) (0 : Int32).toNatClampNeg (0 : Int64)))) + (c_nv (t_rP o (va_up (c_rP o) i (vp_updL (c_rP o i) (0 : Int32).toNatClampNeg (0 : Int64)))) + i))) (wx_row (o := (t_rP o (va_up (c_rP o) i (vp_updL (c_rP o i) (0 : Int32).toNatClampNeg (0 : Int64))))) hk1) rfl 0 (by decide) (hts (.fieldLink RX5 9 "OrreryDials$Row" "places" "[J") (by decide +kernel)) (fun _ h9 => h9) rfl dX5_renew_12 ?_
  refine lv_iload_n hx hb dX5_renew_15 rfl (lv_at hl 0 rfl) ?_
  refine lv_lconst (v := (0 : Int64)) hx hb dX5_renew_16 (by decide) ?_
  obtain ⟨hk3, hV⟩ := hV
  refine va_last hx hb hK hP hD hS (7 + (c_nd (t_rP o (va_up (c_rP o) i (vp_updL (c_rP o i) (0 : Int32).toNatClampNeg (0 : Int64)))) + (c_nv (t_rP o (va_up (c_rP o) i (vp_updL (c_rP o i) (0 : Int32).toNatClampNeg (0 : Int64)))) + (16 + i)))) 1 (wx_arr (o := (t_rP o (va_up (c_rP o) i (vp_updL (c_rP o i) (0 : Int32).toNatClampNeg (0 : Int64))))) hk1) rfl hk3 dX5_renew_17 (fun H locs hP hD hS => ?_)
  rw [wx_a_rP (o := (t_rP o (va_up (c_rP o) i (vp_updL (c_rP o i) (0 : Int32).toNatClampNeg (0 : Int64))))) hk1] at hP hD
  obtain ⟨o4, eo4⟩ : ∃ z, z = (t_rP (t_rP o (va_up (c_rP o) i (vp_updL (c_rP o i) (0 : Int32).toNatClampNeg (0 : Int64)))) (va_up (c_rP (t_rP o (va_up (c_rP o) i (vp_updL (c_rP o i) (0 : Int32).toNatClampNeg (0 : Int64))))) i (vp_updL (c_rP (t_rP o (va_up (c_rP o) i (vp_updL (c_rP o i) (0 : Int32).toNatClampNeg (0 : Int64)))) i) (1 : Int32).toNatClampNeg (0 : Int64)))) := ⟨_, rfl⟩
  rw [← eo4] at hP hD hJ hV
  rw [jX5_renew_o4] at hJ
  rw [sX5_renew_o4] at hV
  refine lv_iinc (v := (2 : Int32)) (lv' := [(2, .int (2 : Int32)), (0, .ref (ad (300 + i))), (1, .int a1)]) hx hb dX5_renew_18 hl (k := 0) rfl (by first | rfl | decide) (by decide) rfl (fun ls hl => ?_)
  refine lv_goto (tgt := 2) hx hb dX5_renew_21 (by decide) ?_
  refine lv_iload_n hx hb dX5_renew_2 rfl (lv_at hl 0 rfl) ?_
  refine lv_aload_n hx hb dX5_renew_3 rfl (lv_at hl 1 rfl) ?_
  obtain ⟨hk5, hV⟩ := hV
  refine va_get (D := (dC, dI)) (ci := 3) (v := .ref (ad (400 + i))) (C := RX5) (T := TX5) (N := 2) (fs := (cx_row ad o4 i)) hx hb hts hi_wsX50 hown hK hP (7 + (c_nd o4 + (c_nv o4 + i))) (wx_row (o := o4) hk5) rfl 0 (by decide) (hts (.fieldLink RX5 9 "OrreryDials$Row" "places" "[J") (by decide +kernel)) (fun _ h9 => h9) rfl dX5_renew_4 ?_
  refine va_alen (v := (16 : Int32)) hx hb hK hP (7 + (c_nd o4 + (c_nv o4 + (16 + i)))) 1 (wx_arr (o := o4) hk5) rfl (by decide) dX5_renew_7 ?_
  refine lv_icmp_ge (tgt := 24) hx hb dX5_renew_8 (by decide) (fun cq => absurd cq (by decide)) (fun cq => ?_)
  refine lv_aload_n hx hb dX5_renew_11 rfl (lv_at hl 1 rfl) ?_
  refine va_get (D := (dC, dI)) (ci := 3) (v := .ref (ad (400 + i))) (C := RX5) (T := TX5) (N := 2) (fs := (cx_row ad o4 i)) hx hb hts hi_wsX50 hown hK hP (7 + (c_nd o4 + (c_nv o4 + i))) (wx_row (o := o4) hk5) rfl 0 (by decide) (hts (.fieldLink RX5 9 "OrreryDials$Row" "places" "[J") (by decide +kernel)) (fun _ h9 => h9) rfl dX5_renew_12 ?_
  refine lv_iload_n hx hb dX5_renew_15 rfl (lv_at hl 0 rfl) ?_
  refine lv_lconst (v := (0 : Int64)) hx hb dX5_renew_16 (by decide) ?_
  obtain ⟨hk6, hV⟩ := hV
  refine va_last hx hb hK hP hD hS (7 + (c_nd o4 + (c_nv o4 + (16 + i)))) 1 (wx_arr (o := o4) hk5) rfl hk6 dX5_renew_17 (fun H locs hP hD hS => ?_)
  rw [wx_a_rP (o := o4) hk5] at hP hD
  refine lv_iinc (v := (3 : Int32)) (lv' := [(2, .int (3 : Int32)), (0, .ref (ad (300 + i))), (1, .int a1)]) hx hb dX5_renew_18 hl (k := 0) rfl (by first | rfl | decide) (by decide) rfl (fun ls hl => ?_)
  refine lv_goto (tgt := 2) hx hb dX5_renew_21 (by decide) ?_
  refine lv_iload_n hx hb dX5_renew_2 rfl (lv_at hl 0 rfl) ?_
  refine lv_aload_n hx hb dX5_renew_3 rfl (lv_at hl 1 rfl) ?_
  refine va_get (D := (dC, dI)) (ci := 3) (v := .ref (ad (400 + i))) (C := RX5) (T := TX5) (N := 2) (fs := (cx_row ad (t_rP o4 (va_up (c_rP o4) i (vp_updL (c_rP o4 i) (2 : Int32).toNatClampNeg (0 : Int64)))) i)) hx hb hts hi_wsX50 hown hK hP (7 + (c_nd (t_rP o4 (va_up (c_rP o4) i (vp_updL (c_rP o4 i) (2 : Int32).toNatClampNeg (0 : Int64)))) + (c_nv (t_rP o4 (va_up (c_rP o4) i (vp_updL (c_rP o4 i) (2 : Int32).toNatClampNeg (0 : Int64)))) + i))) (wx_row (o := (t_rP o4 (va_up (c_rP o4) i (vp_updL (c_rP o4 i) (2 : Int32).toNatClampNeg (0 : Int64))))) hk5) rfl 0 (by decide) (hts (.fieldLink RX5 9 "OrreryDials$Row" "places" "[J") (by decide +kernel)) (fun _ h9 => h9) rfl dX5_renew_4 ?_
  refine va_alen (v := (16 : Int32)) hx hb hK hP (7 + (c_nd (t_rP o4 (va_up (c_rP o4) i (vp_updL (c_rP o4 i) (2 : Int32).toNatClampNeg (0 : Int64)))) + (c_nv (t_rP o4 (va_up (c_rP o4) i (vp_updL (c_rP o4 i) (2 : Int32).toNatClampNeg (0 : Int64)))) + (16 + i)))) 1 (wx_arr (o := (t_rP o4 (va_up (c_rP o4) i (vp_updL (c_rP o4 i) (2 : Int32).toNatClampNeg (0 : Int64))))) hk5) rfl (by decide) dX5_renew_7 ?_
  refine lv_icmp_ge (tgt := 24) hx hb dX5_renew_8 (by decide) (fun cq => absurd cq (by decide)) (fun cq => ?_)
  refine lv_aload_n hx hb dX5_renew_11 rfl (lv_at hl 1 rfl) ?_
  refine va_get (D := (dC, dI)) (ci := 3) (v := .ref (ad (400 + i))) (C := RX5) (T := TX5) (N := 2) (fs := (cx_row ad (t_rP o4 (va_up (c_rP o4) i (vp_updL (c_rP o4 i) (2 : Int32).toNatClampNeg (0 : Int64)))) i)) hx hb hts hi_wsX50 hown hK hP (7 + (c_nd (t_rP o4 (va_up (c_rP o4) i (vp_updL (c_rP o4 i) (2 : Int32).toNatClampNeg (0 : Int64)))) + (c_nv (t_rP o4 (va_up (c_rP o4) i (vp_updL (c_rP o4 i) (2 : Int32).toNatClampNeg (0 : Int64)))) + i))) (wx_row (o := (t_rP o4 (va_up (c_rP o4) i (vp_updL (c_rP o4 i) (2 : Int32).toNatClampNeg (0 : Int64))))) hk5) rfl 0 (by decide) (hts (.fieldLink RX5 9 "OrreryDials$Row" "places" "[J") (by decide +kernel)) (fun _ h9 => h9) rfl dX5_renew_12 ?_
  refine lv_iload_n hx hb dX5_renew_15 rfl (lv_at hl 0 rfl) ?_
  refine lv_lconst (v := (0 : Int64)) hx hb dX5_renew_16 (by decide) ?_
  obtain ⟨hk7, hV⟩ := hV
  refine va_last hx hb hK hP hD hS (7 + (c_nd (t_rP o4 (va_up (c_rP o4) i (vp_updL (c_rP o4 i) (2 : Int32).toNatClampNeg (0 : Int64)))) + (c_nv (t_rP o4 (va_up (c_rP o4) i (vp_updL (c_rP o4 i) (2 : Int32).toNatClampNeg (0 : Int64)))) + (16 + i)))) 1 (wx_arr (o := (t_rP o4 (va_up (c_rP o4) i (vp_updL (c_rP o4 i) (2 : Int32).toNatClampNeg (0 : Int64))))) hk5) rfl hk7 dX5_renew_17 (fun H locs hP hD hS => ?_)
  rw [wx_a_rP (o := (t_rP o4 (va_up (c_rP o4) i (vp_updL (c_rP o4 i) (2 : Int32).toNatClampNeg (0 : Int64))))) hk5] at hP hD
  obtain ⟨o8, eo8⟩ : ∃ z, z = (t_rP (t_rP o4 (va_up (c_rP o4) i (vp_updL (c_rP o4 i) (2 : Int32).toNatClampNeg (0 : Int64)))) (va_up (c_rP (t_rP o4 (va_up (c_rP o4) i (vp_updL (c_rP o4 i) (2 : Int32).toNatClampNeg (0 : Int64))))) i (vp_updL (c_rP (t_rP o4 (va_up (c_rP o4) i (vp_updL (c_rP o4 i) (2 : Int32).toNatClampNeg (0 : Int64)))) i) (3 : Int32).toNatClampNeg (0 : Int64)))) := ⟨_, rfl⟩
  rw [← eo8] at hP hD hJ hV
  rw [jX5_renew_o8] at hJ
  rw [sX5_renew_o8] at hV
  refine lv_iinc (v := (4 : Int32)) (lv' := [(2, .int (4 : Int32)), (0, .ref (ad (300 + i))), (1, .int a1)]) hx hb dX5_renew_18 hl (k := 0) rfl (by first | rfl | decide) (by decide) rfl (fun ls hl => ?_)
  refine lv_goto (tgt := 2) hx hb dX5_renew_21 (by decide) ?_
  refine lv_iload_n hx hb dX5_renew_2 rfl (lv_at hl 0 rfl) ?_
  refine lv_aload_n hx hb dX5_renew_3 rfl (lv_at hl 1 rfl) ?_
  obtain ⟨hk9, hV⟩ := hV
  refine va_get (D := (dC, dI)) (ci := 3) (v := .ref (ad (400 + i))) (C := RX5) (T := TX5) (N := 2) (fs := (cx_row ad o8 i)) hx hb hts hi_wsX50 hown hK hP (7 + (c_nd o8 + (c_nv o8 + i))) (wx_row (o := o8) hk9) rfl 0 (by decide) (hts (.fieldLink RX5 9 "OrreryDials$Row" "places" "[J") (by decide +kernel)) (fun _ h9 => h9) rfl dX5_renew_4 ?_
  refine va_alen (v := (16 : Int32)) hx hb hK hP (7 + (c_nd o8 + (c_nv o8 + (16 + i)))) 1 (wx_arr (o := o8) hk9) rfl (by decide) dX5_renew_7 ?_
  refine lv_icmp_ge (tgt := 24) hx hb dX5_renew_8 (by decide) (fun cq => absurd cq (by decide)) (fun cq => ?_)
  refine lv_aload_n hx hb dX5_renew_11 rfl (lv_at hl 1 rfl) ?_
  refine va_get (D := (dC, dI)) (ci := 3) (v := .ref (ad (400 + i))) (C := RX5) (T := TX5) (N := 2) (fs := (cx_row ad o8 i)) hx hb hts hi_wsX50 hown hK hP (7 + (c_nd o8 + (c_nv o8 + i))) (wx_row (o := o8) hk9) rfl 0 (by decide) (hts (.fieldLink RX5 9 "OrreryDials$Row" "places" "[J") (by decide +kernel)) (fun _ h9 => h9) rfl dX5_renew_12 ?_
  refine lv_iload_n hx hb dX5_renew_15 rfl (lv_at hl 0 rfl) ?_
  refine lv_lconst (v := (0 : Int64)) hx hb dX5_renew_16 (by decide) ?_
  obtain ⟨hk10, hV⟩ := hV
  refine va_last hx hb hK hP hD hS (7 + (c_nd o8 + (c_nv o8 + (16 + i)))) 1 (wx_arr (o := o8) hk9) rfl hk10 dX5_renew_17 (fun H locs hP hD hS => ?_)
  rw [wx_a_rP (o := o8) hk9] at hP hD
  refine lv_iinc (v := (5 : Int32)) (lv' := [(2, .int (5 : Int32)), (0, .ref (ad (300 + i))), (1, .int a1)]) hx hb dX5_renew_18 hl (k := 0) rfl (by first | rfl | decide) (by decide) rfl (fun ls hl => ?_)
  refine lv_goto (tgt := 2) hx hb dX5_renew_21 (by decide) ?_
  refine lv_iload_n hx hb dX5_renew_2 rfl (lv_at hl 0 rfl) ?_
  refine lv_aload_n hx hb dX5_renew_3 rfl (lv_at hl 1 rfl) ?_
  refine va_get (D := (dC, dI)) (ci := 3) (v := .ref (ad (400 + i))) (C := RX5) (T := TX5) (N := 2) (fs := (cx_row ad (t_rP o8 (va_up (c_rP o8) i (vp_updL (c_rP o8 i) (4 : Int32).toNatClampNeg (0 : Int64)))) i)) hx hb hts hi_wsX50 hown hK hP (7 + (c_nd (t_rP o8 (va_up (c_rP o8) i (vp_updL (c_rP o8 i) (4 : Int32).toNatClampNeg (0 : Int64)))) + (c_nv (t_rP o8 (va_up (c_rP o8) i (vp_updL (c_rP o8 i) (4 : Int32).toNatClampNeg (0 : Int64)))) + i))) (wx_row (o := (t_rP o8 (va_up (c_rP o8) i (vp_updL (c_rP o8 i) (4 : Int32).toNatClampNeg (0 : Int64))))) hk9) rfl 0 (by decide) (hts (.fieldLink RX5 9 "OrreryDials$Row" "places" "[J") (by decide +kernel)) (fun _ h9 => h9) rfl dX5_renew_4 ?_
  refine va_alen (v := (16 : Int32)) hx hb hK hP (7 + (c_nd (t_rP o8 (va_up (c_rP o8) i (vp_updL (c_rP o8 i) (4 : Int32).toNatClampNeg (0 : Int64)))) + (c_nv (t_rP o8 (va_up (c_rP o8) i (vp_updL (c_rP o8 i) (4 : Int32).toNatClampNeg (0 : Int64)))) + (16 + i)))) 1 (wx_arr (o := (t_rP o8 (va_up (c_rP o8) i (vp_updL (c_rP o8 i) (4 : Int32).toNatClampNeg (0 : Int64))))) hk9) rfl (by decide) dX5_renew_7 ?_
  refine lv_icmp_ge (tgt := 24) hx hb dX5_renew_8 (by decide) (fun cq => absurd cq (by decide)) (fun cq => ?_)
  refine lv_aload_n hx hb dX5_renew_11 rfl (lv_at hl 1 rfl) ?_
  refine va_get (D := (dC, dI)) (ci := 3) (v := .ref (ad (400 + i))) (C := RX5) (T := TX5) (N := 2) (fs := (cx_row ad (t_rP o8 (va_up (c_rP o8) i (vp_updL (c_rP o8 i) (4 : Int32).toNatClampNeg (0 : Int64)))) i)) hx hb hts hi_wsX50 hown hK hP (7 + (c_nd (t_rP o8 (va_up (c_rP o8) i (vp_updL (c_rP o8 i) (4 : Int32).toNatClampNeg (0 : Int64)))) + (c_nv (t_rP o8 (va_up (c_rP o8) i (vp_updL (c_rP o8 i) (4 : Int32).toNatClampNeg (0 : Int64)))) + i))) (wx_row (o := (t_rP o8 (va_up (c_rP o8) i (vp_updL (c_rP o8 i) (4 : Int32).toNatClampNeg (0 : Int64))))) hk9) rfl 0 (by decide) (hts (.fieldLink RX5 9 "OrreryDials$Row" "places" "[J") (by decide +kernel)) (fun _ h9 => h9) rfl dX5_renew_12 ?_
  refine lv_iload_n hx hb dX5_renew_15 rfl (lv_at hl 0 rfl) ?_
  refine lv_lconst (v := (0 : Int64)) hx hb dX5_renew_16 (by decide) ?_
  obtain ⟨hk11, hV⟩ := hV
  refine va_last hx hb hK hP hD hS (7 + (c_nd (t_rP o8 (va_up (c_rP o8) i (vp_updL (c_rP o8 i) (4 : Int32).toNatClampNeg (0 : Int64)))) + (c_nv (t_rP o8 (va_up (c_rP o8) i (vp_updL (c_rP o8 i) (4 : Int32).toNatClampNeg (0 : Int64)))) + (16 + i)))) 1 (wx_arr (o := (t_rP o8 (va_up (c_rP o8) i (vp_updL (c_rP o8 i) (4 : Int32).toNatClampNeg (0 : Int64))))) hk9) rfl hk11 dX5_renew_17 (fun H locs hP hD hS => ?_)
  rw [wx_a_rP (o := (t_rP o8 (va_up (c_rP o8) i (vp_updL (c_rP o8 i) (4 : Int32).toNatClampNeg (0 : Int64))))) hk9] at hP hD
  obtain ⟨o12, eo12⟩ : ∃ z, z = (t_rP (t_rP o8 (va_up (c_rP o8) i (vp_updL (c_rP o8 i) (4 : Int32).toNatClampNeg (0 : Int64)))) (va_up (c_rP (t_rP o8 (va_up (c_rP o8) i (vp_updL (c_rP o8 i) (4 : Int32).toNatClampNeg (0 : Int64))))) i (vp_updL (c_rP (t_rP o8 (va_up (c_rP o8) i (vp_updL (c_rP o8 i) (4 : Int32).toNatClampNeg (0 : Int64)))) i) (5 : Int32).toNatClampNeg (0 : Int64)))) := ⟨_, rfl⟩
  rw [← eo12] at hP hD hJ hV
  rw [jX5_renew_o12] at hJ
  rw [sX5_renew_o12] at hV
  refine lv_iinc (v := (6 : Int32)) (lv' := [(2, .int (6 : Int32)), (0, .ref (ad (300 + i))), (1, .int a1)]) hx hb dX5_renew_18 hl (k := 0) rfl (by first | rfl | decide) (by decide) rfl (fun ls hl => ?_)
  refine lv_goto (tgt := 2) hx hb dX5_renew_21 (by decide) ?_
  refine lv_iload_n hx hb dX5_renew_2 rfl (lv_at hl 0 rfl) ?_
  refine lv_aload_n hx hb dX5_renew_3 rfl (lv_at hl 1 rfl) ?_
  obtain ⟨hk13, hV⟩ := hV
  refine va_get (D := (dC, dI)) (ci := 3) (v := .ref (ad (400 + i))) (C := RX5) (T := TX5) (N := 2) (fs := (cx_row ad o12 i)) hx hb hts hi_wsX50 hown hK hP (7 + (c_nd o12 + (c_nv o12 + i))) (wx_row (o := o12) hk13) rfl 0 (by decide) (hts (.fieldLink RX5 9 "OrreryDials$Row" "places" "[J") (by decide +kernel)) (fun _ h9 => h9) rfl dX5_renew_4 ?_
  refine va_alen (v := (16 : Int32)) hx hb hK hP (7 + (c_nd o12 + (c_nv o12 + (16 + i)))) 1 (wx_arr (o := o12) hk13) rfl (by decide) dX5_renew_7 ?_
  refine lv_icmp_ge (tgt := 24) hx hb dX5_renew_8 (by decide) (fun cq => absurd cq (by decide)) (fun cq => ?_)
  refine lv_aload_n hx hb dX5_renew_11 rfl (lv_at hl 1 rfl) ?_
  refine va_get (D := (dC, dI)) (ci := 3) (v := .ref (ad (400 + i))) (C := RX5) (T := TX5) (N := 2) (fs := (cx_row ad o12 i)) hx hb hts hi_wsX50 hown hK hP (7 + (c_nd o12 + (c_nv o12 + i))) (wx_row (o := o12) hk13) rfl 0 (by decide) (hts (.fieldLink RX5 9 "OrreryDials$Row" "places" "[J") (by decide +kernel)) (fun _ h9 => h9) rfl dX5_renew_12 ?_
  refine lv_iload_n hx hb dX5_renew_15 rfl (lv_at hl 0 rfl) ?_
  refine lv_lconst (v := (0 : Int64)) hx hb dX5_renew_16 (by decide) ?_
  obtain ⟨hk14, hV⟩ := hV
  refine va_last hx hb hK hP hD hS (7 + (c_nd o12 + (c_nv o12 + (16 + i)))) 1 (wx_arr (o := o12) hk13) rfl hk14 dX5_renew_17 (fun H locs hP hD hS => ?_)
  rw [wx_a_rP (o := o12) hk13] at hP hD
  refine lv_iinc (v := (7 : Int32)) (lv' := [(2, .int (7 : Int32)), (0, .ref (ad (300 + i))), (1, .int a1)]) hx hb dX5_renew_18 hl (k := 0) rfl (by first | rfl | decide) (by decide) rfl (fun ls hl => ?_)
  refine lv_goto (tgt := 2) hx hb dX5_renew_21 (by decide) ?_
  refine lv_iload_n hx hb dX5_renew_2 rfl (lv_at hl 0 rfl) ?_
  refine lv_aload_n hx hb dX5_renew_3 rfl (lv_at hl 1 rfl) ?_
  refine va_get (D := (dC, dI)) (ci := 3) (v := .ref (ad (400 + i))) (C := RX5) (T := TX5) (N := 2) (fs := (cx_row ad (t_rP o12 (va_up (c_rP o12) i (vp_updL (c_rP o12 i) (6 : Int32).toNatClampNeg (0 : Int64)))) i)) hx hb hts hi_wsX50 hown hK hP (7 + (c_nd (t_rP o12 (va_up (c_rP o12) i (vp_updL (c_rP o12 i) (6 : Int32).toNatClampNeg (0 : Int64)))) + (c_nv (t_rP o12 (va_up (c_rP o12) i (vp_updL (c_rP o12 i) (6 : Int32).toNatClampNeg (0 : Int64)))) + i))) (wx_row (o := (t_rP o12 (va_up (c_rP o12) i (vp_updL (c_rP o12 i) (6 : Int32).toNatClampNeg (0 : Int64))))) hk13) rfl 0 (by decide) (hts (.fieldLink RX5 9 "OrreryDials$Row" "places" "[J") (by decide +kernel)) (fun _ h9 => h9) rfl dX5_renew_4 ?_
  refine va_alen (v := (16 : Int32)) hx hb hK hP (7 + (c_nd (t_rP o12 (va_up (c_rP o12) i (vp_updL (c_rP o12 i) (6 : Int32).toNatClampNeg (0 : Int64)))) + (c_nv (t_rP o12 (va_up (c_rP o12) i (vp_updL (c_rP o12 i) (6 : Int32).toNatClampNeg (0 : Int64)))) + (16 + i)))) 1 (wx_arr (o := (t_rP o12 (va_up (c_rP o12) i (vp_updL (c_rP o12 i) (6 : Int32).toNatClampNeg (0 : Int64))))) hk13) rfl (by decide) dX5_renew_7 ?_
  refine lv_icmp_ge (tgt := 24) hx hb dX5_renew_8 (by decide) (fun cq => absurd cq (by decide)) (fun cq => ?_)
  refine lv_aload_n hx hb dX5_renew_11 rfl (lv_at hl 1 rfl) ?_
  refine va_get (D := (dC, dI)) (ci := 3) (v := .ref (ad (400 + i))) (C := RX5) (T := TX5) (N := 2) (fs := (cx_row ad (t_rP o12 (va_up (c_rP o12) i (vp_updL (c_rP o12 i) (6 : Int32).toNatClampNeg (0 : Int64)))) i)) hx hb hts hi_wsX50 hown hK hP (7 + (c_nd (t_rP o12 (va_up (c_rP o12) i (vp_updL (c_rP o12 i) (6 : Int32).toNatClampNeg (0 : Int64)))) + (c_nv (t_rP o12 (va_up (c_rP o12) i (vp_updL (c_rP o12 i) (6 : Int32).toNatClampNeg (0 : Int64)))) + i))) (wx_row (o := (t_rP o12 (va_up (c_rP o12) i (vp_updL (c_rP o12 i) (6 : Int32).toNatClampNeg (0 : Int64))))) hk13) rfl 0 (by decide) (hts (.fieldLink RX5 9 "OrreryDials$Row" "places" "[J") (by decide +kernel)) (fun _ h9 => h9) rfl dX5_renew_12 ?_
  refine lv_iload_n hx hb dX5_renew_15 rfl (lv_at hl 0 rfl) ?_
  refine lv_lconst (v := (0 : Int64)) hx hb dX5_renew_16 (by decide) ?_
  obtain ⟨hk15, hV⟩ := hV
  refine va_last hx hb hK hP hD hS (7 + (c_nd (t_rP o12 (va_up (c_rP o12) i (vp_updL (c_rP o12 i) (6 : Int32).toNatClampNeg (0 : Int64)))) + (c_nv (t_rP o12 (va_up (c_rP o12) i (vp_updL (c_rP o12 i) (6 : Int32).toNatClampNeg (0 : Int64)))) + (16 + i)))) 1 (wx_arr (o := (t_rP o12 (va_up (c_rP o12) i (vp_updL (c_rP o12 i) (6 : Int32).toNatClampNeg (0 : Int64))))) hk13) rfl hk15 dX5_renew_17 (fun H locs hP hD hS => ?_)
  rw [wx_a_rP (o := (t_rP o12 (va_up (c_rP o12) i (vp_updL (c_rP o12 i) (6 : Int32).toNatClampNeg (0 : Int64))))) hk13] at hP hD
  obtain ⟨o16, eo16⟩ : ∃ z, z = (t_rP (t_rP o12 (va_up (c_rP o12) i (vp_updL (c_rP o12 i) (6 : Int32).toNatClampNeg (0 : Int64)))) (va_up (c_rP (t_rP o12 (va_up (c_rP o12) i (vp_updL (c_rP o12 i) (6 : Int32).toNatClampNeg (0 : Int64))))) i (vp_updL (c_rP (t_rP o12 (va_up (c_rP o12) i (vp_updL (c_rP o12 i) (6 : Int32).toNatClampNeg (0 : Int64)))) i) (7 : Int32).toNatClampNeg (0 : Int64)))) := ⟨_, rfl⟩
  rw [← eo16] at hP hD hJ hV
  rw [jX5_renew_o16] at hJ
  rw [sX5_renew_o16] at hV
  refine lv_iinc (v := (8 : Int32)) (lv' := [(2, .int (8 : Int32)), (0, .ref (ad (300 + i))), (1, .int a1)]) hx hb dX5_renew_18 hl (k := 0) rfl (by first | rfl | decide) (by decide) rfl (fun ls hl => ?_)
  refine lv_goto (tgt := 2) hx hb dX5_renew_21 (by decide) ?_
  refine lv_iload_n hx hb dX5_renew_2 rfl (lv_at hl 0 rfl) ?_
  refine lv_aload_n hx hb dX5_renew_3 rfl (lv_at hl 1 rfl) ?_
  obtain ⟨hk17, hV⟩ := hV
  refine va_get (D := (dC, dI)) (ci := 3) (v := .ref (ad (400 + i))) (C := RX5) (T := TX5) (N := 2) (fs := (cx_row ad o16 i)) hx hb hts hi_wsX50 hown hK hP (7 + (c_nd o16 + (c_nv o16 + i))) (wx_row (o := o16) hk17) rfl 0 (by decide) (hts (.fieldLink RX5 9 "OrreryDials$Row" "places" "[J") (by decide +kernel)) (fun _ h9 => h9) rfl dX5_renew_4 ?_
  refine va_alen (v := (16 : Int32)) hx hb hK hP (7 + (c_nd o16 + (c_nv o16 + (16 + i)))) 1 (wx_arr (o := o16) hk17) rfl (by decide) dX5_renew_7 ?_
  refine lv_icmp_ge (tgt := 24) hx hb dX5_renew_8 (by decide) (fun cq => absurd cq (by decide)) (fun cq => ?_)
  refine lv_aload_n hx hb dX5_renew_11 rfl (lv_at hl 1 rfl) ?_
  refine va_get (D := (dC, dI)) (ci := 3) (v := .ref (ad (400 + i))) (C := RX5) (T := TX5) (N := 2) (fs := (cx_row ad o16 i)) hx hb hts hi_wsX50 hown hK hP (7 + (c_nd o16 + (c_nv o16 + i))) (wx_row (o := o16) hk17) rfl 0 (by decide) (hts (.fieldLink RX5 9 "OrreryDials$Row" "places" "[J") (by decide +kernel)) (fun _ h9 => h9) rfl dX5_renew_12 ?_
  refine lv_iload_n hx hb dX5_renew_15 rfl (lv_at hl 0 rfl) ?_
  refine lv_lconst (v := (0 : Int64)) hx hb dX5_renew_16 (by decide) ?_
  obtain ⟨hk18, hV⟩ := hV
  refine va_last hx hb hK hP hD hS (7 + (c_nd o16 + (c_nv o16 + (16 + i)))) 1 (wx_arr (o := o16) hk17) rfl hk18 dX5_renew_17 (fun H locs hP hD hS => ?_)
  rw [wx_a_rP (o := o16) hk17] at hP hD
  refine lv_iinc (v := (9 : Int32)) (lv' := [(2, .int (9 : Int32)), (0, .ref (ad (300 + i))), (1, .int a1)]) hx hb dX5_renew_18 hl (k := 0) rfl (by first | rfl | decide) (by decide) rfl (fun ls hl => ?_)
  refine lv_goto (tgt := 2) hx hb dX5_renew_21 (by decide) ?_
  refine lv_iload_n hx hb dX5_renew_2 rfl (lv_at hl 0 rfl) ?_
  refine lv_aload_n hx hb dX5_renew_3 rfl (lv_at hl 1 rfl) ?_
  refine va_get (D := (dC, dI)) (ci := 3) (v := .ref (ad (400 + i))) (C := RX5) (T := TX5) (N := 2) (fs := (cx_row ad (t_rP o16 (va_up (c_rP o16) i (vp_updL (c_rP o16 i) (8 : Int32).toNatClampNeg (0 : Int64)))) i)) hx hb hts hi_wsX50 hown hK hP (7 + (c_nd (t_rP o16 (va_up (c_rP o16) i (vp_updL (c_rP o16 i) (8 : Int32).toNatClampNeg (0 : Int64)))) + (c_nv (t_rP o16 (va_up (c_rP o16) i (vp_updL (c_rP o16 i) (8 : Int32).toNatClampNeg (0 : Int64)))) + i))) (wx_row (o := (t_rP o16 (va_up (c_rP o16) i (vp_updL (c_rP o16 i) (8 : Int32).toNatClampNeg (0 : Int64))))) hk17) rfl 0 (by decide) (hts (.fieldLink RX5 9 "OrreryDials$Row" "places" "[J") (by decide +kernel)) (fun _ h9 => h9) rfl dX5_renew_4 ?_
  refine va_alen (v := (16 : Int32)) hx hb hK hP (7 + (c_nd (t_rP o16 (va_up (c_rP o16) i (vp_updL (c_rP o16 i) (8 : Int32).toNatClampNeg (0 : Int64)))) + (c_nv (t_rP o16 (va_up (c_rP o16) i (vp_updL (c_rP o16 i) (8 : Int32).toNatClampNeg (0 : Int64)))) + (16 + i)))) 1 (wx_arr (o := (t_rP o16 (va_up (c_rP o16) i (vp_updL (c_rP o16 i) (8 : Int32).toNatClampNeg (0 : Int64))))) hk17) rfl (by decide) dX5_renew_7 ?_
  refine lv_icmp_ge (tgt := 24) hx hb dX5_renew_8 (by decide) (fun cq => absurd cq (by decide)) (fun cq => ?_)
  refine lv_aload_n hx hb dX5_renew_11 rfl (lv_at hl 1 rfl) ?_
  refine va_get (D := (dC, dI)) (ci := 3) (v := .ref (ad (400 + i))) (C := RX5) (T := TX5) (N := 2) (fs := (cx_row ad (t_rP o16 (va_up (c_rP o16) i (vp_updL (c_rP o16 i) (8 : Int32).toNatClampNeg (0 : Int64)))) i)) hx hb hts hi_wsX50 hown hK hP (7 + (c_nd (t_rP o16 (va_up (c_rP o16) i (vp_updL (c_rP o16 i) (8 : Int32).toNatClampNeg (0 : Int64)))) + (c_nv (t_rP o16 (va_up (c_rP o16) i (vp_updL (c_rP o16 i) (8 : Int32).toNatClampNeg (0 : Int64)))) + i))) (wx_row (o := (t_rP o16 (va_up (c_rP o16) i (vp_updL (c_rP o16 i) (8 : Int32).toNatClampNeg (0 : Int64))))) hk17) rfl 0 (by decide) (hts (.fieldLink RX5 9 "OrreryDials$Row" "places" "[J") (by decide +kernel)) (fun _ h9 => h9) rfl dX5_renew_12 ?_
  refine lv_iload_n hx hb dX5_renew_15 rfl (lv_at hl 0 rfl) ?_
  refine lv_lconst (v := (0 : Int64)) hx hb dX5_renew_16 (by decide) ?_
  obtain ⟨hk19, hV⟩ := hV
  refine va_last hx hb hK hP hD hS (7 + (c_nd (t_rP o16 (va_up (c_rP o16) i (vp_updL (c_rP o16 i) (8 : Int32).toNatClampNeg (0 : Int64)))) + (c_nv (t_rP o16 (va_up (c_rP o16) i (vp_updL (c_rP o16 i) (8 : Int32).toNatClampNeg (0 : Int64)))) + (16 + i)))) 1 (wx_arr (o := (t_rP o16 (va_up (c_rP o16) i (vp_updL (c_rP o16 i) (8 : Int32).toNatClampNeg (0 : Int64))))) hk17) rfl hk19 dX5_renew_17 (fun H locs hP hD hS => ?_)
  rw [wx_a_rP (o := (t_rP o16 (va_up (c_rP o16) i (vp_updL (c_rP o16 i) (8 : Int32).toNatClampNeg (0 : Int64))))) hk17] at hP hD
  obtain ⟨o20, eo20⟩ : ∃ z, z = (t_rP (t_rP o16 (va_up (c_rP o16) i (vp_updL (c_rP o16 i) (8 : Int32).toNatClampNeg (0 : Int64)))) (va_up (c_rP (t_rP o16 (va_up (c_rP o16) i (vp_updL (c_rP o16 i) (8 : Int32).toNatClampNeg (0 : Int64))))) i (vp_updL (c_rP (t_rP o16 (va_up (c_rP o16) i (vp_updL (c_rP o16 i) (8 : Int32).toNatClampNeg (0 : Int64)))) i) (9 : Int32).toNatClampNeg (0 : Int64)))) := ⟨_, rfl⟩
  rw [← eo20] at hP hD hJ hV
  rw [jX5_renew_o20] at hJ
  rw [sX5_renew_o20] at hV
  refine lv_iinc (v := (10 : Int32)) (lv' := [(2, .int (10 : Int32)), (0, .ref (ad (300 + i))), (1, .int a1)]) hx hb dX5_renew_18 hl (k := 0) rfl (by first | rfl | decide) (by decide) rfl (fun ls hl => ?_)
  refine lv_goto (tgt := 2) hx hb dX5_renew_21 (by decide) ?_
  refine lv_iload_n hx hb dX5_renew_2 rfl (lv_at hl 0 rfl) ?_
  refine lv_aload_n hx hb dX5_renew_3 rfl (lv_at hl 1 rfl) ?_
  obtain ⟨hk21, hV⟩ := hV
  refine va_get (D := (dC, dI)) (ci := 3) (v := .ref (ad (400 + i))) (C := RX5) (T := TX5) (N := 2) (fs := (cx_row ad o20 i)) hx hb hts hi_wsX50 hown hK hP (7 + (c_nd o20 + (c_nv o20 + i))) (wx_row (o := o20) hk21) rfl 0 (by decide) (hts (.fieldLink RX5 9 "OrreryDials$Row" "places" "[J") (by decide +kernel)) (fun _ h9 => h9) rfl dX5_renew_4 ?_
  refine va_alen (v := (16 : Int32)) hx hb hK hP (7 + (c_nd o20 + (c_nv o20 + (16 + i)))) 1 (wx_arr (o := o20) hk21) rfl (by decide) dX5_renew_7 ?_
  refine lv_icmp_ge (tgt := 24) hx hb dX5_renew_8 (by decide) (fun cq => absurd cq (by decide)) (fun cq => ?_)
  refine lv_aload_n hx hb dX5_renew_11 rfl (lv_at hl 1 rfl) ?_
  refine va_get (D := (dC, dI)) (ci := 3) (v := .ref (ad (400 + i))) (C := RX5) (T := TX5) (N := 2) (fs := (cx_row ad o20 i)) hx hb hts hi_wsX50 hown hK hP (7 + (c_nd o20 + (c_nv o20 + i))) (wx_row (o := o20) hk21) rfl 0 (by decide) (hts (.fieldLink RX5 9 "OrreryDials$Row" "places" "[J") (by decide +kernel)) (fun _ h9 => h9) rfl dX5_renew_12 ?_
  refine lv_iload_n hx hb dX5_renew_15 rfl (lv_at hl 0 rfl) ?_
  refine lv_lconst (v := (0 : Int64)) hx hb dX5_renew_16 (by decide) ?_
  obtain ⟨hk22, hV⟩ := hV
  refine va_last hx hb hK hP hD hS (7 + (c_nd o20 + (c_nv o20 + (16 + i)))) 1 (wx_arr (o := o20) hk21) rfl hk22 dX5_renew_17 (fun H locs hP hD hS => ?_)
  rw [wx_a_rP (o := o20) hk21] at hP hD
  refine lv_iinc (v := (11 : Int32)) (lv' := [(2, .int (11 : Int32)), (0, .ref (ad (300 + i))), (1, .int a1)]) hx hb dX5_renew_18 hl (k := 0) rfl (by first | rfl | decide) (by decide) rfl (fun ls hl => ?_)
  refine lv_goto (tgt := 2) hx hb dX5_renew_21 (by decide) ?_
  refine lv_iload_n hx hb dX5_renew_2 rfl (lv_at hl 0 rfl) ?_
  refine lv_aload_n hx hb dX5_renew_3 rfl (lv_at hl 1 rfl) ?_
  refine va_get (D := (dC, dI)) (ci := 3) (v := .ref (ad (400 + i))) (C := RX5) (T := TX5) (N := 2) (fs := (cx_row ad (t_rP o20 (va_up (c_rP o20) i (vp_updL (c_rP o20 i) (10 : Int32).toNatClampNeg (0 : Int64)))) i)) hx hb hts hi_wsX50 hown hK hP (7 + (c_nd (t_rP o20 (va_up (c_rP o20) i (vp_updL (c_rP o20 i) (10 : Int32).toNatClampNeg (0 : Int64)))) + (c_nv (t_rP o20 (va_up (c_rP o20) i (vp_updL (c_rP o20 i) (10 : Int32).toNatClampNeg (0 : Int64)))) + i))) (wx_row (o := (t_rP o20 (va_up (c_rP o20) i (vp_updL (c_rP o20 i) (10 : Int32).toNatClampNeg (0 : Int64))))) hk21) rfl 0 (by decide) (hts (.fieldLink RX5 9 "OrreryDials$Row" "places" "[J") (by decide +kernel)) (fun _ h9 => h9) rfl dX5_renew_4 ?_
  refine va_alen (v := (16 : Int32)) hx hb hK hP (7 + (c_nd (t_rP o20 (va_up (c_rP o20) i (vp_updL (c_rP o20 i) (10 : Int32).toNatClampNeg (0 : Int64)))) + (c_nv (t_rP o20 (va_up (c_rP o20) i (vp_updL (c_rP o20 i) (10 : Int32).toNatClampNeg (0 : Int64)))) + (16 + i)))) 1 (wx_arr (o := (t_rP o20 (va_up (c_rP o20) i (vp_updL (c_rP o20 i) (10 : Int32).toNatClampNeg (0 : Int64))))) hk21) rfl (by decide) dX5_renew_7 ?_
  refine lv_icmp_ge (tgt := 24) hx hb dX5_renew_8 (by decide) (fun cq => absurd cq (by decide)) (fun cq => ?_)
  refine lv_aload_n hx hb dX5_renew_11 rfl (lv_at hl 1 rfl) ?_
  refine va_get (D := (dC, dI)) (ci := 3) (v := .ref (ad (400 + i))) (C := RX5) (T := TX5) (N := 2) (fs := (cx_row ad (t_rP o20 (va_up (c_rP o20) i (vp_updL (c_rP o20 i) (10 : Int32).toNatClampNeg (0 : Int64)))) i)) hx hb hts hi_wsX50 hown hK hP (7 + (c_nd (t_rP o20 (va_up (c_rP o20) i (vp_updL (c_rP o20 i) (10 : Int32).toNatClampNeg (0 : Int64)))) + (c_nv (t_rP o20 (va_up (c_rP o20) i (vp_updL (c_rP o20 i) (10 : Int32).toNatClampNeg (0 : Int64)))) + i))) (wx_row (o := (t_rP o20 (va_up (c_rP o20) i (vp_updL (c_rP o20 i) (10 : Int32).toNatClampNeg (0 : Int64))))) hk21) rfl 0 (by decide) (hts (.fieldLink RX5 9 "OrreryDials$Row" "places" "[J") (by decide +kernel)) (fun _ h9 => h9) rfl dX5_renew_12 ?_
  refine lv_iload_n hx hb dX5_renew_15 rfl (lv_at hl 0 rfl) ?_
  refine lv_lconst (v := (0 : Int64)) hx hb dX5_renew_16 (by decide) ?_
  obtain ⟨hk23, hV⟩ := hV
  refine va_last hx hb hK hP hD hS (7 + (c_nd (t_rP o20 (va_up (c_rP o20) i (vp_updL (c_rP o20 i) (10 : Int32).toNatClampNeg (0 : Int64)))) + (c_nv (t_rP o20 (va_up (c_rP o20) i (vp_updL (c_rP o20 i) (10 : Int32).toNatClampNeg (0 : Int64)))) + (16 + i)))) 1 (wx_arr (o := (t_rP o20 (va_up (c_rP o20) i (vp_updL (c_rP o20 i) (10 : Int32).toNatClampNeg (0 : Int64))))) hk21) rfl hk23 dX5_renew_17 (fun H locs hP hD hS => ?_)
  rw [wx_a_rP (o := (t_rP o20 (va_up (c_rP o20) i (vp_updL (c_rP o20 i) (10 : Int32).toNatClampNeg (0 : Int64))))) hk21] at hP hD
  obtain ⟨o24, eo24⟩ : ∃ z, z = (t_rP (t_rP o20 (va_up (c_rP o20) i (vp_updL (c_rP o20 i) (10 : Int32).toNatClampNeg (0 : Int64)))) (va_up (c_rP (t_rP o20 (va_up (c_rP o20) i (vp_updL (c_rP o20 i) (10 : Int32).toNatClampNeg (0 : Int64))))) i (vp_updL (c_rP (t_rP o20 (va_up (c_rP o20) i (vp_updL (c_rP o20 i) (10 : Int32).toNatClampNeg (0 : Int64)))) i) (11 : Int32).toNatClampNeg (0 : Int64)))) := ⟨_, rfl⟩
  rw [← eo24] at hP hD hJ hV
  rw [jX5_renew_o24] at hJ
  rw [sX5_renew_o24] at hV
  refine lv_iinc (v := (12 : Int32)) (lv' := [(2, .int (12 : Int32)), (0, .ref (ad (300 + i))), (1, .int a1)]) hx hb dX5_renew_18 hl (k := 0) rfl (by first | rfl | decide) (by decide) rfl (fun ls hl => ?_)
  refine lv_goto (tgt := 2) hx hb dX5_renew_21 (by decide) ?_
  refine lv_iload_n hx hb dX5_renew_2 rfl (lv_at hl 0 rfl) ?_
  refine lv_aload_n hx hb dX5_renew_3 rfl (lv_at hl 1 rfl) ?_
  obtain ⟨hk25, hV⟩ := hV
  refine va_get (D := (dC, dI)) (ci := 3) (v := .ref (ad (400 + i))) (C := RX5) (T := TX5) (N := 2) (fs := (cx_row ad o24 i)) hx hb hts hi_wsX50 hown hK hP (7 + (c_nd o24 + (c_nv o24 + i))) (wx_row (o := o24) hk25) rfl 0 (by decide) (hts (.fieldLink RX5 9 "OrreryDials$Row" "places" "[J") (by decide +kernel)) (fun _ h9 => h9) rfl dX5_renew_4 ?_
  refine va_alen (v := (16 : Int32)) hx hb hK hP (7 + (c_nd o24 + (c_nv o24 + (16 + i)))) 1 (wx_arr (o := o24) hk25) rfl (by decide) dX5_renew_7 ?_
  refine lv_icmp_ge (tgt := 24) hx hb dX5_renew_8 (by decide) (fun cq => absurd cq (by decide)) (fun cq => ?_)
  refine lv_aload_n hx hb dX5_renew_11 rfl (lv_at hl 1 rfl) ?_
  refine va_get (D := (dC, dI)) (ci := 3) (v := .ref (ad (400 + i))) (C := RX5) (T := TX5) (N := 2) (fs := (cx_row ad o24 i)) hx hb hts hi_wsX50 hown hK hP (7 + (c_nd o24 + (c_nv o24 + i))) (wx_row (o := o24) hk25) rfl 0 (by decide) (hts (.fieldLink RX5 9 "OrreryDials$Row" "places" "[J") (by decide +kernel)) (fun _ h9 => h9) rfl dX5_renew_12 ?_
  refine lv_iload_n hx hb dX5_renew_15 rfl (lv_at hl 0 rfl) ?_
  refine lv_lconst (v := (0 : Int64)) hx hb dX5_renew_16 (by decide) ?_
  obtain ⟨hk26, hV⟩ := hV
  refine va_last hx hb hK hP hD hS (7 + (c_nd o24 + (c_nv o24 + (16 + i)))) 1 (wx_arr (o := o24) hk25) rfl hk26 dX5_renew_17 (fun H locs hP hD hS => ?_)
  rw [wx_a_rP (o := o24) hk25] at hP hD
  refine lv_iinc (v := (13 : Int32)) (lv' := [(2, .int (13 : Int32)), (0, .ref (ad (300 + i))), (1, .int a1)]) hx hb dX5_renew_18 hl (k := 0) rfl (by first | rfl | decide) (by decide) rfl (fun ls hl => ?_)
  refine lv_goto (tgt := 2) hx hb dX5_renew_21 (by decide) ?_
  refine lv_iload_n hx hb dX5_renew_2 rfl (lv_at hl 0 rfl) ?_
  refine lv_aload_n hx hb dX5_renew_3 rfl (lv_at hl 1 rfl) ?_
  refine va_get (D := (dC, dI)) (ci := 3) (v := .ref (ad (400 + i))) (C := RX5) (T := TX5) (N := 2) (fs := (cx_row ad (t_rP o24 (va_up (c_rP o24) i (vp_updL (c_rP o24 i) (12 : Int32).toNatClampNeg (0 : Int64)))) i)) hx hb hts hi_wsX50 hown hK hP (7 + (c_nd (t_rP o24 (va_up (c_rP o24) i (vp_updL (c_rP o24 i) (12 : Int32).toNatClampNeg (0 : Int64)))) + (c_nv (t_rP o24 (va_up (c_rP o24) i (vp_updL (c_rP o24 i) (12 : Int32).toNatClampNeg (0 : Int64)))) + i))) (wx_row (o := (t_rP o24 (va_up (c_rP o24) i (vp_updL (c_rP o24 i) (12 : Int32).toNatClampNeg (0 : Int64))))) hk25) rfl 0 (by decide) (hts (.fieldLink RX5 9 "OrreryDials$Row" "places" "[J") (by decide +kernel)) (fun _ h9 => h9) rfl dX5_renew_4 ?_
  refine va_alen (v := (16 : Int32)) hx hb hK hP (7 + (c_nd (t_rP o24 (va_up (c_rP o24) i (vp_updL (c_rP o24 i) (12 : Int32).toNatClampNeg (0 : Int64)))) + (c_nv (t_rP o24 (va_up (c_rP o24) i (vp_updL (c_rP o24 i) (12 : Int32).toNatClampNeg (0 : Int64)))) + (16 + i)))) 1 (wx_arr (o := (t_rP o24 (va_up (c_rP o24) i (vp_updL (c_rP o24 i) (12 : Int32).toNatClampNeg (0 : Int64))))) hk25) rfl (by decide) dX5_renew_7 ?_
  refine lv_icmp_ge (tgt := 24) hx hb dX5_renew_8 (by decide) (fun cq => absurd cq (by decide)) (fun cq => ?_)
  refine lv_aload_n hx hb dX5_renew_11 rfl (lv_at hl 1 rfl) ?_
  refine va_get (D := (dC, dI)) (ci := 3) (v := .ref (ad (400 + i))) (C := RX5) (T := TX5) (N := 2) (fs := (cx_row ad (t_rP o24 (va_up (c_rP o24) i (vp_updL (c_rP o24 i) (12 : Int32).toNatClampNeg (0 : Int64)))) i)) hx hb hts hi_wsX50 hown hK hP (7 + (c_nd (t_rP o24 (va_up (c_rP o24) i (vp_updL (c_rP o24 i) (12 : Int32).toNatClampNeg (0 : Int64)))) + (c_nv (t_rP o24 (va_up (c_rP o24) i (vp_updL (c_rP o24 i) (12 : Int32).toNatClampNeg (0 : Int64)))) + i))) (wx_row (o := (t_rP o24 (va_up (c_rP o24) i (vp_updL (c_rP o24 i) (12 : Int32).toNatClampNeg (0 : Int64))))) hk25) rfl 0 (by decide) (hts (.fieldLink RX5 9 "OrreryDials$Row" "places" "[J") (by decide +kernel)) (fun _ h9 => h9) rfl dX5_renew_12 ?_
  refine lv_iload_n hx hb dX5_renew_15 rfl (lv_at hl 0 rfl) ?_
  refine lv_lconst (v := (0 : Int64)) hx hb dX5_renew_16 (by decide) ?_
  obtain ⟨hk27, hV⟩ := hV
  refine va_last hx hb hK hP hD hS (7 + (c_nd (t_rP o24 (va_up (c_rP o24) i (vp_updL (c_rP o24 i) (12 : Int32).toNatClampNeg (0 : Int64)))) + (c_nv (t_rP o24 (va_up (c_rP o24) i (vp_updL (c_rP o24 i) (12 : Int32).toNatClampNeg (0 : Int64)))) + (16 + i)))) 1 (wx_arr (o := (t_rP o24 (va_up (c_rP o24) i (vp_updL (c_rP o24 i) (12 : Int32).toNatClampNeg (0 : Int64))))) hk25) rfl hk27 dX5_renew_17 (fun H locs hP hD hS => ?_)
  rw [wx_a_rP (o := (t_rP o24 (va_up (c_rP o24) i (vp_updL (c_rP o24 i) (12 : Int32).toNatClampNeg (0 : Int64))))) hk25] at hP hD
  obtain ⟨o28, eo28⟩ : ∃ z, z = (t_rP (t_rP o24 (va_up (c_rP o24) i (vp_updL (c_rP o24 i) (12 : Int32).toNatClampNeg (0 : Int64)))) (va_up (c_rP (t_rP o24 (va_up (c_rP o24) i (vp_updL (c_rP o24 i) (12 : Int32).toNatClampNeg (0 : Int64))))) i (vp_updL (c_rP (t_rP o24 (va_up (c_rP o24) i (vp_updL (c_rP o24 i) (12 : Int32).toNatClampNeg (0 : Int64)))) i) (13 : Int32).toNatClampNeg (0 : Int64)))) := ⟨_, rfl⟩
  rw [← eo28] at hP hD hJ hV
  rw [jX5_renew_o28] at hJ
  rw [sX5_renew_o28] at hV
  refine lv_iinc (v := (14 : Int32)) (lv' := [(2, .int (14 : Int32)), (0, .ref (ad (300 + i))), (1, .int a1)]) hx hb dX5_renew_18 hl (k := 0) rfl (by first | rfl | decide) (by decide) rfl (fun ls hl => ?_)
  refine lv_goto (tgt := 2) hx hb dX5_renew_21 (by decide) ?_
  refine lv_iload_n hx hb dX5_renew_2 rfl (lv_at hl 0 rfl) ?_
  refine lv_aload_n hx hb dX5_renew_3 rfl (lv_at hl 1 rfl) ?_
  obtain ⟨hk29, hV⟩ := hV
  refine va_get (D := (dC, dI)) (ci := 3) (v := .ref (ad (400 + i))) (C := RX5) (T := TX5) (N := 2) (fs := (cx_row ad o28 i)) hx hb hts hi_wsX50 hown hK hP (7 + (c_nd o28 + (c_nv o28 + i))) (wx_row (o := o28) hk29) rfl 0 (by decide) (hts (.fieldLink RX5 9 "OrreryDials$Row" "places" "[J") (by decide +kernel)) (fun _ h9 => h9) rfl dX5_renew_4 ?_
  refine va_alen (v := (16 : Int32)) hx hb hK hP (7 + (c_nd o28 + (c_nv o28 + (16 + i)))) 1 (wx_arr (o := o28) hk29) rfl (by decide) dX5_renew_7 ?_
  refine lv_icmp_ge (tgt := 24) hx hb dX5_renew_8 (by decide) (fun cq => absurd cq (by decide)) (fun cq => ?_)
  refine lv_aload_n hx hb dX5_renew_11 rfl (lv_at hl 1 rfl) ?_
  refine va_get (D := (dC, dI)) (ci := 3) (v := .ref (ad (400 + i))) (C := RX5) (T := TX5) (N := 2) (fs := (cx_row ad o28 i)) hx hb hts hi_wsX50 hown hK hP (7 + (c_nd o28 + (c_nv o28 + i))) (wx_row (o := o28) hk29) rfl 0 (by decide) (hts (.fieldLink RX5 9 "OrreryDials$Row" "places" "[J") (by decide +kernel)) (fun _ h9 => h9) rfl dX5_renew_12 ?_
  refine lv_iload_n hx hb dX5_renew_15 rfl (lv_at hl 0 rfl) ?_
  refine lv_lconst (v := (0 : Int64)) hx hb dX5_renew_16 (by decide) ?_
  obtain ⟨hk30, hV⟩ := hV
  refine va_last hx hb hK hP hD hS (7 + (c_nd o28 + (c_nv o28 + (16 + i)))) 1 (wx_arr (o := o28) hk29) rfl hk30 dX5_renew_17 (fun H locs hP hD hS => ?_)
  rw [wx_a_rP (o := o28) hk29] at hP hD
  refine lv_iinc (v := (15 : Int32)) (lv' := [(2, .int (15 : Int32)), (0, .ref (ad (300 + i))), (1, .int a1)]) hx hb dX5_renew_18 hl (k := 0) rfl (by first | rfl | decide) (by decide) rfl (fun ls hl => ?_)
  refine lv_goto (tgt := 2) hx hb dX5_renew_21 (by decide) ?_
  refine lv_iload_n hx hb dX5_renew_2 rfl (lv_at hl 0 rfl) ?_
  refine lv_aload_n hx hb dX5_renew_3 rfl (lv_at hl 1 rfl) ?_
  refine va_get (D := (dC, dI)) (ci := 3) (v := .ref (ad (400 + i))) (C := RX5) (T := TX5) (N := 2) (fs := (cx_row ad (t_rP o28 (va_up (c_rP o28) i (vp_updL (c_rP o28 i) (14 : Int32).toNatClampNeg (0 : Int64)))) i)) hx hb hts hi_wsX50 hown hK hP (7 + (c_nd (t_rP o28 (va_up (c_rP o28) i (vp_updL (c_rP o28 i) (14 : Int32).toNatClampNeg (0 : Int64)))) + (c_nv (t_rP o28 (va_up (c_rP o28) i (vp_updL (c_rP o28 i) (14 : Int32).toNatClampNeg (0 : Int64)))) + i))) (wx_row (o := (t_rP o28 (va_up (c_rP o28) i (vp_updL (c_rP o28 i) (14 : Int32).toNatClampNeg (0 : Int64))))) hk29) rfl 0 (by decide) (hts (.fieldLink RX5 9 "OrreryDials$Row" "places" "[J") (by decide +kernel)) (fun _ h9 => h9) rfl dX5_renew_4 ?_
  refine va_alen (v := (16 : Int32)) hx hb hK hP (7 + (c_nd (t_rP o28 (va_up (c_rP o28) i (vp_updL (c_rP o28 i) (14 : Int32).toNatClampNeg (0 : Int64)))) + (c_nv (t_rP o28 (va_up (c_rP o28) i (vp_updL (c_rP o28 i) (14 : Int32).toNatClampNeg (0 : Int64)))) + (16 + i)))) 1 (wx_arr (o := (t_rP o28 (va_up (c_rP o28) i (vp_updL (c_rP o28 i) (14 : Int32).toNatClampNeg (0 : Int64))))) hk29) rfl (by decide) dX5_renew_7 ?_
  refine lv_icmp_ge (tgt := 24) hx hb dX5_renew_8 (by decide) (fun cq => absurd cq (by decide)) (fun cq => ?_)
  refine lv_aload_n hx hb dX5_renew_11 rfl (lv_at hl 1 rfl) ?_
  refine va_get (D := (dC, dI)) (ci := 3) (v := .ref (ad (400 + i))) (C := RX5) (T := TX5) (N := 2) (fs := (cx_row ad (t_rP o28 (va_up (c_rP o28) i (vp_updL (c_rP o28 i) (14 : Int32).toNatClampNeg (0 : Int64)))) i)) hx hb hts hi_wsX50 hown hK hP (7 + (c_nd (t_rP o28 (va_up (c_rP o28) i (vp_updL (c_rP o28 i) (14 : Int32).toNatClampNeg (0 : Int64)))) + (c_nv (t_rP o28 (va_up (c_rP o28) i (vp_updL (c_rP o28 i) (14 : Int32).toNatClampNeg (0 : Int64)))) + i))) (wx_row (o := (t_rP o28 (va_up (c_rP o28) i (vp_updL (c_rP o28 i) (14 : Int32).toNatClampNeg (0 : Int64))))) hk29) rfl 0 (by decide) (hts (.fieldLink RX5 9 "OrreryDials$Row" "places" "[J") (by decide +kernel)) (fun _ h9 => h9) rfl dX5_renew_12 ?_
  refine lv_iload_n hx hb dX5_renew_15 rfl (lv_at hl 0 rfl) ?_
  refine lv_lconst (v := (0 : Int64)) hx hb dX5_renew_16 (by decide) ?_
  obtain ⟨hk31, hV⟩ := hV
  refine va_last hx hb hK hP hD hS (7 + (c_nd (t_rP o28 (va_up (c_rP o28) i (vp_updL (c_rP o28 i) (14 : Int32).toNatClampNeg (0 : Int64)))) + (c_nv (t_rP o28 (va_up (c_rP o28) i (vp_updL (c_rP o28 i) (14 : Int32).toNatClampNeg (0 : Int64)))) + (16 + i)))) 1 (wx_arr (o := (t_rP o28 (va_up (c_rP o28) i (vp_updL (c_rP o28 i) (14 : Int32).toNatClampNeg (0 : Int64))))) hk29) rfl hk31 dX5_renew_17 (fun H locs hP hD hS => ?_)
  rw [wx_a_rP (o := (t_rP o28 (va_up (c_rP o28) i (vp_updL (c_rP o28 i) (14 : Int32).toNatClampNeg (0 : Int64))))) hk29] at hP hD
  obtain ⟨o32, eo32⟩ : ∃ z, z = (t_rP (t_rP o28 (va_up (c_rP o28) i (vp_updL (c_rP o28 i) (14 : Int32).toNatClampNeg (0 : Int64)))) (va_up (c_rP (t_rP o28 (va_up (c_rP o28) i (vp_updL (c_rP o28 i) (14 : Int32).toNatClampNeg (0 : Int64))))) i (vp_updL (c_rP (t_rP o28 (va_up (c_rP o28) i (vp_updL (c_rP o28 i) (14 : Int32).toNatClampNeg (0 : Int64)))) i) (15 : Int32).toNatClampNeg (0 : Int64)))) := ⟨_, rfl⟩
  rw [← eo32] at hP hD hJ hV
  rw [jX5_renew_o32] at hJ
  rw [sX5_renew_o32] at hV
  refine lv_iinc (v := (16 : Int32)) (lv' := [(2, .int (16 : Int32)), (0, .ref (ad (300 + i))), (1, .int a1)]) hx hb dX5_renew_18 hl (k := 0) rfl (by first | rfl | decide) (by decide) rfl (fun ls hl => ?_)
  refine lv_goto (tgt := 2) hx hb dX5_renew_21 (by decide) ?_
  refine lv_iload_n hx hb dX5_renew_2 rfl (lv_at hl 0 rfl) ?_
  refine lv_aload_n hx hb dX5_renew_3 rfl (lv_at hl 1 rfl) ?_
  obtain ⟨hk33, hV⟩ := hV
  refine va_get (D := (dC, dI)) (ci := 3) (v := .ref (ad (400 + i))) (C := RX5) (T := TX5) (N := 2) (fs := (cx_row ad o32 i)) hx hb hts hi_wsX50 hown hK hP (7 + (c_nd o32 + (c_nv o32 + i))) (wx_row (o := o32) hk33) rfl 0 (by decide) (hts (.fieldLink RX5 9 "OrreryDials$Row" "places" "[J") (by decide +kernel)) (fun _ h9 => h9) rfl dX5_renew_4 ?_
  refine va_alen (v := (16 : Int32)) hx hb hK hP (7 + (c_nd o32 + (c_nv o32 + (16 + i)))) 1 (wx_arr (o := o32) hk33) rfl (by decide) dX5_renew_7 ?_
  refine lv_icmp_ge (tgt := 24) hx hb dX5_renew_8 (by decide) (fun cq => ?_) (fun cq => absurd cq (by decide))
  refine lv_aload_n hx hb dX5_renew_24 rfl (lv_at hl 1 rfl) ?_
  refine lv_iload_n hx hb dX5_renew_25 rfl (lv_at hl 2 rfl) ?_
  refine va_put (D := (dC, dI)) (ci := 3) (v := .int a1) (ty := .int) (C := RX5) (T := TX5) (N := 2) (fs := (cx_row ad o32 i)) hx hb hts hi_wsX50 tyX5 tyX5_ok nmX5 hown hK hP hD hS (7 + (c_nd o32 + (c_nv o32 + i))) (wx_row (o := o32) hk33) rfl 1 (by decide) (hts (.fieldLink RX5 15 "OrreryDials$Row" "size" "I") (by decide +kernel)) (fun _ h9 => h9) rfl (by decide +kernel) rfl rfl (Nat.le_of_ble_eq_true rfl) dX5_renew_26 (fun H locs hP hD hS => ?_)
  rw [wx_p_rS (o := o32) hk33] at hP hD
  exact W.vret hx hb hr (fun t ht hW => ⟨⟨_, rfl, hJ.trans hE.symm, by rw [ht]; exact hP, va_K.moved hW.alike hK, hD⟩, hS.F ht⟩) hS.2.2 dX5_renew_29
def jX2_pullAt_y5 (o : Os) (d : Nat) (i : Nat) (y4 : Int64) (y5 : Int64) : Int32 × Os := (if (jX4_isFit (c_dF (t_vC o (va_up (c_vC o) d ((c_vC o d) + (1 : Int32)))) i) y5) = 0 then ((0 : Int32), (t_vC o (va_up (c_vC o) d ((c_vC o d) + (1 : Int32))))) else (if ((jX1_turnBy (t_vC o (va_up (c_vC o) d ((c_vC o d) + (1 : Int32)))) i y5).1) = 0 then ((0 : Int32), (jX1_turnBy (t_vC o (va_up (c_vC o) d ((c_vC o d) + (1 : Int32)))) i y5).2) else ((1 : Int32), (jX1_turnBy (t_vC o (va_up (c_vC o) d ((c_vC o d) + (1 : Int32)))) i y5).2)))
def sX2_pullAt_y5 (o : Os) (d : Nat) (i : Nat) (y4 : Int64) (y5 : Int64) : Prop := (if (jX4_isFit (c_dF (t_vC o (va_up (c_vC o) d ((c_vC o d) + (1 : Int32)))) i) y5) = 0 then True else (sX1_turnBy (t_vC o (va_up (c_vC o) d ((c_vC o d) + (1 : Int32)))) i y5 ∧ (if ((jX1_turnBy (t_vC o (va_up (c_vC o) d ((c_vC o d) + (1 : Int32)))) i y5).1) = 0 then True else True)))
def jX2_pullAt_y4 (o : Os) (d : Nat) (i : Nat) (y4 : Int64) : Int32 × Os := (jX2_pullAt_y5 o d i y4 (jX4_ofReal (1 : Int32) (c_dF (t_vC o (va_up (c_vC o) d ((c_vC o d) + (1 : Int32)))) i) y4))
def sX2_pullAt_y4 (o : Os) (d : Nat) (i : Nat) (y4 : Int64) : Prop := (sX2_pullAt_y5 o d i y4 (jX4_ofReal (1 : Int32) (c_dF (t_vC o (va_up (c_vC o) d ((c_vC o d) + (1 : Int32)))) i) y4))
def jX2_pullAt (o : Os) (d : Nat) (i : Nat) : Int32 × Os := (jX2_pullAt_y4 o d i (jX2_force o d (jX4_ofReal (c_dF o i) (1 : Int32) (c_dP o i))))
def sX2_pullAt (o : Os) (d : Nat) (i : Nat) : Prop := (i < c_nd o ∧ (d < c_nv o ∧ (sX2_force o d (jX4_ofReal (c_dF o i) (1 : Int32) (c_dP o i)) ∧ (sX2_pullAt_y4 o d i (jX2_force o d (jX4_ofReal (c_dF o i) (1 : Int32) (c_dP o i)))))))
set_option maxHeartbeats 8000000 in
set_option maxRecDepth 100000 in
theorem qX2_pullAt (l : Launch) (dC : Nat → ClassId) (dI : Nat → Nat → Nat) (cy : Nat → ClassId) (x : Nat) (ad : Nat → Nat) (sz : Nat) (o : Os) (d : Nat) (i : Nat) (hV : sX2_pullAt o d i) : Met l yX2_pullAt wsX2_pullAt ({ frames := 6, cells := 0, slots := 0, locals := 160 }) (va_Pc [.ref (ad (200 + d)), .ref (ad (100 + i))] (wI (dC, dI) (tyA cy) (WX cy x ad o) sz)) (va_Qi (fun r u => (r, u) = jX2_pullAt o d i) (fun u t => wO (dC, dI) (tyA cy) (va_A (WX cy x ad o) sz) (WX cy x ad u) t) (va_A (WX cy x ad o) sz)) 0 0 (va_A (WX cy x ad o) sz) := by
  refine Met.ofW (cc := cX2_pullAt) (maxL := 6) (ret := some .boolean) (by decide) rfl ?_
  intro p e s m args below meth c s₁ B hml hv
  obtain ⟨rfl, hsz, hP, hK, hD0, hk⟩ := hv
  have hx := B.exec
  have hb := B.bytes
  have hr := B.returns
  have hts := atoms_spec (ws := wsX2_pullAt) B.pre
  have hown : s.vm.findClass RX2 = some m.cls := findClass_of_methodNamed B.named
  have hlocks := B.notSynchronized
  subst hsz
  have hD := hD0.self (sz := s.heap.size)
  generalize hAe : va_A (WX cy x ad o) s.heap.size = A at hD ⊢
  have hA : ∀ q : Nat, s.heap.size ≤ q → A q := fun q h => by rw [← hAe]; exact Or.inr h
  obtain ⟨H, hHe⟩ : ∃ H, s.heap = H := ⟨_, rfl⟩
  have hP : va_P (dC, dI) vwCl (WX cy x ad o) H := by rw [← hHe]; exact hP
  have hS : va_S A s.heap H [] := by rw [← hHe]; exact va_S.rf
  rw [w_heap hHe]
  have hi_wsX10 : ∀ w ∈ wsX10, w ∈ wsX2_pullAt := fun _ h => List.mem_cons_of_mem _ (List.mem_append_left _ (List.mem_append_left _ (List.mem_append_left _ (List.mem_append_right _ h))))
  have hi_wsX00 : ∀ w ∈ wsX00, w ∈ wsX2_pullAt := fun _ h => List.mem_cons_of_mem _ (List.mem_append_left _ (List.mem_append_left _ (List.mem_append_right _ h)))
  have hi_wsX30 : ∀ w ∈ wsX30, w ∈ wsX2_pullAt := fun _ h => List.mem_cons_of_mem _ (List.mem_append_left _ (List.mem_append_right _ h))
  have hi_wsX60 : ∀ w ∈ wsX60, w ∈ wsX2_pullAt := fun _ h => List.mem_cons_of_mem _ (List.mem_append_right _ h)
  obtain ⟨JR, hE⟩ : ∃ q, jX2_pullAt o d i = q := ⟨_, rfl⟩
  have hJ := hE
  rw [jX2_pullAt] at hJ
  rw [sX2_pullAt] at hV
  have hl := lv_entry ([.ref (ad (200 + d)), .ref (ad (100 + i))]) (n := 6) (Nat.le_of_ble_eq_true rfl)
  rw [lg_entry_eq]
  generalize (lg_sl ([.ref (ad (200 + d)), .ref (ad (100 + i))]) ++ List.replicate (6 - (lg_sl ([.ref (ad (200 + d)), .ref (ad (100 + i))])).length) Slot.unset).toArray = ls at hl ⊢
  have hl : lv_has ls 6 [(0, .ref (ad (200 + d))), (1, .ref (ad (100 + i)))] := hl
  refine lv_aload_n hx hb dX2_pullAt_0 rfl (lv_at hl 0 rfl) ?_
  refine lv_aload_n hx hb dX2_pullAt_1 rfl (lv_at hl 1 rfl) ?_
  obtain ⟨hk1, hV⟩ := hV
  refine va_get (D := (dC, dI)) (ci := 1) (v := .int (c_dF o i)) (C := RX1) (T := TX1) (N := 4) (fs := (cx_dial o i)) hx hb hts hi_wsX10 hown hK hP (7 + i) (wx_dial (o := o) hk1) rfl 0 (by decide) (hts (.fieldLink RX2 20 "OrreryDials$Dial" "fine" "Z") (by decide +kernel)) (fun _ h9 => h9) rfl dX2_pullAt_2 ?_
  refine lv_iconst (v := (1 : Int32)) hx hb dX2_pullAt_5 (by decide) ?_
  refine lv_aload_n hx hb dX2_pullAt_6 rfl (lv_at hl 1 rfl) ?_
  refine va_get (D := (dC, dI)) (ci := 1) (v := .long (c_dP o i)) (C := RX1) (T := TX1) (N := 4) (fs := (cx_dial o i)) hx hb hts hi_wsX10 hown hK hP (7 + i) (wx_dial (o := o) hk1) rfl 2 (by decide) (hts (.fieldLink RX2 26 "OrreryDials$Dial" "place" "J") (by decide +kernel)) (fun _ h9 => h9) rfl dX2_pullAt_7 ?_
  refine vp_callSl (W.runS (As := [.int (c_dF o i), .int (1 : Int32), .long (c_dP o i)]) (rest := [.ref (ad (200 + d))]) ⟨hx, hb, hml, hown, hts⟩ (qX4_ofReal l (c_dF o i) (1 : Int32) (c_dP o i)) (va_cwS 3 hts gX2_pullAt_X4_ofReal rfl rfl rfl (by decide +kernel) ⟨Nat.le_of_ble_eq_true rfl, Nat.le_of_ble_eq_true rfl⟩) ⟨fun _ _ _ _ q => q, fun U hU hW => rfl⟩ rfl rfl hl.1 rfl (lv_room (Nat.le_of_ble_eq_true rfl)) dX2_pullAt_10 ⟨Nat.le_of_ble_eq_true rfl, Nat.le_of_ble_eq_true rfl⟩) (fun r hr => ?_)
  rw [hr]
  obtain ⟨hk2, hV⟩ := hV
  obtain ⟨hk3, hV⟩ := hV
  refine vp_callSl (rn3 (c_vS o d = 0) (c_vS o d = 1) (fun g0 => va_Run.run (va_runU (As := [.long (jX4_ofReal (c_dF o i) (1 : Int32) (c_dP o i))]) (rest := []) ⟨hx, hb, hml, hown, hts⟩ (show Met l yX6_forceAt wsX6_forceAt _ _ (vp_Sl (fun r => r = (jX2_force o d (jX4_ofReal (c_dF o i) (1 : Int32) (c_dP o i))))) 0 0 _ from by rw [show (jX2_force o d (jX4_ofReal (c_dF o i) (1 : Int32) (c_dP o i))) = jX6_forceAt o d (jX4_ofReal (c_dF o i) (1 : Int32) (c_dP o i)) from if_pos g0]; exact qX6_forceAt l dC dI cy x ad H.size o d (jX4_ofReal (c_dF o i) (1 : Int32) (c_dP o i)) (by have := hk3; rw [sX2_force, if_pos g0] at this; exact this)) (va_cwA 1 hts gX2_pullAt_X6_forceAt_u35X6 rfl rfl rfl hk.2.2.2.2.2.2.2.2.2.2 (by decide +kernel) ⟨Nat.le_of_ble_eq_true rfl, Nat.le_of_ble_eq_true rfl⟩) (pV hK hP hD hk (q0 := (7 + (c_nd o + d))) (wx_spring (o := o) hk2 g0) rfl) rfl rfl hl.1 rfl (lv_room (Nat.le_of_ble_eq_true rfl)) dX2_pullAt_13 ⟨Nat.le_of_ble_eq_true rfl, Nat.le_of_ble_eq_true rfl⟩)) (fun g0 g1 => va_Run.run (va_runU (As := [.long (jX4_ofReal (c_dF o i) (1 : Int32) (c_dP o i))]) (rest := []) ⟨hx, hb, hml, hown, hts⟩ (show Met l yX0_forceAt wsX0_forceAt _ _ (vp_Sl (fun r => r = (jX2_force o d (jX4_ofReal (c_dF o i) (1 : Int32) (c_dP o i))))) 0 0 _ from by rw [show (jX2_force o d (jX4_ofReal (c_dF o i) (1 : Int32) (c_dP o i))) = jX0_forceAt o d (jX4_ofReal (c_dF o i) (1 : Int32) (c_dP o i)) from (if_neg g0).trans (if_pos g1)]; exact qX0_forceAt l dC dI cy x ad H.size o d (jX4_ofReal (c_dF o i) (1 : Int32) (c_dP o i)) (by have := hk3; rw [sX2_force, if_neg g0, if_pos g1] at this; exact this)) (va_cwA 1 hts gX2_pullAt_X0_forceAt_u35X0 rfl rfl rfl hk.2.2.2.2.2.2.2.2.2.2 (by decide +kernel) ⟨Nat.le_of_ble_eq_true rfl, Nat.le_of_ble_eq_true rfl⟩) (pV hK hP hD hk (q0 := (7 + (c_nd o + d))) (wx_crank (o := o) hk2 g0 g1) rfl) rfl rfl hl.1 rfl (lv_room (Nat.le_of_ble_eq_true rfl)) dX2_pullAt_13 ⟨Nat.le_of_ble_eq_true rfl, Nat.le_of_ble_eq_true rfl⟩)) (fun g0 g1 => va_Run.run (va_runU (As := [.long (jX4_ofReal (c_dF o i) (1 : Int32) (c_dP o i))]) (rest := []) ⟨hx, hb, hml, hown, hts⟩ (show Met l yX3_forceAt wsX3_forceAt _ _ (vp_Sl (fun r => r = (jX2_force o d (jX4_ofReal (c_dF o i) (1 : Int32) (c_dP o i))))) 0 0 _ from by rw [show (jX2_force o d (jX4_ofReal (c_dF o i) (1 : Int32) (c_dP o i))) = jX3_forceAt o d (jX4_ofReal (c_dF o i) (1 : Int32) (c_dP o i)) from (if_neg g0).trans (if_neg g1)]; exact qX3_forceAt l dC dI cy x ad H.size o d (jX4_ofReal (c_dF o i) (1 : Int32) (c_dP o i)) (by have := hk3; rw [sX2_force, if_neg g0, if_neg g1] at this; exact this)) (va_cwA 1 hts gX2_pullAt_X3_forceAt_u35X3 rfl rfl rfl hk.2.2.2.2.2.2.2.2.2.2 (by decide +kernel) ⟨Nat.le_of_ble_eq_true rfl, Nat.le_of_ble_eq_true rfl⟩) (pV hK hP hD hk (q0 := (7 + (c_nd o + d))) (wx_fly (o := o) hk2 g0 g1) rfl) rfl rfl hl.1 rfl (lv_room (Nat.le_of_ble_eq_true rfl)) dX2_pullAt_13 ⟨Nat.le_of_ble_eq_true rfl, Nat.le_of_ble_eq_true rfl⟩))) (fun r hr => ?_)
  rw [hr]
  refine lv_topl (fun y4 ey4 => ?_)
  rw [← ey4] at hJ
  rw [jX2_pullAt_y4] at hJ
  rw [← ey4] at hV
  rw [sX2_pullAt_y4] at hV
  refine lv_lstore_n (lv' := [(2, .long y4), (0, .ref (ad (200 + d))), (1, .ref (ad (100 + i)))]) hx hb dX2_pullAt_16 rfl hl (by decide) rfl (fun ls hl => ?_)
  refine lv_aload_n hx hb dX2_pullAt_17 rfl (lv_at hl 1 rfl) ?_
  refine lv_dup hx hb dX2_pullAt_18 rfl ?_
  refine cs3 (c_vS o d = 0) (c_vS o d = 1) (fun g0 kk => va_get (D := (dC, dI)) (ci := 4) (v := .int (c_vC o d)) (C := RX6) (T := TX6) (N := 3) (fs := cx_spring o d) hx hb hts hi_wsX60 hown hK hP (7 + (c_nd o + d)) (wx_spring (o := o) hk2 g0) rfl 2 (by decide) (hts (.fieldLink RX2 7 "OrreryDials$Drive" "pullCount" "I") (by decide +kernel)) (fun _ h9 => h9) rfl dX2_pullAt_19 kk) (fun g0 g1 kk => va_get (D := (dC, dI)) (ci := 0) (v := .int (c_vC o d)) (C := RX0) (T := TX0) (N := 4) (fs := cx_crank o d) hx hb hts hi_wsX00 hown hK hP (7 + (c_nd o + d)) (wx_crank (o := o) hk2 g0 g1) rfl 2 (by decide) (hts (.fieldLink RX2 7 "OrreryDials$Drive" "pullCount" "I") (by decide +kernel)) (fun _ h9 => h9) rfl dX2_pullAt_19 kk) (fun g0 g1 kk => va_get (D := (dC, dI)) (ci := 2) (v := .int (c_vC o d)) (C := RX3) (T := TX3) (N := 4) (fs := cx_fly o d) hx hb hts hi_wsX30 hown hK hP (7 + (c_nd o + d)) (wx_fly (o := o) hk2 g0 g1) rfl 3 (by decide) (hts (.fieldLink RX2 7 "OrreryDials$Drive" "pullCount" "I") (by decide +kernel)) (fun _ h9 => h9) rfl dX2_pullAt_19 kk) ?_
  refine lv_iconst (v := (1 : Int32)) hx hb dX2_pullAt_22 (by decide) ?_
  refine lv_iadd hx hb dX2_pullAt_23 ?_
  refine cs3k (P := fun H => va_P (dC, dI) vwCl (WX cy x ad (t_vC o (va_up (c_vC o) d ((c_vC o d) + (1 : Int32))))) H) (D := va_D A (WX cy x ad (t_vC o (va_up (c_vC o) d ((c_vC o d) + (1 : Int32)))))) (c_vS o d = 0) (c_vS o d = 1) (fun g0 kk => va_put (D := (dC, dI)) (ci := 4) (v := .int ((c_vC o d) + (1 : Int32))) (ty := .int) (C := RX6) (T := TX6) (N := 3) (fs := cx_spring o d) hx hb hts hi_wsX60 tyX6 tyX6_ok nmX6 hown hK hP hD hS (7 + (c_nd o + d)) (wx_spring (o := o) hk2 g0) rfl 2 (by decide) (hts (.fieldLink RX2 7 "OrreryDials$Drive" "pullCount" "I") (by decide +kernel)) (fun _ h9 => h9) rfl (by decide +kernel) rfl rfl (Nat.le_of_ble_eq_true rfl) dX2_pullAt_24 (fun H locs hP hD hS => kk H locs (by rw [← wx_p_vC_spring (o := o) hk2 g0]; exact hP) (by rw [← wx_p_vC_spring (o := o) hk2 g0]; exact hD) hS)) (fun g0 g1 kk => va_put (D := (dC, dI)) (ci := 0) (v := .int ((c_vC o d) + (1 : Int32))) (ty := .int) (C := RX0) (T := TX0) (N := 4) (fs := cx_crank o d) hx hb hts hi_wsX00 tyX0 tyX0_ok nmX0 hown hK hP hD hS (7 + (c_nd o + d)) (wx_crank (o := o) hk2 g0 g1) rfl 2 (by decide) (hts (.fieldLink RX2 7 "OrreryDials$Drive" "pullCount" "I") (by decide +kernel)) (fun _ h9 => h9) rfl (by decide +kernel) rfl rfl (Nat.le_of_ble_eq_true rfl) dX2_pullAt_24 (fun H locs hP hD hS => kk H locs (by rw [← wx_p_vC_crank (o := o) hk2 g0 g1]; exact hP) (by rw [← wx_p_vC_crank (o := o) hk2 g0 g1]; exact hD) hS)) (fun g0 g1 kk => va_put (D := (dC, dI)) (ci := 2) (v := .int ((c_vC o d) + (1 : Int32))) (ty := .int) (C := RX3) (T := TX3) (N := 4) (fs := cx_fly o d) hx hb hts hi_wsX30 tyX3 tyX3_ok nmX3 hown hK hP hD hS (7 + (c_nd o + d)) (wx_fly (o := o) hk2 g0 g1) rfl 3 (by decide) (hts (.fieldLink RX2 7 "OrreryDials$Drive" "pullCount" "I") (by decide +kernel)) (fun _ h9 => h9) rfl (by decide +kernel) rfl rfl (Nat.le_of_ble_eq_true rfl) dX2_pullAt_24 (fun H locs hP hD hS => kk H locs (by rw [← wx_p_vC_fly (o := o) hk2 g0 g1]; exact hP) (by rw [← wx_p_vC_fly (o := o) hk2 g0 g1]; exact hD) hS)) (fun H locs hP hD hS => ?_)
  refine lv_iconst (v := (1 : Int32)) hx hb dX2_pullAt_27 (by decide) ?_
  refine lv_aload_n hx hb dX2_pullAt_28 rfl (lv_at hl 2 rfl) ?_
  refine va_get (D := (dC, dI)) (ci := 1) (v := .int (c_dF (t_vC o (va_up (c_vC o) d ((c_vC o d) + (1 : Int32)))) i)) (C := RX1) (T := TX1) (N := 4) (fs := (cx_dial (t_vC o (va_up (c_vC o) d ((c_vC o d) + (1 : Int32)))) i)) hx hb hts hi_wsX10 hown hK hP (7 + i) (wx_dial (o := (t_vC o (va_up (c_vC o) d ((c_vC o d) + (1 : Int32))))) hk1) rfl 0 (by decide) (hts (.fieldLink RX2 20 "OrreryDials$Dial" "fine" "Z") (by decide +kernel)) (fun _ h9 => h9) rfl dX2_pullAt_29 ?_
  refine lv_lload_n hx hb dX2_pullAt_32 rfl (lv_at hl 0 rfl) ?_
  refine vp_callSl (W.runS (As := [.int (1 : Int32), .int (c_dF (t_vC o (va_up (c_vC o) d ((c_vC o d) + (1 : Int32)))) i), .long y4]) (rest := []) ⟨hx, hb, hml, hown, hts⟩ (qX4_ofReal l (1 : Int32) (c_dF (t_vC o (va_up (c_vC o) d ((c_vC o d) + (1 : Int32)))) i) y4) (va_cwS 3 hts gX2_pullAt_X4_ofReal rfl rfl rfl (by decide +kernel) ⟨Nat.le_of_ble_eq_true rfl, Nat.le_of_ble_eq_true rfl⟩) ⟨fun _ _ _ _ q => q, fun U hU hW => rfl⟩ rfl rfl hl.1 rfl (lv_room (Nat.le_of_ble_eq_true rfl)) dX2_pullAt_33 ⟨Nat.le_of_ble_eq_true rfl, Nat.le_of_ble_eq_true rfl⟩) (fun r hr => ?_)
  rw [hr]
  refine lv_topl (fun y5 ey5 => ?_)
  rw [← ey5] at hJ
  rw [jX2_pullAt_y5] at hJ
  rw [← ey5] at hV
  rw [sX2_pullAt_y5] at hV
  refine lv_lstore (lv' := [(4, .long y5), (2, .long y4), (0, .ref (ad (200 + d))), (1, .ref (ad (100 + i)))]) hx hb dX2_pullAt_36 hl (by decide) rfl (fun ls hl => ?_)
  refine lv_aload_n hx hb dX2_pullAt_38 rfl (lv_at hl 3 rfl) ?_
  refine va_get (D := (dC, dI)) (ci := 1) (v := .int (c_dF (t_vC o (va_up (c_vC o) d ((c_vC o d) + (1 : Int32)))) i)) (C := RX1) (T := TX1) (N := 4) (fs := (cx_dial (t_vC o (va_up (c_vC o) d ((c_vC o d) + (1 : Int32)))) i)) hx hb hts hi_wsX10 hown hK hP (7 + i) (wx_dial (o := (t_vC o (va_up (c_vC o) d ((c_vC o d) + (1 : Int32))))) hk1) rfl 0 (by decide) (hts (.fieldLink RX2 20 "OrreryDials$Dial" "fine" "Z") (by decide +kernel)) (fun _ h9 => h9) rfl dX2_pullAt_39 ?_
  refine lv_lload hx hb dX2_pullAt_42 (lv_at hl 0 rfl) ?_
  refine vp_callSi (W.runS (As := [.int (c_dF (t_vC o (va_up (c_vC o) d ((c_vC o d) + (1 : Int32)))) i), .long y5]) (rest := []) ⟨hx, hb, hml, hown, hts⟩ (qX4_isFit l (c_dF (t_vC o (va_up (c_vC o) d ((c_vC o d) + (1 : Int32)))) i) y5) (va_cwS 2 hts gX2_pullAt_X4_isFit rfl rfl rfl (by decide +kernel) ⟨Nat.le_of_ble_eq_true rfl, Nat.le_of_ble_eq_true rfl⟩) ⟨fun _ _ _ _ q => q, fun U hU hW => rfl⟩ rfl rfl hl.1 rfl (lv_room (Nat.le_of_ble_eq_true rfl)) dX2_pullAt_44 ⟨Nat.le_of_ble_eq_true rfl, Nat.le_of_ble_eq_true rfl⟩) (fun r hr => ?_)
  rw [hr]
  refine lv_if_eq (tgt := 63) hx hb dX2_pullAt_47 (by decide) (fun c6 => ?_) (fun c6 => ?_)
  · skip
    rw [if_pos c6] at hJ
    rw [if_pos c6] at hV
    refine lv_iconst (v := (0 : Int32)) hx hb dX2_pullAt_63 (by decide) ?_
    exact W.zret hx hb hr rfl (fun t ht hW => ⟨⟨_, _, rfl, hJ.trans hE.symm, by rw [ht]; exact hP, va_K.moved hW.alike hK, hD⟩, hS.F ht⟩) hS.2.2 dX2_pullAt_64
  · skip
    rw [if_neg c6] at hJ
    rw [if_neg c6] at hV
    refine lv_aload_n hx hb dX2_pullAt_50 rfl (lv_at hl 3 rfl) ?_
    refine lv_lload hx hb dX2_pullAt_51 (lv_at hl 0 rfl) ?_
    obtain ⟨hk7, hV⟩ := hV
    refine cl_i (va_runV (As := [.long y5]) (rest := []) ⟨hx, hb, hml, hown, hts⟩ (qX1_turnBy l dC dI cy x ad H.size (t_vC o (va_up (c_vC o) d ((c_vC o d) + (1 : Int32)))) i y5 hk7) (cwV 1 hts gX2_pullAt_X1_turnBy rfl rfl rfl (by decide +kernel) ⟨Nat.le_of_ble_eq_true rfl, Nat.le_of_ble_eq_true rfl⟩) (pV hK hP hD hk (q0 := (7 + i)) (wx_dial (o := (t_vC o (va_up (c_vC o) d ((c_vC o d) + (1 : Int32))))) hk1) rfl) rfl rfl hl.1 rfl (lv_room (Nat.le_of_ble_eq_true rfl)) dX2_pullAt_53 ⟨Nat.le_of_ble_eq_true rfl, Nat.le_of_ble_eq_true rfl⟩) hD hS hA (fun r u H locs hw hP hD hS => ?_)
    have hr1 : r = (jX1_turnBy (t_vC o (va_up (c_vC o) d ((c_vC o d) + (1 : Int32)))) i y5).1 := congrArg Prod.fst hw
    have hu1 : u = (jX1_turnBy (t_vC o (va_up (c_vC o) d ((c_vC o d) + (1 : Int32)))) i y5).2 := congrArg Prod.snd hw
    rw [hu1] at hP hD
    rw [hr1]
    refine lv_if_eq (tgt := 63) hx hb dX2_pullAt_56 (by decide) (fun c8 => ?_) (fun c8 => ?_)
    · skip
      rw [if_pos c8] at hJ
      rw [if_pos c8] at hV
      refine lv_iconst (v := (0 : Int32)) hx hb dX2_pullAt_63 (by decide) ?_
      exact W.zret hx hb hr rfl (fun t ht hW => ⟨⟨_, _, rfl, hJ.trans hE.symm, by rw [ht]; exact hP, va_K.moved hW.alike hK, hD⟩, hS.F ht⟩) hS.2.2 dX2_pullAt_64
    · skip
      rw [if_neg c8] at hJ
      rw [if_neg c8] at hV
      refine lv_iconst (v := (1 : Int32)) hx hb dX2_pullAt_59 (by decide) ?_
      refine lv_goto (tgt := 64) hx hb dX2_pullAt_60 (by decide) ?_
      exact W.zret hx hb hr rfl (fun t ht hW => ⟨⟨_, _, rfl, hJ.trans hE.symm, by rw [ht]; exact hP, va_K.moved hW.alike hK, hD⟩, hS.F ht⟩) hS.2.2 dX2_pullAt_64
theorem bX2_pullAt_y5 (o : Os) (d : Nat) (i : Nat) (y4 : Int64) (y5 : Int64) : (jX2_pullAt_y5 o d i y4 y5).1 = 0 ∨ (jX2_pullAt_y5 o d i y4 y5).1 = 1 := by
  unfold jX2_pullAt_y5
  repeat' (first | (with_reducible exact Or.inl rfl) | (with_reducible exact Or.inr rfl) | (with_reducible apply bX1_turnBy) | (with_reducible apply bX4_isFit) | (dsimp only; with_reducible exact Or.inl rfl) | (dsimp only; with_reducible exact Or.inr rfl) | (dsimp only; with_reducible apply bX1_turnBy) | (dsimp only; with_reducible apply bX4_isFit) | split)
theorem bX2_pullAt_y4 (o : Os) (d : Nat) (i : Nat) (y4 : Int64) : (jX2_pullAt_y4 o d i y4).1 = 0 ∨ (jX2_pullAt_y4 o d i y4).1 = 1 := by
  unfold jX2_pullAt_y4
  repeat' (first | (with_reducible exact Or.inl rfl) | (with_reducible exact Or.inr rfl) | (with_reducible apply bX1_turnBy) | (with_reducible apply bX4_isFit) | (with_reducible apply bX2_pullAt_y5) | (dsimp only; with_reducible exact Or.inl rfl) | (dsimp only; with_reducible exact Or.inr rfl) | (dsimp only; with_reducible apply bX1_turnBy) | (dsimp only; with_reducible apply bX4_isFit) | (dsimp only; with_reducible apply bX2_pullAt_y5) | split)
theorem bX2_pullAt (o : Os) (d : Nat) (i : Nat) : (jX2_pullAt o d i).1 = 0 ∨ (jX2_pullAt o d i).1 = 1 := by
  unfold jX2_pullAt
  repeat' (first | (with_reducible exact Or.inl rfl) | (with_reducible exact Or.inr rfl) | (with_reducible apply bX1_turnBy) | (with_reducible apply bX4_isFit) | (with_reducible apply bX2_pullAt_y5) | (with_reducible apply bX2_pullAt_y4) | (dsimp only; with_reducible exact Or.inl rfl) | (dsimp only; with_reducible exact Or.inr rfl) | (dsimp only; with_reducible apply bX1_turnBy) | (dsimp only; with_reducible apply bX4_isFit) | (dsimp only; with_reducible apply bX2_pullAt_y5) | (dsimp only; with_reducible apply bX2_pullAt_y4) | split)
