def jX7_turn_y4 (o : Os) (a1 : Int32) (a2 : Int64) (d2 : Nat) (y4 : Int64) : Int32 × Os := (if (jX4_isFit (c_dF o d2) y4) = 0 then ((-102 : Int32), o) else (if ((jX1_turnBy o d2 y4).1) = 0 then ((jX7_failWith ((jX1_turnBy o d2 y4).2) (-15 : Int32)).1, (jX7_failWith ((jX1_turnBy o d2 y4).2) (-15 : Int32)).2) else ((jX7_done ((jX1_turnBy o d2 y4).2) (1 : Int32)).1, (jX7_done ((jX1_turnBy o d2 y4).2) (1 : Int32)).2)))
def sX7_turn_y4 (o : Os) (a1 : Int32) (a2 : Int64) (d2 : Nat) (y4 : Int64) : Prop := True ∧ (if (jX4_isFit (c_dF o d2) y4) = 0 then True else (sX1_turnBy o d2 y4 ∧ (if ((jX1_turnBy o d2 y4).1) = 0 then (sX7_failWith ((jX1_turnBy o d2 y4).2) (-15 : Int32) ∧ True) else True)))
def jX7_turn (o : Os) (a1 : Int32) (a2 : Int64) : Int32 × Os := (om (jX7_dialAt o a1) ((-101 : Int32), o) (fun d2 => (jX7_turn_y4 o a1 a2 d2 (jX4_told (c_dF o d2) a2))))
def sX7_turn (o : Os) (a1 : Int32) (a2 : Int64) : Prop := True ∧ (sX7_dialAt o a1 ∧ (om (jX7_dialAt o a1) True (fun d2 => (d2 < c_nd o ∧ (sX7_turn_y4 o a1 a2 d2 (jX4_told (c_dF o d2) a2))))))
set_option linter.constructorNameAsVariable false in
set_option maxHeartbeats 8000000 in
set_option maxRecDepth 100000 in
theorem qX7_turn (l : Launch) (dC : Nat → ClassId) (dI : Nat → Nat → Nat) (cy : Nat → ClassId) (x : Nat) (ad : Nat → Nat) (sz : Nat) (o : Os) (a1 : Int32) (a2 : Int64) (hV : sX7_turn o a1 a2) : Met l yX7_turn wsX7_turn ({ frames := 6, cells := 0, slots := 0, locals := 158 }) (va_Pc [.ref x, .int a1, .long a2] (wI (dC, dI) (tyA cy) (WX cy x ad o) sz)) (va_Qi (fun r u => (r, u) = jX7_turn o a1 a2) (fun u t => wO (dC, dI) (tyA cy) (va_A (WX cy x ad o) sz) (WX cy x ad u) t) (va_A (WX cy x ad o) sz)) 0 0 (va_A (WX cy x ad o) sz) := by
  refine Met.ofW (cc := cX7_turn) (maxL := 7) (ret := some .int) (by decide) rfl ?_
  intro p e s m args below meth c s₁ B hml hv
  obtain ⟨rfl, hsz, hP, hK, hD0, hk⟩ := hv
  have hx := B.exec
  have hb := B.bytes
  have hr := B.returns
  have hts := atoms_spec (ws := wsX7_turn) B.pre
  have hown : s.vm.findClass RX7 = some m.cls := findClass_of_methodNamed B.named
  have hlocks := B.notSynchronized
  subst hsz
  have hD := hD0.self (sz := s.heap.size)
  generalize hAe : va_A (WX cy x ad o) s.heap.size = A at hD ⊢
  have hA : ∀ q : Nat, s.heap.size ≤ q → A q := fun q h => by rw [← hAe]; exact Or.inr h
  obtain ⟨H, hHe⟩ : ∃ H, s.heap = H := ⟨_, rfl⟩
  have hP : va_P (dC, dI) vwCl (WX cy x ad o) H := by rw [← hHe]; exact hP
  have hS : va_S A s.heap H [] := by rw [← hHe]; exact va_S.rf
  rw [w_heap hHe]
  have hi_wsX10 : ∀ w ∈ wsX10, w ∈ wsX7_turn := fun _ h => List.mem_cons_of_mem _ (List.mem_append_left _ (List.mem_append_right _ h))
  have hi_wsX70 : ∀ w ∈ wsX70, w ∈ wsX7_turn := fun _ h => List.mem_cons_of_mem _ (List.mem_append_right _ h)
  obtain ⟨JR, hE⟩ : ∃ q, jX7_turn o a1 a2 = q := ⟨_, rfl⟩
  have hJ := hE
  rw [jX7_turn] at hJ
  rw [sX7_turn] at hV
  have hV := hV.2
  have hl := lv_entry ([.ref x, .int a1, .long a2]) (n := 7) (Nat.le_of_ble_eq_true rfl)
  rw [lg_entry_eq]
  generalize (lg_sl ([.ref x, .int a1, .long a2]) ++ List.replicate (7 - (lg_sl ([.ref x, .int a1, .long a2])).length) Slot.unset).toArray = ls at hl ⊢
  have hl : lv_has ls 7 [(0, .ref x), (1, .int a1), (2, .long a2)] := hl
  refine lv_aload_n hx hb dX7_turn_0 rfl (lv_at hl 0 rfl) ?_
  refine lv_iload_n hx hb dX7_turn_1 rfl (lv_at hl 1 rfl) ?_
  obtain ⟨hk1, hV⟩ := hV
  refine va_csq (W.runV (As := [.int a1]) (rest := []) ⟨hx, hb, hml, hown, hts⟩ (qX7_dialAt l dC dI cy x ad H.size o a1 hk1) (cwV 1 hts gX7_turn_X7_dialAt rfl rfl rfl (by decide +kernel) ⟨Nat.le_of_ble_eq_true rfl, Nat.le_of_ble_eq_true rfl⟩) (pV hK hP hD hk (q0 := 0) (wx_h (o := o) rfl) rfl) rfl rfl hl.1 rfl (lv_room (Nat.le_of_ble_eq_true rfl)) dX7_turn_2 ⟨Nat.le_of_ble_eq_true rfl, Nat.le_of_ble_eq_true rfl⟩) (fun r hq9 => ?_)
  rcases hd2 : jX7_dialAt o a1 with _ | d2
  · rw [hd2, om_n] at hJ
    rw [hd2, om_n] at hV
    rw [hd2] at hq9
    refine rf_n hq9 ?_
    refine lv_astoreN (lv' := [(4, .null), (0, .ref x), (1, .int a1), (2, .long a2)]) hx hb dX7_turn_5 hl (by decide) rfl (fun ls hl => ?_)
    refine lv_aloadN hx hb dX7_turn_7 (lv_at hl 0 rfl) ?_
    refine lv_ifnonnullN hx hb dX7_turn_9 ?_
    refine lv_bipush (v := (-101 : Int32)) hx hb dX7_turn_12 (by decide) ?_
    exact W.iret hx hb hr (fun t ht hW => ⟨⟨_, _, rfl, hJ.trans hE.symm, by rw [ht]; exact hP, va_K.moved hW.alike hK, hD⟩, hS.F ht⟩) hS.2.2 dX7_turn_14
  · rw [hd2, om_s] at hJ
    rw [hd2, om_s] at hV
    rw [hd2] at hq9
    refine rf_s hq9 ?_
    refine lv_astore (lv' := [(4, .ref (ad (100 + d2))), (0, .ref x), (1, .int a1), (2, .long a2)]) hx hb dX7_turn_5 hl (by decide) rfl (fun ls hl => ?_)
    refine lv_aload hx hb dX7_turn_7 (lv_at hl 0 rfl) ?_
    refine lv_ifnonnull (tgt := 15) hx hb dX7_turn_9 (by decide) ?_
    refine lv_aload hx hb dX7_turn_15 (lv_at hl 0 rfl) ?_
    obtain ⟨hk3, hV⟩ := hV
    refine va_get (D := (dC, dI)) (ci := 1) (v := .int (c_dF o d2)) (C := RX1) (T := TX1) (N := 4) (fs := (cx_dial o d2)) hx hb hts hi_wsX10 hown hK hP (7 + d2) (wx_dial (o := o) hk3) rfl 0 (by decide) (hts (.fieldLink RX7 72 "OrreryDials$Dial" "fine" "Z") (by decide +kernel)) (fun _ h9 => h9) rfl dX7_turn_17 ?_
    refine lv_lload_n hx hb dX7_turn_20 rfl (lv_at hl 3 rfl) ?_
    refine vp_callSl (W.runS (As := [.int (c_dF o d2), .long a2]) (rest := []) ⟨hx, hb, hml, hown, hts⟩ (qX4_told l (c_dF o d2) a2) (va_cwS 2 hts gX7_turn_X4_told rfl rfl rfl (by decide +kernel) ⟨Nat.le_of_ble_eq_true rfl, Nat.le_of_ble_eq_true rfl⟩) ⟨fun _ _ _ _ q => q, fun U hU hW => rfl⟩ rfl rfl hl.1 rfl (lv_room (Nat.le_of_ble_eq_true rfl)) dX7_turn_21 ⟨Nat.le_of_ble_eq_true rfl, Nat.le_of_ble_eq_true rfl⟩) (fun r hq9 => ?_)
    rw [hq9]
    refine lv_topl (fun y4 ey4 => ?_)
    rw [← ey4] at hJ
    rw [jX7_turn_y4] at hJ
    rw [← ey4] at hV
    rw [sX7_turn_y4] at hV
    have hV := hV.2
    refine lv_lstore (lv' := [(5, .long y4), (4, .ref (ad (100 + d2))), (0, .ref x), (1, .int a1), (2, .long a2)]) hx hb dX7_turn_24 hl (by decide) rfl (fun ls hl => ?_)
    refine lv_aload hx hb dX7_turn_26 (lv_at hl 1 rfl) ?_
    refine va_get (D := (dC, dI)) (ci := 1) (v := .int (c_dF o d2)) (C := RX1) (T := TX1) (N := 4) (fs := (cx_dial o d2)) hx hb hts hi_wsX10 hown hK hP (7 + d2) (wx_dial (o := o) hk3) rfl 0 (by decide) (hts (.fieldLink RX7 72 "OrreryDials$Dial" "fine" "Z") (by decide +kernel)) (fun _ h9 => h9) rfl dX7_turn_28 ?_
    refine lv_lload hx hb dX7_turn_31 (lv_at hl 0 rfl) ?_
    refine vp_callSi (W.runS (As := [.int (c_dF o d2), .long y4]) (rest := []) ⟨hx, hb, hml, hown, hts⟩ (qX4_isFit l (c_dF o d2) y4) (va_cwS 2 hts gX7_turn_X4_isFit rfl rfl rfl (by decide +kernel) ⟨Nat.le_of_ble_eq_true rfl, Nat.le_of_ble_eq_true rfl⟩) ⟨fun _ _ _ _ q => q, fun U hU hW => rfl⟩ rfl rfl hl.1 rfl (lv_room (Nat.le_of_ble_eq_true rfl)) dX7_turn_33 ⟨Nat.le_of_ble_eq_true rfl, Nat.le_of_ble_eq_true rfl⟩) (fun r hq9 => ?_)
    rw [hq9]
    refine lv_if_ne (tgt := 42) hx hb dX7_turn_36 (by decide) (fun c5 => ?_) (fun c5 => ?_)
    · skip
      rw [if_neg c5] at hJ
      rw [if_neg c5] at hV
      refine lv_aload hx hb dX7_turn_42 (lv_at hl 1 rfl) ?_
      refine lv_lload hx hb dX7_turn_44 (lv_at hl 0 rfl) ?_
      obtain ⟨hk6, hV⟩ := hV
      refine cl_i (va_runV (As := [.long y4]) (rest := []) ⟨hx, hb, hml, hown, hts⟩ (qX1_turnBy l dC dI cy x ad H.size o d2 y4 hk6) (cwV 1 hts gX7_turn_X1_turnBy rfl rfl rfl (by decide +kernel) ⟨Nat.le_of_ble_eq_true rfl, Nat.le_of_ble_eq_true rfl⟩) (pV hK hP hD hk (q0 := (7 + d2)) (wx_dial (o := o) hk3) rfl) rfl rfl hl.1 rfl (lv_room (Nat.le_of_ble_eq_true rfl)) dX7_turn_46 ⟨Nat.le_of_ble_eq_true rfl, Nat.le_of_ble_eq_true rfl⟩) hD hS hA (fun r u H locs hw hP hD hS => ?_)
      have hr1 : r = (jX1_turnBy o d2 y4).1 := congrArg Prod.fst hw
      have hu1 : u = (jX1_turnBy o d2 y4).2 := congrArg Prod.snd hw
      rw [hu1] at hP hD
      rw [hr1]
      refine lv_if_eq (tgt := 60) hx hb dX7_turn_49 (by decide) (fun c7 => ?_) (fun c7 => ?_)
      · skip
        rw [if_pos c7] at hJ
        rw [if_pos c7] at hV
        refine lv_aload_n hx hb dX7_turn_60 rfl (lv_at hl 2 rfl) ?_
        refine lv_bipush (v := (-15 : Int32)) hx hb dX7_turn_61 (by decide) ?_
        obtain ⟨hk8, hV⟩ := hV
        refine cl_i (va_runV (As := [.int (-15 : Int32)]) (rest := []) ⟨hx, hb, hml, hown, hts⟩ (qX7_failWith l dC dI cy x ad H.size ((jX1_turnBy o d2 y4).2) (-15 : Int32) hk8) (cwV 1 hts gX7_turn_X7_failWith rfl rfl rfl (by decide +kernel) ⟨Nat.le_of_ble_eq_true rfl, Nat.le_of_ble_eq_true rfl⟩) (pV hK hP hD hk (q0 := 0) (wx_h (o := ((jX1_turnBy o d2 y4).2)) rfl) rfl) rfl rfl hl.1 rfl (lv_room (Nat.le_of_ble_eq_true rfl)) dX7_turn_63 ⟨Nat.le_of_ble_eq_true rfl, Nat.le_of_ble_eq_true rfl⟩) hD hS hA (fun r u H locs hw hP hD hS => ?_)
        have hr1 : r = (jX7_failWith ((jX1_turnBy o d2 y4).2) (-15 : Int32)).1 := congrArg Prod.fst hw
        have hu1 : u = (jX7_failWith ((jX1_turnBy o d2 y4).2) (-15 : Int32)).2 := congrArg Prod.snd hw
        rw [hu1] at hP hD
        rw [hr1]
        exact W.iret hx hb hr (fun t ht hW => ⟨⟨_, _, rfl, hJ.trans hE.symm, by rw [ht]; exact hP, va_K.moved hW.alike hK, hD⟩, hS.F ht⟩) hS.2.2 dX7_turn_66
      · skip
        rw [if_neg c7] at hJ
        rw [if_neg c7] at hV
        refine lv_aload_n hx hb dX7_turn_52 rfl (lv_at hl 2 rfl) ?_
        refine lv_iconst (v := (1 : Int32)) hx hb dX7_turn_53 (by decide) ?_
        refine cl_i (va_runV (As := [.int (1 : Int32)]) (rest := []) ⟨hx, hb, hml, hown, hts⟩ (qX7_done l dC dI cy x ad H.size ((jX1_turnBy o d2 y4).2) (1 : Int32)) (cwV 1 hts gX7_turn_X7_done rfl rfl rfl (by decide +kernel) ⟨Nat.le_of_ble_eq_true rfl, Nat.le_of_ble_eq_true rfl⟩) (pV hK hP hD hk (q0 := 0) (wx_h (o := ((jX1_turnBy o d2 y4).2)) rfl) rfl) rfl rfl hl.1 rfl (lv_room (Nat.le_of_ble_eq_true rfl)) dX7_turn_54 ⟨Nat.le_of_ble_eq_true rfl, Nat.le_of_ble_eq_true rfl⟩) hD hS hA (fun r u H locs hw hP hD hS => ?_)
        have hr1 : r = (jX7_done ((jX1_turnBy o d2 y4).2) (1 : Int32)).1 := congrArg Prod.fst hw
        have hu1 : u = (jX7_done ((jX1_turnBy o d2 y4).2) (1 : Int32)).2 := congrArg Prod.snd hw
        rw [hu1] at hP hD
        rw [hr1]
        refine lv_goto (tgt := 66) hx hb dX7_turn_57 (by decide) ?_
        exact W.iret hx hb hr (fun t ht hW => ⟨⟨_, _, rfl, hJ.trans hE.symm, by rw [ht]; exact hP, va_K.moved hW.alike hK, hD⟩, hS.F ht⟩) hS.2.2 dX7_turn_66
    · skip
      rw [if_pos c5] at hJ
      rw [if_pos c5] at hV
      refine lv_bipush (v := (-102 : Int32)) hx hb dX7_turn_39 (by decide) ?_
      exact W.iret hx hb hr (fun t ht hW => ⟨⟨_, _, rfl, hJ.trans hE.symm, by rw [ht]; exact hP, va_K.moved hW.alike hK, hD⟩, hS.F ht⟩) hS.2.2 dX7_turn_41
def jX7_place (o : Os) (a1 : Int32) (a2 : Int32) : Int64 := (om (jX7_dialAt o a1) (0 : Int64) (fun d2 => (if a2 = 0 then (c_dP o d2) else (if a2 = (1 : Int32) then (c_dR o d2) else (0 : Int64)))))
def sX7_place (o : Os) (a1 : Int32) (a2 : Int32) : Prop := True ∧ (sX7_dialAt o a1 ∧ (om (jX7_dialAt o a1) True (fun d2 => (if a2 = 0 then (d2 < c_nd o ∧ True) else (if a2 = (1 : Int32) then (d2 < c_nd o ∧ True) else True)))))
set_option linter.constructorNameAsVariable false in
set_option maxHeartbeats 8000000 in
set_option maxRecDepth 100000 in
theorem qX7_place (l : Launch) (dC : Nat → ClassId) (dI : Nat → Nat → Nat) (cy : Nat → ClassId) (x : Nat) (ad : Nat → Nat) (sz : Nat) (o : Os) (a1 : Int32) (a2 : Int32) (hV : sX7_place o a1 a2) : Met l yX7_place wsX7_place ({ frames := 1, cells := 0, slots := 0, locals := 21 }) (va_Pc [.ref x, .int a1, .int a2] (wI (dC, dI) (tyA cy) (WX cy x ad o) sz)) (vp_Sl (fun r => r = jX7_place o a1 a2)) 0 0 (fun _ => False) := by
  refine Met.ofW (cc := cX7_place) (maxL := 4) (ret := some .long) (by decide) rfl ?_
  intro p e s m args below meth c s₁ B hml hv
  obtain ⟨rfl, hsz, hP, hK, hD0, hk⟩ := hv
  have hx := B.exec
  have hb := B.bytes
  have hr := B.returns
  have hts := atoms_spec (ws := wsX7_place) B.pre
  have hown : s.vm.findClass RX7 = some m.cls := findClass_of_methodNamed B.named
  have hlocks := B.notSynchronized
  subst hsz
  have hD := hD0
  obtain ⟨H, hHe⟩ : ∃ H, s.heap = H := ⟨_, rfl⟩
  have hP : va_P (dC, dI) vwCl (WX cy x ad o) H := by rw [← hHe]; exact hP
  rw [w_heap hHe]
  have hi_wsX10 : ∀ w ∈ wsX10, w ∈ wsX7_place := fun _ h => List.mem_cons_of_mem _ (List.mem_append_left _ (List.mem_append_right _ h))
  have hi_wsX70 : ∀ w ∈ wsX70, w ∈ wsX7_place := fun _ h => List.mem_cons_of_mem _ (List.mem_append_right _ h)
  obtain ⟨JR, hE⟩ : ∃ q, jX7_place o a1 a2 = q := ⟨_, rfl⟩
  have hJ := hE
  rw [jX7_place] at hJ
  rw [sX7_place] at hV
  have hV := hV.2
  have hl := lv_entry ([.ref x, .int a1, .int a2]) (n := 4) (Nat.le_of_ble_eq_true rfl)
  rw [lg_entry_eq]
  generalize (lg_sl ([.ref x, .int a1, .int a2]) ++ List.replicate (4 - (lg_sl ([.ref x, .int a1, .int a2])).length) Slot.unset).toArray = ls at hl ⊢
  have hl : lv_has ls 4 [(0, .ref x), (1, .int a1), (2, .int a2)] := hl
  refine lv_aload_n hx hb dX7_place_0 rfl (lv_at hl 0 rfl) ?_
  refine lv_iload_n hx hb dX7_place_1 rfl (lv_at hl 1 rfl) ?_
  obtain ⟨hk1, hV⟩ := hV
  refine va_csq (W.runV (As := [.int a1]) (rest := []) ⟨hx, hb, hml, hown, hts⟩ (qX7_dialAt l dC dI cy x ad H.size o a1 hk1) (cwV 1 hts gX7_place_X7_dialAt rfl rfl rfl (by decide +kernel) ⟨Nat.le_of_ble_eq_true rfl, Nat.le_of_ble_eq_true rfl⟩) (pV hK hP hD hk (q0 := 0) (wx_h (o := o) rfl) rfl) rfl rfl hl.1 rfl (lv_room (Nat.le_of_ble_eq_true rfl)) dX7_place_2 ⟨Nat.le_of_ble_eq_true rfl, Nat.le_of_ble_eq_true rfl⟩) (fun r hq9 => ?_)
  rcases hd2 : jX7_dialAt o a1 with _ | d2
  · rw [hd2, om_n] at hJ
    rw [hd2, om_n] at hV
    rw [hd2] at hq9
    refine rf_n hq9 ?_
    refine lv_astore_nN (lv' := [(3, .null), (0, .ref x), (1, .int a1), (2, .int a2)]) hx hb dX7_place_5 rfl hl (by decide) rfl (fun ls hl => ?_)
    refine lv_aload_nN hx hb dX7_place_6 rfl (lv_at hl 0 rfl) ?_
    refine lv_ifnonnullN hx hb dX7_place_7 ?_
    refine lv_lconst (v := (0 : Int64)) hx hb dX7_place_10 (by decide) ?_
    exact W.lret hx hb hr (fun t ht hW => ⟨_, rfl, hJ.trans hE.symm, ht.trans hHe.symm⟩) (fun q h => absurd h List.not_mem_nil) dX7_place_11
  · rw [hd2, om_s] at hJ
    rw [hd2, om_s] at hV
    rw [hd2] at hq9
    refine rf_s hq9 ?_
    refine lv_astore_n (lv' := [(3, .ref (ad (100 + d2))), (0, .ref x), (1, .int a1), (2, .int a2)]) hx hb dX7_place_5 rfl hl (by decide) rfl (fun ls hl => ?_)
    refine lv_aload_n hx hb dX7_place_6 rfl (lv_at hl 0 rfl) ?_
    refine lv_ifnonnull (tgt := 12) hx hb dX7_place_7 (by decide) ?_
    refine lv_iload_n hx hb dX7_place_12 rfl (lv_at hl 3 rfl) ?_
    refine lv_if_ne (tgt := 21) hx hb dX7_place_13 (by decide) (fun c3 => ?_) (fun c3 => ?_)
    · skip
      rw [if_neg c3] at hJ
      rw [if_neg c3] at hV
      refine lv_iload_n hx hb dX7_place_21 rfl (lv_at hl 3 rfl) ?_
      refine lv_iconst (v := (1 : Int32)) hx hb dX7_place_22 (by decide) ?_
      refine lv_icmp_ne (tgt := 33) hx hb dX7_place_23 (by decide) (fun c4 => ?_) (fun c4 => ?_)
      · skip
        rw [if_neg c4] at hJ
        rw [if_neg c4] at hV
        refine lv_lconst (v := (0 : Int64)) hx hb dX7_place_33 (by decide) ?_
        exact W.lret hx hb hr (fun t ht hW => ⟨_, rfl, hJ.trans hE.symm, ht.trans hHe.symm⟩) (fun q h => absurd h List.not_mem_nil) dX7_place_34
      · skip
        rw [if_pos c4] at hJ
        rw [if_pos c4] at hV
        refine lv_aload_n hx hb dX7_place_26 rfl (lv_at hl 0 rfl) ?_
        obtain ⟨hk5, hV⟩ := hV
        refine va_get (D := (dC, dI)) (ci := 1) (v := .long (c_dR o d2)) (C := RX1) (T := TX1) (N := 4) (fs := (cx_dial o d2)) hx hb hts hi_wsX10 hown hK hP (7 + d2) (wx_dial (o := o) hk5) rfl 1 (by decide) (hts (.fieldLink RX7 90 "OrreryDials$Dial" "rim" "J") (by decide +kernel)) (fun _ h9 => h9) rfl dX7_place_27 ?_
        refine lv_goto (tgt := 34) hx hb dX7_place_30 (by decide) ?_
        exact W.lret hx hb hr (fun t ht hW => ⟨_, rfl, hJ.trans hE.symm, ht.trans hHe.symm⟩) (fun q h => absurd h List.not_mem_nil) dX7_place_34
    · skip
      rw [if_pos c3] at hJ
      rw [if_pos c3] at hV
      refine lv_aload_n hx hb dX7_place_16 rfl (lv_at hl 0 rfl) ?_
      obtain ⟨hk6, hV⟩ := hV
      refine va_get (D := (dC, dI)) (ci := 1) (v := .long (c_dP o d2)) (C := RX1) (T := TX1) (N := 4) (fs := (cx_dial o d2)) hx hb hts hi_wsX10 hown hK hP (7 + d2) (wx_dial (o := o) hk6) rfl 2 (by decide) (hts (.fieldLink RX7 87 "OrreryDials$Dial" "place" "J") (by decide +kernel)) (fun _ h9 => h9) rfl dX7_place_17 ?_
      exact W.lret hx hb hr (fun t ht hW => ⟨_, rfl, hJ.trans hE.symm, ht.trans hHe.symm⟩) (fun q h => absurd h List.not_mem_nil) dX7_place_20
def jX7_laps (o : Os) (a1 : Int32) : Int64 := (om (jX7_dialAt o a1) (0 : Int64) (fun d2 => (c_dL o d2)))
def sX7_laps (o : Os) (a1 : Int32) : Prop := True ∧ (sX7_dialAt o a1 ∧ (om (jX7_dialAt o a1) True (fun d2 => (d2 < c_nd o ∧ True))))
set_option linter.constructorNameAsVariable false in
set_option maxHeartbeats 8000000 in
set_option maxRecDepth 100000 in
theorem qX7_laps (l : Launch) (dC : Nat → ClassId) (dI : Nat → Nat → Nat) (cy : Nat → ClassId) (x : Nat) (ad : Nat → Nat) (sz : Nat) (o : Os) (a1 : Int32) (hV : sX7_laps o a1) : Met l yX7_laps wsX7_laps ({ frames := 1, cells := 0, slots := 0, locals := 21 }) (va_Pc [.ref x, .int a1] (wI (dC, dI) (tyA cy) (WX cy x ad o) sz)) (vp_Sl (fun r => r = jX7_laps o a1)) 0 0 (fun _ => False) := by
  refine Met.ofW (cc := cX7_laps) (maxL := 3) (ret := some .long) (by decide) rfl ?_
  intro p e s m args below meth c s₁ B hml hv
  obtain ⟨rfl, hsz, hP, hK, hD0, hk⟩ := hv
  have hx := B.exec
  have hb := B.bytes
  have hr := B.returns
  have hts := atoms_spec (ws := wsX7_laps) B.pre
  have hown : s.vm.findClass RX7 = some m.cls := findClass_of_methodNamed B.named
  have hlocks := B.notSynchronized
  subst hsz
  have hD := hD0
  obtain ⟨H, hHe⟩ : ∃ H, s.heap = H := ⟨_, rfl⟩
  have hP : va_P (dC, dI) vwCl (WX cy x ad o) H := by rw [← hHe]; exact hP
  rw [w_heap hHe]
  have hi_wsX10 : ∀ w ∈ wsX10, w ∈ wsX7_laps := fun _ h => List.mem_cons_of_mem _ (List.mem_append_left _ (List.mem_append_right _ h))
  have hi_wsX70 : ∀ w ∈ wsX70, w ∈ wsX7_laps := fun _ h => List.mem_cons_of_mem _ (List.mem_append_right _ h)
  obtain ⟨JR, hE⟩ : ∃ q, jX7_laps o a1 = q := ⟨_, rfl⟩
  have hJ := hE
  rw [jX7_laps] at hJ
  rw [sX7_laps] at hV
  have hV := hV.2
  have hl := lv_entry ([.ref x, .int a1]) (n := 3) (Nat.le_of_ble_eq_true rfl)
  rw [lg_entry_eq]
  generalize (lg_sl ([.ref x, .int a1]) ++ List.replicate (3 - (lg_sl ([.ref x, .int a1])).length) Slot.unset).toArray = ls at hl ⊢
  have hl : lv_has ls 3 [(0, .ref x), (1, .int a1)] := hl
  refine lv_aload_n hx hb dX7_laps_0 rfl (lv_at hl 0 rfl) ?_
  refine lv_iload_n hx hb dX7_laps_1 rfl (lv_at hl 1 rfl) ?_
  obtain ⟨hk1, hV⟩ := hV
  refine va_csq (W.runV (As := [.int a1]) (rest := []) ⟨hx, hb, hml, hown, hts⟩ (qX7_dialAt l dC dI cy x ad H.size o a1 hk1) (cwV 1 hts gX7_laps_X7_dialAt rfl rfl rfl (by decide +kernel) ⟨Nat.le_of_ble_eq_true rfl, Nat.le_of_ble_eq_true rfl⟩) (pV hK hP hD hk (q0 := 0) (wx_h (o := o) rfl) rfl) rfl rfl hl.1 rfl (lv_room (Nat.le_of_ble_eq_true rfl)) dX7_laps_2 ⟨Nat.le_of_ble_eq_true rfl, Nat.le_of_ble_eq_true rfl⟩) (fun r hq9 => ?_)
  rcases hd2 : jX7_dialAt o a1 with _ | d2
  · rw [hd2, om_n] at hJ
    rw [hd2, om_n] at hV
    rw [hd2] at hq9
    refine rf_n hq9 ?_
    refine lv_astore_nN (lv' := [(2, .null), (0, .ref x), (1, .int a1)]) hx hb dX7_laps_5 rfl hl (by decide) rfl (fun ls hl => ?_)
    refine lv_aload_nN hx hb dX7_laps_6 rfl (lv_at hl 0 rfl) ?_
    refine lv_ifnonnullN hx hb dX7_laps_7 ?_
    refine lv_lconst (v := (0 : Int64)) hx hb dX7_laps_10 (by decide) ?_
    refine lv_goto (tgt := 18) hx hb dX7_laps_11 (by decide) ?_
    exact W.lret hx hb hr (fun t ht hW => ⟨_, rfl, hJ.trans hE.symm, ht.trans hHe.symm⟩) (fun q h => absurd h List.not_mem_nil) dX7_laps_18
  · rw [hd2, om_s] at hJ
    rw [hd2, om_s] at hV
    rw [hd2] at hq9
    refine rf_s hq9 ?_
    refine lv_astore_n (lv' := [(2, .ref (ad (100 + d2))), (0, .ref x), (1, .int a1)]) hx hb dX7_laps_5 rfl hl (by decide) rfl (fun ls hl => ?_)
    refine lv_aload_n hx hb dX7_laps_6 rfl (lv_at hl 0 rfl) ?_
    refine lv_ifnonnull (tgt := 14) hx hb dX7_laps_7 (by decide) ?_
    refine lv_aload_n hx hb dX7_laps_14 rfl (lv_at hl 0 rfl) ?_
    obtain ⟨hk3, hV⟩ := hV
    refine va_get (D := (dC, dI)) (ci := 1) (v := .long (c_dL o d2)) (C := RX1) (T := TX1) (N := 4) (fs := (cx_dial o d2)) hx hb hts hi_wsX10 hown hK hP (7 + d2) (wx_dial (o := o) hk3) rfl 3 (by decide) (hts (.fieldLink RX7 93 "OrreryDials$Dial" "laps" "J") (by decide +kernel)) (fun _ h9 => h9) rfl dX7_laps_15 ?_
    exact W.lret hx hb hr (fun t ht hW => ⟨_, rfl, hJ.trans hE.symm, ht.trans hHe.symm⟩) (fun q h => absurd h List.not_mem_nil) dX7_laps_18
def jX7_fine (o : Os) (a1 : Int32) : Int32 := (om (jX7_dialAt o a1) (-101 : Int32) (fun d2 => (if (c_dF o d2) = 0 then (0 : Int32) else (1 : Int32))))
def sX7_fine (o : Os) (a1 : Int32) : Prop := True ∧ (sX7_dialAt o a1 ∧ (om (jX7_dialAt o a1) True (fun d2 => (d2 < c_nd o ∧ (if (c_dF o d2) = 0 then True else True)))))
set_option linter.constructorNameAsVariable false in
set_option maxHeartbeats 8000000 in
set_option maxRecDepth 100000 in
theorem qX7_fine (l : Launch) (dC : Nat → ClassId) (dI : Nat → Nat → Nat) (cy : Nat → ClassId) (x : Nat) (ad : Nat → Nat) (sz : Nat) (o : Os) (a1 : Int32) (hV : sX7_fine o a1) : Met l yX7_fine wsX7_fine ({ frames := 1, cells := 0, slots := 0, locals := 21 }) (va_Pc [.ref x, .int a1] (wI (dC, dI) (tyA cy) (WX cy x ad o) sz)) (vp_Si (fun r => r = jX7_fine o a1)) 0 0 (fun _ => False) := by
  refine Met.ofW (cc := cX7_fine) (maxL := 3) (ret := some .int) (by decide) rfl ?_
  intro p e s m args below meth c s₁ B hml hv
  obtain ⟨rfl, hsz, hP, hK, hD0, hk⟩ := hv
  have hx := B.exec
  have hb := B.bytes
  have hr := B.returns
  have hts := atoms_spec (ws := wsX7_fine) B.pre
  have hown : s.vm.findClass RX7 = some m.cls := findClass_of_methodNamed B.named
  have hlocks := B.notSynchronized
  subst hsz
  have hD := hD0
  obtain ⟨H, hHe⟩ : ∃ H, s.heap = H := ⟨_, rfl⟩
  have hP : va_P (dC, dI) vwCl (WX cy x ad o) H := by rw [← hHe]; exact hP
  rw [w_heap hHe]
  have hi_wsX10 : ∀ w ∈ wsX10, w ∈ wsX7_fine := fun _ h => List.mem_cons_of_mem _ (List.mem_append_left _ (List.mem_append_right _ h))
  have hi_wsX70 : ∀ w ∈ wsX70, w ∈ wsX7_fine := fun _ h => List.mem_cons_of_mem _ (List.mem_append_right _ h)
  obtain ⟨JR, hE⟩ : ∃ q, jX7_fine o a1 = q := ⟨_, rfl⟩
  have hJ := hE
  rw [jX7_fine] at hJ
  rw [sX7_fine] at hV
  have hV := hV.2
  have hl := lv_entry ([.ref x, .int a1]) (n := 3) (Nat.le_of_ble_eq_true rfl)
  rw [lg_entry_eq]
  generalize (lg_sl ([.ref x, .int a1]) ++ List.replicate (3 - (lg_sl ([.ref x, .int a1])).length) Slot.unset).toArray = ls at hl ⊢
  have hl : lv_has ls 3 [(0, .ref x), (1, .int a1)] := hl
  refine lv_aload_n hx hb dX7_fine_0 rfl (lv_at hl 0 rfl) ?_
  refine lv_iload_n hx hb dX7_fine_1 rfl (lv_at hl 1 rfl) ?_
  obtain ⟨hk1, hV⟩ := hV
  refine va_csq (W.runV (As := [.int a1]) (rest := []) ⟨hx, hb, hml, hown, hts⟩ (qX7_dialAt l dC dI cy x ad H.size o a1 hk1) (cwV 1 hts gX7_fine_X7_dialAt rfl rfl rfl (by decide +kernel) ⟨Nat.le_of_ble_eq_true rfl, Nat.le_of_ble_eq_true rfl⟩) (pV hK hP hD hk (q0 := 0) (wx_h (o := o) rfl) rfl) rfl rfl hl.1 rfl (lv_room (Nat.le_of_ble_eq_true rfl)) dX7_fine_2 ⟨Nat.le_of_ble_eq_true rfl, Nat.le_of_ble_eq_true rfl⟩) (fun r hq9 => ?_)
  rcases hd2 : jX7_dialAt o a1 with _ | d2
  · rw [hd2, om_n] at hJ
    rw [hd2, om_n] at hV
    rw [hd2] at hq9
    refine rf_n hq9 ?_
    refine lv_astore_nN (lv' := [(2, .null), (0, .ref x), (1, .int a1)]) hx hb dX7_fine_5 rfl hl (by decide) rfl (fun ls hl => ?_)
    refine lv_aload_nN hx hb dX7_fine_6 rfl (lv_at hl 0 rfl) ?_
    refine lv_ifnonnullN hx hb dX7_fine_7 ?_
    refine lv_bipush (v := (-101 : Int32)) hx hb dX7_fine_10 (by decide) ?_
    exact W.iret hx hb hr (fun t ht hW => ⟨_, rfl, hJ.trans hE.symm, ht.trans hHe.symm⟩) (fun q h => absurd h List.not_mem_nil) dX7_fine_12
  · rw [hd2, om_s] at hJ
    rw [hd2, om_s] at hV
    rw [hd2] at hq9
    refine rf_s hq9 ?_
    refine lv_astore_n (lv' := [(2, .ref (ad (100 + d2))), (0, .ref x), (1, .int a1)]) hx hb dX7_fine_5 rfl hl (by decide) rfl (fun ls hl => ?_)
    refine lv_aload_n hx hb dX7_fine_6 rfl (lv_at hl 0 rfl) ?_
    refine lv_ifnonnull (tgt := 13) hx hb dX7_fine_7 (by decide) ?_
    refine lv_aload_n hx hb dX7_fine_13 rfl (lv_at hl 0 rfl) ?_
    obtain ⟨hk3, hV⟩ := hV
    refine va_get (D := (dC, dI)) (ci := 1) (v := .int (c_dF o d2)) (C := RX1) (T := TX1) (N := 4) (fs := (cx_dial o d2)) hx hb hts hi_wsX10 hown hK hP (7 + d2) (wx_dial (o := o) hk3) rfl 0 (by decide) (hts (.fieldLink RX7 72 "OrreryDials$Dial" "fine" "Z") (by decide +kernel)) (fun _ h9 => h9) rfl dX7_fine_14 ?_
    refine lv_if_eq (tgt := 24) hx hb dX7_fine_17 (by decide) (fun c4 => ?_) (fun c4 => ?_)
    · skip
      rw [if_pos c4] at hJ
      rw [if_pos c4] at hV
      refine lv_iconst (v := (0 : Int32)) hx hb dX7_fine_24 (by decide) ?_
      exact W.iret hx hb hr (fun t ht hW => ⟨_, rfl, hJ.trans hE.symm, ht.trans hHe.symm⟩) (fun q h => absurd h List.not_mem_nil) dX7_fine_25
    · skip
      rw [if_neg c4] at hJ
      rw [if_neg c4] at hV
      refine lv_iconst (v := (1 : Int32)) hx hb dX7_fine_20 (by decide) ?_
      refine lv_goto (tgt := 25) hx hb dX7_fine_21 (by decide) ?_
      exact W.iret hx hb hr (fun t ht hW => ⟨_, rfl, hJ.trans hE.symm, ht.trans hHe.symm⟩) (fun q h => absurd h List.not_mem_nil) dX7_fine_25
def jX7_laid (o : Os) (a1 : Int32) (a2 : Int32) : Int32 × Os := (if (jX7_isShaft a1) = 0 then ((-101 : Int32), o) else (if (jX7_isShaftPlace a2) = 0 then ((jX7_failWith o (-12 : Int32)).1, (jX7_failWith o (-12 : Int32)).2) else (om (c_sh o ((a1 * (4 : Int32)) + a2).toNatClampNeg) ((jX7_done o (-1 : Int32)).1, (jX7_done o (-1 : Int32)).2) (fun d4 => ((jX7_done o (nI d4)).1, (jX7_done o (nI d4)).2)))))
def sX7_laid (o : Os) (a1 : Int32) (a2 : Int32) : Prop := True ∧ (if (jX7_isShaft a1) = 0 then True else (if (jX7_isShaftPlace a2) = 0 then (sX7_failWith o (-12 : Int32) ∧ True) else (vp_in ((a1 * (4 : Int32)) + a2) 8 ∧ (om (c_sh o ((a1 * (4 : Int32)) + a2).toNatClampNeg) True (fun d4 => (d4 < c_nv o ∧ True))))))
set_option linter.constructorNameAsVariable false in
set_option maxHeartbeats 8000000 in
set_option maxRecDepth 100000 in
theorem qX7_laid (l : Launch) (dC : Nat → ClassId) (dI : Nat → Nat → Nat) (cy : Nat → ClassId) (x : Nat) (ad : Nat → Nat) (sz : Nat) (o : Os) (a1 : Int32) (a2 : Int32) (hV : sX7_laid o a1 a2) : Met l yX7_laid wsX7_laid ({ frames := 1, cells := 0, slots := 0, locals := 22 }) (va_Pc [.ref x, .int a1, .int a2] (wI (dC, dI) (tyA cy) (WX cy x ad o) sz)) (va_Qi (fun r u => (r, u) = jX7_laid o a1 a2) (fun u t => wO (dC, dI) (tyA cy) (va_A (WX cy x ad o) sz) (WX cy x ad u) t) (va_A (WX cy x ad o) sz)) 0 0 (va_A (WX cy x ad o) sz) := by
  refine Met.ofW (cc := cX7_laid) (maxL := 4) (ret := some .int) (by decide) rfl ?_
  intro p e s m args below meth c s₁ B hml hv
  obtain ⟨rfl, hsz, hP, hK, hD0, hk⟩ := hv
  have hx := B.exec
  have hb := B.bytes
  have hr := B.returns
  have hts := atoms_spec (ws := wsX7_laid) B.pre
  have hown : s.vm.findClass RX7 = some m.cls := findClass_of_methodNamed B.named
  have hlocks := B.notSynchronized
  subst hsz
  have hD := hD0.self (sz := s.heap.size)
  generalize hAe : va_A (WX cy x ad o) s.heap.size = A at hD ⊢
  have hA : ∀ q : Nat, s.heap.size ≤ q → A q := fun q h => by rw [← hAe]; exact Or.inr h
  obtain ⟨H, hHe⟩ : ∃ H, s.heap = H := ⟨_, rfl⟩
  have hP : va_P (dC, dI) vwCl (WX cy x ad o) H := by rw [← hHe]; exact hP
  have hS : va_S A s.heap H [] := by rw [← hHe]; exact va_S.rf
  rw [w_heap hHe]
  have hi_wsX70 : ∀ w ∈ wsX70, w ∈ wsX7_laid := fun _ h => List.mem_cons_of_mem _ (List.mem_append_left _ (List.mem_append_left _ (List.mem_append_left _ (List.mem_append_right _ h))))
  have hi_wsX00 : ∀ w ∈ wsX00, w ∈ wsX7_laid := fun _ h => List.mem_cons_of_mem _ (List.mem_append_left _ (List.mem_append_left _ (List.mem_append_right _ h)))
  have hi_wsX30 : ∀ w ∈ wsX30, w ∈ wsX7_laid := fun _ h => List.mem_cons_of_mem _ (List.mem_append_left _ (List.mem_append_right _ h))
  have hi_wsX60 : ∀ w ∈ wsX60, w ∈ wsX7_laid := fun _ h => List.mem_cons_of_mem _ (List.mem_append_right _ h)
  obtain ⟨JR, hE⟩ : ∃ q, jX7_laid o a1 a2 = q := ⟨_, rfl⟩
  have hJ := hE
  rw [jX7_laid] at hJ
  rw [sX7_laid] at hV
  have hV := hV.2
  have hl := lv_entry ([.ref x, .int a1, .int a2]) (n := 4) (Nat.le_of_ble_eq_true rfl)
  rw [lg_entry_eq]
  generalize (lg_sl ([.ref x, .int a1, .int a2]) ++ List.replicate (4 - (lg_sl ([.ref x, .int a1, .int a2])).length) Slot.unset).toArray = ls at hl ⊢
  have hl : lv_has ls 4 [(0, .ref x), (1, .int a1), (2, .int a2)] := hl
  refine lv_iload_n hx hb dX7_laid_0 rfl (lv_at hl 1 rfl) ?_
  refine vp_callSi (W.runS (As := [.int a1]) (rest := []) ⟨hx, hb, hml, hown, hts⟩ (qX7_isShaft l a1) (va_cwS 1 hts gX7_laid_X7_isShaft rfl rfl rfl (by decide +kernel) ⟨Nat.le_of_ble_eq_true rfl, Nat.le_of_ble_eq_true rfl⟩) ⟨fun _ _ _ _ q => q, fun U hU hW => rfl⟩ rfl rfl hl.1 rfl (lv_room (Nat.le_of_ble_eq_true rfl)) dX7_laid_1 ⟨Nat.le_of_ble_eq_true rfl, Nat.le_of_ble_eq_true rfl⟩) (fun r hq9 => ?_)
  rw [hq9]
  refine lv_if_ne (tgt := 10) hx hb dX7_laid_4 (by decide) (fun c1 => ?_) (fun c1 => ?_)
  · skip
    rw [if_neg c1] at hJ
    rw [if_neg c1] at hV
    refine lv_iload_n hx hb dX7_laid_10 rfl (lv_at hl 2 rfl) ?_
    refine vp_callSi (W.runS (As := [.int a2]) (rest := []) ⟨hx, hb, hml, hown, hts⟩ (qX7_isShaftPlace l a2) (va_cwS 1 hts gX7_laid_X7_isShaftPlace rfl rfl rfl (by decide +kernel) ⟨Nat.le_of_ble_eq_true rfl, Nat.le_of_ble_eq_true rfl⟩) ⟨fun _ _ _ _ q => q, fun U hU hW => rfl⟩ rfl rfl hl.1 rfl (lv_room (Nat.le_of_ble_eq_true rfl)) dX7_laid_11 ⟨Nat.le_of_ble_eq_true rfl, Nat.le_of_ble_eq_true rfl⟩) (fun r hq9 => ?_)
    rw [hq9]
    refine lv_if_ne (tgt := 24) hx hb dX7_laid_14 (by decide) (fun c2 => ?_) (fun c2 => ?_)
    · skip
      rw [if_neg c2] at hJ
      rw [if_neg c2] at hV
      refine lv_aload_n hx hb dX7_laid_24 rfl (lv_at hl 0 rfl) ?_
      refine va_get (D := (dC, dI)) (ci := 5) (v := .ref (ad 4)) (C := RX7) (T := TX7) (N := 10) (fs := (cx_f ad o)) hx hb hts hi_wsX70 hown hK hP 0 (wx_h (o := o) rfl) rfl 5 (by decide) (hts (.fieldLink RX7 31 "OrreryDials" "shaftPlaces" "[LOrreryDials$Drive;") (by decide +kernel)) (fun _ h9 => h9) rfl dX7_laid_25 ?_
      refine lv_iload_n hx hb dX7_laid_28 rfl (lv_at hl 1 rfl) ?_
      refine lv_iconst (v := (4 : Int32)) hx hb dX7_laid_29 (by decide) ?_
      refine lv_imul hx hb dX7_laid_30 ?_
      refine lv_iload_n hx hb dX7_laid_31 rfl (lv_at hl 2 rfl) ?_
      refine lv_iadd hx hb dX7_laid_32 ?_
      obtain ⟨hk3, hV⟩ := hV
      refine va_aldq hx hb hK hP 4 6 (wx_h (o := o) rfl) rfl hk3 dX7_laid_33 ?_
      rcases hd4 : c_sh o ((a1 * (4 : Int32)) + a2).toNatClampNeg with _ | d4
      · rw [hd4, om_n] at hJ
        rw [hd4, om_n] at hV
        refine rf_n (show cx_hr ad o ((a1 * (4 : Int32)) + a2).toNatClampNeg = none by unfold cx_hr; rw [hd4]; rfl) ?_
        refine lv_astore_nN (lv' := [(3, .null), (0, .ref x), (1, .int a1), (2, .int a2)]) hx hb dX7_laid_34 rfl hl (by decide) rfl (fun ls hl => ?_)
        refine lv_aload_n hx hb dX7_laid_35 rfl (lv_at hl 1 rfl) ?_
        refine lv_aload_nN hx hb dX7_laid_36 rfl (lv_at hl 0 rfl) ?_
        refine lv_ifnonnullN hx hb dX7_laid_37 ?_
        refine lv_iconst (v := (-1 : Int32)) hx hb dX7_laid_40 (by decide) ?_
        refine lv_goto (tgt := 48) hx hb dX7_laid_41 (by decide) ?_
        refine cl_i (va_runV (As := [.int (-1 : Int32)]) (rest := []) ⟨hx, hb, hml, hown, hts⟩ (qX7_done l dC dI cy x ad H.size o (-1 : Int32)) (cwV 1 hts gX7_laid_X7_done rfl rfl rfl (by decide +kernel) ⟨Nat.le_of_ble_eq_true rfl, Nat.le_of_ble_eq_true rfl⟩) (pV hK hP hD hk (q0 := 0) (wx_h (o := o) rfl) rfl) rfl rfl hl.1 rfl (lv_room (Nat.le_of_ble_eq_true rfl)) dX7_laid_48 ⟨Nat.le_of_ble_eq_true rfl, Nat.le_of_ble_eq_true rfl⟩) hD hS hA (fun r u H locs hw hP hD hS => ?_)
        have hr1 : r = (jX7_done o (-1 : Int32)).1 := congrArg Prod.fst hw
        have hu1 : u = (jX7_done o (-1 : Int32)).2 := congrArg Prod.snd hw
        rw [hu1] at hP hD
        rw [hr1]
        exact W.iret hx hb hr (fun t ht hW => ⟨⟨_, _, rfl, hJ.trans hE.symm, by rw [ht]; exact hP, va_K.moved hW.alike hK, hD⟩, hS.F ht⟩) hS.2.2 dX7_laid_51
      · rw [hd4, om_s] at hJ
        rw [hd4, om_s] at hV
        refine rf_s (show cx_hr ad o ((a1 * (4 : Int32)) + a2).toNatClampNeg = some (ad (200 + d4)) by unfold cx_hr; rw [hd4]; rfl) ?_
        refine lv_astore_n (lv' := [(3, .ref (ad (200 + d4))), (0, .ref x), (1, .int a1), (2, .int a2)]) hx hb dX7_laid_34 rfl hl (by decide) rfl (fun ls hl => ?_)
        refine lv_aload_n hx hb dX7_laid_35 rfl (lv_at hl 1 rfl) ?_
        refine lv_aload_n hx hb dX7_laid_36 rfl (lv_at hl 0 rfl) ?_
        refine lv_ifnonnull (tgt := 44) hx hb dX7_laid_37 (by decide) ?_
        refine lv_aload_n hx hb dX7_laid_44 rfl (lv_at hl 0 rfl) ?_
        obtain ⟨hk5, hV⟩ := hV
        refine cs3 (c_vS o d4 = 0) (c_vS o d4 = 1) (fun g0 kk => va_get (D := (dC, dI)) (ci := 4) (v := .int (nI d4)) (C := RX6) (T := TX6) (N := 3) (fs := cx_spring o d4) hx hb hts hi_wsX60 hown hK hP (7 + (c_nd o + d4)) (wx_spring (o := o) hk5 g0) rfl 0 (by decide) (hts (.fieldLink RX7 123 "OrreryDials$Drive" "number" "I") (by decide +kernel)) (fun _ h9 => h9) rfl dX7_laid_45 kk) (fun g0 g1 kk => va_get (D := (dC, dI)) (ci := 0) (v := .int (nI d4)) (C := RX0) (T := TX0) (N := 4) (fs := cx_crank o d4) hx hb hts hi_wsX00 hown hK hP (7 + (c_nd o + d4)) (wx_crank (o := o) hk5 g0 g1) rfl 0 (by decide) (hts (.fieldLink RX7 123 "OrreryDials$Drive" "number" "I") (by decide +kernel)) (fun _ h9 => h9) rfl dX7_laid_45 kk) (fun g0 g1 kk => va_get (D := (dC, dI)) (ci := 2) (v := .int (nI d4)) (C := RX3) (T := TX3) (N := 4) (fs := cx_fly o d4) hx hb hts hi_wsX30 hown hK hP (7 + (c_nd o + d4)) (wx_fly (o := o) hk5 g0 g1) rfl 1 (by decide) (hts (.fieldLink RX7 123 "OrreryDials$Drive" "number" "I") (by decide +kernel)) (fun _ h9 => h9) rfl dX7_laid_45 kk) ?_
        refine cl_i (va_runV (As := [.int (nI d4)]) (rest := []) ⟨hx, hb, hml, hown, hts⟩ (qX7_done l dC dI cy x ad H.size o (nI d4)) (cwV 1 hts gX7_laid_X7_done rfl rfl rfl (by decide +kernel) ⟨Nat.le_of_ble_eq_true rfl, Nat.le_of_ble_eq_true rfl⟩) (pV hK hP hD hk (q0 := 0) (wx_h (o := o) rfl) rfl) rfl rfl hl.1 rfl (lv_room (Nat.le_of_ble_eq_true rfl)) dX7_laid_48 ⟨Nat.le_of_ble_eq_true rfl, Nat.le_of_ble_eq_true rfl⟩) hD hS hA (fun r u H locs hw hP hD hS => ?_)
        have hr1 : r = (jX7_done o (nI d4)).1 := congrArg Prod.fst hw
        have hu1 : u = (jX7_done o (nI d4)).2 := congrArg Prod.snd hw
        rw [hu1] at hP hD
        rw [hr1]
        exact W.iret hx hb hr (fun t ht hW => ⟨⟨_, _, rfl, hJ.trans hE.symm, by rw [ht]; exact hP, va_K.moved hW.alike hK, hD⟩, hS.F ht⟩) hS.2.2 dX7_laid_51
    · skip
      rw [if_pos c2] at hJ
      rw [if_pos c2] at hV
      refine lv_aload_n hx hb dX7_laid_17 rfl (lv_at hl 0 rfl) ?_
      refine lv_bipush (v := (-12 : Int32)) hx hb dX7_laid_18 (by decide) ?_
      obtain ⟨hk6, hV⟩ := hV
      refine cl_i (va_runV (As := [.int (-12 : Int32)]) (rest := []) ⟨hx, hb, hml, hown, hts⟩ (qX7_failWith l dC dI cy x ad H.size o (-12 : Int32) hk6) (cwV 1 hts gX7_laid_X7_failWith rfl rfl rfl (by decide +kernel) ⟨Nat.le_of_ble_eq_true rfl, Nat.le_of_ble_eq_true rfl⟩) (pV hK hP hD hk (q0 := 0) (wx_h (o := o) rfl) rfl) rfl rfl hl.1 rfl (lv_room (Nat.le_of_ble_eq_true rfl)) dX7_laid_20 ⟨Nat.le_of_ble_eq_true rfl, Nat.le_of_ble_eq_true rfl⟩) hD hS hA (fun r u H locs hw hP hD hS => ?_)
      have hr1 : r = (jX7_failWith o (-12 : Int32)).1 := congrArg Prod.fst hw
      have hu1 : u = (jX7_failWith o (-12 : Int32)).2 := congrArg Prod.snd hw
      rw [hu1] at hP hD
      rw [hr1]
      exact W.iret hx hb hr (fun t ht hW => ⟨⟨_, _, rfl, hJ.trans hE.symm, by rw [ht]; exact hP, va_K.moved hW.alike hK, hD⟩, hS.F ht⟩) hS.2.2 dX7_laid_23
  · skip
    rw [if_pos c1] at hJ
    rw [if_pos c1] at hV
    refine lv_bipush (v := (-101 : Int32)) hx hb dX7_laid_7 (by decide) ?_
    exact W.iret hx hb hr (fun t ht hW => ⟨⟨_, _, rfl, hJ.trans hE.symm, by rw [ht]; exact hP, va_K.moved hW.alike hK, hD⟩, hS.F ht⟩) hS.2.2 dX7_laid_9
def jX7_pulls (o : Os) (a1 : Int32) : Int32 := (om (jX7_driveAt o a1) (-101 : Int32) (fun d2 => (c_vC o d2)))
def sX7_pulls (o : Os) (a1 : Int32) : Prop := True ∧ (sX7_driveAt o a1 ∧ (om (jX7_driveAt o a1) True (fun d2 => (d2 < c_nv o ∧ True))))
set_option linter.constructorNameAsVariable false in
set_option maxHeartbeats 8000000 in
set_option maxRecDepth 100000 in
theorem qX7_pulls (l : Launch) (dC : Nat → ClassId) (dI : Nat → Nat → Nat) (cy : Nat → ClassId) (x : Nat) (ad : Nat → Nat) (sz : Nat) (o : Os) (a1 : Int32) (hV : sX7_pulls o a1) : Met l yX7_pulls wsX7_pulls ({ frames := 1, cells := 0, slots := 0, locals := 21 }) (va_Pc [.ref x, .int a1] (wI (dC, dI) (tyA cy) (WX cy x ad o) sz)) (vp_Si (fun r => r = jX7_pulls o a1)) 0 0 (fun _ => False) := by
  refine Met.ofW (cc := cX7_pulls) (maxL := 3) (ret := some .int) (by decide) rfl ?_
  intro p e s m args below meth c s₁ B hml hv
  obtain ⟨rfl, hsz, hP, hK, hD0, hk⟩ := hv
  have hx := B.exec
  have hb := B.bytes
  have hr := B.returns
  have hts := atoms_spec (ws := wsX7_pulls) B.pre
  have hown : s.vm.findClass RX7 = some m.cls := findClass_of_methodNamed B.named
  have hlocks := B.notSynchronized
  subst hsz
  have hD := hD0
  obtain ⟨H, hHe⟩ : ∃ H, s.heap = H := ⟨_, rfl⟩
  have hP : va_P (dC, dI) vwCl (WX cy x ad o) H := by rw [← hHe]; exact hP
  rw [w_heap hHe]
  have hi_wsX00 : ∀ w ∈ wsX00, w ∈ wsX7_pulls := fun _ h => List.mem_cons_of_mem _ (List.mem_append_left _ (List.mem_append_left _ (List.mem_append_left _ (List.mem_append_right _ h))))
  have hi_wsX30 : ∀ w ∈ wsX30, w ∈ wsX7_pulls := fun _ h => List.mem_cons_of_mem _ (List.mem_append_left _ (List.mem_append_left _ (List.mem_append_right _ h)))
  have hi_wsX60 : ∀ w ∈ wsX60, w ∈ wsX7_pulls := fun _ h => List.mem_cons_of_mem _ (List.mem_append_left _ (List.mem_append_right _ h))
  have hi_wsX70 : ∀ w ∈ wsX70, w ∈ wsX7_pulls := fun _ h => List.mem_cons_of_mem _ (List.mem_append_right _ h)
  obtain ⟨JR, hE⟩ : ∃ q, jX7_pulls o a1 = q := ⟨_, rfl⟩
  have hJ := hE
  rw [jX7_pulls] at hJ
  rw [sX7_pulls] at hV
  have hV := hV.2
  have hl := lv_entry ([.ref x, .int a1]) (n := 3) (Nat.le_of_ble_eq_true rfl)
  rw [lg_entry_eq]
  generalize (lg_sl ([.ref x, .int a1]) ++ List.replicate (3 - (lg_sl ([.ref x, .int a1])).length) Slot.unset).toArray = ls at hl ⊢
  have hl : lv_has ls 3 [(0, .ref x), (1, .int a1)] := hl
  refine lv_aload_n hx hb dX7_pulls_0 rfl (lv_at hl 0 rfl) ?_
  refine lv_iload_n hx hb dX7_pulls_1 rfl (lv_at hl 1 rfl) ?_
  obtain ⟨hk1, hV⟩ := hV
  refine va_csq (W.runV (As := [.int a1]) (rest := []) ⟨hx, hb, hml, hown, hts⟩ (qX7_driveAt l dC dI cy x ad H.size o a1 hk1) (cwV 1 hts gX7_pulls_X7_driveAt rfl rfl rfl (by decide +kernel) ⟨Nat.le_of_ble_eq_true rfl, Nat.le_of_ble_eq_true rfl⟩) (pV hK hP hD hk (q0 := 0) (wx_h (o := o) rfl) rfl) rfl rfl hl.1 rfl (lv_room (Nat.le_of_ble_eq_true rfl)) dX7_pulls_2 ⟨Nat.le_of_ble_eq_true rfl, Nat.le_of_ble_eq_true rfl⟩) (fun r hq9 => ?_)
  rcases hd2 : jX7_driveAt o a1 with _ | d2
  · rw [hd2, om_n] at hJ
    rw [hd2, om_n] at hV
    rw [hd2] at hq9
    refine rf_n hq9 ?_
    refine lv_astore_nN (lv' := [(2, .null), (0, .ref x), (1, .int a1)]) hx hb dX7_pulls_5 rfl hl (by decide) rfl (fun ls hl => ?_)
    refine lv_aload_nN hx hb dX7_pulls_6 rfl (lv_at hl 0 rfl) ?_
    refine lv_ifnonnullN hx hb dX7_pulls_7 ?_
    refine lv_bipush (v := (-101 : Int32)) hx hb dX7_pulls_10 (by decide) ?_
    refine lv_goto (tgt := 19) hx hb dX7_pulls_12 (by decide) ?_
    exact W.iret hx hb hr (fun t ht hW => ⟨_, rfl, hJ.trans hE.symm, ht.trans hHe.symm⟩) (fun q h => absurd h List.not_mem_nil) dX7_pulls_19
  · rw [hd2, om_s] at hJ
    rw [hd2, om_s] at hV
    rw [hd2] at hq9
    refine rf_s hq9 ?_
    refine lv_astore_n (lv' := [(2, .ref (ad (200 + d2))), (0, .ref x), (1, .int a1)]) hx hb dX7_pulls_5 rfl hl (by decide) rfl (fun ls hl => ?_)
    refine lv_aload_n hx hb dX7_pulls_6 rfl (lv_at hl 0 rfl) ?_
    refine lv_ifnonnull (tgt := 15) hx hb dX7_pulls_7 (by decide) ?_
    refine lv_aload_n hx hb dX7_pulls_15 rfl (lv_at hl 0 rfl) ?_
    obtain ⟨hk3, hV⟩ := hV
    refine cs3 (c_vS o d2 = 0) (c_vS o d2 = 1) (fun g0 kk => va_get (D := (dC, dI)) (ci := 4) (v := .int (c_vC o d2)) (C := RX6) (T := TX6) (N := 3) (fs := cx_spring o d2) hx hb hts hi_wsX60 hown hK hP (7 + (c_nd o + d2)) (wx_spring (o := o) hk3 g0) rfl 2 (by decide) (hts (.fieldLink RX7 126 "OrreryDials$Drive" "pullCount" "I") (by decide +kernel)) (fun _ h9 => h9) rfl dX7_pulls_16 kk) (fun g0 g1 kk => va_get (D := (dC, dI)) (ci := 0) (v := .int (c_vC o d2)) (C := RX0) (T := TX0) (N := 4) (fs := cx_crank o d2) hx hb hts hi_wsX00 hown hK hP (7 + (c_nd o + d2)) (wx_crank (o := o) hk3 g0 g1) rfl 2 (by decide) (hts (.fieldLink RX7 126 "OrreryDials$Drive" "pullCount" "I") (by decide +kernel)) (fun _ h9 => h9) rfl dX7_pulls_16 kk) (fun g0 g1 kk => va_get (D := (dC, dI)) (ci := 2) (v := .int (c_vC o d2)) (C := RX3) (T := TX3) (N := 4) (fs := cx_fly o d2) hx hb hts hi_wsX30 hown hK hP (7 + (c_nd o + d2)) (wx_fly (o := o) hk3 g0 g1) rfl 3 (by decide) (hts (.fieldLink RX7 126 "OrreryDials$Drive" "pullCount" "I") (by decide +kernel)) (fun _ h9 => h9) rfl dX7_pulls_16 kk) ?_
    exact W.iret hx hb hr (fun t ht hW => ⟨_, rfl, hJ.trans hE.symm, ht.trans hHe.symm⟩) (fun q h => absurd h List.not_mem_nil) dX7_pulls_19
def jX7_write_y7 (o : Os) (a1 : Int32) (a2 : Int32) (a3 : Int32) (a4 : Int64) (d2 : Nat) (y3 : Int64) (y7 : Int32) : Int32 × Os := (if y7 = 0 then ((jX7_done (t_rP o (va_up (c_rP o) d2 (vp_updL (c_rP o d2) a3.toNatClampNeg y3))) (1 : Int32)).1, (jX7_done (t_rP o (va_up (c_rP o) d2 (vp_updL (c_rP o d2) a3.toNatClampNeg y3))) (1 : Int32)).2) else ((jX7_failWith o y7).1, (jX7_failWith o y7).2))
def sX7_write_y7 (o : Os) (a1 : Int32) (a2 : Int32) (a3 : Int32) (a4 : Int64) (d2 : Nat) (y3 : Int64) (y7 : Int32) : Prop := True ∧ (if y7 = 0 then (vp_in a3 16 ∧ True) else (sX7_failWith o y7 ∧ True))
def jX7_write_y3 (o : Os) (a1 : Int32) (a2 : Int32) (a3 : Int32) (a4 : Int64) (d2 : Nat) (y3 : Int64) : Int32 × Os := (if (jX4_isFit a2 y3) = 0 then ((-102 : Int32), o) else (jX7_write_y7 o a1 a2 a3 a4 d2 y3 (jX5_failureAt o d2 a3)))
def sX7_write_y3 (o : Os) (a1 : Int32) (a2 : Int32) (a3 : Int32) (a4 : Int64) (d2 : Nat) (y3 : Int64) : Prop := True ∧ (if (jX4_isFit a2 y3) = 0 then True else (sX5_failureAt o d2 a3 ∧ (d2 < 16 ∧ (sX7_write_y7 o a1 a2 a3 a4 d2 y3 (jX5_failureAt o d2 a3)))))
def jX7_write (o : Os) (a1 : Int32) (a2 : Int32) (a3 : Int32) (a4 : Int64) : Int32 × Os := (om (jX7_rowAt o a1 a2) ((-101 : Int32), o) (fun d2 => (jX7_write_y3 o a1 a2 a3 a4 d2 (jX4_told a2 a4))))
def sX7_write (o : Os) (a1 : Int32) (a2 : Int32) (a3 : Int32) (a4 : Int64) : Prop := True ∧ (sX7_rowAt o a1 a2 ∧ (om (jX7_rowAt o a1 a2) True (fun d2 => (sX7_write_y3 o a1 a2 a3 a4 d2 (jX4_told a2 a4)))))
set_option linter.constructorNameAsVariable false in
set_option maxHeartbeats 8000000 in
set_option maxRecDepth 100000 in
theorem qX7_write (l : Launch) (dC : Nat → ClassId) (dI : Nat → Nat → Nat) (cy : Nat → ClassId) (x : Nat) (ad : Nat → Nat) (sz : Nat) (o : Os) (a1 : Int32) (a2 : Int32) (a3 : Int32) (a4 : Int64) (hV : sX7_write o a1 a2 a3 a4) : Met l yX7_write wsX7_write ({ frames := 2, cells := 0, slots := 0, locals := 44 }) (va_Pc [.ref x, .int a1, .int a2, .int a3, .long a4] (wI (dC, dI) (tyA cy) (WX cy x ad o) sz)) (va_Qi (fun r u => (r, u) = jX7_write o a1 a2 a3 a4) (fun u t => wO (dC, dI) (tyA cy) (va_A (WX cy x ad o) sz) (WX cy x ad u) t) (va_A (WX cy x ad o) sz)) 0 0 (va_A (WX cy x ad o) sz) := by
  refine Met.ofW (cc := cX7_write) (maxL := 10) (ret := some .int) (by decide) rfl ?_
  intro p e s m args below meth c s₁ B hml hv
  obtain ⟨rfl, hsz, hP, hK, hD0, hk⟩ := hv
  have hx := B.exec
  have hb := B.bytes
  have hr := B.returns
  have hts := atoms_spec (ws := wsX7_write) B.pre
  have hown : s.vm.findClass RX7 = some m.cls := findClass_of_methodNamed B.named
  have hlocks := B.notSynchronized
  subst hsz
  have hD := hD0.self (sz := s.heap.size)
  generalize hAe : va_A (WX cy x ad o) s.heap.size = A at hD ⊢
  have hA : ∀ q : Nat, s.heap.size ≤ q → A q := fun q h => by rw [← hAe]; exact Or.inr h
  obtain ⟨H, hHe⟩ : ∃ H, s.heap = H := ⟨_, rfl⟩
  have hP : va_P (dC, dI) vwCl (WX cy x ad o) H := by rw [← hHe]; exact hP
  have hS : va_S A s.heap H [] := by rw [← hHe]; exact va_S.rf
  rw [w_heap hHe]
  have hi_wsX50 : ∀ w ∈ wsX50, w ∈ wsX7_write := fun _ h => List.mem_cons_of_mem _ (List.mem_append_left _ (List.mem_append_right _ h))
  have hi_wsX70 : ∀ w ∈ wsX70, w ∈ wsX7_write := fun _ h => List.mem_cons_of_mem _ (List.mem_append_right _ h)
  obtain ⟨JR, hE⟩ : ∃ q, jX7_write o a1 a2 a3 a4 = q := ⟨_, rfl⟩
  have hJ := hE
  rw [jX7_write] at hJ
  rw [sX7_write] at hV
  have hV := hV.2
  have hl := lv_entry ([.ref x, .int a1, .int a2, .int a3, .long a4]) (n := 10) (Nat.le_of_ble_eq_true rfl)
  rw [lg_entry_eq]
  generalize (lg_sl ([.ref x, .int a1, .int a2, .int a3, .long a4]) ++ List.replicate (10 - (lg_sl ([.ref x, .int a1, .int a2, .int a3, .long a4])).length) Slot.unset).toArray = ls at hl ⊢
  have hl : lv_has ls 10 [(0, .ref x), (1, .int a1), (2, .int a2), (3, .int a3), (4, .long a4)] := hl
  refine lv_aload_n hx hb dX7_write_0 rfl (lv_at hl 0 rfl) ?_
  refine lv_iload_n hx hb dX7_write_1 rfl (lv_at hl 1 rfl) ?_
  refine lv_iload_n hx hb dX7_write_2 rfl (lv_at hl 2 rfl) ?_
  obtain ⟨hk1, hV⟩ := hV
  refine va_csq (W.runV (As := [.int a1, .int a2]) (rest := []) ⟨hx, hb, hml, hown, hts⟩ (qX7_rowAt l dC dI cy x ad H.size o a1 a2 hk1) (cwV 2 hts gX7_write_X7_rowAt rfl rfl rfl (by decide +kernel) ⟨Nat.le_of_ble_eq_true rfl, Nat.le_of_ble_eq_true rfl⟩) (pV hK hP hD hk (q0 := 0) (wx_h (o := o) rfl) rfl) rfl rfl hl.1 rfl (lv_room (Nat.le_of_ble_eq_true rfl)) dX7_write_3 ⟨Nat.le_of_ble_eq_true rfl, Nat.le_of_ble_eq_true rfl⟩) (fun r hq9 => ?_)
  rcases hd2 : jX7_rowAt o a1 a2 with _ | d2
  · rw [hd2, om_n] at hJ
    rw [hd2, om_n] at hV
    rw [hd2] at hq9
    refine rf_n hq9 ?_
    refine lv_astoreN (lv' := [(6, .null), (0, .ref x), (1, .int a1), (2, .int a2), (3, .int a3), (4, .long a4)]) hx hb dX7_write_6 hl (by decide) rfl (fun ls hl => ?_)
    refine lv_aloadN hx hb dX7_write_8 (lv_at hl 0 rfl) ?_
    refine lv_ifnonnullN hx hb dX7_write_10 ?_
    refine lv_bipush (v := (-101 : Int32)) hx hb dX7_write_13 (by decide) ?_
    exact W.iret hx hb hr (fun t ht hW => ⟨⟨_, _, rfl, hJ.trans hE.symm, by rw [ht]; exact hP, va_K.moved hW.alike hK, hD⟩, hS.F ht⟩) hS.2.2 dX7_write_15
  · rw [hd2, om_s] at hJ
    rw [hd2, om_s] at hV
    rw [hd2] at hq9
    refine rf_s hq9 ?_
    refine lv_astore (lv' := [(6, .ref (ad (300 + d2))), (0, .ref x), (1, .int a1), (2, .int a2), (3, .int a3), (4, .long a4)]) hx hb dX7_write_6 hl (by decide) rfl (fun ls hl => ?_)
    refine lv_aload hx hb dX7_write_8 (lv_at hl 0 rfl) ?_
    refine lv_ifnonnull (tgt := 16) hx hb dX7_write_10 (by decide) ?_
    refine lv_iload_n hx hb dX7_write_16 rfl (lv_at hl 3 rfl) ?_
    refine lv_lload hx hb dX7_write_17 (lv_at hl 5 rfl) ?_
    refine vp_callSl (W.runS (As := [.int a2, .long a4]) (rest := []) ⟨hx, hb, hml, hown, hts⟩ (qX4_told l a2 a4) (va_cwS 2 hts gX7_write_X4_told rfl rfl rfl (by decide +kernel) ⟨Nat.le_of_ble_eq_true rfl, Nat.le_of_ble_eq_true rfl⟩) ⟨fun _ _ _ _ q => q, fun U hU hW => rfl⟩ rfl rfl hl.1 rfl (lv_room (Nat.le_of_ble_eq_true rfl)) dX7_write_19 ⟨Nat.le_of_ble_eq_true rfl, Nat.le_of_ble_eq_true rfl⟩) (fun r hq9 => ?_)
    rw [hq9]
    refine lv_topl (fun y3 ey3 => ?_)
    rw [← ey3] at hJ
    rw [jX7_write_y3] at hJ
    rw [← ey3] at hV
    rw [sX7_write_y3] at hV
    have hV := hV.2
    refine lv_lstore (lv' := [(7, .long y3), (6, .ref (ad (300 + d2))), (0, .ref x), (1, .int a1), (2, .int a2), (3, .int a3), (4, .long a4)]) hx hb dX7_write_22 hl (by decide) rfl (fun ls hl => ?_)
    refine lv_iload_n hx hb dX7_write_24 rfl (lv_at hl 4 rfl) ?_
    refine lv_lload hx hb dX7_write_25 (lv_at hl 0 rfl) ?_
    refine vp_callSi (W.runS (As := [.int a2, .long y3]) (rest := []) ⟨hx, hb, hml, hown, hts⟩ (qX4_isFit l a2 y3) (va_cwS 2 hts gX7_write_X4_isFit rfl rfl rfl (by decide +kernel) ⟨Nat.le_of_ble_eq_true rfl, Nat.le_of_ble_eq_true rfl⟩) ⟨fun _ _ _ _ q => q, fun U hU hW => rfl⟩ rfl rfl hl.1 rfl (lv_room (Nat.le_of_ble_eq_true rfl)) dX7_write_27 ⟨Nat.le_of_ble_eq_true rfl, Nat.le_of_ble_eq_true rfl⟩) (fun r hq9 => ?_)
    rw [hq9]
    refine lv_if_ne (tgt := 36) hx hb dX7_write_30 (by decide) (fun c4 => ?_) (fun c4 => ?_)
    · skip
      rw [if_neg c4] at hJ
      rw [if_neg c4] at hV
      refine lv_aload hx hb dX7_write_36 (lv_at hl 1 rfl) ?_
      refine lv_iload_n hx hb dX7_write_38 rfl (lv_at hl 5 rfl) ?_
      obtain ⟨hk5, hV⟩ := hV
      obtain ⟨hk6, hV⟩ := hV
      refine vp_callSi (W.runV (As := [.int a3]) (rest := []) ⟨hx, hb, hml, hown, hts⟩ (qX5_failureAt l dC dI cy x ad H.size o d2 a3 hk5) (cwV 1 hts gX7_write_X5_failureAt rfl rfl rfl (by decide +kernel) ⟨Nat.le_of_ble_eq_true rfl, Nat.le_of_ble_eq_true rfl⟩) (pV hK hP hD hk (q0 := (7 + (c_nd o + (c_nv o + d2)))) (wx_row (o := o) hk6) rfl) rfl rfl hl.1 rfl (lv_room (Nat.le_of_ble_eq_true rfl)) dX7_write_39 ⟨Nat.le_of_ble_eq_true rfl, Nat.le_of_ble_eq_true rfl⟩) (fun r hq9 => ?_)
      rw [hq9]
      refine lv_topi (fun y7 ey7 => ?_)
      rw [← ey7] at hJ
      rw [jX7_write_y7] at hJ
      rw [← ey7] at hV
      rw [sX7_write_y7] at hV
      have hV := hV.2
      refine lv_istore (lv' := [(9, .int y7), (7, .long y3), (6, .ref (ad (300 + d2))), (0, .ref x), (1, .int a1), (2, .int a2), (3, .int a3), (4, .long a4)]) hx hb dX7_write_42 hl (by decide) rfl (fun ls hl => ?_)
      refine lv_iload hx hb dX7_write_44 (lv_at hl 0 rfl) ?_
      refine lv_if_eq (tgt := 56) hx hb dX7_write_46 (by decide) (fun c8 => ?_) (fun c8 => ?_)
      · skip
        rw [if_pos c8] at hJ
        rw [if_pos c8] at hV
        refine lv_aload hx hb dX7_write_56 (lv_at hl 2 rfl) ?_
        refine va_get (D := (dC, dI)) (ci := 3) (v := .ref (ad (400 + d2))) (C := RX5) (T := TX5) (N := 2) (fs := (cx_row ad o d2)) hx hb hts hi_wsX50 hown hK hP (7 + (c_nd o + (c_nv o + d2))) (wx_row (o := o) hk6) rfl 0 (by decide) (hts (.fieldLink RX7 140 "OrreryDials$Row" "places" "[J") (by decide +kernel)) (fun _ h9 => h9) rfl dX7_write_58 ?_
        refine lv_iload_n hx hb dX7_write_61 rfl (lv_at hl 6 rfl) ?_
        refine lv_lload hx hb dX7_write_62 (lv_at hl 1 rfl) ?_
        obtain ⟨hk9, hV⟩ := hV
        refine va_last hx hb hK hP hD hS (7 + (c_nd o + (c_nv o + (16 + d2)))) 1 (wx_arr (o := o) hk6) rfl hk9 dX7_write_64 (fun H locs hP hD hS => ?_)
        rw [wx_a_rP (o := o) hk6] at hP hD
        refine lv_aload_n hx hb dX7_write_65 rfl (lv_at hl 3 rfl) ?_
        refine lv_iconst (v := (1 : Int32)) hx hb dX7_write_66 (by decide) ?_
        refine cl_i (va_runV (As := [.int (1 : Int32)]) (rest := []) ⟨hx, hb, hml, hown, hts⟩ (qX7_done l dC dI cy x ad H.size (t_rP o (va_up (c_rP o) d2 (vp_updL (c_rP o d2) a3.toNatClampNeg y3))) (1 : Int32)) (cwV 1 hts gX7_write_X7_done rfl rfl rfl (by decide +kernel) ⟨Nat.le_of_ble_eq_true rfl, Nat.le_of_ble_eq_true rfl⟩) (pV hK hP hD hk (q0 := 0) (wx_h (o := (t_rP o (va_up (c_rP o) d2 (vp_updL (c_rP o d2) a3.toNatClampNeg y3)))) rfl) rfl) rfl rfl hl.1 rfl (lv_room (Nat.le_of_ble_eq_true rfl)) dX7_write_67 ⟨Nat.le_of_ble_eq_true rfl, Nat.le_of_ble_eq_true rfl⟩) hD hS hA (fun r u H locs hw hP hD hS => ?_)
        have hr1 : r = (jX7_done (t_rP o (va_up (c_rP o) d2 (vp_updL (c_rP o d2) a3.toNatClampNeg y3))) (1 : Int32)).1 := congrArg Prod.fst hw
        have hu1 : u = (jX7_done (t_rP o (va_up (c_rP o) d2 (vp_updL (c_rP o d2) a3.toNatClampNeg y3))) (1 : Int32)).2 := congrArg Prod.snd hw
        rw [hu1] at hP hD
        rw [hr1]
        exact W.iret hx hb hr (fun t ht hW => ⟨⟨_, _, rfl, hJ.trans hE.symm, by rw [ht]; exact hP, va_K.moved hW.alike hK, hD⟩, hS.F ht⟩) hS.2.2 dX7_write_70
      · skip
        rw [if_neg c8] at hJ
        rw [if_neg c8] at hV
        refine lv_aload_n hx hb dX7_write_49 rfl (lv_at hl 3 rfl) ?_
        refine lv_iload hx hb dX7_write_50 (lv_at hl 0 rfl) ?_
        obtain ⟨hk10, hV⟩ := hV
        refine cl_i (va_runV (As := [.int y7]) (rest := []) ⟨hx, hb, hml, hown, hts⟩ (qX7_failWith l dC dI cy x ad H.size o y7 hk10) (cwV 1 hts gX7_write_X7_failWith rfl rfl rfl (by decide +kernel) ⟨Nat.le_of_ble_eq_true rfl, Nat.le_of_ble_eq_true rfl⟩) (pV hK hP hD hk (q0 := 0) (wx_h (o := o) rfl) rfl) rfl rfl hl.1 rfl (lv_room (Nat.le_of_ble_eq_true rfl)) dX7_write_52 ⟨Nat.le_of_ble_eq_true rfl, Nat.le_of_ble_eq_true rfl⟩) hD hS hA (fun r u H locs hw hP hD hS => ?_)
        have hr1 : r = (jX7_failWith o y7).1 := congrArg Prod.fst hw
        have hu1 : u = (jX7_failWith o y7).2 := congrArg Prod.snd hw
        rw [hu1] at hP hD
        rw [hr1]
        exact W.iret hx hb hr (fun t ht hW => ⟨⟨_, _, rfl, hJ.trans hE.symm, by rw [ht]; exact hP, va_K.moved hW.alike hK, hD⟩, hS.F ht⟩) hS.2.2 dX7_write_55
    · skip
      rw [if_pos c4] at hJ
      rw [if_pos c4] at hV
      refine lv_bipush (v := (-102 : Int32)) hx hb dX7_write_33 (by decide) ?_
      exact W.iret hx hb hr (fun t ht hW => ⟨⟨_, _, rfl, hJ.trans hE.symm, by rw [ht]; exact hP, va_K.moved hW.alike hK, hD⟩, hS.F ht⟩) hS.2.2 dX7_write_35
def jX7_read_y5 (o : Os) (a1 : Int32) (a2 : Int32) (a3 : Int32) (d2 : Nat) (y5 : Int32) : Int32 × Os := (if y5 = 0 then ((jX7_done (t_se o (c_rP o d2 a3.toNatClampNeg)) (1 : Int32)).1, (jX7_done (t_se o (c_rP o d2 a3.toNatClampNeg)) (1 : Int32)).2) else ((jX7_failWith o y5).1, (jX7_failWith o y5).2))
def sX7_read_y5 (o : Os) (a1 : Int32) (a2 : Int32) (a3 : Int32) (d2 : Nat) (y5 : Int32) : Prop := True ∧ (if y5 = 0 then (vp_in a3 16 ∧ True) else (sX7_failWith o y5 ∧ True))
def jX7_read (o : Os) (a1 : Int32) (a2 : Int32) (a3 : Int32) : Int32 × Os := (om (jX7_rowAt o a1 a2) ((-101 : Int32), o) (fun d2 => (jX7_read_y5 o a1 a2 a3 d2 (jX5_failureAt o d2 a3))))
def sX7_read (o : Os) (a1 : Int32) (a2 : Int32) (a3 : Int32) : Prop := True ∧ (sX7_rowAt o a1 a2 ∧ (om (jX7_rowAt o a1 a2) True (fun d2 => (sX5_failureAt o d2 a3 ∧ (d2 < 16 ∧ (sX7_read_y5 o a1 a2 a3 d2 (jX5_failureAt o d2 a3)))))))
set_option linter.constructorNameAsVariable false in
set_option maxHeartbeats 8000000 in
set_option maxRecDepth 100000 in
theorem qX7_read (l : Launch) (dC : Nat → ClassId) (dI : Nat → Nat → Nat) (cy : Nat → ClassId) (x : Nat) (ad : Nat → Nat) (sz : Nat) (o : Os) (a1 : Int32) (a2 : Int32) (a3 : Int32) (hV : sX7_read o a1 a2 a3) : Met l yX7_read wsX7_read ({ frames := 2, cells := 0, slots := 0, locals := 41 }) (va_Pc [.ref x, .int a1, .int a2, .int a3] (wI (dC, dI) (tyA cy) (WX cy x ad o) sz)) (va_Qi (fun r u => (r, u) = jX7_read o a1 a2 a3) (fun u t => wO (dC, dI) (tyA cy) (va_A (WX cy x ad o) sz) (WX cy x ad u) t) (va_A (WX cy x ad o) sz)) 0 0 (va_A (WX cy x ad o) sz) := by
  refine Met.ofW (cc := cX7_read) (maxL := 6) (ret := some .int) (by decide) rfl ?_
  intro p e s m args below meth c s₁ B hml hv
  obtain ⟨rfl, hsz, hP, hK, hD0, hk⟩ := hv
  have hx := B.exec
  have hb := B.bytes
  have hr := B.returns
  have hts := atoms_spec (ws := wsX7_read) B.pre
  have hown : s.vm.findClass RX7 = some m.cls := findClass_of_methodNamed B.named
  have hlocks := B.notSynchronized
  subst hsz
  have hD := hD0.self (sz := s.heap.size)
  generalize hAe : va_A (WX cy x ad o) s.heap.size = A at hD ⊢
  have hA : ∀ q : Nat, s.heap.size ≤ q → A q := fun q h => by rw [← hAe]; exact Or.inr h
  obtain ⟨H, hHe⟩ : ∃ H, s.heap = H := ⟨_, rfl⟩
  have hP : va_P (dC, dI) vwCl (WX cy x ad o) H := by rw [← hHe]; exact hP
  have hS : va_S A s.heap H [] := by rw [← hHe]; exact va_S.rf
  rw [w_heap hHe]
  have hi_wsX50 : ∀ w ∈ wsX50, w ∈ wsX7_read := fun _ h => List.mem_cons_of_mem _ (List.mem_append_left _ (List.mem_append_right _ h))
  have hi_wsX70 : ∀ w ∈ wsX70, w ∈ wsX7_read := fun _ h => List.mem_cons_of_mem _ (List.mem_append_right _ h)
  obtain ⟨JR, hE⟩ : ∃ q, jX7_read o a1 a2 a3 = q := ⟨_, rfl⟩
  have hJ := hE
  rw [jX7_read] at hJ
  rw [sX7_read] at hV
  have hV := hV.2
  have hl := lv_entry ([.ref x, .int a1, .int a2, .int a3]) (n := 6) (Nat.le_of_ble_eq_true rfl)
  rw [lg_entry_eq]
  generalize (lg_sl ([.ref x, .int a1, .int a2, .int a3]) ++ List.replicate (6 - (lg_sl ([.ref x, .int a1, .int a2, .int a3])).length) Slot.unset).toArray = ls at hl ⊢
  have hl : lv_has ls 6 [(0, .ref x), (1, .int a1), (2, .int a2), (3, .int a3)] := hl
  refine lv_aload_n hx hb dX7_read_0 rfl (lv_at hl 0 rfl) ?_
  refine lv_iload_n hx hb dX7_read_1 rfl (lv_at hl 1 rfl) ?_
  refine lv_iload_n hx hb dX7_read_2 rfl (lv_at hl 2 rfl) ?_
  obtain ⟨hk1, hV⟩ := hV
  refine va_csq (W.runV (As := [.int a1, .int a2]) (rest := []) ⟨hx, hb, hml, hown, hts⟩ (qX7_rowAt l dC dI cy x ad H.size o a1 a2 hk1) (cwV 2 hts gX7_read_X7_rowAt rfl rfl rfl (by decide +kernel) ⟨Nat.le_of_ble_eq_true rfl, Nat.le_of_ble_eq_true rfl⟩) (pV hK hP hD hk (q0 := 0) (wx_h (o := o) rfl) rfl) rfl rfl hl.1 rfl (lv_room (Nat.le_of_ble_eq_true rfl)) dX7_read_3 ⟨Nat.le_of_ble_eq_true rfl, Nat.le_of_ble_eq_true rfl⟩) (fun r hq9 => ?_)
  rcases hd2 : jX7_rowAt o a1 a2 with _ | d2
  · rw [hd2, om_n] at hJ
    rw [hd2, om_n] at hV
    rw [hd2] at hq9
    refine rf_n hq9 ?_
    refine lv_astoreN (lv' := [(4, .null), (0, .ref x), (1, .int a1), (2, .int a2), (3, .int a3)]) hx hb dX7_read_6 hl (by decide) rfl (fun ls hl => ?_)
    refine lv_aloadN hx hb dX7_read_8 (lv_at hl 0 rfl) ?_
    refine lv_ifnonnullN hx hb dX7_read_10 ?_
    refine lv_bipush (v := (-101 : Int32)) hx hb dX7_read_13 (by decide) ?_
    exact W.iret hx hb hr (fun t ht hW => ⟨⟨_, _, rfl, hJ.trans hE.symm, by rw [ht]; exact hP, va_K.moved hW.alike hK, hD⟩, hS.F ht⟩) hS.2.2 dX7_read_15
  · rw [hd2, om_s] at hJ
    rw [hd2, om_s] at hV
    rw [hd2] at hq9
    refine rf_s hq9 ?_
    refine lv_astore (lv' := [(4, .ref (ad (300 + d2))), (0, .ref x), (1, .int a1), (2, .int a2), (3, .int a3)]) hx hb dX7_read_6 hl (by decide) rfl (fun ls hl => ?_)
    refine lv_aload hx hb dX7_read_8 (lv_at hl 0 rfl) ?_
    refine lv_ifnonnull (tgt := 16) hx hb dX7_read_10 (by decide) ?_
    refine lv_aload hx hb dX7_read_16 (lv_at hl 0 rfl) ?_
    refine lv_iload_n hx hb dX7_read_18 rfl (lv_at hl 4 rfl) ?_
    obtain ⟨hk3, hV⟩ := hV
    obtain ⟨hk4, hV⟩ := hV
    refine vp_callSi (W.runV (As := [.int a3]) (rest := []) ⟨hx, hb, hml, hown, hts⟩ (qX5_failureAt l dC dI cy x ad H.size o d2 a3 hk3) (cwV 1 hts gX7_read_X5_failureAt rfl rfl rfl (by decide +kernel) ⟨Nat.le_of_ble_eq_true rfl, Nat.le_of_ble_eq_true rfl⟩) (pV hK hP hD hk (q0 := (7 + (c_nd o + (c_nv o + d2)))) (wx_row (o := o) hk4) rfl) rfl rfl hl.1 rfl (lv_room (Nat.le_of_ble_eq_true rfl)) dX7_read_19 ⟨Nat.le_of_ble_eq_true rfl, Nat.le_of_ble_eq_true rfl⟩) (fun r hq9 => ?_)
    rw [hq9]
    refine lv_topi (fun y5 ey5 => ?_)
    rw [← ey5] at hJ
    rw [jX7_read_y5] at hJ
    rw [← ey5] at hV
    rw [sX7_read_y5] at hV
    have hV := hV.2
    refine lv_istore (lv' := [(5, .int y5), (4, .ref (ad (300 + d2))), (0, .ref x), (1, .int a1), (2, .int a2), (3, .int a3)]) hx hb dX7_read_22 hl (by decide) rfl (fun ls hl => ?_)
    refine lv_iload hx hb dX7_read_24 (lv_at hl 0 rfl) ?_
    refine lv_if_eq (tgt := 36) hx hb dX7_read_26 (by decide) (fun c6 => ?_) (fun c6 => ?_)
    · skip
      rw [if_pos c6] at hJ
      rw [if_pos c6] at hV
      refine lv_aload_n hx hb dX7_read_36 rfl (lv_at hl 2 rfl) ?_
      refine lv_aload hx hb dX7_read_37 (lv_at hl 1 rfl) ?_
      refine va_get (D := (dC, dI)) (ci := 3) (v := .ref (ad (400 + d2))) (C := RX5) (T := TX5) (N := 2) (fs := (cx_row ad o d2)) hx hb hts hi_wsX50 hown hK hP (7 + (c_nd o + (c_nv o + d2))) (wx_row (o := o) hk4) rfl 0 (by decide) (hts (.fieldLink RX7 140 "OrreryDials$Row" "places" "[J") (by decide +kernel)) (fun _ h9 => h9) rfl dX7_read_39 ?_
      refine lv_iload_n hx hb dX7_read_42 rfl (lv_at hl 5 rfl) ?_
      obtain ⟨hk7, hV⟩ := hV
      refine va_lald hx hb hK hP (7 + (c_nd o + (c_nv o + (16 + d2)))) 1 (wx_arr (o := o) hk4) rfl hk7 dX7_read_43 ?_
      refine va_put (D := (dC, dI)) (ci := 5) (v := .long (c_rP o d2 a3.toNatClampNeg)) (ty := .long) (C := RX7) (T := TX7) (N := 10) (fs := (cx_f ad o)) hx hb hts hi_wsX70 tyX7 tyX7_ok nmX7 hown hK hP hD hS 0 (wx_h (o := o) rfl) rfl 7 (by decide) (hts (.fieldLink RX7 40 "OrreryDials" "seenBits" "J") (by decide +kernel)) (fun _ h9 => h9) rfl (by decide +kernel) rfl rfl (Nat.le_of_ble_eq_true rfl) dX7_read_44 (fun H locs hP hD hS => ?_)
      rw [wx_p_se] at hP hD
      refine lv_aload_n hx hb dX7_read_47 rfl (lv_at hl 2 rfl) ?_
      refine lv_iconst (v := (1 : Int32)) hx hb dX7_read_48 (by decide) ?_
      refine cl_i (va_runV (As := [.int (1 : Int32)]) (rest := []) ⟨hx, hb, hml, hown, hts⟩ (qX7_done l dC dI cy x ad H.size (t_se o (c_rP o d2 a3.toNatClampNeg)) (1 : Int32)) (cwV 1 hts gX7_read_X7_done rfl rfl rfl (by decide +kernel) ⟨Nat.le_of_ble_eq_true rfl, Nat.le_of_ble_eq_true rfl⟩) (pV hK hP hD hk (q0 := 0) (wx_h (o := (t_se o (c_rP o d2 a3.toNatClampNeg))) rfl) rfl) rfl rfl hl.1 rfl (lv_room (Nat.le_of_ble_eq_true rfl)) dX7_read_49 ⟨Nat.le_of_ble_eq_true rfl, Nat.le_of_ble_eq_true rfl⟩) hD hS hA (fun r u H locs hw hP hD hS => ?_)
      have hr1 : r = (jX7_done (t_se o (c_rP o d2 a3.toNatClampNeg)) (1 : Int32)).1 := congrArg Prod.fst hw
      have hu1 : u = (jX7_done (t_se o (c_rP o d2 a3.toNatClampNeg)) (1 : Int32)).2 := congrArg Prod.snd hw
      rw [hu1] at hP hD
      rw [hr1]
      exact W.iret hx hb hr (fun t ht hW => ⟨⟨_, _, rfl, hJ.trans hE.symm, by rw [ht]; exact hP, va_K.moved hW.alike hK, hD⟩, hS.F ht⟩) hS.2.2 dX7_read_52
    · skip
      rw [if_neg c6] at hJ
      rw [if_neg c6] at hV
      refine lv_aload_n hx hb dX7_read_29 rfl (lv_at hl 2 rfl) ?_
      refine lv_iload hx hb dX7_read_30 (lv_at hl 0 rfl) ?_
      obtain ⟨hk8, hV⟩ := hV
      refine cl_i (va_runV (As := [.int y5]) (rest := []) ⟨hx, hb, hml, hown, hts⟩ (qX7_failWith l dC dI cy x ad H.size o y5 hk8) (cwV 1 hts gX7_read_X7_failWith rfl rfl rfl (by decide +kernel) ⟨Nat.le_of_ble_eq_true rfl, Nat.le_of_ble_eq_true rfl⟩) (pV hK hP hD hk (q0 := 0) (wx_h (o := o) rfl) rfl) rfl rfl hl.1 rfl (lv_room (Nat.le_of_ble_eq_true rfl)) dX7_read_32 ⟨Nat.le_of_ble_eq_true rfl, Nat.le_of_ble_eq_true rfl⟩) hD hS hA (fun r u H locs hw hP hD hS => ?_)
      have hr1 : r = (jX7_failWith o y5).1 := congrArg Prod.fst hw
      have hu1 : u = (jX7_failWith o y5).2 := congrArg Prod.snd hw
      rw [hu1] at hP hD
      rw [hr1]
      exact W.iret hx hb hr (fun t ht hW => ⟨⟨_, _, rfl, hJ.trans hE.symm, by rw [ht]; exact hP, va_K.moved hW.alike hK, hD⟩, hS.F ht⟩) hS.2.2 dX7_read_35
def jX7_seen (o : Os) : Int64 := (c_se o)
set_option linter.constructorNameAsVariable false in
set_option maxHeartbeats 8000000 in
set_option maxRecDepth 100000 in
theorem qX7_seen (l : Launch) (dC : Nat → ClassId) (dI : Nat → Nat → Nat) (cy : Nat → ClassId) (x : Nat) (ad : Nat → Nat) (sz : Nat) (o : Os) : Met l yX7_seen wsX7_seen ({ frames := 0, cells := 0, slots := 0, locals := 0 }) (va_Pc [.ref x] (wI (dC, dI) (tyA cy) (WX cy x ad o) sz)) (vp_Sl (fun r => r = jX7_seen o)) 0 0 (fun _ => False) := by
  refine Met.ofW (cc := cX7_seen) (maxL := 1) (ret := some .long) (by decide) rfl ?_
  intro p e s m args below meth c s₁ B hml hv
  obtain ⟨rfl, hsz, hP, hK, hD0, hk⟩ := hv
  have hx := B.exec
  have hb := B.bytes
  have hr := B.returns
  have hts := atoms_spec (ws := wsX7_seen) B.pre
  have hown : s.vm.findClass RX7 = some m.cls := findClass_of_methodNamed B.named
  have hlocks := B.notSynchronized
  subst hsz
  have hD := hD0
  obtain ⟨H, hHe⟩ : ∃ H, s.heap = H := ⟨_, rfl⟩
  have hP : va_P (dC, dI) vwCl (WX cy x ad o) H := by rw [← hHe]; exact hP
  rw [w_heap hHe]
  have hi_wsX70 : ∀ w ∈ wsX70, w ∈ wsX7_seen := fun _ h => List.mem_cons_of_mem _ (List.mem_append_right _ h)
  obtain ⟨JR, hE⟩ : ∃ q, jX7_seen o = q := ⟨_, rfl⟩
  have hJ := hE
  rw [jX7_seen] at hJ
  have hl := lv_entry ([.ref x]) (n := 1) (Nat.le_of_ble_eq_true rfl)
  rw [lg_entry_eq]
  generalize (lg_sl ([.ref x]) ++ List.replicate (1 - (lg_sl ([.ref x])).length) Slot.unset).toArray = ls at hl ⊢
  have hl : lv_has ls 1 [(0, .ref x)] := hl
  refine lv_aload_n hx hb dX7_seen_0 rfl (lv_at hl 0 rfl) ?_
  refine va_get (D := (dC, dI)) (ci := 5) (v := .long (c_se o)) (C := RX7) (T := TX7) (N := 10) (fs := (cx_f ad o)) hx hb hts hi_wsX70 hown hK hP 0 (wx_h (o := o) rfl) rfl 7 (by decide) (hts (.fieldLink RX7 40 "OrreryDials" "seenBits" "J") (by decide +kernel)) (fun _ h9 => h9) rfl dX7_seen_1 ?_
  exact W.lret hx hb hr (fun t ht hW => ⟨_, rfl, hJ.trans hE.symm, ht.trans hHe.symm⟩) (fun q h => absurd h List.not_mem_nil) dX7_seen_4
def jX7_note_y9 (o : Os) (a1 : Int32) (a2 : Int32) (a3 : Int32) (a4 : Int32) (d2 : Nat) (d6 : Nat) (y9 : Int32) : Int32 × Os := (if y9 = 0 then ((jX7_done (t_rP o (va_up (c_rP o) d2 (vp_updL (c_rP o d2) a3.toNatClampNeg (jX4_ofReal (c_dF o d6) a2 (c_dP o d6))))) (1 : Int32)).1, (jX7_done (t_rP o (va_up (c_rP o) d2 (vp_updL (c_rP o d2) a3.toNatClampNeg (jX4_ofReal (c_dF o d6) a2 (c_dP o d6))))) (1 : Int32)).2) else ((jX7_failWith o y9).1, (jX7_failWith o y9).2))
def sX7_note_y9 (o : Os) (a1 : Int32) (a2 : Int32) (a3 : Int32) (a4 : Int32) (d2 : Nat) (d6 : Nat) (y9 : Int32) : Prop := True ∧ (if y9 = 0 then (d6 < c_nd o ∧ (vp_in a3 16 ∧ True)) else (sX7_failWith o y9 ∧ True))
def jX7_note (o : Os) (a1 : Int32) (a2 : Int32) (a3 : Int32) (a4 : Int32) : Int32 × Os := (om (jX7_rowAt o a1 a2) (om (jX7_dialAt o a4) ((-101 : Int32), o) (fun d4 => ((-101 : Int32), o))) (fun d2 => (om (jX7_dialAt o a4) ((-101 : Int32), o) (fun d6 => (jX7_note_y9 o a1 a2 a3 a4 d2 d6 (jX5_failureAt o d2 a3))))))
def sX7_note (o : Os) (a1 : Int32) (a2 : Int32) (a3 : Int32) (a4 : Int32) : Prop := True ∧ (sX7_rowAt o a1 a2 ∧ (om (jX7_rowAt o a1 a2) (sX7_dialAt o a4 ∧ (om (jX7_dialAt o a4) True (fun d4 => True))) (fun d2 => (sX7_dialAt o a4 ∧ (om (jX7_dialAt o a4) True (fun d6 => (sX5_failureAt o d2 a3 ∧ (d2 < 16 ∧ (sX7_note_y9 o a1 a2 a3 a4 d2 d6 (jX5_failureAt o d2 a3))))))))))
set_option linter.constructorNameAsVariable false in
set_option maxHeartbeats 8000000 in
set_option maxRecDepth 100000 in
theorem qX7_note (l : Launch) (dC : Nat → ClassId) (dI : Nat → Nat → Nat) (cy : Nat → ClassId) (x : Nat) (ad : Nat → Nat) (sz : Nat) (o : Os) (a1 : Int32) (a2 : Int32) (a3 : Int32) (a4 : Int32) (hV : sX7_note o a1 a2 a3 a4) : Met l yX7_note wsX7_note ({ frames := 5, cells := 0, slots := 0, locals := 119 }) (va_Pc [.ref x, .int a1, .int a2, .int a3, .int a4] (wI (dC, dI) (tyA cy) (WX cy x ad o) sz)) (va_Qi (fun r u => (r, u) = jX7_note o a1 a2 a3 a4) (fun u t => wO (dC, dI) (tyA cy) (va_A (WX cy x ad o) sz) (WX cy x ad u) t) (va_A (WX cy x ad o) sz)) 0 0 (va_A (WX cy x ad o) sz) := by
  refine Met.ofW (cc := cX7_note) (maxL := 8) (ret := some .int) (by decide) rfl ?_
  intro p e s m args below meth c s₁ B hml hv
  obtain ⟨rfl, hsz, hP, hK, hD0, hk⟩ := hv
  have hx := B.exec
  have hb := B.bytes
  have hr := B.returns
  have hts := atoms_spec (ws := wsX7_note) B.pre
  have hown : s.vm.findClass RX7 = some m.cls := findClass_of_methodNamed B.named
  have hlocks := B.notSynchronized
  subst hsz
  have hD := hD0.self (sz := s.heap.size)
  generalize hAe : va_A (WX cy x ad o) s.heap.size = A at hD ⊢
  have hA : ∀ q : Nat, s.heap.size ≤ q → A q := fun q h => by rw [← hAe]; exact Or.inr h
  obtain ⟨H, hHe⟩ : ∃ H, s.heap = H := ⟨_, rfl⟩
  have hP : va_P (dC, dI) vwCl (WX cy x ad o) H := by rw [← hHe]; exact hP
  have hS : va_S A s.heap H [] := by rw [← hHe]; exact va_S.rf
  rw [w_heap hHe]
  have hi_wsX50 : ∀ w ∈ wsX50, w ∈ wsX7_note := fun _ h => List.mem_cons_of_mem _ (List.mem_append_left _ (List.mem_append_left _ (List.mem_append_right _ h)))
  have hi_wsX10 : ∀ w ∈ wsX10, w ∈ wsX7_note := fun _ h => List.mem_cons_of_mem _ (List.mem_append_left _ (List.mem_append_right _ h))
  have hi_wsX70 : ∀ w ∈ wsX70, w ∈ wsX7_note := fun _ h => List.mem_cons_of_mem _ (List.mem_append_right _ h)
  obtain ⟨JR, hE⟩ : ∃ q, jX7_note o a1 a2 a3 a4 = q := ⟨_, rfl⟩
  have hJ := hE
  rw [jX7_note] at hJ
  rw [sX7_note] at hV
  have hV := hV.2
  have hl := lv_entry ([.ref x, .int a1, .int a2, .int a3, .int a4]) (n := 8) (Nat.le_of_ble_eq_true rfl)
  rw [lg_entry_eq]
  generalize (lg_sl ([.ref x, .int a1, .int a2, .int a3, .int a4]) ++ List.replicate (8 - (lg_sl ([.ref x, .int a1, .int a2, .int a3, .int a4])).length) Slot.unset).toArray = ls at hl ⊢
  have hl : lv_has ls 8 [(0, .ref x), (1, .int a1), (2, .int a2), (3, .int a3), (4, .int a4)] := hl
  refine lv_aload_n hx hb dX7_note_0 rfl (lv_at hl 0 rfl) ?_
  refine lv_iload_n hx hb dX7_note_1 rfl (lv_at hl 1 rfl) ?_
  refine lv_iload_n hx hb dX7_note_2 rfl (lv_at hl 2 rfl) ?_
  obtain ⟨hk1, hV⟩ := hV
  refine va_csq (W.runV (As := [.int a1, .int a2]) (rest := []) ⟨hx, hb, hml, hown, hts⟩ (qX7_rowAt l dC dI cy x ad H.size o a1 a2 hk1) (cwV 2 hts gX7_note_X7_rowAt rfl rfl rfl (by decide +kernel) ⟨Nat.le_of_ble_eq_true rfl, Nat.le_of_ble_eq_true rfl⟩) (pV hK hP hD hk (q0 := 0) (wx_h (o := o) rfl) rfl) rfl rfl hl.1 rfl (lv_room (Nat.le_of_ble_eq_true rfl)) dX7_note_3 ⟨Nat.le_of_ble_eq_true rfl, Nat.le_of_ble_eq_true rfl⟩) (fun r hq9 => ?_)
  rcases hd2 : jX7_rowAt o a1 a2 with _ | d2
  · rw [hd2, om_n] at hJ
    rw [hd2, om_n] at hV
    rw [hd2] at hq9
    refine rf_n hq9 ?_
    refine lv_astoreN (lv' := [(5, .null), (0, .ref x), (1, .int a1), (2, .int a2), (3, .int a3), (4, .int a4)]) hx hb dX7_note_6 hl (by decide) rfl (fun ls hl => ?_)
    refine lv_aload_n hx hb dX7_note_8 rfl (lv_at hl 1 rfl) ?_
    refine lv_iload hx hb dX7_note_9 (lv_at hl 5 rfl) ?_
    obtain ⟨hk3, hV⟩ := hV
    refine va_csq (W.runV (As := [.int a4]) (rest := []) ⟨hx, hb, hml, hown, hts⟩ (qX7_dialAt l dC dI cy x ad H.size o a4 hk3) (cwV 1 hts gX7_note_X7_dialAt rfl rfl rfl (by decide +kernel) ⟨Nat.le_of_ble_eq_true rfl, Nat.le_of_ble_eq_true rfl⟩) (pV hK hP hD hk (q0 := 0) (wx_h (o := o) rfl) rfl) rfl rfl hl.1 rfl (lv_room (Nat.le_of_ble_eq_true rfl)) dX7_note_11 ⟨Nat.le_of_ble_eq_true rfl, Nat.le_of_ble_eq_true rfl⟩) (fun r hq9 => ?_)
    rcases hd4 : jX7_dialAt o a4 with _ | d4
    · rw [hd4, om_n] at hJ
      rw [hd4, om_n] at hV
      rw [hd4] at hq9
      refine rf_n hq9 ?_
      refine lv_astoreN (lv' := [(6, .null), (5, .null), (0, .ref x), (1, .int a1), (2, .int a2), (3, .int a3), (4, .int a4)]) hx hb dX7_note_14 hl (by decide) rfl (fun ls hl => ?_)
      refine lv_aloadN hx hb dX7_note_16 (lv_at hl 1 rfl) ?_
      refine lv_ifnullN (tgt := 26) hx hb dX7_note_18 (by decide) ?_
      refine lv_bipush (v := (-101 : Int32)) hx hb dX7_note_26 (by decide) ?_
      exact W.iret hx hb hr (fun t ht hW => ⟨⟨_, _, rfl, hJ.trans hE.symm, by rw [ht]; exact hP, va_K.moved hW.alike hK, hD⟩, hS.F ht⟩) hS.2.2 dX7_note_28
    · rw [hd4, om_s] at hJ
      rw [hd4, om_s] at hV
      rw [hd4] at hq9
      refine rf_s hq9 ?_
      refine lv_astore (lv' := [(6, .ref (ad (100 + d4))), (5, .null), (0, .ref x), (1, .int a1), (2, .int a2), (3, .int a3), (4, .int a4)]) hx hb dX7_note_14 hl (by decide) rfl (fun ls hl => ?_)
      refine lv_aloadN hx hb dX7_note_16 (lv_at hl 1 rfl) ?_
      refine lv_ifnullN (tgt := 26) hx hb dX7_note_18 (by decide) ?_
      refine lv_bipush (v := (-101 : Int32)) hx hb dX7_note_26 (by decide) ?_
      exact W.iret hx hb hr (fun t ht hW => ⟨⟨_, _, rfl, hJ.trans hE.symm, by rw [ht]; exact hP, va_K.moved hW.alike hK, hD⟩, hS.F ht⟩) hS.2.2 dX7_note_28
  · rw [hd2, om_s] at hJ
    rw [hd2, om_s] at hV
    rw [hd2] at hq9
    refine rf_s hq9 ?_
    refine lv_astore (lv' := [(5, .ref (ad (300 + d2))), (0, .ref x), (1, .int a1), (2, .int a2), (3, .int a3), (4, .int a4)]) hx hb dX7_note_6 hl (by decide) rfl (fun ls hl => ?_)
    refine lv_aload_n hx hb dX7_note_8 rfl (lv_at hl 1 rfl) ?_
    refine lv_iload hx hb dX7_note_9 (lv_at hl 5 rfl) ?_
    obtain ⟨hk5, hV⟩ := hV
    refine va_csq (W.runV (As := [.int a4]) (rest := []) ⟨hx, hb, hml, hown, hts⟩ (qX7_dialAt l dC dI cy x ad H.size o a4 hk5) (cwV 1 hts gX7_note_X7_dialAt rfl rfl rfl (by decide +kernel) ⟨Nat.le_of_ble_eq_true rfl, Nat.le_of_ble_eq_true rfl⟩) (pV hK hP hD hk (q0 := 0) (wx_h (o := o) rfl) rfl) rfl rfl hl.1 rfl (lv_room (Nat.le_of_ble_eq_true rfl)) dX7_note_11 ⟨Nat.le_of_ble_eq_true rfl, Nat.le_of_ble_eq_true rfl⟩) (fun r hq9 => ?_)
    rcases hd6 : jX7_dialAt o a4 with _ | d6
    · rw [hd6, om_n] at hJ
      rw [hd6, om_n] at hV
      rw [hd6] at hq9
      refine rf_n hq9 ?_
      refine lv_astoreN (lv' := [(6, .null), (5, .ref (ad (300 + d2))), (0, .ref x), (1, .int a1), (2, .int a2), (3, .int a3), (4, .int a4)]) hx hb dX7_note_14 hl (by decide) rfl (fun ls hl => ?_)
      refine lv_aload hx hb dX7_note_16 (lv_at hl 1 rfl) ?_
      refine lv_ifnull hx hb dX7_note_18 ?_
      refine lv_aloadN hx hb dX7_note_21 (lv_at hl 0 rfl) ?_
      refine lv_ifnonnullN hx hb dX7_note_23 ?_
      refine lv_bipush (v := (-101 : Int32)) hx hb dX7_note_26 (by decide) ?_
      exact W.iret hx hb hr (fun t ht hW => ⟨⟨_, _, rfl, hJ.trans hE.symm, by rw [ht]; exact hP, va_K.moved hW.alike hK, hD⟩, hS.F ht⟩) hS.2.2 dX7_note_28
    · rw [hd6, om_s] at hJ
      rw [hd6, om_s] at hV
      rw [hd6] at hq9
      refine rf_s hq9 ?_
      refine lv_astore (lv' := [(6, .ref (ad (100 + d6))), (5, .ref (ad (300 + d2))), (0, .ref x), (1, .int a1), (2, .int a2), (3, .int a3), (4, .int a4)]) hx hb dX7_note_14 hl (by decide) rfl (fun ls hl => ?_)
      refine lv_aload hx hb dX7_note_16 (lv_at hl 1 rfl) ?_
      refine lv_ifnull hx hb dX7_note_18 ?_
      refine lv_aload hx hb dX7_note_21 (lv_at hl 0 rfl) ?_
      refine lv_ifnonnull (tgt := 29) hx hb dX7_note_23 (by decide) ?_
      refine lv_aload hx hb dX7_note_29 (lv_at hl 1 rfl) ?_
      refine lv_iload_n hx hb dX7_note_31 rfl (lv_at hl 5 rfl) ?_
      obtain ⟨hk7, hV⟩ := hV
      obtain ⟨hk8, hV⟩ := hV
      refine vp_callSi (W.runV (As := [.int a3]) (rest := []) ⟨hx, hb, hml, hown, hts⟩ (qX5_failureAt l dC dI cy x ad H.size o d2 a3 hk7) (cwV 1 hts gX7_note_X5_failureAt rfl rfl rfl (by decide +kernel) ⟨Nat.le_of_ble_eq_true rfl, Nat.le_of_ble_eq_true rfl⟩) (pV hK hP hD hk (q0 := (7 + (c_nd o + (c_nv o + d2)))) (wx_row (o := o) hk8) rfl) rfl rfl hl.1 rfl (lv_room (Nat.le_of_ble_eq_true rfl)) dX7_note_32 ⟨Nat.le_of_ble_eq_true rfl, Nat.le_of_ble_eq_true rfl⟩) (fun r hq9 => ?_)
      rw [hq9]
      refine lv_topi (fun y9 ey9 => ?_)
      rw [← ey9] at hJ
      rw [jX7_note_y9] at hJ
      rw [← ey9] at hV
      rw [sX7_note_y9] at hV
      have hV := hV.2
      refine lv_istore (lv' := [(7, .int y9), (6, .ref (ad (100 + d6))), (5, .ref (ad (300 + d2))), (0, .ref x), (1, .int a1), (2, .int a2), (3, .int a3), (4, .int a4)]) hx hb dX7_note_35 hl (by decide) rfl (fun ls hl => ?_)
      refine lv_iload hx hb dX7_note_37 (lv_at hl 0 rfl) ?_
      refine lv_if_eq (tgt := 49) hx hb dX7_note_39 (by decide) (fun c10 => ?_) (fun c10 => ?_)
      · skip
        rw [if_pos c10] at hJ
        rw [if_pos c10] at hV
        refine lv_aload hx hb dX7_note_49 (lv_at hl 2 rfl) ?_
        refine va_get (D := (dC, dI)) (ci := 3) (v := .ref (ad (400 + d2))) (C := RX5) (T := TX5) (N := 2) (fs := (cx_row ad o d2)) hx hb hts hi_wsX50 hown hK hP (7 + (c_nd o + (c_nv o + d2))) (wx_row (o := o) hk8) rfl 0 (by decide) (hts (.fieldLink RX7 140 "OrreryDials$Row" "places" "[J") (by decide +kernel)) (fun _ h9 => h9) rfl dX7_note_51 ?_
        refine lv_iload_n hx hb dX7_note_54 rfl (lv_at hl 6 rfl) ?_
        refine lv_aload hx hb dX7_note_55 (lv_at hl 1 rfl) ?_
        obtain ⟨hk11, hV⟩ := hV
        refine va_get (D := (dC, dI)) (ci := 1) (v := .int (c_dF o d6)) (C := RX1) (T := TX1) (N := 4) (fs := (cx_dial o d6)) hx hb hts hi_wsX10 hown hK hP (7 + d6) (wx_dial (o := o) hk11) rfl 0 (by decide) (hts (.fieldLink RX7 72 "OrreryDials$Dial" "fine" "Z") (by decide +kernel)) (fun _ h9 => h9) rfl dX7_note_57 ?_
        refine lv_iload_n hx hb dX7_note_60 rfl (lv_at hl 5 rfl) ?_
        refine lv_aload hx hb dX7_note_61 (lv_at hl 1 rfl) ?_
        refine va_get (D := (dC, dI)) (ci := 1) (v := .long (c_dP o d6)) (C := RX1) (T := TX1) (N := 4) (fs := (cx_dial o d6)) hx hb hts hi_wsX10 hown hK hP (7 + d6) (wx_dial (o := o) hk11) rfl 2 (by decide) (hts (.fieldLink RX7 87 "OrreryDials$Dial" "place" "J") (by decide +kernel)) (fun _ h9 => h9) rfl dX7_note_63 ?_
        refine vp_callSl (W.runS (As := [.int (c_dF o d6), .int a2, .long (c_dP o d6)]) (rest := [.int a3, .ref (ad (400 + d2))]) ⟨hx, hb, hml, hown, hts⟩ (qX4_ofReal l (c_dF o d6) a2 (c_dP o d6)) (va_cwS 3 hts gX7_note_X4_ofReal rfl rfl rfl (by decide +kernel) ⟨Nat.le_of_ble_eq_true rfl, Nat.le_of_ble_eq_true rfl⟩) ⟨fun _ _ _ _ q => q, fun U hU hW => rfl⟩ rfl rfl hl.1 rfl (lv_room (Nat.le_of_ble_eq_true rfl)) dX7_note_66 ⟨Nat.le_of_ble_eq_true rfl, Nat.le_of_ble_eq_true rfl⟩) (fun r hq9 => ?_)
        rw [hq9]
        obtain ⟨hk12, hV⟩ := hV
        refine va_last hx hb hK hP hD hS (7 + (c_nd o + (c_nv o + (16 + d2)))) 1 (wx_arr (o := o) hk8) rfl hk12 dX7_note_69 (fun H locs hP hD hS => ?_)
        rw [wx_a_rP (o := o) hk8] at hP hD
        refine lv_aload_n hx hb dX7_note_70 rfl (lv_at hl 3 rfl) ?_
        refine lv_iconst (v := (1 : Int32)) hx hb dX7_note_71 (by decide) ?_
        refine cl_i (va_runV (As := [.int (1 : Int32)]) (rest := []) ⟨hx, hb, hml, hown, hts⟩ (qX7_done l dC dI cy x ad H.size (t_rP o (va_up (c_rP o) d2 (vp_updL (c_rP o d2) a3.toNatClampNeg (jX4_ofReal (c_dF o d6) a2 (c_dP o d6))))) (1 : Int32)) (cwV 1 hts gX7_note_X7_done rfl rfl rfl (by decide +kernel) ⟨Nat.le_of_ble_eq_true rfl, Nat.le_of_ble_eq_true rfl⟩) (pV hK hP hD hk (q0 := 0) (wx_h (o := (t_rP o (va_up (c_rP o) d2 (vp_updL (c_rP o d2) a3.toNatClampNeg (jX4_ofReal (c_dF o d6) a2 (c_dP o d6)))))) rfl) rfl) rfl rfl hl.1 rfl (lv_room (Nat.le_of_ble_eq_true rfl)) dX7_note_72 ⟨Nat.le_of_ble_eq_true rfl, Nat.le_of_ble_eq_true rfl⟩) hD hS hA (fun r u H locs hw hP hD hS => ?_)
        have hr1 : r = (jX7_done (t_rP o (va_up (c_rP o) d2 (vp_updL (c_rP o d2) a3.toNatClampNeg (jX4_ofReal (c_dF o d6) a2 (c_dP o d6))))) (1 : Int32)).1 := congrArg Prod.fst hw
        have hu1 : u = (jX7_done (t_rP o (va_up (c_rP o) d2 (vp_updL (c_rP o d2) a3.toNatClampNeg (jX4_ofReal (c_dF o d6) a2 (c_dP o d6))))) (1 : Int32)).2 := congrArg Prod.snd hw
        rw [hu1] at hP hD
        rw [hr1]
        exact W.iret hx hb hr (fun t ht hW => ⟨⟨_, _, rfl, hJ.trans hE.symm, by rw [ht]; exact hP, va_K.moved hW.alike hK, hD⟩, hS.F ht⟩) hS.2.2 dX7_note_75
      · skip
        rw [if_neg c10] at hJ
        rw [if_neg c10] at hV
        refine lv_aload_n hx hb dX7_note_42 rfl (lv_at hl 3 rfl) ?_
        refine lv_iload hx hb dX7_note_43 (lv_at hl 0 rfl) ?_
        obtain ⟨hk13, hV⟩ := hV
        refine cl_i (va_runV (As := [.int y9]) (rest := []) ⟨hx, hb, hml, hown, hts⟩ (qX7_failWith l dC dI cy x ad H.size o y9 hk13) (cwV 1 hts gX7_note_X7_failWith rfl rfl rfl (by decide +kernel) ⟨Nat.le_of_ble_eq_true rfl, Nat.le_of_ble_eq_true rfl⟩) (pV hK hP hD hk (q0 := 0) (wx_h (o := o) rfl) rfl) rfl rfl hl.1 rfl (lv_room (Nat.le_of_ble_eq_true rfl)) dX7_note_45 ⟨Nat.le_of_ble_eq_true rfl, Nat.le_of_ble_eq_true rfl⟩) hD hS hA (fun r u H locs hw hP hD hS => ?_)
        have hr1 : r = (jX7_failWith o y9).1 := congrArg Prod.fst hw
        have hu1 : u = (jX7_failWith o y9).2 := congrArg Prod.snd hw
        rw [hu1] at hP hD
        rw [hr1]
        exact W.iret hx hb hr (fun t ht hW => ⟨⟨_, _, rfl, hJ.trans hE.symm, by rw [ht]; exact hP, va_K.moved hW.alike hK, hD⟩, hS.F ht⟩) hS.2.2 dX7_note_48
