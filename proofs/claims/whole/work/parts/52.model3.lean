def jX8_place_y5 (o : Ms) (a1 : Int32) (a2 : Int32) (y5 : UInt32) : Int64 := ((jJxf58ca_floatToIntBits_5c35a y5).toInt64)
def sX8_place_y5 (o : Ms) (a1 : Int32) (a2 : Int32) (y5 : UInt32) : Prop := True ∧ True
def jX8_place_y9 (o : Ms) (a1 : Int32) (a2 : Int32) (y9 : UInt64) : Int64 := (jJxe99ae_doubleToLongBits_ccdee y9)
def sX8_place_y9 (o : Ms) (a1 : Int32) (a2 : Int32) (y9 : UInt64) : Prop := True ∧ True
def jX8_place (o : Ms) (a1 : Int32) (a2 : Int32) : Int64 := (if (jX8_isDial o a1) = 0 then (0 : Int64) else (if (jX8_in (a2.toInt64) (0 : Int64) (1 : Int64)) = 0 then (0 : Int64) else (if (m_isFine o a1.toNatClampNeg) = 0 then (jX8_place_y5 o a1 a2 (if a2 = 0 then (m_placeF o a1.toNatClampNeg) else (m_rimF o a1.toNatClampNeg))) else (jX8_place_y9 o a1 a2 (if a2 = 0 then (m_placeD o a1.toNatClampNeg) else (m_rimD o a1.toNatClampNeg))))))
def sX8_place (o : Ms) (a1 : Int32) (a2 : Int32) : Prop := True ∧ (if (jX8_isDial o a1) = 0 then True else (if (jX8_in (a2.toInt64) (0 : Int64) (1 : Int64)) = 0 then True else (vp_in a1 12 ∧ (if (m_isFine o a1.toNatClampNeg) = 0 then ((if a2 = 0 then (vp_in a1 12 ∧ True) else (vp_in a1 12 ∧ True)) ∧ (sX8_place_y5 o a1 a2 (if a2 = 0 then (m_placeF o a1.toNatClampNeg) else (m_rimF o a1.toNatClampNeg)))) else ((if a2 = 0 then (vp_in a1 12 ∧ True) else (vp_in a1 12 ∧ True)) ∧ (sX8_place_y9 o a1 a2 (if a2 = 0 then (m_placeD o a1.toNatClampNeg) else (m_rimD o a1.toNatClampNeg))))))))
set_option linter.constructorNameAsVariable false in
set_option maxHeartbeats 8000000 in
set_option maxRecDepth 100000 in
theorem qX8_place (l : Launch) (dC : Nat → ClassId) (dI : Nat → Nat → Nat) (cy : Nat → ClassId) (y : Nat) (bd : Nat → Nat) (sz : Nat) (o : Ms) (a1 : Int32) (a2 : Int32) (hV : sX8_place o a1 a2) : Met l yX8_place wsX8_place ({ frames := 2, cells := 0, slots := 0, locals := 46 }) (va_Pc [.ref y, .int a1, .int a2] (wI (dC, dI) (tyA cy) (WM cy y bd o) sz)) (vp_Sl (fun r => r = jX8_place o a1 a2)) 0 0 (fun _ => False) := by
  refine Met.ofW (cc := cX8_place) (maxL := 3) (ret := some .long) (by decide) rfl ?_
  intro p e s m args below meth c s₁ B hml hv
  obtain ⟨rfl, hsz, hP, hK, hD0, hk⟩ := hv
  have hx := B.exec
  have hb := B.bytes
  have hr := B.returns
  have hts := atoms_spec (ws := wsX8_place) B.pre
  have hown : s.vm.findClass RX8 = some m.cls := findClass_of_methodNamed B.named
  have hlocks := B.notSynchronized
  subst hsz
  have hD := hD0
  obtain ⟨H, hHe⟩ : ∃ H, s.heap = H := ⟨_, rfl⟩
  have hP : va_P (dC, dI) vwCl (WM cy y bd o) H := by rw [← hHe]; exact hP
  rw [w_heap hHe]
  have hi_wsX80 : ∀ w ∈ wsX80, w ∈ wsX8_place := fun _ h => List.mem_cons_of_mem _ (List.mem_append_right _ h)
  obtain ⟨JR, hE⟩ : ∃ q, jX8_place o a1 a2 = q := ⟨_, rfl⟩
  have hJ := hE
  rw [jX8_place] at hJ
  rw [sX8_place] at hV
  have hV := hV.2
  have hl := lv_entry ([.ref y, .int a1, .int a2]) (n := 3) (Nat.le_of_ble_eq_true rfl)
  rw [lg_entry_eq]
  generalize (lg_sl ([.ref y, .int a1, .int a2]) ++ List.replicate (3 - (lg_sl ([.ref y, .int a1, .int a2])).length) Slot.unset).toArray = ls at hl ⊢
  have hl : lv_has ls 3 [(0, .ref y), (1, .int a1), (2, .int a2)] := hl
  refine lv_aload_n hx hb dX8_place_0 rfl (lv_at hl 0 rfl) ?_
  refine lv_iload_n hx hb dX8_place_1 rfl (lv_at hl 1 rfl) ?_
  refine vp_callSi (W.runV (As := [.int a1]) (rest := []) ⟨hx, hb, hml, hown, hts⟩ (qX8_isDial l dC dI cy y bd H.size o a1) (cwV 1 hts gX8_place_X8_isDial rfl rfl rfl (by decide +kernel) ⟨Nat.le_of_ble_eq_true rfl, Nat.le_of_ble_eq_true rfl⟩) (pV hK hP hD hk (q0 := 0) rfl rfl) rfl rfl hl.1 rfl (lv_room (Nat.le_of_ble_eq_true rfl)) dX8_place_2 ⟨Nat.le_of_ble_eq_true rfl, Nat.le_of_ble_eq_true rfl⟩) (fun r hq9 => ?_)
  rw [hq9]
  refine lv_if_eq (tgt := 18) hx hb dX8_place_5 (by decide) (fun c1 => ?_) (fun c1 => ?_)
  · skip
    rw [if_pos c1] at hJ
    rw [if_pos c1] at hV
    refine lv_lconst (v := (0 : Int64)) hx hb dX8_place_18 (by decide) ?_
    exact W.lret hx hb hr (fun t ht hW => ⟨_, rfl, hJ.trans hE.symm, ht.trans hHe.symm⟩) (fun q h => absurd h List.not_mem_nil) dX8_place_19
  · skip
    rw [if_neg c1] at hJ
    rw [if_neg c1] at hV
    refine lv_iload_n hx hb dX8_place_8 rfl (lv_at hl 2 rfl) ?_
    refine lv_i2l (v := a2.toInt64) hx hb dX8_place_9 rfl ?_
    refine lv_lconst (v := (0 : Int64)) hx hb dX8_place_10 (by decide) ?_
    refine lv_lconst (v := (1 : Int64)) hx hb dX8_place_11 (by decide) ?_
    refine vp_callSi (W.runS (As := [.long (a2.toInt64), .long (0 : Int64), .long (1 : Int64)]) (rest := []) ⟨hx, hb, hml, hown, hts⟩ (qX8_in l (a2.toInt64) (0 : Int64) (1 : Int64)) (va_cwS 3 hts gX8_place_X8_in rfl rfl rfl (by decide +kernel) ⟨Nat.le_of_ble_eq_true rfl, Nat.le_of_ble_eq_true rfl⟩) ⟨fun _ _ _ _ q => q, fun U hU hW => rfl⟩ rfl rfl hl.1 rfl (lv_room (Nat.le_of_ble_eq_true rfl)) dX8_place_12 ⟨Nat.le_of_ble_eq_true rfl, Nat.le_of_ble_eq_true rfl⟩) (fun r hq9 => ?_)
    rw [hq9]
    refine lv_if_ne (tgt := 20) hx hb dX8_place_15 (by decide) (fun c2 => ?_) (fun c2 => ?_)
    · skip
      rw [if_neg c2] at hJ
      rw [if_neg c2] at hV
      refine lv_aload_n hx hb dX8_place_20 rfl (lv_at hl 0 rfl) ?_
      refine va_get (D := (dC, dI)) (ci := 6) (v := .ref (bd 0)) (C := RX8) (T := TX8) (N := 20) (fs := wm_f bd o) hx hb hts hi_wsX80 hown hK hP 0 rfl rfl 1 (by decide) (hts (.fieldLink RX8 7 "OrreryDialsModel" "isFine" "[Z") (by decide +kernel)) (fun _ h9 => h9) rfl dX8_place_21 ?_
      refine lv_iload_n hx hb dX8_place_24 rfl (lv_at hl 1 rfl) ?_
      obtain ⟨hk3, hV⟩ := hV
      refine va_zald hx hb hK hP 1 2 rfl rfl hk3 dX8_place_25 ?_
      refine lv_if_eq (tgt := 52) hx hb dX8_place_26 (by decide) (fun c4 => ?_) (fun c4 => ?_)
      · skip
        rw [if_pos c4] at hJ
        rw [if_pos c4] at hV
        refine lv_iload_n hx hb dX8_place_52 rfl (lv_at hl 2 rfl) ?_
        obtain ⟨hv, hV⟩ := hV
        refine jn_f (J := 71) (ls := ls) (v := (if a2 = 0 then (m_placeF o a1.toNatClampNeg) else (m_rimF o a1.toNatClampNeg))) (rest := []) ?_ (fun y5 ey5 => ?_)
        · intro hj
          refine lv_if_ne (tgt := 65) hx hb dX8_place_53 (by decide) (fun c6 => ?_) (fun c6 => ?_)
          · skip
            rw [if_neg c6] at hj
            try rw [if_neg c6] at hv
            refine lv_aload_n hx hb dX8_place_65 rfl (lv_at hl 0 rfl) ?_
            refine va_get (D := (dC, dI)) (ci := 6) (v := .ref (bd 1)) (C := RX8) (T := TX8) (N := 20) (fs := wm_f bd o) hx hb hts hi_wsX80 hown hK hP 0 rfl rfl 2 (by decide) (hts (.fieldLink RX8 13 "OrreryDialsModel" "rimF" "[F") (by decide +kernel)) (fun _ h9 => h9) rfl dX8_place_66 ?_
            refine lv_iload_n hx hb dX8_place_69 rfl (lv_at hl 1 rfl) ?_
            obtain ⟨hk7, hv⟩ := hv
            refine va_fald hx hb hK hP 2 3 rfl rfl hk7 dX8_place_70 ?_
            exact hj
          · skip
            rw [if_pos c6] at hj
            try rw [if_pos c6] at hv
            refine lv_aload_n hx hb dX8_place_56 rfl (lv_at hl 0 rfl) ?_
            refine va_get (D := (dC, dI)) (ci := 6) (v := .ref (bd 2)) (C := RX8) (T := TX8) (N := 20) (fs := wm_f bd o) hx hb hts hi_wsX80 hown hK hP 0 rfl rfl 3 (by decide) (hts (.fieldLink RX8 17 "OrreryDialsModel" "placeF" "[F") (by decide +kernel)) (fun _ h9 => h9) rfl dX8_place_57 ?_
            refine lv_iload_n hx hb dX8_place_60 rfl (lv_at hl 1 rfl) ?_
            obtain ⟨hk8, hv⟩ := hv
            refine va_fald hx hb hK hP 3 3 rfl rfl hk8 dX8_place_61 ?_
            refine lv_goto (tgt := 71) hx hb dX8_place_62 (by decide) ?_
            exact hj
        rw [← ey5] at hJ
        rw [jX8_place_y5] at hJ
        rw [← ey5] at hV
        rw [sX8_place_y5] at hV
        have hV := hV.2
        refine vp_callSi (W.runS (As := [.float y5]) (rest := []) ⟨hx, hb, hml, hown, hts⟩ (qJxf58ca_floatToIntBits_5c35a l y5) (va_cwS 1 hts gX8_place_Jxf58ca_floatToIntBits_5c35a rfl rfl rfl (by decide +kernel) ⟨Nat.le_of_ble_eq_true rfl, Nat.le_of_ble_eq_true rfl⟩) ⟨fun _ _ _ _ q => q, fun U hU hW => rfl⟩ rfl rfl hl.1 rfl (lv_room (Nat.le_of_ble_eq_true rfl)) dX8_place_71 ⟨Nat.le_of_ble_eq_true rfl, Nat.le_of_ble_eq_true rfl⟩) (fun r hq9 => ?_)
        rw [hq9]
        refine lv_i2l (v := (jJxf58ca_floatToIntBits_5c35a y5).toInt64) hx hb dX8_place_74 rfl ?_
        exact W.lret hx hb hr (fun t ht hW => ⟨_, rfl, hJ.trans hE.symm, ht.trans hHe.symm⟩) (fun q h => absurd h List.not_mem_nil) dX8_place_75
      · skip
        rw [if_neg c4] at hJ
        rw [if_neg c4] at hV
        refine lv_iload_n hx hb dX8_place_29 rfl (lv_at hl 2 rfl) ?_
        obtain ⟨hv, hV⟩ := hV
        refine jn_d (J := 48) (ls := ls) (v := (if a2 = 0 then (m_placeD o a1.toNatClampNeg) else (m_rimD o a1.toNatClampNeg))) (rest := []) ?_ (fun y9 ey9 => ?_)
        · intro hj
          refine lv_if_ne (tgt := 42) hx hb dX8_place_30 (by decide) (fun c10 => ?_) (fun c10 => ?_)
          · skip
            rw [if_neg c10] at hj
            try rw [if_neg c10] at hv
            refine lv_aload_n hx hb dX8_place_42 rfl (lv_at hl 0 rfl) ?_
            refine va_get (D := (dC, dI)) (ci := 6) (v := .ref (bd 3)) (C := RX8) (T := TX8) (N := 20) (fs := wm_f bd o) hx hb hts hi_wsX80 hown hK hP 0 rfl rfl 4 (by decide) (hts (.fieldLink RX8 20 "OrreryDialsModel" "rimD" "[D") (by decide +kernel)) (fun _ h9 => h9) rfl dX8_place_43 ?_
            refine lv_iload_n hx hb dX8_place_46 rfl (lv_at hl 1 rfl) ?_
            obtain ⟨hk11, hv⟩ := hv
            refine va_dald hx hb hK hP 4 4 rfl rfl hk11 dX8_place_47 ?_
            exact hj
          · skip
            rw [if_pos c10] at hj
            try rw [if_pos c10] at hv
            refine lv_aload_n hx hb dX8_place_33 rfl (lv_at hl 0 rfl) ?_
            refine va_get (D := (dC, dI)) (ci := 6) (v := .ref (bd 4)) (C := RX8) (T := TX8) (N := 20) (fs := wm_f bd o) hx hb hts hi_wsX80 hown hK hP 0 rfl rfl 5 (by decide) (hts (.fieldLink RX8 24 "OrreryDialsModel" "placeD" "[D") (by decide +kernel)) (fun _ h9 => h9) rfl dX8_place_34 ?_
            refine lv_iload_n hx hb dX8_place_37 rfl (lv_at hl 1 rfl) ?_
            obtain ⟨hk12, hv⟩ := hv
            refine va_dald hx hb hK hP 5 4 rfl rfl hk12 dX8_place_38 ?_
            refine lv_goto (tgt := 48) hx hb dX8_place_39 (by decide) ?_
            exact hj
        rw [← ey9] at hJ
        rw [jX8_place_y9] at hJ
        rw [← ey9] at hV
        rw [sX8_place_y9] at hV
        have hV := hV.2
        refine vp_callSl (W.runS (As := [.double y9]) (rest := []) ⟨hx, hb, hml, hown, hts⟩ (qJxe99ae_doubleToLongBits_ccdee l y9) (va_cwS 1 hts gX8_place_Jxe99ae_doubleToLongBits_ccdee rfl rfl rfl (by decide +kernel) ⟨Nat.le_of_ble_eq_true rfl, Nat.le_of_ble_eq_true rfl⟩) ⟨fun _ _ _ _ q => q, fun U hU hW => rfl⟩ rfl rfl hl.1 rfl (lv_room (Nat.le_of_ble_eq_true rfl)) dX8_place_48 ⟨Nat.le_of_ble_eq_true rfl, Nat.le_of_ble_eq_true rfl⟩) (fun r hq9 => ?_)
        rw [hq9]
        exact W.lret hx hb hr (fun t ht hW => ⟨_, rfl, hJ.trans hE.symm, ht.trans hHe.symm⟩) (fun q h => absurd h List.not_mem_nil) dX8_place_51
    · skip
      rw [if_pos c2] at hJ
      rw [if_pos c2] at hV
      refine lv_lconst (v := (0 : Int64)) hx hb dX8_place_18 (by decide) ?_
      exact W.lret hx hb hr (fun t ht hW => ⟨_, rfl, hJ.trans hE.symm, ht.trans hHe.symm⟩) (fun q h => absurd h List.not_mem_nil) dX8_place_19
def jX8_laps (o : Ms) (a1 : Int32) : Int64 := (if (jX8_isDial o a1) = 0 then (0 : Int64) else (m_lapsOf o a1.toNatClampNeg))
def sX8_laps (o : Ms) (a1 : Int32) : Prop := True ∧ (if (jX8_isDial o a1) = 0 then True else (vp_in a1 12 ∧ True))
set_option linter.constructorNameAsVariable false in
set_option maxHeartbeats 8000000 in
set_option maxRecDepth 100000 in
theorem qX8_laps (l : Launch) (dC : Nat → ClassId) (dI : Nat → Nat → Nat) (cy : Nat → ClassId) (y : Nat) (bd : Nat → Nat) (sz : Nat) (o : Ms) (a1 : Int32) (hV : sX8_laps o a1) : Met l yX8_laps wsX8_laps ({ frames := 2, cells := 0, slots := 0, locals := 46 }) (va_Pc [.ref y, .int a1] (wI (dC, dI) (tyA cy) (WM cy y bd o) sz)) (vp_Sl (fun r => r = jX8_laps o a1)) 0 0 (fun _ => False) := by
  refine Met.ofW (cc := cX8_laps) (maxL := 2) (ret := some .long) (by decide) rfl ?_
  intro p e s m args below meth c s₁ B hml hv
  obtain ⟨rfl, hsz, hP, hK, hD0, hk⟩ := hv
  have hx := B.exec
  have hb := B.bytes
  have hr := B.returns
  have hts := atoms_spec (ws := wsX8_laps) B.pre
  have hown : s.vm.findClass RX8 = some m.cls := findClass_of_methodNamed B.named
  have hlocks := B.notSynchronized
  subst hsz
  have hD := hD0
  obtain ⟨H, hHe⟩ : ∃ H, s.heap = H := ⟨_, rfl⟩
  have hP : va_P (dC, dI) vwCl (WM cy y bd o) H := by rw [← hHe]; exact hP
  rw [w_heap hHe]
  have hi_wsX80 : ∀ w ∈ wsX80, w ∈ wsX8_laps := fun _ h => List.mem_cons_of_mem _ (List.mem_append_right _ h)
  obtain ⟨JR, hE⟩ : ∃ q, jX8_laps o a1 = q := ⟨_, rfl⟩
  have hJ := hE
  rw [jX8_laps] at hJ
  rw [sX8_laps] at hV
  have hV := hV.2
  have hl := lv_entry ([.ref y, .int a1]) (n := 2) (Nat.le_of_ble_eq_true rfl)
  rw [lg_entry_eq]
  generalize (lg_sl ([.ref y, .int a1]) ++ List.replicate (2 - (lg_sl ([.ref y, .int a1])).length) Slot.unset).toArray = ls at hl ⊢
  have hl : lv_has ls 2 [(0, .ref y), (1, .int a1)] := hl
  refine lv_aload_n hx hb dX8_laps_0 rfl (lv_at hl 0 rfl) ?_
  refine lv_iload_n hx hb dX8_laps_1 rfl (lv_at hl 1 rfl) ?_
  refine vp_callSi (W.runV (As := [.int a1]) (rest := []) ⟨hx, hb, hml, hown, hts⟩ (qX8_isDial l dC dI cy y bd H.size o a1) (cwV 1 hts gX8_laps_X8_isDial rfl rfl rfl (by decide +kernel) ⟨Nat.le_of_ble_eq_true rfl, Nat.le_of_ble_eq_true rfl⟩) (pV hK hP hD hk (q0 := 0) rfl rfl) rfl rfl hl.1 rfl (lv_room (Nat.le_of_ble_eq_true rfl)) dX8_laps_2 ⟨Nat.le_of_ble_eq_true rfl, Nat.le_of_ble_eq_true rfl⟩) (fun r hq9 => ?_)
  rw [hq9]
  refine lv_if_eq (tgt := 17) hx hb dX8_laps_5 (by decide) (fun c1 => ?_) (fun c1 => ?_)
  · skip
    rw [if_pos c1] at hJ
    rw [if_pos c1] at hV
    refine lv_lconst (v := (0 : Int64)) hx hb dX8_laps_17 (by decide) ?_
    exact W.lret hx hb hr (fun t ht hW => ⟨_, rfl, hJ.trans hE.symm, ht.trans hHe.symm⟩) (fun q h => absurd h List.not_mem_nil) dX8_laps_18
  · skip
    rw [if_neg c1] at hJ
    rw [if_neg c1] at hV
    refine lv_aload_n hx hb dX8_laps_8 rfl (lv_at hl 0 rfl) ?_
    refine va_get (D := (dC, dI)) (ci := 6) (v := .ref (bd 5)) (C := RX8) (T := TX8) (N := 20) (fs := wm_f bd o) hx hb hts hi_wsX80 hown hK hP 0 rfl rfl 6 (by decide) (hts (.fieldLink RX8 27 "OrreryDialsModel" "lapsOf" "[J") (by decide +kernel)) (fun _ h9 => h9) rfl dX8_laps_9 ?_
    refine lv_iload_n hx hb dX8_laps_12 rfl (lv_at hl 1 rfl) ?_
    obtain ⟨hk2, hV⟩ := hV
    refine va_lald hx hb hK hP 6 1 rfl rfl hk2 dX8_laps_13 ?_
    refine lv_goto (tgt := 18) hx hb dX8_laps_14 (by decide) ?_
    exact W.lret hx hb hr (fun t ht hW => ⟨_, rfl, hJ.trans hE.symm, ht.trans hHe.symm⟩) (fun q h => absurd h List.not_mem_nil) dX8_laps_18
def jX8_fine (o : Ms) (a1 : Int32) : Int32 := (if (jX8_isDial o a1) = 0 then (-101 : Int32) else (if (m_isFine o a1.toNatClampNeg) = 0 then (0 : Int32) else (1 : Int32)))
def sX8_fine (o : Ms) (a1 : Int32) : Prop := True ∧ (if (jX8_isDial o a1) = 0 then True else (vp_in a1 12 ∧ (if (m_isFine o a1.toNatClampNeg) = 0 then True else True)))
set_option linter.constructorNameAsVariable false in
set_option maxHeartbeats 8000000 in
set_option maxRecDepth 100000 in
theorem qX8_fine (l : Launch) (dC : Nat → ClassId) (dI : Nat → Nat → Nat) (cy : Nat → ClassId) (y : Nat) (bd : Nat → Nat) (sz : Nat) (o : Ms) (a1 : Int32) (hV : sX8_fine o a1) : Met l yX8_fine wsX8_fine ({ frames := 2, cells := 0, slots := 0, locals := 46 }) (va_Pc [.ref y, .int a1] (wI (dC, dI) (tyA cy) (WM cy y bd o) sz)) (vp_Si (fun r => r = jX8_fine o a1)) 0 0 (fun _ => False) := by
  refine Met.ofW (cc := cX8_fine) (maxL := 2) (ret := some .int) (by decide) rfl ?_
  intro p e s m args below meth c s₁ B hml hv
  obtain ⟨rfl, hsz, hP, hK, hD0, hk⟩ := hv
  have hx := B.exec
  have hb := B.bytes
  have hr := B.returns
  have hts := atoms_spec (ws := wsX8_fine) B.pre
  have hown : s.vm.findClass RX8 = some m.cls := findClass_of_methodNamed B.named
  have hlocks := B.notSynchronized
  subst hsz
  have hD := hD0
  obtain ⟨H, hHe⟩ : ∃ H, s.heap = H := ⟨_, rfl⟩
  have hP : va_P (dC, dI) vwCl (WM cy y bd o) H := by rw [← hHe]; exact hP
  rw [w_heap hHe]
  have hi_wsX80 : ∀ w ∈ wsX80, w ∈ wsX8_fine := fun _ h => List.mem_cons_of_mem _ (List.mem_append_right _ h)
  obtain ⟨JR, hE⟩ : ∃ q, jX8_fine o a1 = q := ⟨_, rfl⟩
  have hJ := hE
  rw [jX8_fine] at hJ
  rw [sX8_fine] at hV
  have hV := hV.2
  have hl := lv_entry ([.ref y, .int a1]) (n := 2) (Nat.le_of_ble_eq_true rfl)
  rw [lg_entry_eq]
  generalize (lg_sl ([.ref y, .int a1]) ++ List.replicate (2 - (lg_sl ([.ref y, .int a1])).length) Slot.unset).toArray = ls at hl ⊢
  have hl : lv_has ls 2 [(0, .ref y), (1, .int a1)] := hl
  refine lv_aload_n hx hb dX8_fine_0 rfl (lv_at hl 0 rfl) ?_
  refine lv_iload_n hx hb dX8_fine_1 rfl (lv_at hl 1 rfl) ?_
  refine vp_callSi (W.runV (As := [.int a1]) (rest := []) ⟨hx, hb, hml, hown, hts⟩ (qX8_isDial l dC dI cy y bd H.size o a1) (cwV 1 hts gX8_fine_X8_isDial rfl rfl rfl (by decide +kernel) ⟨Nat.le_of_ble_eq_true rfl, Nat.le_of_ble_eq_true rfl⟩) (pV hK hP hD hk (q0 := 0) rfl rfl) rfl rfl hl.1 rfl (lv_room (Nat.le_of_ble_eq_true rfl)) dX8_fine_2 ⟨Nat.le_of_ble_eq_true rfl, Nat.le_of_ble_eq_true rfl⟩) (fun r hq9 => ?_)
  rw [hq9]
  refine lv_if_ne (tgt := 13) hx hb dX8_fine_5 (by decide) (fun c1 => ?_) (fun c1 => ?_)
  · skip
    rw [if_neg c1] at hJ
    rw [if_neg c1] at hV
    refine lv_aload_n hx hb dX8_fine_13 rfl (lv_at hl 0 rfl) ?_
    refine va_get (D := (dC, dI)) (ci := 6) (v := .ref (bd 0)) (C := RX8) (T := TX8) (N := 20) (fs := wm_f bd o) hx hb hts hi_wsX80 hown hK hP 0 rfl rfl 1 (by decide) (hts (.fieldLink RX8 7 "OrreryDialsModel" "isFine" "[Z") (by decide +kernel)) (fun _ h9 => h9) rfl dX8_fine_14 ?_
    refine lv_iload_n hx hb dX8_fine_17 rfl (lv_at hl 1 rfl) ?_
    obtain ⟨hk2, hV⟩ := hV
    refine va_zald hx hb hK hP 1 2 rfl rfl hk2 dX8_fine_18 ?_
    refine lv_if_eq (tgt := 26) hx hb dX8_fine_19 (by decide) (fun c3 => ?_) (fun c3 => ?_)
    · skip
      rw [if_pos c3] at hJ
      rw [if_pos c3] at hV
      refine lv_iconst (v := (0 : Int32)) hx hb dX8_fine_26 (by decide) ?_
      exact W.iret hx hb hr (fun t ht hW => ⟨_, rfl, hJ.trans hE.symm, ht.trans hHe.symm⟩) (fun q h => absurd h List.not_mem_nil) dX8_fine_27
    · skip
      rw [if_neg c3] at hJ
      rw [if_neg c3] at hV
      refine lv_iconst (v := (1 : Int32)) hx hb dX8_fine_22 (by decide) ?_
      refine lv_goto (tgt := 27) hx hb dX8_fine_23 (by decide) ?_
      exact W.iret hx hb hr (fun t ht hW => ⟨_, rfl, hJ.trans hE.symm, ht.trans hHe.symm⟩) (fun q h => absurd h List.not_mem_nil) dX8_fine_27
  · skip
    rw [if_pos c1] at hJ
    rw [if_pos c1] at hV
    refine lv_bipush (v := (-101 : Int32)) hx hb dX8_fine_8 (by decide) ?_
    refine lv_goto (tgt := 27) hx hb dX8_fine_10 (by decide) ?_
    exact W.iret hx hb hr (fun t ht hW => ⟨_, rfl, hJ.trans hE.symm, ht.trans hHe.symm⟩) (fun q h => absurd h List.not_mem_nil) dX8_fine_27
def jX8_isDrive (o : Ms) (a1 : Int32) : Int32 := (jX8_in (a1.toInt64) (0 : Int64) (((m_drives o).toInt64) - (1 : Int64)))
set_option linter.constructorNameAsVariable false in
set_option maxHeartbeats 8000000 in
set_option maxRecDepth 100000 in
theorem qX8_isDrive (l : Launch) (dC : Nat → ClassId) (dI : Nat → Nat → Nat) (cy : Nat → ClassId) (y : Nat) (bd : Nat → Nat) (sz : Nat) (o : Ms) (a1 : Int32) : Met l yX8_isDrive wsX8_isDrive ({ frames := 1, cells := 0, slots := 0, locals := 25 }) (va_Pc [.ref y, .int a1] (wI (dC, dI) (tyA cy) (WM cy y bd o) sz)) (vp_Si (fun r => r = jX8_isDrive o a1)) 0 0 (fun _ => False) := by
  refine Met.ofW (cc := cX8_isDrive) (maxL := 2) (ret := some .boolean) (by decide) rfl ?_
  intro p e s m args below meth c s₁ B hml hv
  obtain ⟨rfl, hsz, hP, hK, hD0, hk⟩ := hv
  have hx := B.exec
  have hb := B.bytes
  have hr := B.returns
  have hts := atoms_spec (ws := wsX8_isDrive) B.pre
  have hown : s.vm.findClass RX8 = some m.cls := findClass_of_methodNamed B.named
  have hlocks := B.notSynchronized
  subst hsz
  have hD := hD0
  obtain ⟨H, hHe⟩ : ∃ H, s.heap = H := ⟨_, rfl⟩
  have hP : va_P (dC, dI) vwCl (WM cy y bd o) H := by rw [← hHe]; exact hP
  rw [w_heap hHe]
  have hi_wsX80 : ∀ w ∈ wsX80, w ∈ wsX8_isDrive := fun _ h => List.mem_cons_of_mem _ (List.mem_append_right _ h)
  obtain ⟨JR, hE⟩ : ∃ q, jX8_isDrive o a1 = q := ⟨_, rfl⟩
  have hJ := hE
  rw [jX8_isDrive] at hJ
  have hl := lv_entry ([.ref y, .int a1]) (n := 2) (Nat.le_of_ble_eq_true rfl)
  rw [lg_entry_eq]
  generalize (lg_sl ([.ref y, .int a1]) ++ List.replicate (2 - (lg_sl ([.ref y, .int a1])).length) Slot.unset).toArray = ls at hl ⊢
  have hl : lv_has ls 2 [(0, .ref y), (1, .int a1)] := hl
  refine lv_iload_n hx hb dX8_isDrive_0 rfl (lv_at hl 1 rfl) ?_
  refine lv_i2l (v := a1.toInt64) hx hb dX8_isDrive_1 rfl ?_
  refine lv_lconst (v := (0 : Int64)) hx hb dX8_isDrive_2 (by decide) ?_
  refine lv_aload_n hx hb dX8_isDrive_3 rfl (lv_at hl 0 rfl) ?_
  refine va_get (D := (dC, dI)) (ci := 6) (v := .int (m_drives o)) (C := RX8) (T := TX8) (N := 20) (fs := wm_f bd o) hx hb hts hi_wsX80 hown hK hP 0 rfl rfl 7 (by decide) (hts (.fieldLink RX8 156 "OrreryDialsModel" "drives" "I") (by decide +kernel)) (fun _ h9 => h9) rfl dX8_isDrive_4 ?_
  refine lv_i2l (v := (m_drives o).toInt64) hx hb dX8_isDrive_7 rfl ?_
  refine lv_lconst (v := (1 : Int64)) hx hb dX8_isDrive_8 (by decide) ?_
  refine lv_lsub hx hb dX8_isDrive_9 ?_
  refine vp_callSi (W.runS (As := [.long (a1.toInt64), .long (0 : Int64), .long (((m_drives o).toInt64) - (1 : Int64))]) (rest := []) ⟨hx, hb, hml, hown, hts⟩ (qX8_in l (a1.toInt64) (0 : Int64) (((m_drives o).toInt64) - (1 : Int64))) (va_cwS 3 hts gX8_isDrive_X8_in rfl rfl rfl (by decide +kernel) ⟨Nat.le_of_ble_eq_true rfl, Nat.le_of_ble_eq_true rfl⟩) ⟨fun _ _ _ _ q => q, fun U hU hW => rfl⟩ rfl rfl hl.1 rfl (lv_room (Nat.le_of_ble_eq_true rfl)) dX8_isDrive_10 ⟨Nat.le_of_ble_eq_true rfl, Nat.le_of_ble_eq_true rfl⟩) (fun r hq9 => ?_)
  rw [hq9]
  exact W.zret hx hb hr (narrow_bool (bX8_in (a1.toInt64) (0 : Int64) (((m_drives o).toInt64) - (1 : Int64)))) (fun t ht hW => ⟨_, rfl, hJ.trans hE.symm, ht.trans hHe.symm⟩) (fun q h => absurd h List.not_mem_nil) dX8_isDrive_13
theorem bX8_isDrive (o : Ms) (a1 : Int32) : (jX8_isDrive o a1) = 0 ∨ (jX8_isDrive o a1) = 1 := by
  unfold jX8_isDrive
  exact (bX8_in (a1.toInt64) (0 : Int64) (((m_drives o).toInt64) - (1 : Int64)))
def jX8_isSlot (a0 : Int32) : Int32 := (jX8_in (a0.toInt64) (0 : Int64) (5 : Int64))
set_option linter.constructorNameAsVariable false in
set_option maxHeartbeats 8000000 in
set_option maxRecDepth 100000 in
theorem qX8_isSlot (l : Launch) (a0 : Int32) : Met l yX8_isSlot wsX8_isSlot ({ frames := 1, cells := 0, slots := 0, locals := 25 }) (fun v _ => v = ([.int a0] : List Value).toArray) (vp_Si (fun r => r = jX8_isSlot a0)) 0 0 (fun _ => False) := by
  refine Met.ofW (cc := cX8_isSlot) (maxL := 1) (ret := some .boolean) (by decide) rfl ?_
  intro p e s m args below meth c s₁ B hml hv
  subst hv
  have hx := B.exec
  have hb := B.bytes
  have hr := B.returns
  have hts := atoms_spec (ws := wsX8_isSlot) B.pre
  have hown : s.vm.findClass RX8 = some m.cls := findClass_of_methodNamed B.named
  have hlocks := B.notSynchronized
  obtain ⟨JR, hE⟩ : ∃ q, jX8_isSlot a0 = q := ⟨_, rfl⟩
  have hJ := hE
  rw [jX8_isSlot] at hJ
  have hl := lv_entry ([.int a0]) (n := 1) (Nat.le_of_ble_eq_true rfl)
  rw [lg_entry_eq]
  generalize (lg_sl ([.int a0]) ++ List.replicate (1 - (lg_sl ([.int a0])).length) Slot.unset).toArray = ls at hl ⊢
  have hl : lv_has ls 1 [(0, .int a0)] := hl
  refine lv_iload_n hx hb dX8_isSlot_0 rfl (lv_at hl 0 rfl) ?_
  refine lv_i2l (v := a0.toInt64) hx hb dX8_isSlot_1 rfl ?_
  refine lv_lconst (v := (0 : Int64)) hx hb dX8_isSlot_2 (by decide) ?_
  refine lv_ldc2 (v := (5 : Int64)) hx hb hown (hts (.constantLong RX8 159 (5)) (by decide +kernel)) dX8_isSlot_3 ?_
  refine vp_callSi (W.runS (As := [.long (a0.toInt64), .long (0 : Int64), .long (5 : Int64)]) (rest := []) ⟨hx, hb, hml, hown, hts⟩ (qX8_in l (a0.toInt64) (0 : Int64) (5 : Int64)) (va_cwS 3 hts gX8_isSlot_X8_in rfl rfl rfl (by decide +kernel) ⟨Nat.le_of_ble_eq_true rfl, Nat.le_of_ble_eq_true rfl⟩) ⟨fun _ _ _ _ q => q, fun U hU hW => rfl⟩ rfl rfl hl.1 rfl (lv_room (Nat.le_of_ble_eq_true rfl)) dX8_isSlot_6 ⟨Nat.le_of_ble_eq_true rfl, Nat.le_of_ble_eq_true rfl⟩) (fun r hq9 => ?_)
  rw [hq9]
  exact W.zret hx hb hr (narrow_bool (bX8_in (a0.toInt64) (0 : Int64) (5 : Int64))) (fun t ht hW => ⟨_, rfl, hJ.trans hE.symm, ht⟩) (fun q h => absurd h List.not_mem_nil) dX8_isSlot_9
theorem bX8_isSlot (a0 : Int32) : (jX8_isSlot a0) = 0 ∨ (jX8_isSlot a0) = 1 := by
  unfold jX8_isSlot
  exact (bX8_in (a0.toInt64) (0 : Int64) (5 : Int64))
def jX8_isShaft (a0 : Int32) : Int32 := (jX8_in (a0.toInt64) (0 : Int64) (1 : Int64))
set_option linter.constructorNameAsVariable false in
set_option maxHeartbeats 8000000 in
set_option maxRecDepth 100000 in
theorem qX8_isShaft (l : Launch) (a0 : Int32) : Met l yX8_isShaft wsX8_isShaft ({ frames := 1, cells := 0, slots := 0, locals := 25 }) (fun v _ => v = ([.int a0] : List Value).toArray) (vp_Si (fun r => r = jX8_isShaft a0)) 0 0 (fun _ => False) := by
  refine Met.ofW (cc := cX8_isShaft) (maxL := 1) (ret := some .boolean) (by decide) rfl ?_
  intro p e s m args below meth c s₁ B hml hv
  subst hv
  have hx := B.exec
  have hb := B.bytes
  have hr := B.returns
  have hts := atoms_spec (ws := wsX8_isShaft) B.pre
  have hown : s.vm.findClass RX8 = some m.cls := findClass_of_methodNamed B.named
  have hlocks := B.notSynchronized
  obtain ⟨JR, hE⟩ : ∃ q, jX8_isShaft a0 = q := ⟨_, rfl⟩
  have hJ := hE
  rw [jX8_isShaft] at hJ
  have hl := lv_entry ([.int a0]) (n := 1) (Nat.le_of_ble_eq_true rfl)
  rw [lg_entry_eq]
  generalize (lg_sl ([.int a0]) ++ List.replicate (1 - (lg_sl ([.int a0])).length) Slot.unset).toArray = ls at hl ⊢
  have hl : lv_has ls 1 [(0, .int a0)] := hl
  refine lv_iload_n hx hb dX8_isShaft_0 rfl (lv_at hl 0 rfl) ?_
  refine lv_i2l (v := a0.toInt64) hx hb dX8_isShaft_1 rfl ?_
  refine lv_lconst (v := (0 : Int64)) hx hb dX8_isShaft_2 (by decide) ?_
  refine lv_lconst (v := (1 : Int64)) hx hb dX8_isShaft_3 (by decide) ?_
  refine vp_callSi (W.runS (As := [.long (a0.toInt64), .long (0 : Int64), .long (1 : Int64)]) (rest := []) ⟨hx, hb, hml, hown, hts⟩ (qX8_in l (a0.toInt64) (0 : Int64) (1 : Int64)) (va_cwS 3 hts gX8_isShaft_X8_in rfl rfl rfl (by decide +kernel) ⟨Nat.le_of_ble_eq_true rfl, Nat.le_of_ble_eq_true rfl⟩) ⟨fun _ _ _ _ q => q, fun U hU hW => rfl⟩ rfl rfl hl.1 rfl (lv_room (Nat.le_of_ble_eq_true rfl)) dX8_isShaft_4 ⟨Nat.le_of_ble_eq_true rfl, Nat.le_of_ble_eq_true rfl⟩) (fun r hq9 => ?_)
  rw [hq9]
  exact W.zret hx hb hr (narrow_bool (bX8_in (a0.toInt64) (0 : Int64) (1 : Int64))) (fun t ht hW => ⟨_, rfl, hJ.trans hE.symm, ht⟩) (fun q h => absurd h List.not_mem_nil) dX8_isShaft_7
theorem bX8_isShaft (a0 : Int32) : (jX8_isShaft a0) = 0 ∨ (jX8_isShaft a0) = 1 := by
  unfold jX8_isShaft
  exact (bX8_in (a0.toInt64) (0 : Int64) (1 : Int64))
