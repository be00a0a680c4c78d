def jX4_nearest_y7 (a0 : Int32) (a1 : Int32) (a2 : Int64) (a4 : Int32) (y2 : Int32) (y3 : Int32) (y4 : Int64) (y5 : Int64) (y7 : Int64) : Int64 := (jX4_signed a0 a1 y7)
def jX4_nearest_y5 (a0 : Int32) (a1 : Int32) (a2 : Int64) (a4 : Int32) (y2 : Int32) (y3 : Int32) (y4 : Int64) (y5 : Int64) : Int64 := (if (y5 + (1 : Int64)) < ((y4.toUInt64 >>> ((jX4_width a0).toInt64.toUInt64 &&& Int64.toUInt64 63)).toInt64) then (jX4_nearest_y7 a0 a1 a2 a4 y2 y3 y4 y5 ((y5 <<< ((jX4_width a0).toInt64 &&& 63)) + (jX4_rounded a2 (y3 - a4)))) else (jX4_signed a0 a1 y4))
def jX4_nearest_y4 (a0 : Int32) (a1 : Int32) (a2 : Int64) (a4 : Int32) (y2 : Int32) (y3 : Int32) (y4 : Int64) : Int64 := (jX4_nearest_y5 a0 a1 a2 a4 y2 y3 y4 ((y3 - y2).toInt64))
def jX4_nearest_y3 (a0 : Int32) (a1 : Int32) (a2 : Int64) (a4 : Int32) (y2 : Int32) (y3 : Int32) : Int64 := (jX4_nearest_y4 a0 a1 a2 a4 y2 y3 (jX4_endless a0))
def jX4_nearest_y2 (a0 : Int32) (a1 : Int32) (a2 : Int64) (a4 : Int32) (y2 : Int32) : Int64 := (jX4_nearest_y3 a0 a1 a2 a4 y2 (if (((a4 + (jX4_lengthOf a2)) - (1 : Int32)) - (jX4_width a0)) < y2 then y2 else (((a4 + (jX4_lengthOf a2)) - (1 : Int32)) - (jX4_width a0))))
def jX4_nearest (a0 : Int32) (a1 : Int32) (a2 : Int64) (a4 : Int32) : Int64 := (if a2 = (0 : Int64) then (jX4_signed a0 a1 (0 : Int64)) else (jX4_nearest_y2 a0 a1 a2 a4 (jX4_leastExponent a0)))
set_option maxHeartbeats 4000000 in
set_option maxRecDepth 100000 in
theorem qX4_nearest (l : Launch) (a0 : Int32) (a1 : Int32) (a2 : Int64) (a4 : Int32) : Met l yX4_nearest wsX4_nearest ({ frames := 3, cells := 0, slots := 0, locals := 64 }) (fun v _ => v = ([.int a0, .int a1, .long a2, .int a4] : List Value).toArray) (vp_Sl (fun r => r = jX4_nearest a0 a1 a2 a4)) 0 0 (fun _ => False) := by
  refine Met.ofW (cc := cX4_nearest) (maxL := 13) (ret := some .long) (by decide) rfl ?_
  intro p e s m args below meth c s₁ B hml hv
  subst hv
  have hx := B.exec
  have hb := B.bytes
  have hr := B.returns
  have hts := atoms_spec (ws := wsX4_nearest) B.pre
  have hown : s.vm.findClass RX4 = some m.cls := findClass_of_methodNamed B.named
  have hlocks := B.notSynchronized
  obtain ⟨JR, hE⟩ : ∃ q, jX4_nearest a0 a1 a2 a4 = q := ⟨_, rfl⟩
  have hJ := hE
  rw [jX4_nearest] at hJ
  have hl := lv_entry ([.int a0, .int a1, .long a2, .int a4]) (n := 13) (Nat.le_of_ble_eq_true rfl)
  rw [lg_entry_eq]
  generalize (lg_sl ([.int a0, .int a1, .long a2, .int a4]) ++ List.replicate (13 - (lg_sl ([.int a0, .int a1, .long a2, .int a4])).length) Slot.unset).toArray = ls at hl ⊢
  have hl : lv_has ls 13 [(0, .int a0), (1, .int a1), (2, .long a2), (4, .int a4)] := hl
  refine lv_lload_n hx hb dX4_nearest_0 rfl (lv_at hl 2 rfl) ?_
  refine lv_lconst (v := (0 : Int64)) hx hb dX4_nearest_1 (by decide) ?_
  refine W.lcmp hx hb dX4_nearest_2 ?_
  refine lv_if_ne (tgt := 13) hx hb dX4_nearest_3 (by decide) (fun c1 => ?_) (fun c1 => ?_)
  · have c1 := mt (lg_cmp_eq _ _).mpr c1
    rw [if_neg c1] at hJ
    refine lv_iload_n hx hb dX4_nearest_13 rfl (lv_at hl 0 rfl) ?_
    refine vp_callSi (W.runS (As := [.int a0]) (rest := []) ⟨hx, hb, hml, hown, hts⟩ (qX4_leastExponent l a0) (va_cwS 1 hts gX4_nearest_X4_leastExponent rfl rfl rfl (by decide +kernel) ⟨Nat.le_of_ble_eq_true rfl, Nat.le_of_ble_eq_true rfl⟩) ⟨fun _ _ _ _ q => q, fun U hU hW => rfl⟩ rfl rfl hl.1 rfl (lv_room (Nat.le_of_ble_eq_true rfl)) dX4_nearest_14 ⟨Nat.le_of_ble_eq_true rfl, Nat.le_of_ble_eq_true rfl⟩) (fun r hr => ?_)
    subst hr
    refine lv_topi (fun y2 ey2 => ?_)
    rw [← ey2] at hJ
    rw [jX4_nearest_y2] at hJ
    refine lv_istore (lv' := [(5, .int y2), (0, .int a0), (1, .int a1), (2, .long a2), (4, .int a4)]) hx hb dX4_nearest_17 hl (by decide) rfl (fun ls hl => ?_)
    refine lv_iload hx hb dX4_nearest_19 (lv_at hl 4 rfl) ?_
    refine lv_lload_n hx hb dX4_nearest_21 rfl (lv_at hl 3 rfl) ?_
    refine vp_callSi (W.runS (As := [.long a2]) (rest := [.int a4]) ⟨hx, hb, hml, hown, hts⟩ (qX4_lengthOf l a2) (va_cwS 1 hts gX4_nearest_X4_lengthOf rfl rfl rfl (by decide +kernel) ⟨Nat.le_of_ble_eq_true rfl, Nat.le_of_ble_eq_true rfl⟩) ⟨fun _ _ _ _ q => q, fun U hU hW => rfl⟩ rfl rfl hl.1 rfl (lv_room (Nat.le_of_ble_eq_true rfl)) dX4_nearest_22 ⟨Nat.le_of_ble_eq_true rfl, Nat.le_of_ble_eq_true rfl⟩) (fun r hr => ?_)
    subst hr
    refine lv_iadd hx hb dX4_nearest_25 ?_
    refine lv_iconst (v := (1 : Int32)) hx hb dX4_nearest_26 (by decide) ?_
    refine lv_isub hx hb dX4_nearest_27 ?_
    refine lv_iload_n hx hb dX4_nearest_28 rfl (lv_at hl 1 rfl) ?_
    refine vp_callSi (W.runS (As := [.int a0]) (rest := [.int ((a4 + (jX4_lengthOf a2)) - (1 : Int32))]) ⟨hx, hb, hml, hown, hts⟩ (qX4_width l a0) (va_cwS 1 hts gX4_nearest_X4_width rfl rfl rfl (by decide +kernel) ⟨Nat.le_of_ble_eq_true rfl, Nat.le_of_ble_eq_true rfl⟩) ⟨fun _ _ _ _ q => q, fun U hU hW => rfl⟩ rfl rfl hl.1 rfl (lv_room (Nat.le_of_ble_eq_true rfl)) dX4_nearest_29 ⟨Nat.le_of_ble_eq_true rfl, Nat.le_of_ble_eq_true rfl⟩) (fun r hr => ?_)
    subst hr
    refine lv_isub hx hb dX4_nearest_32 ?_
    refine lv_iload hx hb dX4_nearest_33 (lv_at hl 0 rfl) ?_
    refine va_mmax hx hb (hml.trans hl.1.symm) hown (hts (.methodLink RX4 57 Lib.Math.max.name) (by decide +kernel)) (hts (.static Lib.Math.max.name) (by decide +kernel)) (hts (.initialized "java/lang/Math") (by decide +kernel)) (hts (.code Lib.Math.max.name Lib.Math.max.code 2 (some .int)) (by decide +kernel)) (Nat.le_of_ble_eq_true rfl) (Nat.le_of_ble_eq_true rfl) (Nat.zero_le _) (Nat.zero_le _) dX4_nearest_35 ?_
    refine lv_topi (fun y3 ey3 => ?_)
    rw [← ey3] at hJ
    rw [jX4_nearest_y3] at hJ
    refine lv_istore (lv' := [(6, .int y3), (5, .int y2), (0, .int a0), (1, .int a1), (2, .long a2), (4, .int a4)]) hx hb dX4_nearest_38 hl (by decide) rfl (fun ls hl => ?_)
    refine lv_iload_n hx hb dX4_nearest_40 rfl (lv_at hl 2 rfl) ?_
    refine vp_callSl (W.runS (As := [.int a0]) (rest := []) ⟨hx, hb, hml, hown, hts⟩ (qX4_endless l a0) (va_cwS 1 hts gX4_nearest_X4_endless rfl rfl rfl (by decide +kernel) ⟨Nat.le_of_ble_eq_true rfl, Nat.le_of_ble_eq_true rfl⟩) ⟨fun _ _ _ _ q => q, fun U hU hW => rfl⟩ rfl rfl hl.1 rfl (lv_room (Nat.le_of_ble_eq_true rfl)) dX4_nearest_41 ⟨Nat.le_of_ble_eq_true rfl, Nat.le_of_ble_eq_true rfl⟩) (fun r hr => ?_)
    subst hr
    refine lv_topl (fun y4 ey4 => ?_)
    rw [← ey4] at hJ
    rw [jX4_nearest_y4] at hJ
    refine lv_lstore (lv' := [(7, .long y4), (6, .int y3), (5, .int y2), (0, .int a0), (1, .int a1), (2, .long a2), (4, .int a4)]) hx hb dX4_nearest_44 hl (by decide) rfl (fun ls hl => ?_)
    refine lv_iload hx hb dX4_nearest_46 (lv_at hl 1 rfl) ?_
    refine lv_iload hx hb dX4_nearest_48 (lv_at hl 2 rfl) ?_
    refine lv_isub hx hb dX4_nearest_50 ?_
    refine lv_i2l (v := (y3 - y2).toInt64) hx hb dX4_nearest_51 rfl ?_
    refine lv_topl (fun y5 ey5 => ?_)
    rw [← ey5] at hJ
    rw [jX4_nearest_y5] at hJ
    refine lv_lstore (lv' := [(9, .long y5), (7, .long y4), (6, .int y3), (5, .int y2), (0, .int a0), (1, .int a1), (2, .long a2), (4, .int a4)]) hx hb dX4_nearest_52 hl (by decide) rfl (fun ls hl => ?_)
    refine lv_lload hx hb dX4_nearest_54 (lv_at hl 0 rfl) ?_
    refine lv_lconst (v := (1 : Int64)) hx hb dX4_nearest_56 (by decide) ?_
    refine lv_ladd hx hb dX4_nearest_57 ?_
    refine lv_lload hx hb dX4_nearest_58 (lv_at hl 1 rfl) ?_
    refine lv_iload_n hx hb dX4_nearest_60 rfl (lv_at hl 4 rfl) ?_
    refine vp_callSi (W.runS (As := [.int a0]) (rest := [.long y4, .long (y5 + (1 : Int64))]) ⟨hx, hb, hml, hown, hts⟩ (qX4_width l a0) (va_cwS 1 hts gX4_nearest_X4_width rfl rfl rfl (by decide +kernel) ⟨Nat.le_of_ble_eq_true rfl, Nat.le_of_ble_eq_true rfl⟩) ⟨fun _ _ _ _ q => q, fun U hU hW => rfl⟩ rfl rfl hl.1 rfl (lv_room (Nat.le_of_ble_eq_true rfl)) dX4_nearest_61 ⟨Nat.le_of_ble_eq_true rfl, Nat.le_of_ble_eq_true rfl⟩) (fun r hr => ?_)
    subst hr
    refine lv_lushr (v := (y4.toUInt64 >>> ((jX4_width a0).toInt64.toUInt64 &&& Int64.toUInt64 63)).toInt64) hx hb dX4_nearest_64 rfl ?_
    refine W.lcmp hx hb dX4_nearest_65 ?_
    refine lv_if_lt (tgt := 77) hx hb dX4_nearest_66 (by decide) (fun c6 => ?_) (fun c6 => ?_)
    · have c6 := (lg_cmp_lt _ _).mp c6
      rw [if_pos c6] at hJ
      refine lv_lload hx hb dX4_nearest_77 (lv_at hl 0 rfl) ?_
      refine lv_iload_n hx hb dX4_nearest_79 rfl (lv_at hl 4 rfl) ?_
      refine vp_callSi (W.runS (As := [.int a0]) (rest := [.long y5]) ⟨hx, hb, hml, hown, hts⟩ (qX4_width l a0) (va_cwS 1 hts gX4_nearest_X4_width rfl rfl rfl (by decide +kernel) ⟨Nat.le_of_ble_eq_true rfl, Nat.le_of_ble_eq_true rfl⟩) ⟨fun _ _ _ _ q => q, fun U hU hW => rfl⟩ rfl rfl hl.1 rfl (lv_room (Nat.le_of_ble_eq_true rfl)) dX4_nearest_80 ⟨Nat.le_of_ble_eq_true rfl, Nat.le_of_ble_eq_true rfl⟩) (fun r hr => ?_)
      subst hr
      refine lv_lshl (v := (y5 <<< ((jX4_width a0).toInt64 &&& 63))) hx hb dX4_nearest_83 rfl ?_
      refine lv_lload_n hx hb dX4_nearest_84 rfl (lv_at hl 6 rfl) ?_
      refine lv_iload hx hb dX4_nearest_85 (lv_at hl 2 rfl) ?_
      refine lv_iload hx hb dX4_nearest_87 (lv_at hl 7 rfl) ?_
      refine lv_isub hx hb dX4_nearest_89 ?_
      refine vp_callSl (W.runS (As := [.long a2, .int (y3 - a4)]) (rest := [.long (y5 <<< ((jX4_width a0).toInt64 &&& 63))]) ⟨hx, hb, hml, hown, hts⟩ (qX4_rounded l a2 (y3 - a4)) (va_cwS 2 hts gX4_nearest_X4_rounded rfl rfl rfl (by decide +kernel) ⟨Nat.le_of_ble_eq_true rfl, Nat.le_of_ble_eq_true rfl⟩) ⟨fun _ _ _ _ q => q, fun U hU hW => rfl⟩ rfl rfl hl.1 rfl (lv_room (Nat.le_of_ble_eq_true rfl)) dX4_nearest_90 ⟨Nat.le_of_ble_eq_true rfl, Nat.le_of_ble_eq_true rfl⟩) (fun r hr => ?_)
      subst hr
      refine lv_ladd hx hb dX4_nearest_93 ?_
      refine lv_topl (fun y7 ey7 => ?_)
      rw [← ey7] at hJ
      rw [jX4_nearest_y7] at hJ
      refine lv_lstore (lv' := [(11, .long y7), (9, .long y5), (7, .long y4), (6, .int y3), (5, .int y2), (0, .int a0), (1, .int a1), (2, .long a2), (4, .int a4)]) hx hb dX4_nearest_94 hl (by decide) rfl (fun ls hl => ?_)
      refine lv_iload_n hx hb dX4_nearest_96 rfl (lv_at hl 5 rfl) ?_
      refine lv_iload_n hx hb dX4_nearest_97 rfl (lv_at hl 6 rfl) ?_
      refine lv_lload hx hb dX4_nearest_98 (lv_at hl 0 rfl) ?_
      refine vp_callSl (W.runS (As := [.int a0, .int a1, .long y7]) (rest := []) ⟨hx, hb, hml, hown, hts⟩ (qX4_signed l a0 a1 y7) (va_cwS 3 hts gX4_nearest_X4_signed rfl rfl rfl (by decide +kernel) ⟨Nat.le_of_ble_eq_true rfl, Nat.le_of_ble_eq_true rfl⟩) ⟨fun _ _ _ _ q => q, fun U hU hW => rfl⟩ rfl rfl hl.1 rfl (lv_room (Nat.le_of_ble_eq_true rfl)) dX4_nearest_100 ⟨Nat.le_of_ble_eq_true rfl, Nat.le_of_ble_eq_true rfl⟩) (fun r hr => ?_)
      subst hr
      exact W.lret hx hb hr (fun t ht hW => ⟨_, rfl, hJ.trans hE.symm, ht⟩) (fun q h => absurd h List.not_mem_nil) dX4_nearest_103
    · have c6 := mt (lg_cmp_lt _ _).mpr c6
      rw [if_neg c6] at hJ
      refine lv_iload_n hx hb dX4_nearest_69 rfl (lv_at hl 4 rfl) ?_
      refine lv_iload_n hx hb dX4_nearest_70 rfl (lv_at hl 5 rfl) ?_
      refine lv_lload hx hb dX4_nearest_71 (lv_at hl 1 rfl) ?_
      refine vp_callSl (W.runS (As := [.int a0, .int a1, .long y4]) (rest := []) ⟨hx, hb, hml, hown, hts⟩ (qX4_signed l a0 a1 y4) (va_cwS 3 hts gX4_nearest_X4_signed rfl rfl rfl (by decide +kernel) ⟨Nat.le_of_ble_eq_true rfl, Nat.le_of_ble_eq_true rfl⟩) ⟨fun _ _ _ _ q => q, fun U hU hW => rfl⟩ rfl rfl hl.1 rfl (lv_room (Nat.le_of_ble_eq_true rfl)) dX4_nearest_73 ⟨Nat.le_of_ble_eq_true rfl, Nat.le_of_ble_eq_true rfl⟩) (fun r hr => ?_)
      subst hr
      exact W.lret hx hb hr (fun t ht hW => ⟨_, rfl, hJ.trans hE.symm, ht⟩) (fun q h => absurd h List.not_mem_nil) dX4_nearest_76
  · have c1 := (lg_cmp_eq _ _).mp c1
    rw [if_pos c1] at hJ
    refine lv_iload_n hx hb dX4_nearest_6 rfl (lv_at hl 0 rfl) ?_
    refine lv_iload_n hx hb dX4_nearest_7 rfl (lv_at hl 1 rfl) ?_
    refine lv_lconst (v := (0 : Int64)) hx hb dX4_nearest_8 (by decide) ?_
    refine vp_callSl (W.runS (As := [.int a0, .int a1, .long (0 : Int64)]) (rest := []) ⟨hx, hb, hml, hown, hts⟩ (qX4_signed l a0 a1 (0 : Int64)) (va_cwS 3 hts gX4_nearest_X4_signed rfl rfl rfl (by decide +kernel) ⟨Nat.le_of_ble_eq_true rfl, Nat.le_of_ble_eq_true rfl⟩) ⟨fun _ _ _ _ q => q, fun U hU hW => rfl⟩ rfl rfl hl.1 rfl (lv_room (Nat.le_of_ble_eq_true rfl)) dX4_nearest_9 ⟨Nat.le_of_ble_eq_true rfl, Nat.le_of_ble_eq_true rfl⟩) (fun r hr => ?_)
    subst hr
    exact W.lret hx hb hr (fun t ht hW => ⟨_, rfl, hJ.trans hE.symm, ht⟩) (fun q h => absurd h List.not_mem_nil) dX4_nearest_12
def jX4_timesInt_y5 (a0 : Int64) (a2 : Int32) (y1 : Int32) (y3 : Int32) (y5 : Int32) : Int64 := (jX4_nearest (1 : Int32) y5 ((jX4_mantissa (1 : Int32) a0) * (if 0 < (a2.toInt64) then (a2.toInt64) else -(a2.toInt64))) (jX4_exponent (1 : Int32) a0))
def jX4_timesInt_y3 (a0 : Int64) (a2 : Int32) (y1 : Int32) (y3 : Int32) : Int64 := (jX4_timesInt_y5 a0 a2 y1 y3 (if y1 = y3 then (0 : Int32) else (1 : Int32)))
def jX4_timesInt_y1 (a0 : Int64) (a2 : Int32) (y1 : Int32) : Int64 := (jX4_timesInt_y3 a0 a2 y1 (if 0 ≤ a2 then (0 : Int32) else (1 : Int32)))
def jX4_timesInt (a0 : Int64) (a2 : Int32) : Int64 := (jX4_timesInt_y1 a0 a2 (if (0 : Int64) ≤ a0 then (0 : Int32) else (1 : Int32)))
set_option maxHeartbeats 4000000 in
set_option maxRecDepth 100000 in
theorem qX4_timesInt (l : Launch) (a0 : Int64) (a2 : Int32) : Met l yX4_timesInt wsX4_timesInt ({ frames := 4, cells := 0, slots := 0, locals := 96 }) (fun v _ => v = ([.long a0, .int a2] : List Value).toArray) (vp_Sl (fun r => r = jX4_timesInt a0 a2)) 0 0 (fun _ => False) := by
  refine Met.ofW (cc := cX4_timesInt) (maxL := 4) (ret := some .long) (by decide) rfl ?_
  intro p e s m args below meth c s₁ B hml hv
  subst hv
  have hx := B.exec
  have hb := B.bytes
  have hr := B.returns
  have hts := atoms_spec (ws := wsX4_timesInt) B.pre
  have hown : s.vm.findClass RX4 = some m.cls := findClass_of_methodNamed B.named
  have hlocks := B.notSynchronized
  obtain ⟨JR, hE⟩ : ∃ q, jX4_timesInt a0 a2 = q := ⟨_, rfl⟩
  have hJ := hE
  rw [jX4_timesInt] at hJ
  have hl := lv_entry ([.long a0, .int a2]) (n := 4) (Nat.le_of_ble_eq_true rfl)
  rw [lg_entry_eq]
  generalize (lg_sl ([.long a0, .int a2]) ++ List.replicate (4 - (lg_sl ([.long a0, .int a2])).length) Slot.unset).toArray = ls at hl ⊢
  have hl : lv_has ls 4 [(0, .long a0), (2, .int a2)] := hl
  refine lv_lload_n hx hb dX4_timesInt_0 rfl (lv_at hl 0 rfl) ?_
  refine lv_lconst (v := (0 : Int64)) hx hb dX4_timesInt_1 (by decide) ?_
  refine W.lcmp hx hb dX4_timesInt_2 ?_
  refine jn_i (J := 11) (ls := ls) (v := (if (0 : Int64) ≤ a0 then (0 : Int32) else (1 : Int32))) (rest := []) ?_ (fun y1 ey1 => ?_)
  · intro hj
    refine lv_if_ge (tgt := 10) hx hb dX4_timesInt_3 (by decide) (fun c2 => ?_) (fun c2 => ?_)
    · have c2 := (lg_cmp_ge _ _).mp c2
      rw [if_pos c2] at hj
      refine lv_iconst (v := (0 : Int32)) hx hb dX4_timesInt_10 (by decide) ?_
      exact hj
    · have c2 := mt (lg_cmp_ge _ _).mpr c2
      rw [if_neg c2] at hj
      refine lv_iconst (v := (1 : Int32)) hx hb dX4_timesInt_6 (by decide) ?_
      refine lv_goto (tgt := 11) hx hb dX4_timesInt_7 (by decide) ?_
      exact hj
  rw [← ey1] at hJ
  rw [jX4_timesInt_y1] at hJ
  refine lv_iload_n hx hb dX4_timesInt_11 rfl (lv_at hl 1 rfl) ?_
  refine jn_i (J := 20) (ls := ls) (v := (if 0 ≤ a2 then (0 : Int32) else (1 : Int32))) (rest := [.int y1]) ?_ (fun y3 ey3 => ?_)
  · intro hj
    refine lv_if_ge (tgt := 19) hx hb dX4_timesInt_12 (by decide) (fun c4 => ?_) (fun c4 => ?_)
    · skip
      rw [if_pos c4] at hj
      refine lv_iconst (v := (0 : Int32)) hx hb dX4_timesInt_19 (by decide) ?_
      exact hj
    · skip
      rw [if_neg c4] at hj
      refine lv_iconst (v := (1 : Int32)) hx hb dX4_timesInt_15 (by decide) ?_
      refine lv_goto (tgt := 20) hx hb dX4_timesInt_16 (by decide) ?_
      exact hj
  rw [← ey3] at hJ
  rw [jX4_timesInt_y3] at hJ
  refine jn_i (J := 28) (ls := ls) (v := (if y1 = y3 then (0 : Int32) else (1 : Int32))) (rest := []) ?_ (fun y5 ey5 => ?_)
  · intro hj
    refine lv_icmp_eq (tgt := 27) hx hb dX4_timesInt_20 (by decide) (fun c6 => ?_) (fun c6 => ?_)
    · skip
      rw [if_pos c6] at hj
      refine lv_iconst (v := (0 : Int32)) hx hb dX4_timesInt_27 (by decide) ?_
      exact hj
    · skip
      rw [if_neg c6] at hj
      refine lv_iconst (v := (1 : Int32)) hx hb dX4_timesInt_23 (by decide) ?_
      refine lv_goto (tgt := 28) hx hb dX4_timesInt_24 (by decide) ?_
      exact hj
  rw [← ey5] at hJ
  rw [jX4_timesInt_y5] at hJ
  refine lv_istore_n (lv' := [(3, .int y5), (0, .long a0), (2, .int a2)]) hx hb dX4_timesInt_28 rfl hl (by decide) rfl (fun ls hl => ?_)
  refine lv_iconst (v := (1 : Int32)) hx hb dX4_timesInt_29 (by decide) ?_
  refine lv_iload_n hx hb dX4_timesInt_30 rfl (lv_at hl 0 rfl) ?_
  refine lv_iconst (v := (1 : Int32)) hx hb dX4_timesInt_31 (by decide) ?_
  refine lv_lload_n hx hb dX4_timesInt_32 rfl (lv_at hl 1 rfl) ?_
  refine vp_callSl (W.runS (As := [.int (1 : Int32), .long a0]) (rest := [.int y5, .int (1 : Int32)]) ⟨hx, hb, hml, hown, hts⟩ (qX4_mantissa l (1 : Int32) a0) (va_cwS 2 hts gX4_timesInt_X4_mantissa rfl rfl rfl (by decide +kernel) ⟨Nat.le_of_ble_eq_true rfl, Nat.le_of_ble_eq_true rfl⟩) ⟨fun _ _ _ _ q => q, fun U hU hW => rfl⟩ rfl rfl hl.1 rfl (lv_room (Nat.le_of_ble_eq_true rfl)) dX4_timesInt_33 ⟨Nat.le_of_ble_eq_true rfl, Nat.le_of_ble_eq_true rfl⟩) (fun r hr => ?_)
  subst hr
  refine lv_iload_n hx hb dX4_timesInt_36 rfl (lv_at hl 2 rfl) ?_
  refine lv_i2l (v := a2.toInt64) hx hb dX4_timesInt_37 rfl ?_
  refine va_mabs_long hx hb (hml.trans hl.1.symm) hown (hts (.methodLink RX4 48 Lib.MathLoose.abs_long.x) (by decide +kernel)) (hts (.static Lib.MathLoose.abs_long.x) (by decide +kernel)) (hts (.initialized "java/lang/Math") (by decide +kernel)) (hts (.code Lib.MathLoose.abs_long.x Lib.MathLoose.abs_long.code 2 (some .long)) (by decide +kernel)) (Nat.le_of_ble_eq_true rfl) (Nat.le_of_ble_eq_true rfl) (Nat.zero_le _) (Nat.zero_le _) dX4_timesInt_38 ?_
  refine lv_lmul hx hb dX4_timesInt_41 ?_
  refine lv_iconst (v := (1 : Int32)) hx hb dX4_timesInt_42 (by decide) ?_
  refine lv_lload_n hx hb dX4_timesInt_43 rfl (lv_at hl 1 rfl) ?_
  refine vp_callSi (W.runS (As := [.int (1 : Int32), .long a0]) (rest := [.long ((jX4_mantissa (1 : Int32) a0) * (if 0 < (a2.toInt64) then (a2.toInt64) else -(a2.toInt64))), .int y5, .int (1 : Int32)]) ⟨hx, hb, hml, hown, hts⟩ (qX4_exponent l (1 : Int32) a0) (va_cwS 2 hts gX4_timesInt_X4_exponent rfl rfl rfl (by decide +kernel) ⟨Nat.le_of_ble_eq_true rfl, Nat.le_of_ble_eq_true rfl⟩) ⟨fun _ _ _ _ q => q, fun U hU hW => rfl⟩ rfl rfl hl.1 rfl (lv_room (Nat.le_of_ble_eq_true rfl)) dX4_timesInt_44 ⟨Nat.le_of_ble_eq_true rfl, Nat.le_of_ble_eq_true rfl⟩) (fun r hr => ?_)
  subst hr
  refine vp_callSl (W.runS (As := [.int (1 : Int32), .int y5, .long ((jX4_mantissa (1 : Int32) a0) * (if 0 < (a2.toInt64) then (a2.toInt64) else -(a2.toInt64))), .int (jX4_exponent (1 : Int32) a0)]) (rest := []) ⟨hx, hb, hml, hown, hts⟩ (qX4_nearest l (1 : Int32) y5 ((jX4_mantissa (1 : Int32) a0) * (if 0 < (a2.toInt64) then (a2.toInt64) else -(a2.toInt64))) (jX4_exponent (1 : Int32) a0)) (va_cwS 4 hts gX4_timesInt_X4_nearest rfl rfl rfl (by decide +kernel) ⟨Nat.le_of_ble_eq_true rfl, Nat.le_of_ble_eq_true rfl⟩) ⟨fun _ _ _ _ q => q, fun U hU hW => rfl⟩ rfl rfl hl.1 rfl (lv_room (Nat.le_of_ble_eq_true rfl)) dX4_timesInt_47 ⟨Nat.le_of_ble_eq_true rfl, Nat.le_of_ble_eq_true rfl⟩) (fun r hr => ?_)
  subst hr
  exact W.lret hx hb hr (fun t ht hW => ⟨_, rfl, hJ.trans hE.symm, ht⟩) (fun q h => absurd h List.not_mem_nil) dX4_timesInt_50
def jX4_sum_y18 (a0 : Int32) (a1 : Int64) (a3 : Int64) (y1 : Int32) (y3 : Int64) (y5 : Int64) (y7 : Int64) (y8 : Int32) (y9 : Int64) (y10 : Int32) (y12 : Int32) (y14 : Int32) (y16 : Int64) (y18 : Int32) : Int64 := (jX4_nearest a0 y18 y16 ((jX4_exponent a0 y3) - (3 : Int32)))
def jX4_sum_y16 (a0 : Int32) (a1 : Int64) (a3 : Int64) (y1 : Int32) (y3 : Int64) (y5 : Int64) (y7 : Int64) (y8 : Int32) (y9 : Int64) (y10 : Int32) (y12 : Int32) (y14 : Int32) (y16 : Int64) : Int64 := (jX4_sum_y18 a0 a1 a3 y1 y3 y5 y7 y8 y9 y10 y12 y14 y16 (if (0 : Int64) ≤ y3 then (0 : Int32) else (if y16 = (0 : Int64) then (if (0 : Int64) ≤ y5 then (0 : Int32) else (1 : Int32)) else (1 : Int32))))
def jX4_sum_y14 (a0 : Int32) (a1 : Int64) (a3 : Int64) (y1 : Int32) (y3 : Int64) (y5 : Int64) (y7 : Int64) (y8 : Int32) (y9 : Int64) (y10 : Int32) (y12 : Int32) (y14 : Int32) : Int64 := (jX4_sum_y16 a0 a1 a3 y1 y3 y5 y7 y8 y9 y10 y12 y14 (if y14 = 0 then (y7 - y9) else (y7 + y9)))
def jX4_sum_y12 (a0 : Int32) (a1 : Int64) (a3 : Int64) (y1 : Int32) (y3 : Int64) (y5 : Int64) (y7 : Int64) (y8 : Int32) (y9 : Int64) (y10 : Int32) (y12 : Int32) : Int64 := (jX4_sum_y14 a0 a1 a3 y1 y3 y5 y7 y8 y9 y10 y12 (if y10 = y12 then (1 : Int32) else (0 : Int32)))
def jX4_sum_y10 (a0 : Int32) (a1 : Int64) (a3 : Int64) (y1 : Int32) (y3 : Int64) (y5 : Int64) (y7 : Int64) (y8 : Int32) (y9 : Int64) (y10 : Int32) : Int64 := (jX4_sum_y12 a0 a1 a3 y1 y3 y5 y7 y8 y9 y10 (if (0 : Int64) ≤ y5 then (0 : Int32) else (1 : Int32)))
def jX4_sum_y9 (a0 : Int32) (a1 : Int64) (a3 : Int64) (y1 : Int32) (y3 : Int64) (y5 : Int64) (y7 : Int64) (y8 : Int32) (y9 : Int64) : Int64 := (jX4_sum_y10 a0 a1 a3 y1 y3 y5 y7 y8 y9 (if (0 : Int64) ≤ y3 then (0 : Int32) else (1 : Int32)))
def jX4_sum_y8 (a0 : Int32) (a1 : Int64) (a3 : Int64) (y1 : Int32) (y3 : Int64) (y5 : Int64) (y7 : Int64) (y8 : Int32) : Int64 := (jX4_sum_y9 a0 a1 a3 y1 y3 y5 y7 y8 (jX4_shiftedOut ((jX4_mantissa a0 y5) <<< ((3 : Int32).toInt64 &&& 63)) y8))
def jX4_sum_y7 (a0 : Int32) (a1 : Int64) (a3 : Int64) (y1 : Int32) (y3 : Int64) (y5 : Int64) (y7 : Int64) : Int64 := (jX4_sum_y8 a0 a1 a3 y1 y3 y5 y7 ((jX4_exponent a0 y3) - (jX4_exponent a0 y5)))
def jX4_sum_y5 (a0 : Int32) (a1 : Int64) (a3 : Int64) (y1 : Int32) (y3 : Int64) (y5 : Int64) : Int64 := (jX4_sum_y7 a0 a1 a3 y1 y3 y5 ((jX4_mantissa a0 y3) <<< ((3 : Int32).toInt64 &&& 63)))
def jX4_sum_y3 (a0 : Int32) (a1 : Int64) (a3 : Int64) (y1 : Int32) (y3 : Int64) : Int64 := (jX4_sum_y5 a0 a1 a3 y1 y3 (if y1 = 0 then a1 else a3))
def jX4_sum_y1 (a0 : Int32) (a1 : Int64) (a3 : Int64) (y1 : Int32) : Int64 := (jX4_sum_y3 a0 a1 a3 y1 (if y1 = 0 then a3 else a1))
def jX4_sum (a0 : Int32) (a1 : Int64) (a3 : Int64) : Int64 := (jX4_sum_y1 a0 a1 a3 (if (jX4_sizeOf a0 a1) < (jX4_sizeOf a0 a3) then (0 : Int32) else (1 : Int32)))
set_option maxHeartbeats 4000000 in
set_option maxRecDepth 100000 in
theorem qX4_sum (l : Launch) (a0 : Int32) (a1 : Int64) (a3 : Int64) : Met l yX4_sum wsX4_sum ({ frames := 4, cells := 0, slots := 0, locals := 96 }) (fun v _ => v = ([.int a0, .long a1, .long a3] : List Value).toArray) (vp_Sl (fun r => r = jX4_sum a0 a1 a3)) 0 0 (fun _ => False) := by
  refine Met.ofW (cc := cX4_sum) (maxL := 19) (ret := some .long) (by decide) rfl ?_
  intro p e s m args below meth c s₁ B hml hv
  subst hv
  have hx := B.exec
  have hb := B.bytes
  have hr := B.returns
  have hts := atoms_spec (ws := wsX4_sum) B.pre
  have hown : s.vm.findClass RX4 = some m.cls := findClass_of_methodNamed B.named
  have hlocks := B.notSynchronized
  obtain ⟨JR, hE⟩ : ∃ q, jX4_sum a0 a1 a3 = q := ⟨_, rfl⟩
  have hJ := hE
  rw [jX4_sum] at hJ
  have hl := lv_entry ([.int a0, .long a1, .long a3]) (n := 19) (Nat.le_of_ble_eq_true rfl)
  rw [lg_entry_eq]
  generalize (lg_sl ([.int a0, .long a1, .long a3]) ++ List.replicate (19 - (lg_sl ([.int a0, .long a1, .long a3])).length) Slot.unset).toArray = ls at hl ⊢
  have hl : lv_has ls 19 [(0, .int a0), (1, .long a1), (3, .long a3)] := hl
  refine lv_iload_n hx hb dX4_sum_0 rfl (lv_at hl 0 rfl) ?_
  refine lv_lload_n hx hb dX4_sum_1 rfl (lv_at hl 1 rfl) ?_
  refine vp_callSl (W.runS (As := [.int a0, .long a1]) (rest := []) ⟨hx, hb, hml, hown, hts⟩ (qX4_sizeOf l a0 a1) (va_cwS 2 hts gX4_sum_X4_sizeOf rfl rfl rfl (by decide +kernel) ⟨Nat.le_of_ble_eq_true rfl, Nat.le_of_ble_eq_true rfl⟩) ⟨fun _ _ _ _ q => q, fun U hU hW => rfl⟩ rfl rfl hl.1 rfl (lv_room (Nat.le_of_ble_eq_true rfl)) dX4_sum_2 ⟨Nat.le_of_ble_eq_true rfl, Nat.le_of_ble_eq_true rfl⟩) (fun r hr => ?_)
  subst hr
  refine lv_iload_n hx hb dX4_sum_5 rfl (lv_at hl 0 rfl) ?_
  refine lv_lload_n hx hb dX4_sum_6 rfl (lv_at hl 2 rfl) ?_
  refine vp_callSl (W.runS (As := [.int a0, .long a3]) (rest := [.long (jX4_sizeOf a0 a1)]) ⟨hx, hb, hml, hown, hts⟩ (qX4_sizeOf l a0 a3) (va_cwS 2 hts gX4_sum_X4_sizeOf rfl rfl rfl (by decide +kernel) ⟨Nat.le_of_ble_eq_true rfl, Nat.le_of_ble_eq_true rfl⟩) ⟨fun _ _ _ _ q => q, fun U hU hW => rfl⟩ rfl rfl hl.1 rfl (lv_room (Nat.le_of_ble_eq_true rfl)) dX4_sum_7 ⟨Nat.le_of_ble_eq_true rfl, Nat.le_of_ble_eq_true rfl⟩) (fun r hr => ?_)
  subst hr
  refine W.lcmp hx hb dX4_sum_10 ?_
  refine jn_i (J := 19) (ls := ls) (v := (if (jX4_sizeOf a0 a1) < (jX4_sizeOf a0 a3) then (0 : Int32) else (1 : Int32))) (rest := []) ?_ (fun y1 ey1 => ?_)
  · intro hj
    refine lv_if_lt (tgt := 18) hx hb dX4_sum_11 (by decide) (fun c2 => ?_) (fun c2 => ?_)
    · have c2 := (lg_cmp_lt _ _).mp c2
      rw [if_pos c2] at hj
      refine lv_iconst (v := (0 : Int32)) hx hb dX4_sum_18 (by decide) ?_
      exact hj
    · have c2 := mt (lg_cmp_lt _ _).mpr c2
      rw [if_neg c2] at hj
      refine lv_iconst (v := (1 : Int32)) hx hb dX4_sum_14 (by decide) ?_
      refine lv_goto (tgt := 19) hx hb dX4_sum_15 (by decide) ?_
      exact hj
  rw [← ey1] at hJ
  rw [jX4_sum_y1] at hJ
  refine lv_istore (lv' := [(5, .int y1), (0, .int a0), (1, .long a1), (3, .long a3)]) hx hb dX4_sum_19 hl (by decide) rfl (fun ls hl => ?_)
  refine lv_iload hx hb dX4_sum_21 (lv_at hl 0 rfl) ?_
  refine jn_l (J := 31) (ls := ls) (v := (if y1 = 0 then a3 else a1)) (rest := []) ?_ (fun y3 ey3 => ?_)
  · intro hj
    refine lv_if_eq (tgt := 30) hx hb dX4_sum_23 (by decide) (fun c4 => ?_) (fun c4 => ?_)
    · skip
      rw [if_pos c4] at hj
      refine lv_lload_n hx hb dX4_sum_30 rfl (lv_at hl 3 rfl) ?_
      exact hj
    · skip
      rw [if_neg c4] at hj
      refine lv_lload_n hx hb dX4_sum_26 rfl (lv_at hl 2 rfl) ?_
      refine lv_goto (tgt := 31) hx hb dX4_sum_27 (by decide) ?_
      exact hj
  rw [← ey3] at hJ
  rw [jX4_sum_y3] at hJ
  refine lv_lstore (lv' := [(6, .long y3), (5, .int y1), (0, .int a0), (1, .long a1), (3, .long a3)]) hx hb dX4_sum_31 hl (by decide) rfl (fun ls hl => ?_)
  refine lv_iload hx hb dX4_sum_33 (lv_at hl 1 rfl) ?_
  refine jn_l (J := 43) (ls := ls) (v := (if y1 = 0 then a1 else a3)) (rest := []) ?_ (fun y5 ey5 => ?_)
  · intro hj
    refine lv_if_eq (tgt := 42) hx hb dX4_sum_35 (by decide) (fun c6 => ?_) (fun c6 => ?_)
    · skip
      rw [if_pos c6] at hj
      refine lv_lload_n hx hb dX4_sum_42 rfl (lv_at hl 3 rfl) ?_
      exact hj
    · skip
      rw [if_neg c6] at hj
      refine lv_lload_n hx hb dX4_sum_38 rfl (lv_at hl 4 rfl) ?_
      refine lv_goto (tgt := 43) hx hb dX4_sum_39 (by decide) ?_
      exact hj
  rw [← ey5] at hJ
  rw [jX4_sum_y5] at hJ
  refine lv_lstore (lv' := [(8, .long y5), (6, .long y3), (5, .int y1), (0, .int a0), (1, .long a1), (3, .long a3)]) hx hb dX4_sum_43 hl (by decide) rfl (fun ls hl => ?_)
  refine lv_iload_n hx hb dX4_sum_45 rfl (lv_at hl 3 rfl) ?_
  refine lv_lload hx hb dX4_sum_46 (lv_at hl 1 rfl) ?_
  refine vp_callSl (W.runS (As := [.int a0, .long y3]) (rest := []) ⟨hx, hb, hml, hown, hts⟩ (qX4_mantissa l a0 y3) (va_cwS 2 hts gX4_sum_X4_mantissa rfl rfl rfl (by decide +kernel) ⟨Nat.le_of_ble_eq_true rfl, Nat.le_of_ble_eq_true rfl⟩) ⟨fun _ _ _ _ q => q, fun U hU hW => rfl⟩ rfl rfl hl.1 rfl (lv_room (Nat.le_of_ble_eq_true rfl)) dX4_sum_48 ⟨Nat.le_of_ble_eq_true rfl, Nat.le_of_ble_eq_true rfl⟩) (fun r hr => ?_)
  subst hr
  refine lv_iconst (v := (3 : Int32)) hx hb dX4_sum_51 (by decide) ?_
  refine lv_lshl (v := ((jX4_mantissa a0 y3) <<< ((3 : Int32).toInt64 &&& 63))) hx hb dX4_sum_52 rfl ?_
  refine lv_topl (fun y7 ey7 => ?_)
  rw [← ey7] at hJ
  rw [jX4_sum_y7] at hJ
  refine lv_lstore (lv' := [(10, .long y7), (8, .long y5), (6, .long y3), (5, .int y1), (0, .int a0), (1, .long a1), (3, .long a3)]) hx hb dX4_sum_53 hl (by decide) rfl (fun ls hl => ?_)
  refine lv_iload_n hx hb dX4_sum_55 rfl (lv_at hl 4 rfl) ?_
  refine lv_lload hx hb dX4_sum_56 (lv_at hl 2 rfl) ?_
  refine vp_callSi (W.runS (As := [.int a0, .long y3]) (rest := []) ⟨hx, hb, hml, hown, hts⟩ (qX4_exponent l a0 y3) (va_cwS 2 hts gX4_sum_X4_exponent rfl rfl rfl (by decide +kernel) ⟨Nat.le_of_ble_eq_true rfl, Nat.le_of_ble_eq_true rfl⟩) ⟨fun _ _ _ _ q => q, fun U hU hW => rfl⟩ rfl rfl hl.1 rfl (lv_room (Nat.le_of_ble_eq_true rfl)) dX4_sum_58 ⟨Nat.le_of_ble_eq_true rfl, Nat.le_of_ble_eq_true rfl⟩) (fun r hr => ?_)
  subst hr
  refine lv_iload_n hx hb dX4_sum_61 rfl (lv_at hl 4 rfl) ?_
  refine lv_lload hx hb dX4_sum_62 (lv_at hl 1 rfl) ?_
  refine vp_callSi (W.runS (As := [.int a0, .long y5]) (rest := [.int (jX4_exponent a0 y3)]) ⟨hx, hb, hml, hown, hts⟩ (qX4_exponent l a0 y5) (va_cwS 2 hts gX4_sum_X4_exponent rfl rfl rfl (by decide +kernel) ⟨Nat.le_of_ble_eq_true rfl, Nat.le_of_ble_eq_true rfl⟩) ⟨fun _ _ _ _ q => q, fun U hU hW => rfl⟩ rfl rfl hl.1 rfl (lv_room (Nat.le_of_ble_eq_true rfl)) dX4_sum_64 ⟨Nat.le_of_ble_eq_true rfl, Nat.le_of_ble_eq_true rfl⟩) (fun r hr => ?_)
  subst hr
  refine lv_isub hx hb dX4_sum_67 ?_
  refine lv_topi (fun y8 ey8 => ?_)
  rw [← ey8] at hJ
  rw [jX4_sum_y8] at hJ
  refine lv_istore (lv' := [(12, .int y8), (10, .long y7), (8, .long y5), (6, .long y3), (5, .int y1), (0, .int a0), (1, .long a1), (3, .long a3)]) hx hb dX4_sum_68 hl (by decide) rfl (fun ls hl => ?_)
  refine lv_iload_n hx hb dX4_sum_70 rfl (lv_at hl 5 rfl) ?_
  refine lv_lload hx hb dX4_sum_71 (lv_at hl 2 rfl) ?_
  refine vp_callSl (W.runS (As := [.int a0, .long y5]) (rest := []) ⟨hx, hb, hml, hown, hts⟩ (qX4_mantissa l a0 y5) (va_cwS 2 hts gX4_sum_X4_mantissa rfl rfl rfl (by decide +kernel) ⟨Nat.le_of_ble_eq_true rfl, Nat.le_of_ble_eq_true rfl⟩) ⟨fun _ _ _ _ q => q, fun U hU hW => rfl⟩ rfl rfl hl.1 rfl (lv_room (Nat.le_of_ble_eq_true rfl)) dX4_sum_73 ⟨Nat.le_of_ble_eq_true rfl, Nat.le_of_ble_eq_true rfl⟩) (fun r hr => ?_)
  subst hr
  refine lv_iconst (v := (3 : Int32)) hx hb dX4_sum_76 (by decide) ?_
  refine lv_lshl (v := ((jX4_mantissa a0 y5) <<< ((3 : Int32).toInt64 &&& 63))) hx hb dX4_sum_77 rfl ?_
  refine lv_iload hx hb dX4_sum_78 (lv_at hl 0 rfl) ?_
  refine vp_callSl (W.runS (As := [.long ((jX4_mantissa a0 y5) <<< ((3 : Int32).toInt64 &&& 63)), .int y8]) (rest := []) ⟨hx, hb, hml, hown, hts⟩ (qX4_shiftedOut l ((jX4_mantissa a0 y5) <<< ((3 : Int32).toInt64 &&& 63)) y8) (va_cwS 2 hts gX4_sum_X4_shiftedOut rfl rfl rfl (by decide +kernel) ⟨Nat.le_of_ble_eq_true rfl, Nat.le_of_ble_eq_true rfl⟩) ⟨fun _ _ _ _ q => q, fun U hU hW => rfl⟩ rfl rfl hl.1 rfl (lv_room (Nat.le_of_ble_eq_true rfl)) dX4_sum_80 ⟨Nat.le_of_ble_eq_true rfl, Nat.le_of_ble_eq_true rfl⟩) (fun r hr => ?_)
  subst hr
  refine lv_topl (fun y9 ey9 => ?_)
  rw [← ey9] at hJ
  rw [jX4_sum_y9] at hJ
  refine lv_lstore (lv' := [(13, .long y9), (12, .int y8), (10, .long y7), (8, .long y5), (6, .long y3), (5, .int y1), (0, .int a0), (1, .long a1), (3, .long a3)]) hx hb dX4_sum_83 hl (by decide) rfl (fun ls hl => ?_)
  refine lv_lload hx hb dX4_sum_85 (lv_at hl 4 rfl) ?_
  refine lv_lconst (v := (0 : Int64)) hx hb dX4_sum_87 (by decide) ?_
  refine W.lcmp hx hb dX4_sum_88 ?_
  refine jn_i (J := 97) (ls := ls) (v := (if (0 : Int64) ≤ y3 then (0 : Int32) else (1 : Int32))) (rest := []) ?_ (fun y10 ey10 => ?_)
  · intro hj
    refine lv_if_ge (tgt := 96) hx hb dX4_sum_89 (by decide) (fun c11 => ?_) (fun c11 => ?_)
    · have c11 := (lg_cmp_ge _ _).mp c11
      rw [if_pos c11] at hj
      refine lv_iconst (v := (0 : Int32)) hx hb dX4_sum_96 (by decide) ?_
      exact hj
    · have c11 := mt (lg_cmp_ge _ _).mpr c11
      rw [if_neg c11] at hj
      refine lv_iconst (v := (1 : Int32)) hx hb dX4_sum_92 (by decide) ?_
      refine lv_goto (tgt := 97) hx hb dX4_sum_93 (by decide) ?_
      exact hj
  rw [← ey10] at hJ
  rw [jX4_sum_y10] at hJ
  refine lv_lload hx hb dX4_sum_97 (lv_at hl 3 rfl) ?_
  refine lv_lconst (v := (0 : Int64)) hx hb dX4_sum_99 (by decide) ?_
  refine W.lcmp hx hb dX4_sum_100 ?_
  refine jn_i (J := 109) (ls := ls) (v := (if (0 : Int64) ≤ y5 then (0 : Int32) else (1 : Int32))) (rest := [.int y10]) ?_ (fun y12 ey12 => ?_)
  · intro hj
    refine lv_if_ge (tgt := 108) hx hb dX4_sum_101 (by decide) (fun c13 => ?_) (fun c13 => ?_)
    · have c13 := (lg_cmp_ge _ _).mp c13
      rw [if_pos c13] at hj
      refine lv_iconst (v := (0 : Int32)) hx hb dX4_sum_108 (by decide) ?_
      exact hj
    · have c13 := mt (lg_cmp_ge _ _).mpr c13
      rw [if_neg c13] at hj
      refine lv_iconst (v := (1 : Int32)) hx hb dX4_sum_104 (by decide) ?_
      refine lv_goto (tgt := 109) hx hb dX4_sum_105 (by decide) ?_
      exact hj
  rw [← ey12] at hJ
  rw [jX4_sum_y12] at hJ
  refine jn_i (J := 117) (ls := ls) (v := (if y10 = y12 then (1 : Int32) else (0 : Int32))) (rest := []) ?_ (fun y14 ey14 => ?_)
  · intro hj
    refine lv_icmp_ne (tgt := 116) hx hb dX4_sum_109 (by decide) (fun c15 => ?_) (fun c15 => ?_)
    · skip
      rw [if_neg c15] at hj
      refine lv_iconst (v := (0 : Int32)) hx hb dX4_sum_116 (by decide) ?_
      exact hj
    · skip
      rw [if_pos c15] at hj
      refine lv_iconst (v := (1 : Int32)) hx hb dX4_sum_112 (by decide) ?_
      refine lv_goto (tgt := 117) hx hb dX4_sum_113 (by decide) ?_
      exact hj
  rw [← ey14] at hJ
  rw [jX4_sum_y14] at hJ
  refine lv_istore (lv' := [(15, .int y14), (13, .long y9), (12, .int y8), (10, .long y7), (8, .long y5), (6, .long y3), (5, .int y1), (0, .int a0), (1, .long a1), (3, .long a3)]) hx hb dX4_sum_117 hl (by decide) rfl (fun ls hl => ?_)
  refine lv_iload hx hb dX4_sum_119 (lv_at hl 0 rfl) ?_
  refine jn_l (J := 137) (ls := ls) (v := (if y14 = 0 then (y7 - y9) else (y7 + y9))) (rest := []) ?_ (fun y16 ey16 => ?_)
  · intro hj
    refine lv_if_eq (tgt := 132) hx hb dX4_sum_121 (by decide) (fun c17 => ?_) (fun c17 => ?_)
    · skip
      rw [if_pos c17] at hj
      refine lv_lload hx hb dX4_sum_132 (lv_at hl 3 rfl) ?_
      refine lv_lload hx hb dX4_sum_134 (lv_at hl 1 rfl) ?_
      refine lv_lsub hx hb dX4_sum_136 ?_
      exact hj
    · skip
      rw [if_neg c17] at hj
      refine lv_lload hx hb dX4_sum_124 (lv_at hl 3 rfl) ?_
      refine lv_lload hx hb dX4_sum_126 (lv_at hl 1 rfl) ?_
      refine lv_ladd hx hb dX4_sum_128 ?_
      refine lv_goto (tgt := 137) hx hb dX4_sum_129 (by decide) ?_
      exact hj
  rw [← ey16] at hJ
  rw [jX4_sum_y16] at hJ
  refine lv_lstore (lv' := [(16, .long y16), (15, .int y14), (13, .long y9), (12, .int y8), (10, .long y7), (8, .long y5), (6, .long y3), (5, .int y1), (0, .int a0), (1, .long a1), (3, .long a3)]) hx hb dX4_sum_137 hl (by decide) rfl (fun ls hl => ?_)
  refine lv_lload hx hb dX4_sum_139 (lv_at hl 6 rfl) ?_
  refine lv_lconst (v := (0 : Int64)) hx hb dX4_sum_141 (by decide) ?_
  refine W.lcmp hx hb dX4_sum_142 ?_
  refine jn_i (J := 165) (ls := ls) (v := (if (0 : Int64) ≤ y3 then (0 : Int32) else (if y16 = (0 : Int64) then (if (0 : Int64) ≤ y5 then (0 : Int32) else (1 : Int32)) else (1 : Int32)))) (rest := []) ?_ (fun y18 ey18 => ?_)
  · intro hj
    refine lv_if_ge (tgt := 164) hx hb dX4_sum_143 (by decide) (fun c19 => ?_) (fun c19 => ?_)
    · have c19 := (lg_cmp_ge _ _).mp c19
      rw [if_pos c19] at hj
      refine lv_iconst (v := (0 : Int32)) hx hb dX4_sum_164 (by decide) ?_
      exact hj
    · have c19 := mt (lg_cmp_ge _ _).mpr c19
      rw [if_neg c19] at hj
      refine lv_lload hx hb dX4_sum_146 (lv_at hl 0 rfl) ?_
      refine lv_lconst (v := (0 : Int64)) hx hb dX4_sum_148 (by decide) ?_
      refine W.lcmp hx hb dX4_sum_149 ?_
      refine lv_if_ne (tgt := 160) hx hb dX4_sum_150 (by decide) (fun c20 => ?_) (fun c20 => ?_)
      · have c20 := mt (lg_cmp_eq _ _).mpr c20
        rw [if_neg c20] at hj
        refine lv_iconst (v := (1 : Int32)) hx hb dX4_sum_160 (by decide) ?_
        refine lv_goto (tgt := 165) hx hb dX4_sum_161 (by decide) ?_
        exact hj
      · have c20 := (lg_cmp_eq _ _).mp c20
        rw [if_pos c20] at hj
        refine lv_lload hx hb dX4_sum_153 (lv_at hl 5 rfl) ?_
        refine lv_lconst (v := (0 : Int64)) hx hb dX4_sum_155 (by decide) ?_
        refine W.lcmp hx hb dX4_sum_156 ?_
        refine lv_if_ge (tgt := 164) hx hb dX4_sum_157 (by decide) (fun c21 => ?_) (fun c21 => ?_)
        · have c21 := (lg_cmp_ge _ _).mp c21
          rw [if_pos c21] at hj
          refine lv_iconst (v := (0 : Int32)) hx hb dX4_sum_164 (by decide) ?_
          exact hj
        · have c21 := mt (lg_cmp_ge _ _).mpr c21
          rw [if_neg c21] at hj
          refine lv_iconst (v := (1 : Int32)) hx hb dX4_sum_160 (by decide) ?_
          refine lv_goto (tgt := 165) hx hb dX4_sum_161 (by decide) ?_
          exact hj
  rw [← ey18] at hJ
  rw [jX4_sum_y18] at hJ
  refine lv_istore (lv' := [(18, .int y18), (16, .long y16), (15, .int y14), (13, .long y9), (12, .int y8), (10, .long y7), (8, .long y5), (6, .long y3), (5, .int y1), (0, .int a0), (1, .long a1), (3, .long a3)]) hx hb dX4_sum_165 hl (by decide) rfl (fun ls hl => ?_)
  refine lv_iload_n hx hb dX4_sum_167 rfl (lv_at hl 9 rfl) ?_
  refine lv_iload hx hb dX4_sum_168 (lv_at hl 0 rfl) ?_
  refine lv_lload hx hb dX4_sum_170 (lv_at hl 1 rfl) ?_
  refine lv_iload_n hx hb dX4_sum_172 rfl (lv_at hl 9 rfl) ?_
  refine lv_lload hx hb dX4_sum_173 (lv_at hl 7 rfl) ?_
  refine vp_callSi (W.runS (As := [.int a0, .long y3]) (rest := [.long y16, .int y18, .int a0]) ⟨hx, hb, hml, hown, hts⟩ (qX4_exponent l a0 y3) (va_cwS 2 hts gX4_sum_X4_exponent rfl rfl rfl (by decide +kernel) ⟨Nat.le_of_ble_eq_true rfl, Nat.le_of_ble_eq_true rfl⟩) ⟨fun _ _ _ _ q => q, fun U hU hW => rfl⟩ rfl rfl hl.1 rfl (lv_room (Nat.le_of_ble_eq_true rfl)) dX4_sum_175 ⟨Nat.le_of_ble_eq_true rfl, Nat.le_of_ble_eq_true rfl⟩) (fun r hr => ?_)
  subst hr
  refine lv_iconst (v := (3 : Int32)) hx hb dX4_sum_178 (by decide) ?_
  refine lv_isub hx hb dX4_sum_179 ?_
  refine vp_callSl (W.runS (As := [.int a0, .int y18, .long y16, .int ((jX4_exponent a0 y3) - (3 : Int32))]) (rest := []) ⟨hx, hb, hml, hown, hts⟩ (qX4_nearest l a0 y18 y16 ((jX4_exponent a0 y3) - (3 : Int32))) (va_cwS 4 hts gX4_sum_X4_nearest rfl rfl rfl (by decide +kernel) ⟨Nat.le_of_ble_eq_true rfl, Nat.le_of_ble_eq_true rfl⟩) ⟨fun _ _ _ _ q => q, fun U hU hW => rfl⟩ rfl rfl hl.1 rfl (lv_room (Nat.le_of_ble_eq_true rfl)) dX4_sum_180 ⟨Nat.le_of_ble_eq_true rfl, Nat.le_of_ble_eq_true rfl⟩) (fun r hr => ?_)
  subst hr
  exact W.lret hx hb hr (fun t ht hW => ⟨_, rfl, hJ.trans hE.symm, ht⟩) (fun q h => absurd h List.not_mem_nil) dX4_sum_183
def jX4_cutToLong_y5 (a0 : Int32) (a1 : Int64) (y1 : Int64) (y2 : Int32) (y5 : Int64) : Int64 := (if (0 : Int64) ≤ a1 then y5 else (-y5))
def jX4_cutToLong_y2 (a0 : Int32) (a1 : Int64) (y1 : Int64) (y2 : Int32) : Int64 := (if ((jX4_lengthOf y1) + y2) ≤ (63 : Int32) then (if (-64 : Int32) < y2 then (jX4_cutToLong_y5 a0 a1 y1 y2 (if 0 ≤ y2 then (y1 <<< (y2.toInt64 &&& 63)) else ((y1.toUInt64 >>> ((-y2).toInt64.toUInt64 &&& Int64.toUInt64 63)).toInt64))) else (0 : Int64)) else (if (0 : Int64) ≤ a1 then (9223372036854775807 : Int64) else (-9223372036854775808 : Int64)))
def jX4_cutToLong_y1 (a0 : Int32) (a1 : Int64) (y1 : Int64) : Int64 := (jX4_cutToLong_y2 a0 a1 y1 (jX4_exponent a0 a1))
def jX4_cutToLong (a0 : Int32) (a1 : Int64) : Int64 := (jX4_cutToLong_y1 a0 a1 (jX4_mantissa a0 a1))
set_option maxHeartbeats 4000000 in
set_option maxRecDepth 100000 in
theorem qX4_cutToLong (l : Launch) (a0 : Int32) (a1 : Int64) : Met l yX4_cutToLong wsX4_cutToLong ({ frames := 3, cells := 0, slots := 0, locals := 64 }) (fun v _ => v = ([.int a0, .long a1] : List Value).toArray) (vp_Sl (fun r => r = jX4_cutToLong a0 a1)) 0 0 (fun _ => False) := by
  refine Met.ofW (cc := cX4_cutToLong) (maxL := 8) (ret := some .long) (by decide) rfl ?_
  intro p e s m args below meth c s₁ B hml hv
  subst hv
  have hx := B.exec
  have hb := B.bytes
  have hr := B.returns
  have hts := atoms_spec (ws := wsX4_cutToLong) B.pre
  have hown : s.vm.findClass RX4 = some m.cls := findClass_of_methodNamed B.named
  have hlocks := B.notSynchronized
  obtain ⟨JR, hE⟩ : ∃ q, jX4_cutToLong a0 a1 = q := ⟨_, rfl⟩
  have hJ := hE
  rw [jX4_cutToLong] at hJ
  have hl := lv_entry ([.int a0, .long a1]) (n := 8) (Nat.le_of_ble_eq_true rfl)
  rw [lg_entry_eq]
  generalize (lg_sl ([.int a0, .long a1]) ++ List.replicate (8 - (lg_sl ([.int a0, .long a1])).length) Slot.unset).toArray = ls at hl ⊢
  have hl : lv_has ls 8 [(0, .int a0), (1, .long a1)] := hl
  refine lv_iload_n hx hb dX4_cutToLong_0 rfl (lv_at hl 0 rfl) ?_
  refine lv_lload_n hx hb dX4_cutToLong_1 rfl (lv_at hl 1 rfl) ?_
  refine vp_callSl (W.runS (As := [.int a0, .long a1]) (rest := []) ⟨hx, hb, hml, hown, hts⟩ (qX4_mantissa l a0 a1) (va_cwS 2 hts gX4_cutToLong_X4_mantissa rfl rfl rfl (by decide +kernel) ⟨Nat.le_of_ble_eq_true rfl, Nat.le_of_ble_eq_true rfl⟩) ⟨fun _ _ _ _ q => q, fun U hU hW => rfl⟩ rfl rfl hl.1 rfl (lv_room (Nat.le_of_ble_eq_true rfl)) dX4_cutToLong_2 ⟨Nat.le_of_ble_eq_true rfl, Nat.le_of_ble_eq_true rfl⟩) (fun r hr => ?_)
  subst hr
  refine lv_topl (fun y1 ey1 => ?_)
  rw [← ey1] at hJ
  rw [jX4_cutToLong_y1] at hJ
  refine lv_lstore_n (lv' := [(3, .long y1), (0, .int a0), (1, .long a1)]) hx hb dX4_cutToLong_5 rfl hl (by decide) rfl (fun ls hl => ?_)
  refine lv_iload_n hx hb dX4_cutToLong_6 rfl (lv_at hl 1 rfl) ?_
  refine lv_lload_n hx hb dX4_cutToLong_7 rfl (lv_at hl 2 rfl) ?_
  refine vp_callSi (W.runS (As := [.int a0, .long a1]) (rest := []) ⟨hx, hb, hml, hown, hts⟩ (qX4_exponent l a0 a1) (va_cwS 2 hts gX4_cutToLong_X4_exponent rfl rfl rfl (by decide +kernel) ⟨Nat.le_of_ble_eq_true rfl, Nat.le_of_ble_eq_true rfl⟩) ⟨fun _ _ _ _ q => q, fun U hU hW => rfl⟩ rfl rfl hl.1 rfl (lv_room (Nat.le_of_ble_eq_true rfl)) dX4_cutToLong_8 ⟨Nat.le_of_ble_eq_true rfl, Nat.le_of_ble_eq_true rfl⟩) (fun r hr => ?_)
  subst hr
  refine lv_topi (fun y2 ey2 => ?_)
  rw [← ey2] at hJ
  rw [jX4_cutToLong_y2] at hJ
  refine lv_istore (lv' := [(5, .int y2), (3, .long y1), (0, .int a0), (1, .long a1)]) hx hb dX4_cutToLong_11 hl (by decide) rfl (fun ls hl => ?_)
  refine lv_lload_n hx hb dX4_cutToLong_13 rfl (lv_at hl 1 rfl) ?_
  refine vp_callSi (W.runS (As := [.long y1]) (rest := []) ⟨hx, hb, hml, hown, hts⟩ (qX4_lengthOf l y1) (va_cwS 1 hts gX4_cutToLong_X4_lengthOf rfl rfl rfl (by decide +kernel) ⟨Nat.le_of_ble_eq_true rfl, Nat.le_of_ble_eq_true rfl⟩) ⟨fun _ _ _ _ q => q, fun U hU hW => rfl⟩ rfl rfl hl.1 rfl (lv_room (Nat.le_of_ble_eq_true rfl)) dX4_cutToLong_14 ⟨Nat.le_of_ble_eq_true rfl, Nat.le_of_ble_eq_true rfl⟩) (fun r hr => ?_)
  subst hr
  refine lv_iload hx hb dX4_cutToLong_17 (lv_at hl 0 rfl) ?_
  refine lv_iadd hx hb dX4_cutToLong_19 ?_
  refine lv_bipush (v := (63 : Int32)) hx hb dX4_cutToLong_20 (by decide) ?_
  refine lv_icmp_le (tgt := 41) hx hb dX4_cutToLong_22 (by decide) (fun c3 => ?_) (fun c3 => ?_)
  · skip
    rw [if_pos c3] at hJ
    refine lv_iload hx hb dX4_cutToLong_41 (lv_at hl 0 rfl) ?_
    refine lv_bipush (v := (-64 : Int32)) hx hb dX4_cutToLong_43 (by decide) ?_
    refine lv_icmp_gt (tgt := 50) hx hb dX4_cutToLong_45 (by decide) (fun c4 => ?_) (fun c4 => ?_)
    · skip
      rw [if_pos c4] at hJ
      refine lv_iload hx hb dX4_cutToLong_50 (lv_at hl 0 rfl) ?_
      refine jn_l (J := 67) (ls := ls) (v := (if 0 ≤ y2 then (y1 <<< (y2.toInt64 &&& 63)) else ((y1.toUInt64 >>> ((-y2).toInt64.toUInt64 &&& Int64.toUInt64 63)).toInt64))) (rest := []) ?_ (fun y5 ey5 => ?_)
      · intro hj
        refine lv_if_ge (tgt := 63) hx hb dX4_cutToLong_52 (by decide) (fun c6 => ?_) (fun c6 => ?_)
        · skip
          rw [if_pos c6] at hj
          refine lv_lload_n hx hb dX4_cutToLong_63 rfl (lv_at hl 1 rfl) ?_
          refine lv_iload hx hb dX4_cutToLong_64 (lv_at hl 0 rfl) ?_
          refine lv_lshl (v := (y1 <<< (y2.toInt64 &&& 63))) hx hb dX4_cutToLong_66 rfl ?_
          exact hj
        · skip
          rw [if_neg c6] at hj
          refine lv_lload_n hx hb dX4_cutToLong_55 rfl (lv_at hl 1 rfl) ?_
          refine lv_iload hx hb dX4_cutToLong_56 (lv_at hl 0 rfl) ?_
          refine lv_ineg hx hb dX4_cutToLong_58 ?_
          refine lv_lushr (v := (y1.toUInt64 >>> ((-y2).toInt64.toUInt64 &&& Int64.toUInt64 63)).toInt64) hx hb dX4_cutToLong_59 rfl ?_
          refine lv_goto (tgt := 67) hx hb dX4_cutToLong_60 (by decide) ?_
          exact hj
      rw [← ey5] at hJ
      rw [jX4_cutToLong_y5] at hJ
      refine lv_lstore (lv' := [(6, .long y5), (5, .int y2), (3, .long y1), (0, .int a0), (1, .long a1)]) hx hb dX4_cutToLong_67 hl (by decide) rfl (fun ls hl => ?_)
      refine lv_lload_n hx hb dX4_cutToLong_69 rfl (lv_at hl 4 rfl) ?_
      refine lv_lconst (v := (0 : Int64)) hx hb dX4_cutToLong_70 (by decide) ?_
      refine W.lcmp hx hb dX4_cutToLong_71 ?_
      refine lv_if_ge (tgt := 81) hx hb dX4_cutToLong_72 (by decide) (fun c7 => ?_) (fun c7 => ?_)
      · have c7 := (lg_cmp_ge _ _).mp c7
        rw [if_pos c7] at hJ
        refine lv_lload hx hb dX4_cutToLong_81 (lv_at hl 0 rfl) ?_
        exact W.lret hx hb hr (fun t ht hW => ⟨_, rfl, hJ.trans hE.symm, ht⟩) (fun q h => absurd h List.not_mem_nil) dX4_cutToLong_83
      · have c7 := mt (lg_cmp_ge _ _).mpr c7
        rw [if_neg c7] at hJ
        refine lv_lload hx hb dX4_cutToLong_75 (lv_at hl 0 rfl) ?_
        refine lv_lneg hx hb dX4_cutToLong_77 ?_
        refine lv_goto (tgt := 83) hx hb dX4_cutToLong_78 (by decide) ?_
        exact W.lret hx hb hr (fun t ht hW => ⟨_, rfl, hJ.trans hE.symm, ht⟩) (fun q h => absurd h List.not_mem_nil) dX4_cutToLong_83
    · skip
      rw [if_neg c4] at hJ
      refine lv_lconst (v := (0 : Int64)) hx hb dX4_cutToLong_48 (by decide) ?_
      exact W.lret hx hb hr (fun t ht hW => ⟨_, rfl, hJ.trans hE.symm, ht⟩) (fun q h => absurd h List.not_mem_nil) dX4_cutToLong_49
  · skip
    rw [if_neg c3] at hJ
    refine lv_lload_n hx hb dX4_cutToLong_25 rfl (lv_at hl 3 rfl) ?_
    refine lv_lconst (v := (0 : Int64)) hx hb dX4_cutToLong_26 (by decide) ?_
    refine W.lcmp hx hb dX4_cutToLong_27 ?_
    refine lv_if_ge (tgt := 37) hx hb dX4_cutToLong_28 (by decide) (fun c8 => ?_) (fun c8 => ?_)
    · have c8 := (lg_cmp_ge _ _).mp c8
      rw [if_pos c8] at hJ
      refine lv_ldc2 (v := (9223372036854775807 : Int64)) hx hb hown (hts (.constantLong RX4 68 (9223372036854775807)) (by decide +kernel)) dX4_cutToLong_37 ?_
      exact W.lret hx hb hr (fun t ht hW => ⟨_, rfl, hJ.trans hE.symm, ht⟩) (fun q h => absurd h List.not_mem_nil) dX4_cutToLong_40
    · have c8 := mt (lg_cmp_ge _ _).mpr c8
      rw [if_neg c8] at hJ
      refine lv_ldc2 (v := (-9223372036854775808 : Int64)) hx hb hown (hts (.constantLong RX4 19 (-9223372036854775808)) (by decide +kernel)) dX4_cutToLong_31 ?_
      refine lv_goto (tgt := 40) hx hb dX4_cutToLong_34 (by decide) ?_
      exact W.lret hx hb hr (fun t ht hW => ⟨_, rfl, hJ.trans hE.symm, ht⟩) (fun q h => absurd h List.not_mem_nil) dX4_cutToLong_40
def jX4_ofLong_y1 (a0 : Int32) (a1 : Int64) (y1 : Int32) : Int64 := (jX4_nearest a0 y1 (if 0 < a1 then a1 else -a1) (0 : Int32))
def jX4_ofLong (a0 : Int32) (a1 : Int64) : Int64 := (jX4_ofLong_y1 a0 a1 (if (0 : Int64) ≤ a1 then (0 : Int32) else (1 : Int32)))
set_option maxHeartbeats 4000000 in
set_option maxRecDepth 100000 in
theorem qX4_ofLong (l : Launch) (a0 : Int32) (a1 : Int64) : Met l yX4_ofLong wsX4_ofLong ({ frames := 4, cells := 0, slots := 0, locals := 96 }) (fun v _ => v = ([.int a0, .long a1] : List Value).toArray) (vp_Sl (fun r => r = jX4_ofLong a0 a1)) 0 0 (fun _ => False) := by
  refine Met.ofW (cc := cX4_ofLong) (maxL := 3) (ret := some .long) (by decide) rfl ?_
  intro p e s m args below meth c s₁ B hml hv
  subst hv
  have hx := B.exec
  have hb := B.bytes
  have hr := B.returns
  have hts := atoms_spec (ws := wsX4_ofLong) B.pre
  have hown : s.vm.findClass RX4 = some m.cls := findClass_of_methodNamed B.named
  have hlocks := B.notSynchronized
  obtain ⟨JR, hE⟩ : ∃ q, jX4_ofLong a0 a1 = q := ⟨_, rfl⟩
  have hJ := hE
  rw [jX4_ofLong] at hJ
  have hl := lv_entry ([.int a0, .long a1]) (n := 3) (Nat.le_of_ble_eq_true rfl)
  rw [lg_entry_eq]
  generalize (lg_sl ([.int a0, .long a1]) ++ List.replicate (3 - (lg_sl ([.int a0, .long a1])).length) Slot.unset).toArray = ls at hl ⊢
  have hl : lv_has ls 3 [(0, .int a0), (1, .long a1)] := hl
  refine lv_iload_n hx hb dX4_ofLong_0 rfl (lv_at hl 0 rfl) ?_
  refine lv_lload_n hx hb dX4_ofLong_1 rfl (lv_at hl 1 rfl) ?_
  refine lv_lconst (v := (0 : Int64)) hx hb dX4_ofLong_2 (by decide) ?_
  refine W.lcmp hx hb dX4_ofLong_3 ?_
  refine jn_i (J := 12) (ls := ls) (v := (if (0 : Int64) ≤ a1 then (0 : Int32) else (1 : Int32))) (rest := [.int a0]) ?_ (fun y1 ey1 => ?_)
  · intro hj
    refine lv_if_ge (tgt := 11) hx hb dX4_ofLong_4 (by decide) (fun c2 => ?_) (fun c2 => ?_)
    · have c2 := (lg_cmp_ge _ _).mp c2
      rw [if_pos c2] at hj
      refine lv_iconst (v := (0 : Int32)) hx hb dX4_ofLong_11 (by decide) ?_
      exact hj
    · have c2 := mt (lg_cmp_ge _ _).mpr c2
      rw [if_neg c2] at hj
      refine lv_iconst (v := (1 : Int32)) hx hb dX4_ofLong_7 (by decide) ?_
      refine lv_goto (tgt := 12) hx hb dX4_ofLong_8 (by decide) ?_
      exact hj
  rw [← ey1] at hJ
  rw [jX4_ofLong_y1] at hJ
  refine lv_lload_n hx hb dX4_ofLong_12 rfl (lv_at hl 1 rfl) ?_
  refine va_mabs_long hx hb (hml.trans hl.1.symm) hown (hts (.methodLink RX4 48 Lib.MathLoose.abs_long.x) (by decide +kernel)) (hts (.static Lib.MathLoose.abs_long.x) (by decide +kernel)) (hts (.initialized "java/lang/Math") (by decide +kernel)) (hts (.code Lib.MathLoose.abs_long.x Lib.MathLoose.abs_long.code 2 (some .long)) (by decide +kernel)) (Nat.le_of_ble_eq_true rfl) (Nat.le_of_ble_eq_true rfl) (Nat.zero_le _) (Nat.zero_le _) dX4_ofLong_13 ?_
  refine lv_iconst (v := (0 : Int32)) hx hb dX4_ofLong_16 (by decide) ?_
  refine vp_callSl (W.runS (As := [.int a0, .int y1, .long (if 0 < a1 then a1 else -a1), .int (0 : Int32)]) (rest := []) ⟨hx, hb, hml, hown, hts⟩ (qX4_nearest l a0 y1 (if 0 < a1 then a1 else -a1) (0 : Int32)) (va_cwS 4 hts gX4_ofLong_X4_nearest rfl rfl rfl (by decide +kernel) ⟨Nat.le_of_ble_eq_true rfl, Nat.le_of_ble_eq_true rfl⟩) ⟨fun _ _ _ _ q => q, fun U hU hW => rfl⟩ rfl rfl hl.1 rfl (lv_room (Nat.le_of_ble_eq_true rfl)) dX4_ofLong_17 ⟨Nat.le_of_ble_eq_true rfl, Nat.le_of_ble_eq_true rfl⟩) (fun r hr => ?_)
  subst hr
  exact W.lret hx hb hr (fun t ht hW => ⟨_, rfl, hJ.trans hE.symm, ht⟩) (fun q h => absurd h List.not_mem_nil) dX4_ofLong_20
def jX4_ofReal_y2 (a0 : Int32) (a1 : Int32) (a2 : Int64) (y2 : Int32) : Int64 := (jX4_nearest a1 y2 (jX4_mantissa a0 a2) (jX4_exponent a0 a2))
def jX4_ofReal_y4 (a0 : Int32) (a1 : Int32) (a2 : Int64) (y4 : Int32) : Int64 := (jX4_signed a1 y4 (jX4_endless a1))
def jX4_ofReal (a0 : Int32) (a1 : Int32) (a2 : Int64) : Int64 := (if (jX4_isFit a0 a2) = 0 then (jX4_ofReal_y4 a0 a1 a2 (if (0 : Int64) ≤ a2 then (0 : Int32) else (1 : Int32))) else (jX4_ofReal_y2 a0 a1 a2 (if (0 : Int64) ≤ a2 then (0 : Int32) else (1 : Int32))))
set_option maxHeartbeats 4000000 in
set_option maxRecDepth 100000 in
theorem qX4_ofReal (l : Launch) (a0 : Int32) (a1 : Int32) (a2 : Int64) : Met l yX4_ofReal wsX4_ofReal ({ frames := 4, cells := 0, slots := 0, locals := 96 }) (fun v _ => v = ([.int a0, .int a1, .long a2] : List Value).toArray) (vp_Sl (fun r => r = jX4_ofReal a0 a1 a2)) 0 0 (fun _ => False) := by
  refine Met.ofW (cc := cX4_ofReal) (maxL := 4) (ret := some .long) (by decide) rfl ?_
  intro p e s m args below meth c s₁ B hml hv
  subst hv
  have hx := B.exec
  have hb := B.bytes
  have hr := B.returns
  have hts := atoms_spec (ws := wsX4_ofReal) B.pre
  have hown : s.vm.findClass RX4 = some m.cls := findClass_of_methodNamed B.named
  have hlocks := B.notSynchronized
  obtain ⟨JR, hE⟩ : ∃ q, jX4_ofReal a0 a1 a2 = q := ⟨_, rfl⟩
  have hJ := hE
  rw [jX4_ofReal] at hJ
  have hl := lv_entry ([.int a0, .int a1, .long a2]) (n := 4) (Nat.le_of_ble_eq_true rfl)
  rw [lg_entry_eq]
  generalize (lg_sl ([.int a0, .int a1, .long a2]) ++ List.replicate (4 - (lg_sl ([.int a0, .int a1, .long a2])).length) Slot.unset).toArray = ls at hl ⊢
  have hl : lv_has ls 4 [(0, .int a0), (1, .int a1), (2, .long a2)] := hl
  refine lv_iload_n hx hb dX4_ofReal_0 rfl (lv_at hl 0 rfl) ?_
  refine lv_lload_n hx hb dX4_ofReal_1 rfl (lv_at hl 2 rfl) ?_
  refine vp_callSi (W.runS (As := [.int a0, .long a2]) (rest := []) ⟨hx, hb, hml, hown, hts⟩ (qX4_isFit l a0 a2) (va_cwS 2 hts gX4_ofReal_X4_isFit rfl rfl rfl (by decide +kernel) ⟨Nat.le_of_ble_eq_true rfl, Nat.le_of_ble_eq_true rfl⟩) ⟨fun _ _ _ _ q => q, fun U hU hW => rfl⟩ rfl rfl hl.1 rfl (lv_room (Nat.le_of_ble_eq_true rfl)) dX4_ofReal_2 ⟨Nat.le_of_ble_eq_true rfl, Nat.le_of_ble_eq_true rfl⟩) (fun r hr => ?_)
  subst hr
  refine lv_if_ne (tgt := 28) hx hb dX4_ofReal_5 (by decide) (fun c1 => ?_) (fun c1 => ?_)
  · skip
    rw [if_neg c1] at hJ
    refine lv_iload_n hx hb dX4_ofReal_28 rfl (lv_at hl 1 rfl) ?_
    refine lv_lload_n hx hb dX4_ofReal_29 rfl (lv_at hl 2 rfl) ?_
    refine lv_lconst (v := (0 : Int64)) hx hb dX4_ofReal_30 (by decide) ?_
    refine W.lcmp hx hb dX4_ofReal_31 ?_
    refine jn_i (J := 40) (ls := ls) (v := (if (0 : Int64) ≤ a2 then (0 : Int32) else (1 : Int32))) (rest := [.int a1]) ?_ (fun y2 ey2 => ?_)
    · intro hj
      refine lv_if_ge (tgt := 39) hx hb dX4_ofReal_32 (by decide) (fun c3 => ?_) (fun c3 => ?_)
      · have c3 := (lg_cmp_ge _ _).mp c3
        rw [if_pos c3] at hj
        refine lv_iconst (v := (0 : Int32)) hx hb dX4_ofReal_39 (by decide) ?_
        exact hj
      · have c3 := mt (lg_cmp_ge _ _).mpr c3
        rw [if_neg c3] at hj
        refine lv_iconst (v := (1 : Int32)) hx hb dX4_ofReal_35 (by decide) ?_
        refine lv_goto (tgt := 40) hx hb dX4_ofReal_36 (by decide) ?_
        exact hj
    rw [← ey2] at hJ
    rw [jX4_ofReal_y2] at hJ
    refine lv_iload_n hx hb dX4_ofReal_40 rfl (lv_at hl 0 rfl) ?_
    refine lv_lload_n hx hb dX4_ofReal_41 rfl (lv_at hl 2 rfl) ?_
    refine vp_callSl (W.runS (As := [.int a0, .long a2]) (rest := [.int y2, .int a1]) ⟨hx, hb, hml, hown, hts⟩ (qX4_mantissa l a0 a2) (va_cwS 2 hts gX4_ofReal_X4_mantissa rfl rfl rfl (by decide +kernel) ⟨Nat.le_of_ble_eq_true rfl, Nat.le_of_ble_eq_true rfl⟩) ⟨fun _ _ _ _ q => q, fun U hU hW => rfl⟩ rfl rfl hl.1 rfl (lv_room (Nat.le_of_ble_eq_true rfl)) dX4_ofReal_42 ⟨Nat.le_of_ble_eq_true rfl, Nat.le_of_ble_eq_true rfl⟩) (fun r hr => ?_)
    subst hr
    refine lv_iload_n hx hb dX4_ofReal_45 rfl (lv_at hl 0 rfl) ?_
    refine lv_lload_n hx hb dX4_ofReal_46 rfl (lv_at hl 2 rfl) ?_
    refine vp_callSi (W.runS (As := [.int a0, .long a2]) (rest := [.long (jX4_mantissa a0 a2), .int y2, .int a1]) ⟨hx, hb, hml, hown, hts⟩ (qX4_exponent l a0 a2) (va_cwS 2 hts gX4_ofReal_X4_exponent rfl rfl rfl (by decide +kernel) ⟨Nat.le_of_ble_eq_true rfl, Nat.le_of_ble_eq_true rfl⟩) ⟨fun _ _ _ _ q => q, fun U hU hW => rfl⟩ rfl rfl hl.1 rfl (lv_room (Nat.le_of_ble_eq_true rfl)) dX4_ofReal_47 ⟨Nat.le_of_ble_eq_true rfl, Nat.le_of_ble_eq_true rfl⟩) (fun r hr => ?_)
    subst hr
    refine vp_callSl (W.runS (As := [.int a1, .int y2, .long (jX4_mantissa a0 a2), .int (jX4_exponent a0 a2)]) (rest := []) ⟨hx, hb, hml, hown, hts⟩ (qX4_nearest l a1 y2 (jX4_mantissa a0 a2) (jX4_exponent a0 a2)) (va_cwS 4 hts gX4_ofReal_X4_nearest rfl rfl rfl (by decide +kernel) ⟨Nat.le_of_ble_eq_true rfl, Nat.le_of_ble_eq_true rfl⟩) ⟨fun _ _ _ _ q => q, fun U hU hW => rfl⟩ rfl rfl hl.1 rfl (lv_room (Nat.le_of_ble_eq_true rfl)) dX4_ofReal_50 ⟨Nat.le_of_ble_eq_true rfl, Nat.le_of_ble_eq_true rfl⟩) (fun r hr => ?_)
    subst hr
    exact W.lret hx hb hr (fun t ht hW => ⟨_, rfl, hJ.trans hE.symm, ht⟩) (fun q h => absurd h List.not_mem_nil) dX4_ofReal_53
  · skip
    rw [if_pos c1] at hJ
    refine lv_iload_n hx hb dX4_ofReal_8 rfl (lv_at hl 1 rfl) ?_
    refine lv_lload_n hx hb dX4_ofReal_9 rfl (lv_at hl 2 rfl) ?_
    refine lv_lconst (v := (0 : Int64)) hx hb dX4_ofReal_10 (by decide) ?_
    refine W.lcmp hx hb dX4_ofReal_11 ?_
    refine jn_i (J := 20) (ls := ls) (v := (if (0 : Int64) ≤ a2 then (0 : Int32) else (1 : Int32))) (rest := [.int a1]) ?_ (fun y4 ey4 => ?_)
    · intro hj
      refine lv_if_ge (tgt := 19) hx hb dX4_ofReal_12 (by decide) (fun c5 => ?_) (fun c5 => ?_)
      · have c5 := (lg_cmp_ge _ _).mp c5
        rw [if_pos c5] at hj
        refine lv_iconst (v := (0 : Int32)) hx hb dX4_ofReal_19 (by decide) ?_
        exact hj
      · have c5 := mt (lg_cmp_ge _ _).mpr c5
        rw [if_neg c5] at hj
        refine lv_iconst (v := (1 : Int32)) hx hb dX4_ofReal_15 (by decide) ?_
        refine lv_goto (tgt := 20) hx hb dX4_ofReal_16 (by decide) ?_
        exact hj
    rw [← ey4] at hJ
    rw [jX4_ofReal_y4] at hJ
    refine lv_iload_n hx hb dX4_ofReal_20 rfl (lv_at hl 1 rfl) ?_
    refine vp_callSl (W.runS (As := [.int a1]) (rest := [.int y4, .int a1]) ⟨hx, hb, hml, hown, hts⟩ (qX4_endless l a1) (va_cwS 1 hts gX4_ofReal_X4_endless rfl rfl rfl (by decide +kernel) ⟨Nat.le_of_ble_eq_true rfl, Nat.le_of_ble_eq_true rfl⟩) ⟨fun _ _ _ _ q => q, fun U hU hW => rfl⟩ rfl rfl hl.1 rfl (lv_room (Nat.le_of_ble_eq_true rfl)) dX4_ofReal_21 ⟨Nat.le_of_ble_eq_true rfl, Nat.le_of_ble_eq_true rfl⟩) (fun r hr => ?_)
    subst hr
    refine vp_callSl (W.runS (As := [.int a1, .int y4, .long (jX4_endless a1)]) (rest := []) ⟨hx, hb, hml, hown, hts⟩ (qX4_signed l a1 y4 (jX4_endless a1)) (va_cwS 3 hts gX4_ofReal_X4_signed rfl rfl rfl (by decide +kernel) ⟨Nat.le_of_ble_eq_true rfl, Nat.le_of_ble_eq_true rfl⟩) ⟨fun _ _ _ _ q => q, fun U hU hW => rfl⟩ rfl rfl hl.1 rfl (lv_room (Nat.le_of_ble_eq_true rfl)) dX4_ofReal_24 ⟨Nat.le_of_ble_eq_true rfl, Nat.le_of_ble_eq_true rfl⟩) (fun r hr => ?_)
    subst hr
    exact W.lret hx hb hr (fun t ht hW => ⟨_, rfl, hJ.trans hE.symm, ht⟩) (fun q h => absurd h List.not_mem_nil) dX4_ofReal_27
