def jX4_width (a0 : Int32) : Int32 := (if a0 = 0 then (23 : Int32) else (52 : Int32))
set_option maxHeartbeats 4000000 in
set_option maxRecDepth 100000 in
theorem qX4_width (l : Launch) (a0 : Int32) : Met l yX4_width wsX4_width ({ frames := 0, cells := 0, slots := 0, locals := 0 }) (fun v _ => v = ([.int a0] : List Value).toArray) (vp_Si (fun r => r = jX4_width a0)) 0 0 (fun _ => False) := by
  refine Met.ofW (cc := cX4_width) (maxL := 1) (ret := some .int) (by decide) rfl ?_
  intro p e s m args below meth c s₁ B hml hv
  subst hv
  have hx := B.exec
  have hb := B.bytes
  have hr := B.returns
  have hts := atoms_spec (ws := wsX4_width) B.pre
  have hown : s.vm.findClass RX4 = some m.cls := findClass_of_methodNamed B.named
  have hlocks := B.notSynchronized
  obtain ⟨JR, hE⟩ : ∃ q, jX4_width a0 = q := ⟨_, rfl⟩
  have hJ := hE
  rw [jX4_width] at hJ
  have hl := lv_entry ([.int a0]) (n := 1) (Nat.le_of_ble_eq_true rfl)
  rw [lg_entry_eq]
  generalize (lg_sl ([.int a0]) ++ List.replicate (1 - (lg_sl ([.int a0])).length) Slot.unset).toArray = ls at hl ⊢
  have hl : lv_has ls 1 [(0, .int a0)] := hl
  refine lv_iload_n hx hb dX4_width_0 rfl (lv_at hl 0 rfl) ?_
  refine lv_if_eq (tgt := 9) hx hb dX4_width_1 (by decide) (fun c1 => ?_) (fun c1 => ?_)
  · skip
    rw [if_pos c1] at hJ
    refine lv_bipush (v := (23 : Int32)) hx hb dX4_width_9 (by decide) ?_
    exact W.iret hx hb hr (fun t ht hW => ⟨_, rfl, hJ.trans hE.symm, ht⟩) (fun q h => absurd h List.not_mem_nil) dX4_width_11
  · skip
    rw [if_neg c1] at hJ
    refine lv_bipush (v := (52 : Int32)) hx hb dX4_width_4 (by decide) ?_
    refine lv_goto (tgt := 11) hx hb dX4_width_6 (by decide) ?_
    exact W.iret hx hb hr (fun t ht hW => ⟨_, rfl, hJ.trans hE.symm, ht⟩) (fun q h => absurd h List.not_mem_nil) dX4_width_11
def jX4_sizeOf_y1 (a0 : Int32) (a1 : Int64) (y1 : Int64) : Int64 := (a1 &&& y1)
def jX4_sizeOf (a0 : Int32) (a1 : Int64) : Int64 := (jX4_sizeOf_y1 a0 a1 (if a0 = 0 then (2147483647 : Int64) else (9223372036854775807 : Int64)))
set_option maxHeartbeats 4000000 in
set_option maxRecDepth 100000 in
theorem qX4_sizeOf (l : Launch) (a0 : Int32) (a1 : Int64) : Met l yX4_sizeOf wsX4_sizeOf ({ frames := 0, cells := 0, slots := 0, locals := 0 }) (fun v _ => v = ([.int a0, .long a1] : List Value).toArray) (vp_Sl (fun r => r = jX4_sizeOf a0 a1)) 0 0 (fun _ => False) := by
  refine Met.ofW (cc := cX4_sizeOf) (maxL := 3) (ret := some .long) (by decide) rfl ?_
  intro p e s m args below meth c s₁ B hml hv
  subst hv
  have hx := B.exec
  have hb := B.bytes
  have hr := B.returns
  have hts := atoms_spec (ws := wsX4_sizeOf) B.pre
  have hown : s.vm.findClass RX4 = some m.cls := findClass_of_methodNamed B.named
  have hlocks := B.notSynchronized
  obtain ⟨JR, hE⟩ : ∃ q, jX4_sizeOf a0 a1 = q := ⟨_, rfl⟩
  have hJ := hE
  rw [jX4_sizeOf] at hJ
  have hl := lv_entry ([.int a0, .long a1]) (n := 3) (Nat.le_of_ble_eq_true rfl)
  rw [lg_entry_eq]
  generalize (lg_sl ([.int a0, .long a1]) ++ List.replicate (3 - (lg_sl ([.int a0, .long a1])).length) Slot.unset).toArray = ls at hl ⊢
  have hl : lv_has ls 3 [(0, .int a0), (1, .long a1)] := hl
  refine lv_lload_n hx hb dX4_sizeOf_0 rfl (lv_at hl 1 rfl) ?_
  refine lv_iload_n hx hb dX4_sizeOf_1 rfl (lv_at hl 0 rfl) ?_
  refine jn_l (J := 14) (ls := ls) (v := (if a0 = 0 then (2147483647 : Int64) else (9223372036854775807 : Int64))) (rest := [.long a1]) ?_ (fun y1 ey1 => ?_)
  · intro hj
    refine lv_if_eq (tgt := 11) hx hb dX4_sizeOf_2 (by decide) (fun c2 => ?_) (fun c2 => ?_)
    · skip
      rw [if_pos c2] at hj
      refine lv_ldc2 (v := (2147483647 : Int64)) hx hb hown (hts (.constantLong RX4 82 (2147483647)) (by decide +kernel)) dX4_sizeOf_11 ?_
      exact hj
    · skip
      rw [if_neg c2] at hj
      refine lv_ldc2 (v := (9223372036854775807 : Int64)) hx hb hown (hts (.constantLong RX4 68 (9223372036854775807)) (by decide +kernel)) dX4_sizeOf_5 ?_
      refine lv_goto (tgt := 14) hx hb dX4_sizeOf_8 (by decide) ?_
      exact hj
  rw [← ey1] at hJ
  rw [jX4_sizeOf_y1] at hJ
  refine lv_land hx hb dX4_sizeOf_14 ?_
  exact W.lret hx hb hr (fun t ht hW => ⟨_, rfl, hJ.trans hE.symm, ht⟩) (fun q h => absurd h List.not_mem_nil) dX4_sizeOf_15
def jX4_mantissa_y2 (a0 : Int32) (a1 : Int64) (y1 : Int64) (y2 : Int64) : Int64 := (if y1 ≤ (jX4_sizeOf a0 a1) then (y2 ||| y1) else y2)
def jX4_mantissa_y1 (a0 : Int32) (a1 : Int64) (y1 : Int64) : Int64 := (jX4_mantissa_y2 a0 a1 y1 (a1 &&& (y1 - (1 : Int64))))
def jX4_mantissa (a0 : Int32) (a1 : Int64) : Int64 := (jX4_mantissa_y1 a0 a1 ((1 : Int64) <<< ((jX4_width a0).toInt64 &&& 63)))
set_option maxHeartbeats 4000000 in
set_option maxRecDepth 100000 in
theorem qX4_mantissa (l : Launch) (a0 : Int32) (a1 : Int64) : Met l yX4_mantissa wsX4_mantissa ({ frames := 1, cells := 0, slots := 0, locals := 22 }) (fun v _ => v = ([.int a0, .long a1] : List Value).toArray) (vp_Sl (fun r => r = jX4_mantissa a0 a1)) 0 0 (fun _ => False) := by
  refine Met.ofW (cc := cX4_mantissa) (maxL := 7) (ret := some .long) (by decide) rfl ?_
  intro p e s m args below meth c s₁ B hml hv
  subst hv
  have hx := B.exec
  have hb := B.bytes
  have hr := B.returns
  have hts := atoms_spec (ws := wsX4_mantissa) B.pre
  have hown : s.vm.findClass RX4 = some m.cls := findClass_of_methodNamed B.named
  have hlocks := B.notSynchronized
  obtain ⟨JR, hE⟩ : ∃ q, jX4_mantissa a0 a1 = q := ⟨_, rfl⟩
  have hJ := hE
  rw [jX4_mantissa] at hJ
  have hl := lv_entry ([.int a0, .long a1]) (n := 7) (Nat.le_of_ble_eq_true rfl)
  rw [lg_entry_eq]
  generalize (lg_sl ([.int a0, .long a1]) ++ List.replicate (7 - (lg_sl ([.int a0, .long a1])).length) Slot.unset).toArray = ls at hl ⊢
  have hl : lv_has ls 7 [(0, .int a0), (1, .long a1)] := hl
  refine lv_lconst (v := (1 : Int64)) hx hb dX4_mantissa_0 (by decide) ?_
  refine lv_iload_n hx hb dX4_mantissa_1 rfl (lv_at hl 0 rfl) ?_
  refine vp_callSi (W.runS (As := [.int a0]) (rest := [.long (1 : Int64)]) ⟨hx, hb, hml, hown, hts⟩ (qX4_width l a0) (va_cwS 1 hts gX4_mantissa_X4_width rfl rfl rfl (by decide +kernel) ⟨Nat.le_of_ble_eq_true rfl, Nat.le_of_ble_eq_true rfl⟩) ⟨fun _ _ _ _ q => q, fun U hU hW => rfl⟩ rfl rfl hl.1 rfl (lv_room (Nat.le_of_ble_eq_true rfl)) dX4_mantissa_2 ⟨Nat.le_of_ble_eq_true rfl, Nat.le_of_ble_eq_true rfl⟩) (fun r hr => ?_)
  subst hr
  refine lv_lshl (v := ((1 : Int64) <<< ((jX4_width a0).toInt64 &&& 63))) hx hb dX4_mantissa_5 rfl ?_
  refine lv_topl (fun y1 ey1 => ?_)
  rw [← ey1] at hJ
  rw [jX4_mantissa_y1] at hJ
  refine lv_lstore_n (lv' := [(3, .long y1), (0, .int a0), (1, .long a1)]) hx hb dX4_mantissa_6 rfl hl (by decide) rfl (fun ls hl => ?_)
  refine lv_lload_n hx hb dX4_mantissa_7 rfl (lv_at hl 2 rfl) ?_
  refine lv_lload_n hx hb dX4_mantissa_8 rfl (lv_at hl 0 rfl) ?_
  refine lv_lconst (v := (1 : Int64)) hx hb dX4_mantissa_9 (by decide) ?_
  refine lv_lsub hx hb dX4_mantissa_10 ?_
  refine lv_land hx hb dX4_mantissa_11 ?_
  refine lv_topl (fun y2 ey2 => ?_)
  rw [← ey2] at hJ
  rw [jX4_mantissa_y2] at hJ
  refine lv_lstore (lv' := [(5, .long y2), (3, .long y1), (0, .int a0), (1, .long a1)]) hx hb dX4_mantissa_12 hl (by decide) rfl (fun ls hl => ?_)
  refine lv_iload_n hx hb dX4_mantissa_14 rfl (lv_at hl 2 rfl) ?_
  refine lv_lload_n hx hb dX4_mantissa_15 rfl (lv_at hl 3 rfl) ?_
  refine vp_callSl (W.runS (As := [.int a0, .long a1]) (rest := []) ⟨hx, hb, hml, hown, hts⟩ (qX4_sizeOf l a0 a1) (va_cwS 2 hts gX4_mantissa_X4_sizeOf rfl rfl rfl (by decide +kernel) ⟨Nat.le_of_ble_eq_true rfl, Nat.le_of_ble_eq_true rfl⟩) ⟨fun _ _ _ _ q => q, fun U hU hW => rfl⟩ rfl rfl hl.1 rfl (lv_room (Nat.le_of_ble_eq_true rfl)) dX4_mantissa_16 ⟨Nat.le_of_ble_eq_true rfl, Nat.le_of_ble_eq_true rfl⟩) (fun r hr => ?_)
  subst hr
  refine lv_lload_n hx hb dX4_mantissa_19 rfl (lv_at hl 1 rfl) ?_
  refine W.lcmp hx hb dX4_mantissa_20 ?_
  refine lv_if_ge (tgt := 29) hx hb dX4_mantissa_21 (by decide) (fun c3 => ?_) (fun c3 => ?_)
  · have c3 := (lg_cmp_ge _ _).mp c3
    rw [if_pos c3] at hJ
    refine lv_lload hx hb dX4_mantissa_29 (lv_at hl 0 rfl) ?_
    refine lv_lload_n hx hb dX4_mantissa_31 rfl (lv_at hl 1 rfl) ?_
    refine lv_lor hx hb dX4_mantissa_32 ?_
    exact W.lret hx hb hr (fun t ht hW => ⟨_, rfl, hJ.trans hE.symm, ht⟩) (fun q h => absurd h List.not_mem_nil) dX4_mantissa_33
  · have c3 := mt (lg_cmp_ge _ _).mpr c3
    rw [if_neg c3] at hJ
    refine lv_lload hx hb dX4_mantissa_24 (lv_at hl 0 rfl) ?_
    refine lv_goto (tgt := 33) hx hb dX4_mantissa_26 (by decide) ?_
    exact W.lret hx hb hr (fun t ht hW => ⟨_, rfl, hJ.trans hE.symm, ht⟩) (fun q h => absurd h List.not_mem_nil) dX4_mantissa_33
def jX4_leastExponent (a0 : Int32) : Int32 := (if a0 = 0 then (-149 : Int32) else (-1074 : Int32))
set_option maxHeartbeats 4000000 in
set_option maxRecDepth 100000 in
theorem qX4_leastExponent (l : Launch) (a0 : Int32) : Met l yX4_leastExponent wsX4_leastExponent ({ frames := 0, cells := 0, slots := 0, locals := 0 }) (fun v _ => v = ([.int a0] : List Value).toArray) (vp_Si (fun r => r = jX4_leastExponent a0)) 0 0 (fun _ => False) := by
  refine Met.ofW (cc := cX4_leastExponent) (maxL := 1) (ret := some .int) (by decide) rfl ?_
  intro p e s m args below meth c s₁ B hml hv
  subst hv
  have hx := B.exec
  have hb := B.bytes
  have hr := B.returns
  have hts := atoms_spec (ws := wsX4_leastExponent) B.pre
  have hown : s.vm.findClass RX4 = some m.cls := findClass_of_methodNamed B.named
  have hlocks := B.notSynchronized
  obtain ⟨JR, hE⟩ : ∃ q, jX4_leastExponent a0 = q := ⟨_, rfl⟩
  have hJ := hE
  rw [jX4_leastExponent] at hJ
  have hl := lv_entry ([.int a0]) (n := 1) (Nat.le_of_ble_eq_true rfl)
  rw [lg_entry_eq]
  generalize (lg_sl ([.int a0]) ++ List.replicate (1 - (lg_sl ([.int a0])).length) Slot.unset).toArray = ls at hl ⊢
  have hl : lv_has ls 1 [(0, .int a0)] := hl
  refine lv_iload_n hx hb dX4_leastExponent_0 rfl (lv_at hl 0 rfl) ?_
  refine lv_if_eq (tgt := 10) hx hb dX4_leastExponent_1 (by decide) (fun c1 => ?_) (fun c1 => ?_)
  · skip
    rw [if_pos c1] at hJ
    refine lv_sipush (v := (-149 : Int32)) hx hb dX4_leastExponent_10 (by decide) ?_
    exact W.iret hx hb hr (fun t ht hW => ⟨_, rfl, hJ.trans hE.symm, ht⟩) (fun q h => absurd h List.not_mem_nil) dX4_leastExponent_13
  · skip
    rw [if_neg c1] at hJ
    refine lv_sipush (v := (-1074 : Int32)) hx hb dX4_leastExponent_4 (by decide) ?_
    refine lv_goto (tgt := 13) hx hb dX4_leastExponent_7 (by decide) ?_
    exact W.iret hx hb hr (fun t ht hW => ⟨_, rfl, hJ.trans hE.symm, ht⟩) (fun q h => absurd h List.not_mem_nil) dX4_leastExponent_13
def jX4_exponent_y1 (a0 : Int32) (a1 : Int64) (y1 : Int32) : Int32 := ((jX4_leastExponent a0) + (if (0 : Int32) < (y1 - (1 : Int32)) then (y1 - (1 : Int32)) else (0 : Int32)))
def jX4_exponent (a0 : Int32) (a1 : Int64) : Int32 := (jX4_exponent_y1 a0 a1 ((((jX4_sizeOf a0 a1).toUInt64 >>> ((jX4_width a0).toInt64.toUInt64 &&& Int64.toUInt64 63)).toInt64).toInt32))
set_option maxHeartbeats 4000000 in
set_option maxRecDepth 100000 in
theorem qX4_exponent (l : Launch) (a0 : Int32) (a1 : Int64) : Met l yX4_exponent wsX4_exponent ({ frames := 1, cells := 0, slots := 0, locals := 22 }) (fun v _ => v = ([.int a0, .long a1] : List Value).toArray) (vp_Si (fun r => r = jX4_exponent a0 a1)) 0 0 (fun _ => False) := by
  refine Met.ofW (cc := cX4_exponent) (maxL := 4) (ret := some .int) (by decide) rfl ?_
  intro p e s m args below meth c s₁ B hml hv
  subst hv
  have hx := B.exec
  have hb := B.bytes
  have hr := B.returns
  have hts := atoms_spec (ws := wsX4_exponent) B.pre
  have hown : s.vm.findClass RX4 = some m.cls := findClass_of_methodNamed B.named
  have hlocks := B.notSynchronized
  obtain ⟨JR, hE⟩ : ∃ q, jX4_exponent a0 a1 = q := ⟨_, rfl⟩
  have hJ := hE
  rw [jX4_exponent] at hJ
  have hl := lv_entry ([.int a0, .long a1]) (n := 4) (Nat.le_of_ble_eq_true rfl)
  rw [lg_entry_eq]
  generalize (lg_sl ([.int a0, .long a1]) ++ List.replicate (4 - (lg_sl ([.int a0, .long a1])).length) Slot.unset).toArray = ls at hl ⊢
  have hl : lv_has ls 4 [(0, .int a0), (1, .long a1)] := hl
  refine lv_iload_n hx hb dX4_exponent_0 rfl (lv_at hl 0 rfl) ?_
  refine lv_lload_n hx hb dX4_exponent_1 rfl (lv_at hl 1 rfl) ?_
  refine vp_callSl (W.runS (As := [.int a0, .long a1]) (rest := []) ⟨hx, hb, hml, hown, hts⟩ (qX4_sizeOf l a0 a1) (va_cwS 2 hts gX4_exponent_X4_sizeOf rfl rfl rfl (by decide +kernel) ⟨Nat.le_of_ble_eq_true rfl, Nat.le_of_ble_eq_true rfl⟩) ⟨fun _ _ _ _ q => q, fun U hU hW => rfl⟩ rfl rfl hl.1 rfl (lv_room (Nat.le_of_ble_eq_true rfl)) dX4_exponent_2 ⟨Nat.le_of_ble_eq_true rfl, Nat.le_of_ble_eq_true rfl⟩) (fun r hr => ?_)
  subst hr
  refine lv_iload_n hx hb dX4_exponent_5 rfl (lv_at hl 0 rfl) ?_
  refine vp_callSi (W.runS (As := [.int a0]) (rest := [.long (jX4_sizeOf a0 a1)]) ⟨hx, hb, hml, hown, hts⟩ (qX4_width l a0) (va_cwS 1 hts gX4_exponent_X4_width rfl rfl rfl (by decide +kernel) ⟨Nat.le_of_ble_eq_true rfl, Nat.le_of_ble_eq_true rfl⟩) ⟨fun _ _ _ _ q => q, fun U hU hW => rfl⟩ rfl rfl hl.1 rfl (lv_room (Nat.le_of_ble_eq_true rfl)) dX4_exponent_6 ⟨Nat.le_of_ble_eq_true rfl, Nat.le_of_ble_eq_true rfl⟩) (fun r hr => ?_)
  subst hr
  refine lv_lushr (v := ((jX4_sizeOf a0 a1).toUInt64 >>> ((jX4_width a0).toInt64.toUInt64 &&& Int64.toUInt64 63)).toInt64) hx hb dX4_exponent_9 rfl ?_
  refine lv_l2i (v := (((jX4_sizeOf a0 a1).toUInt64 >>> ((jX4_width a0).toInt64.toUInt64 &&& Int64.toUInt64 63)).toInt64).toInt32) hx hb dX4_exponent_10 rfl ?_
  refine lv_topi (fun y1 ey1 => ?_)
  rw [← ey1] at hJ
  rw [jX4_exponent_y1] at hJ
  refine lv_istore_n (lv' := [(3, .int y1), (0, .int a0), (1, .long a1)]) hx hb dX4_exponent_11 rfl hl (by decide) rfl (fun ls hl => ?_)
  refine lv_iload_n hx hb dX4_exponent_12 rfl (lv_at hl 1 rfl) ?_
  refine vp_callSi (W.runS (As := [.int a0]) (rest := []) ⟨hx, hb, hml, hown, hts⟩ (qX4_leastExponent l a0) (va_cwS 1 hts gX4_exponent_X4_leastExponent rfl rfl rfl (by decide +kernel) ⟨Nat.le_of_ble_eq_true rfl, Nat.le_of_ble_eq_true rfl⟩) ⟨fun _ _ _ _ q => q, fun U hU hW => rfl⟩ rfl rfl hl.1 rfl (lv_room (Nat.le_of_ble_eq_true rfl)) dX4_exponent_13 ⟨Nat.le_of_ble_eq_true rfl, Nat.le_of_ble_eq_true rfl⟩) (fun r hr => ?_)
  subst hr
  refine lv_iconst (v := (0 : Int32)) hx hb dX4_exponent_16 (by decide) ?_
  refine lv_iload_n hx hb dX4_exponent_17 rfl (lv_at hl 0 rfl) ?_
  refine lv_iconst (v := (1 : Int32)) hx hb dX4_exponent_18 (by decide) ?_
  refine lv_isub hx hb dX4_exponent_19 ?_
  refine va_mmax hx hb (hml.trans hl.1.symm) hown (hts (.methodLink RX4 57 Lib.Math.max.name) (by decide +kernel)) (hts (.static Lib.Math.max.name) (by decide +kernel)) (hts (.initialized "java/lang/Math") (by decide +kernel)) (hts (.code Lib.Math.max.name Lib.Math.max.code 2 (some .int)) (by decide +kernel)) (Nat.le_of_ble_eq_true rfl) (Nat.le_of_ble_eq_true rfl) (Nat.zero_le _) (Nat.zero_le _) dX4_exponent_20 ?_
  refine lv_iadd hx hb dX4_exponent_23 ?_
  exact W.iret hx hb hr (fun t ht hW => ⟨_, rfl, hJ.trans hE.symm, ht⟩) (fun q h => absurd h List.not_mem_nil) dX4_exponent_24
def jX4_signed_y1 (a0 : Int32) (a1 : Int32) (a2 : Int64) (y1 : Int64) : Int64 := (if a1 = 0 then a2 else (a2 ||| y1))
def jX4_signed (a0 : Int32) (a1 : Int32) (a2 : Int64) : Int64 := (jX4_signed_y1 a0 a1 a2 (if a0 = 0 then (-2147483648 : Int64) else (-9223372036854775808 : Int64)))
set_option maxHeartbeats 4000000 in
set_option maxRecDepth 100000 in
theorem qX4_signed (l : Launch) (a0 : Int32) (a1 : Int32) (a2 : Int64) : Met l yX4_signed wsX4_signed ({ frames := 0, cells := 0, slots := 0, locals := 0 }) (fun v _ => v = ([.int a0, .int a1, .long a2] : List Value).toArray) (vp_Sl (fun r => r = jX4_signed a0 a1 a2)) 0 0 (fun _ => False) := by
  refine Met.ofW (cc := cX4_signed) (maxL := 6) (ret := some .long) (by decide) rfl ?_
  intro p e s m args below meth c s₁ B hml hv
  subst hv
  have hx := B.exec
  have hb := B.bytes
  have hr := B.returns
  have hts := atoms_spec (ws := wsX4_signed) B.pre
  have hown : s.vm.findClass RX4 = some m.cls := findClass_of_methodNamed B.named
  have hlocks := B.notSynchronized
  obtain ⟨JR, hE⟩ : ∃ q, jX4_signed a0 a1 a2 = q := ⟨_, rfl⟩
  have hJ := hE
  rw [jX4_signed] at hJ
  have hl := lv_entry ([.int a0, .int a1, .long a2]) (n := 6) (Nat.le_of_ble_eq_true rfl)
  rw [lg_entry_eq]
  generalize (lg_sl ([.int a0, .int a1, .long a2]) ++ List.replicate (6 - (lg_sl ([.int a0, .int a1, .long a2])).length) Slot.unset).toArray = ls at hl ⊢
  have hl : lv_has ls 6 [(0, .int a0), (1, .int a1), (2, .long a2)] := hl
  refine lv_iload_n hx hb dX4_signed_0 rfl (lv_at hl 0 rfl) ?_
  refine jn_l (J := 13) (ls := ls) (v := (if a0 = 0 then (-2147483648 : Int64) else (-9223372036854775808 : Int64))) (rest := []) ?_ (fun y1 ey1 => ?_)
  · intro hj
    refine lv_if_eq (tgt := 10) hx hb dX4_signed_1 (by decide) (fun c2 => ?_) (fun c2 => ?_)
    · skip
      rw [if_pos c2] at hj
      refine lv_ldc2 (v := (-2147483648 : Int64)) hx hb hown (hts (.constantLong RX4 84 (-2147483648)) (by decide +kernel)) dX4_signed_10 ?_
      exact hj
    · skip
      rw [if_neg c2] at hj
      refine lv_ldc2 (v := (-9223372036854775808 : Int64)) hx hb hown (hts (.constantLong RX4 19 (-9223372036854775808)) (by decide +kernel)) dX4_signed_4 ?_
      refine lv_goto (tgt := 13) hx hb dX4_signed_7 (by decide) ?_
      exact hj
  rw [← ey1] at hJ
  rw [jX4_signed_y1] at hJ
  refine lv_lstore (lv' := [(4, .long y1), (0, .int a0), (1, .int a1), (2, .long a2)]) hx hb dX4_signed_13 hl (by decide) rfl (fun ls hl => ?_)
  refine lv_iload_n hx hb dX4_signed_15 rfl (lv_at hl 2 rfl) ?_
  refine lv_if_eq (tgt := 26) hx hb dX4_signed_16 (by decide) (fun c3 => ?_) (fun c3 => ?_)
  · skip
    rw [if_pos c3] at hJ
    refine lv_lload_n hx hb dX4_signed_26 rfl (lv_at hl 3 rfl) ?_
    exact W.lret hx hb hr (fun t ht hW => ⟨_, rfl, hJ.trans hE.symm, ht⟩) (fun q h => absurd h List.not_mem_nil) dX4_signed_27
  · skip
    rw [if_neg c3] at hJ
    refine lv_lload_n hx hb dX4_signed_19 rfl (lv_at hl 3 rfl) ?_
    refine lv_lload hx hb dX4_signed_20 (lv_at hl 0 rfl) ?_
    refine lv_lor hx hb dX4_signed_22 ?_
    refine lv_goto (tgt := 27) hx hb dX4_signed_23 (by decide) ?_
    exact W.lret hx hb hr (fun t ht hW => ⟨_, rfl, hJ.trans hE.symm, ht⟩) (fun q h => absurd h List.not_mem_nil) dX4_signed_27
def jJ6_numberOfLeadingZeros_0f7a4_y6 (a0 : Int32) (y6 : Int32) : Int32 := ((29 : Int32) - ((y6.toUInt32 >>> ((1 : Int32).toUInt32 &&& Int32.toUInt32 31)).toInt32))
def jJ6_numberOfLeadingZeros_0f7a4_y9 (a0 : Int32) (y7 : Int32) (y9 : Int32) : Int32 := ((25 : Int32) - ((y9.toUInt32 >>> ((1 : Int32).toUInt32 &&& Int32.toUInt32 31)).toInt32))
def jJ6_numberOfLeadingZeros_0f7a4_y7 (a0 : Int32) (y7 : Int32) : Int32 := (if y7 < (4 : Int32) then ((27 : Int32) - ((y7.toUInt32 >>> ((1 : Int32).toUInt32 &&& Int32.toUInt32 31)).toInt32)) else (jJ6_numberOfLeadingZeros_0f7a4_y9 a0 y7 ((y7.toUInt32 >>> ((2 : Int32).toUInt32 &&& Int32.toUInt32 31)).toInt32)))
def jJ6_numberOfLeadingZeros_0f7a4_y13 (a0 : Int32) (y10 : Int32) (y13 : Int32) : Int32 := ((21 : Int32) - ((y13.toUInt32 >>> ((1 : Int32).toUInt32 &&& Int32.toUInt32 31)).toInt32))
def jJ6_numberOfLeadingZeros_0f7a4_y16 (a0 : Int32) (y10 : Int32) (y14 : Int32) (y16 : Int32) : Int32 := ((17 : Int32) - ((y16.toUInt32 >>> ((1 : Int32).toUInt32 &&& Int32.toUInt32 31)).toInt32))
def jJ6_numberOfLeadingZeros_0f7a4_y14 (a0 : Int32) (y10 : Int32) (y14 : Int32) : Int32 := (if y14 < (4 : Int32) then ((19 : Int32) - ((y14.toUInt32 >>> ((1 : Int32).toUInt32 &&& Int32.toUInt32 31)).toInt32)) else (jJ6_numberOfLeadingZeros_0f7a4_y16 a0 y10 y14 ((y14.toUInt32 >>> ((2 : Int32).toUInt32 &&& Int32.toUInt32 31)).toInt32)))
def jJ6_numberOfLeadingZeros_0f7a4_y10 (a0 : Int32) (y10 : Int32) : Int32 := (if y10 < (16 : Int32) then (if y10 < (4 : Int32) then ((23 : Int32) - ((y10.toUInt32 >>> ((1 : Int32).toUInt32 &&& Int32.toUInt32 31)).toInt32)) else (jJ6_numberOfLeadingZeros_0f7a4_y13 a0 y10 ((y10.toUInt32 >>> ((2 : Int32).toUInt32 &&& Int32.toUInt32 31)).toInt32))) else (jJ6_numberOfLeadingZeros_0f7a4_y14 a0 y10 ((y10.toUInt32 >>> ((4 : Int32).toUInt32 &&& Int32.toUInt32 31)).toInt32)))
def jJ6_numberOfLeadingZeros_0f7a4_y21 (a0 : Int32) (y17 : Int32) (y21 : Int32) : Int32 := ((13 : Int32) - ((y21.toUInt32 >>> ((1 : Int32).toUInt32 &&& Int32.toUInt32 31)).toInt32))
def jJ6_numberOfLeadingZeros_0f7a4_y24 (a0 : Int32) (y17 : Int32) (y22 : Int32) (y24 : Int32) : Int32 := ((9 : Int32) - ((y24.toUInt32 >>> ((1 : Int32).toUInt32 &&& Int32.toUInt32 31)).toInt32))
def jJ6_numberOfLeadingZeros_0f7a4_y22 (a0 : Int32) (y17 : Int32) (y22 : Int32) : Int32 := (if y22 < (4 : Int32) then ((11 : Int32) - ((y22.toUInt32 >>> ((1 : Int32).toUInt32 &&& Int32.toUInt32 31)).toInt32)) else (jJ6_numberOfLeadingZeros_0f7a4_y24 a0 y17 y22 ((y22.toUInt32 >>> ((2 : Int32).toUInt32 &&& Int32.toUInt32 31)).toInt32)))
def jJ6_numberOfLeadingZeros_0f7a4_y28 (a0 : Int32) (y17 : Int32) (y25 : Int32) (y28 : Int32) : Int32 := ((5 : Int32) - ((y28.toUInt32 >>> ((1 : Int32).toUInt32 &&& Int32.toUInt32 31)).toInt32))
def jJ6_numberOfLeadingZeros_0f7a4_y31 (a0 : Int32) (y17 : Int32) (y25 : Int32) (y29 : Int32) (y31 : Int32) : Int32 := ((1 : Int32) - ((y31.toUInt32 >>> ((1 : Int32).toUInt32 &&& Int32.toUInt32 31)).toInt32))
def jJ6_numberOfLeadingZeros_0f7a4_y29 (a0 : Int32) (y17 : Int32) (y25 : Int32) (y29 : Int32) : Int32 := (if y29 < (4 : Int32) then ((3 : Int32) - ((y29.toUInt32 >>> ((1 : Int32).toUInt32 &&& Int32.toUInt32 31)).toInt32)) else (jJ6_numberOfLeadingZeros_0f7a4_y31 a0 y17 y25 y29 ((y29.toUInt32 >>> ((2 : Int32).toUInt32 &&& Int32.toUInt32 31)).toInt32)))
def jJ6_numberOfLeadingZeros_0f7a4_y25 (a0 : Int32) (y17 : Int32) (y25 : Int32) : Int32 := (if y25 < (16 : Int32) then (if y25 < (4 : Int32) then ((7 : Int32) - ((y25.toUInt32 >>> ((1 : Int32).toUInt32 &&& Int32.toUInt32 31)).toInt32)) else (jJ6_numberOfLeadingZeros_0f7a4_y28 a0 y17 y25 ((y25.toUInt32 >>> ((2 : Int32).toUInt32 &&& Int32.toUInt32 31)).toInt32))) else (jJ6_numberOfLeadingZeros_0f7a4_y29 a0 y17 y25 ((y25.toUInt32 >>> ((4 : Int32).toUInt32 &&& Int32.toUInt32 31)).toInt32)))
def jJ6_numberOfLeadingZeros_0f7a4_y17 (a0 : Int32) (y17 : Int32) : Int32 := (if y17 < (256 : Int32) then (if y17 < (16 : Int32) then (if y17 < (4 : Int32) then ((15 : Int32) - ((y17.toUInt32 >>> ((1 : Int32).toUInt32 &&& Int32.toUInt32 31)).toInt32)) else (jJ6_numberOfLeadingZeros_0f7a4_y21 a0 y17 ((y17.toUInt32 >>> ((2 : Int32).toUInt32 &&& Int32.toUInt32 31)).toInt32))) else (jJ6_numberOfLeadingZeros_0f7a4_y22 a0 y17 ((y17.toUInt32 >>> ((4 : Int32).toUInt32 &&& Int32.toUInt32 31)).toInt32))) else (jJ6_numberOfLeadingZeros_0f7a4_y25 a0 y17 ((y17.toUInt32 >>> ((8 : Int32).toUInt32 &&& Int32.toUInt32 31)).toInt32)))
def jJ6_numberOfLeadingZeros_0f7a4 (a0 : Int32) : Int32 := (if 0 < a0 then (if a0 < (65536 : Int32) then (if a0 < (256 : Int32) then (if a0 < (16 : Int32) then (if a0 < (4 : Int32) then ((31 : Int32) - ((a0.toUInt32 >>> ((1 : Int32).toUInt32 &&& Int32.toUInt32 31)).toInt32)) else (jJ6_numberOfLeadingZeros_0f7a4_y6 a0 ((a0.toUInt32 >>> ((2 : Int32).toUInt32 &&& Int32.toUInt32 31)).toInt32))) else (jJ6_numberOfLeadingZeros_0f7a4_y7 a0 ((a0.toUInt32 >>> ((4 : Int32).toUInt32 &&& Int32.toUInt32 31)).toInt32))) else (jJ6_numberOfLeadingZeros_0f7a4_y10 a0 ((a0.toUInt32 >>> ((8 : Int32).toUInt32 &&& Int32.toUInt32 31)).toInt32))) else (jJ6_numberOfLeadingZeros_0f7a4_y17 a0 ((a0.toUInt32 >>> ((16 : Int32).toUInt32 &&& Int32.toUInt32 31)).toInt32))) else (if a0 = 0 then (32 : Int32) else (0 : Int32)))
set_option maxHeartbeats 4000000 in
set_option maxRecDepth 100000 in
theorem qJ6_numberOfLeadingZeros_0f7a4 (l : Launch) (a0 : Int32) : Met l yJ6_numberOfLeadingZeros_0f7a4 wsJ6_numberOfLeadingZeros_0f7a4 ({ frames := 0, cells := 0, slots := 0, locals := 0 }) (fun v _ => v = ([.int a0] : List Value).toArray) (vp_Si (fun r => r = jJ6_numberOfLeadingZeros_0f7a4 a0)) 0 0 (fun _ => False) := by
  refine Met.ofW (cc := cJ6_numberOfLeadingZeros_0f7a4) (maxL := 2) (ret := some .int) (by decide) rfl ?_
  intro p e s m args below meth c s₁ B hml hv
  subst hv
  have hx := B.exec
  have hb := B.bytes
  have hr := B.returns
  have hts := atoms_spec (ws := wsJ6_numberOfLeadingZeros_0f7a4) B.pre
  have hown : s.vm.findClass RJ6 = some m.cls := findClass_of_methodNamed B.named
  have hlocks := B.notSynchronized
  obtain ⟨JR, hE⟩ : ∃ q, jJ6_numberOfLeadingZeros_0f7a4 a0 = q := ⟨_, rfl⟩
  have hJ := hE
  rw [jJ6_numberOfLeadingZeros_0f7a4] at hJ
  have hl := lv_entry ([.int a0]) (n := 2) (Nat.le_of_ble_eq_true rfl)
  rw [lg_entry_eq]
  generalize (lg_sl ([.int a0]) ++ List.replicate (2 - (lg_sl ([.int a0])).length) Slot.unset).toArray = ls at hl ⊢
  have hl : lv_has ls 2 [(0, .int a0)] := hl
  refine lv_iload_n hx hb dJ6_numberOfLeadingZeros_0f7a4_0 rfl (lv_at hl 0 rfl) ?_
  refine lv_if_gt (tgt := 15) hx hb dJ6_numberOfLeadingZeros_0f7a4_1 (by decide) (fun c1 => ?_) (fun c1 => ?_)
  · skip
    rw [if_pos c1] at hJ
    refine lv_bipush (v := (31 : Int32)) hx hb dJ6_numberOfLeadingZeros_0f7a4_15 (by decide) ?_
    refine lv_istore_n (lv' := [(1, .int (31 : Int32)), (0, .int a0)]) hx hb dJ6_numberOfLeadingZeros_0f7a4_17 rfl hl (by decide) rfl (fun ls hl => ?_)
    refine lv_iload_n hx hb dJ6_numberOfLeadingZeros_0f7a4_18 rfl (lv_at hl 1 rfl) ?_
    refine lv_ldcw (v := (65536 : Int32)) hx hb hown (hts (.constant RJ6 264 (65536)) (by decide +kernel)) dJ6_numberOfLeadingZeros_0f7a4_19 ?_
    refine lv_icmp_lt (tgt := 33) hx hb dJ6_numberOfLeadingZeros_0f7a4_22 (by decide) (fun c2 => ?_) (fun c2 => ?_)
    · skip
      rw [if_pos c2] at hJ
      refine lv_iload_n hx hb dJ6_numberOfLeadingZeros_0f7a4_33 rfl (lv_at hl 1 rfl) ?_
      refine lv_sipush (v := (256 : Int32)) hx hb dJ6_numberOfLeadingZeros_0f7a4_34 (by decide) ?_
      refine lv_icmp_lt (tgt := 48) hx hb dJ6_numberOfLeadingZeros_0f7a4_37 (by decide) (fun c3 => ?_) (fun c3 => ?_)
      · skip
        rw [if_pos c3] at hJ
        refine lv_iload_n hx hb dJ6_numberOfLeadingZeros_0f7a4_48 rfl (lv_at hl 1 rfl) ?_
        refine lv_bipush (v := (16 : Int32)) hx hb dJ6_numberOfLeadingZeros_0f7a4_49 (by decide) ?_
        refine lv_icmp_lt (tgt := 61) hx hb dJ6_numberOfLeadingZeros_0f7a4_51 (by decide) (fun c4 => ?_) (fun c4 => ?_)
        · skip
          rw [if_pos c4] at hJ
          refine lv_iload_n hx hb dJ6_numberOfLeadingZeros_0f7a4_61 rfl (lv_at hl 1 rfl) ?_
          refine lv_iconst (v := (4 : Int32)) hx hb dJ6_numberOfLeadingZeros_0f7a4_62 (by decide) ?_
          refine lv_icmp_lt (tgt := 73) hx hb dJ6_numberOfLeadingZeros_0f7a4_63 (by decide) (fun c5 => ?_) (fun c5 => ?_)
          · skip
            rw [if_pos c5] at hJ
            refine lv_iload_n hx hb dJ6_numberOfLeadingZeros_0f7a4_73 rfl (lv_at hl 0 rfl) ?_
            refine lv_iload_n hx hb dJ6_numberOfLeadingZeros_0f7a4_74 rfl (lv_at hl 1 rfl) ?_
            refine lv_iconst (v := (1 : Int32)) hx hb dJ6_numberOfLeadingZeros_0f7a4_75 (by decide) ?_
            refine lv_iushr (v := (a0.toUInt32 >>> ((1 : Int32).toUInt32 &&& Int32.toUInt32 31)).toInt32) hx hb dJ6_numberOfLeadingZeros_0f7a4_76 rfl ?_
            refine lv_isub hx hb dJ6_numberOfLeadingZeros_0f7a4_77 ?_
            exact W.iret hx hb hr (fun t ht hW => ⟨_, rfl, hJ.trans hE.symm, ht⟩) (fun q h => absurd h List.not_mem_nil) dJ6_numberOfLeadingZeros_0f7a4_78
          · skip
            rw [if_neg c5] at hJ
            refine lv_iinc (v := (29 : Int32)) (lv' := [(1, .int (29 : Int32)), (0, .int a0)]) hx hb dJ6_numberOfLeadingZeros_0f7a4_66 hl (k := 0) rfl (by first | rfl | decide) (by decide) rfl (fun ls hl => ?_)
            refine lv_iload_n hx hb dJ6_numberOfLeadingZeros_0f7a4_69 rfl (lv_at hl 1 rfl) ?_
            refine lv_iconst (v := (2 : Int32)) hx hb dJ6_numberOfLeadingZeros_0f7a4_70 (by decide) ?_
            refine lv_iushr (v := (a0.toUInt32 >>> ((2 : Int32).toUInt32 &&& Int32.toUInt32 31)).toInt32) hx hb dJ6_numberOfLeadingZeros_0f7a4_71 rfl ?_
            refine lv_topi (fun y6 ey6 => ?_)
            rw [← ey6] at hJ
            rw [jJ6_numberOfLeadingZeros_0f7a4_y6] at hJ
            refine lv_istore_n (lv' := [(0, .int y6), (1, .int (29 : Int32))]) hx hb dJ6_numberOfLeadingZeros_0f7a4_72 rfl hl (by decide) rfl (fun ls hl => ?_)
            refine lv_iload_n hx hb dJ6_numberOfLeadingZeros_0f7a4_73 rfl (lv_at hl 1 rfl) ?_
            refine lv_iload_n hx hb dJ6_numberOfLeadingZeros_0f7a4_74 rfl (lv_at hl 0 rfl) ?_
            refine lv_iconst (v := (1 : Int32)) hx hb dJ6_numberOfLeadingZeros_0f7a4_75 (by decide) ?_
            refine lv_iushr (v := (y6.toUInt32 >>> ((1 : Int32).toUInt32 &&& Int32.toUInt32 31)).toInt32) hx hb dJ6_numberOfLeadingZeros_0f7a4_76 rfl ?_
            refine lv_isub hx hb dJ6_numberOfLeadingZeros_0f7a4_77 ?_
            exact W.iret hx hb hr (fun t ht hW => ⟨_, rfl, hJ.trans hE.symm, ht⟩) (fun q h => absurd h List.not_mem_nil) dJ6_numberOfLeadingZeros_0f7a4_78
        · skip
          rw [if_neg c4] at hJ
          refine lv_iinc (v := (27 : Int32)) (lv' := [(1, .int (27 : Int32)), (0, .int a0)]) hx hb dJ6_numberOfLeadingZeros_0f7a4_54 hl (k := 0) rfl (by first | rfl | decide) (by decide) rfl (fun ls hl => ?_)
          refine lv_iload_n hx hb dJ6_numberOfLeadingZeros_0f7a4_57 rfl (lv_at hl 1 rfl) ?_
          refine lv_iconst (v := (4 : Int32)) hx hb dJ6_numberOfLeadingZeros_0f7a4_58 (by decide) ?_
          refine lv_iushr (v := (a0.toUInt32 >>> ((4 : Int32).toUInt32 &&& Int32.toUInt32 31)).toInt32) hx hb dJ6_numberOfLeadingZeros_0f7a4_59 rfl ?_
          refine lv_topi (fun y7 ey7 => ?_)
          rw [← ey7] at hJ
          rw [jJ6_numberOfLeadingZeros_0f7a4_y7] at hJ
          refine lv_istore_n (lv' := [(0, .int y7), (1, .int (27 : Int32))]) hx hb dJ6_numberOfLeadingZeros_0f7a4_60 rfl hl (by decide) rfl (fun ls hl => ?_)
          refine lv_iload_n hx hb dJ6_numberOfLeadingZeros_0f7a4_61 rfl (lv_at hl 0 rfl) ?_
          refine lv_iconst (v := (4 : Int32)) hx hb dJ6_numberOfLeadingZeros_0f7a4_62 (by decide) ?_
          refine lv_icmp_lt (tgt := 73) hx hb dJ6_numberOfLeadingZeros_0f7a4_63 (by decide) (fun c8 => ?_) (fun c8 => ?_)
          · skip
            rw [if_pos c8] at hJ
            refine lv_iload_n hx hb dJ6_numberOfLeadingZeros_0f7a4_73 rfl (lv_at hl 1 rfl) ?_
            refine lv_iload_n hx hb dJ6_numberOfLeadingZeros_0f7a4_74 rfl (lv_at hl 0 rfl) ?_
            refine lv_iconst (v := (1 : Int32)) hx hb dJ6_numberOfLeadingZeros_0f7a4_75 (by decide) ?_
            refine lv_iushr (v := (y7.toUInt32 >>> ((1 : Int32).toUInt32 &&& Int32.toUInt32 31)).toInt32) hx hb dJ6_numberOfLeadingZeros_0f7a4_76 rfl ?_
            refine lv_isub hx hb dJ6_numberOfLeadingZeros_0f7a4_77 ?_
            exact W.iret hx hb hr (fun t ht hW => ⟨_, rfl, hJ.trans hE.symm, ht⟩) (fun q h => absurd h List.not_mem_nil) dJ6_numberOfLeadingZeros_0f7a4_78
          · skip
            rw [if_neg c8] at hJ
            refine lv_iinc (v := (25 : Int32)) (lv' := [(1, .int (25 : Int32)), (0, .int y7)]) hx hb dJ6_numberOfLeadingZeros_0f7a4_66 hl (k := 1) rfl (by first | rfl | decide) (by decide) rfl (fun ls hl => ?_)
            refine lv_iload_n hx hb dJ6_numberOfLeadingZeros_0f7a4_69 rfl (lv_at hl 1 rfl) ?_
            refine lv_iconst (v := (2 : Int32)) hx hb dJ6_numberOfLeadingZeros_0f7a4_70 (by decide) ?_
            refine lv_iushr (v := (y7.toUInt32 >>> ((2 : Int32).toUInt32 &&& Int32.toUInt32 31)).toInt32) hx hb dJ6_numberOfLeadingZeros_0f7a4_71 rfl ?_
            refine lv_topi (fun y9 ey9 => ?_)
            rw [← ey9] at hJ
            rw [jJ6_numberOfLeadingZeros_0f7a4_y9] at hJ
            refine lv_istore_n (lv' := [(0, .int y9), (1, .int (25 : Int32))]) hx hb dJ6_numberOfLeadingZeros_0f7a4_72 rfl hl (by decide) rfl (fun ls hl => ?_)
            refine lv_iload_n hx hb dJ6_numberOfLeadingZeros_0f7a4_73 rfl (lv_at hl 1 rfl) ?_
            refine lv_iload_n hx hb dJ6_numberOfLeadingZeros_0f7a4_74 rfl (lv_at hl 0 rfl) ?_
            refine lv_iconst (v := (1 : Int32)) hx hb dJ6_numberOfLeadingZeros_0f7a4_75 (by decide) ?_
            refine lv_iushr (v := (y9.toUInt32 >>> ((1 : Int32).toUInt32 &&& Int32.toUInt32 31)).toInt32) hx hb dJ6_numberOfLeadingZeros_0f7a4_76 rfl ?_
            refine lv_isub hx hb dJ6_numberOfLeadingZeros_0f7a4_77 ?_
            exact W.iret hx hb hr (fun t ht hW => ⟨_, rfl, hJ.trans hE.symm, ht⟩) (fun q h => absurd h List.not_mem_nil) dJ6_numberOfLeadingZeros_0f7a4_78
      · skip
        rw [if_neg c3] at hJ
        refine lv_iinc (v := (23 : Int32)) (lv' := [(1, .int (23 : Int32)), (0, .int a0)]) hx hb dJ6_numberOfLeadingZeros_0f7a4_40 hl (k := 0) rfl (by first | rfl | decide) (by decide) rfl (fun ls hl => ?_)
        refine lv_iload_n hx hb dJ6_numberOfLeadingZeros_0f7a4_43 rfl (lv_at hl 1 rfl) ?_
        refine lv_bipush (v := (8 : Int32)) hx hb dJ6_numberOfLeadingZeros_0f7a4_44 (by decide) ?_
        refine lv_iushr (v := (a0.toUInt32 >>> ((8 : Int32).toUInt32 &&& Int32.toUInt32 31)).toInt32) hx hb dJ6_numberOfLeadingZeros_0f7a4_46 rfl ?_
        refine lv_topi (fun y10 ey10 => ?_)
        rw [← ey10] at hJ
        rw [jJ6_numberOfLeadingZeros_0f7a4_y10] at hJ
        refine lv_istore_n (lv' := [(0, .int y10), (1, .int (23 : Int32))]) hx hb dJ6_numberOfLeadingZeros_0f7a4_47 rfl hl (by decide) rfl (fun ls hl => ?_)
        refine lv_iload_n hx hb dJ6_numberOfLeadingZeros_0f7a4_48 rfl (lv_at hl 0 rfl) ?_
        refine lv_bipush (v := (16 : Int32)) hx hb dJ6_numberOfLeadingZeros_0f7a4_49 (by decide) ?_
        refine lv_icmp_lt (tgt := 61) hx hb dJ6_numberOfLeadingZeros_0f7a4_51 (by decide) (fun c11 => ?_) (fun c11 => ?_)
        · skip
          rw [if_pos c11] at hJ
          refine lv_iload_n hx hb dJ6_numberOfLeadingZeros_0f7a4_61 rfl (lv_at hl 0 rfl) ?_
          refine lv_iconst (v := (4 : Int32)) hx hb dJ6_numberOfLeadingZeros_0f7a4_62 (by decide) ?_
          refine lv_icmp_lt (tgt := 73) hx hb dJ6_numberOfLeadingZeros_0f7a4_63 (by decide) (fun c12 => ?_) (fun c12 => ?_)
          · skip
            rw [if_pos c12] at hJ
            refine lv_iload_n hx hb dJ6_numberOfLeadingZeros_0f7a4_73 rfl (lv_at hl 1 rfl) ?_
            refine lv_iload_n hx hb dJ6_numberOfLeadingZeros_0f7a4_74 rfl (lv_at hl 0 rfl) ?_
            refine lv_iconst (v := (1 : Int32)) hx hb dJ6_numberOfLeadingZeros_0f7a4_75 (by decide) ?_
            refine lv_iushr (v := (y10.toUInt32 >>> ((1 : Int32).toUInt32 &&& Int32.toUInt32 31)).toInt32) hx hb dJ6_numberOfLeadingZeros_0f7a4_76 rfl ?_
            refine lv_isub hx hb dJ6_numberOfLeadingZeros_0f7a4_77 ?_
            exact W.iret hx hb hr (fun t ht hW => ⟨_, rfl, hJ.trans hE.symm, ht⟩) (fun q h => absurd h List.not_mem_nil) dJ6_numberOfLeadingZeros_0f7a4_78
          · skip
            rw [if_neg c12] at hJ
            refine lv_iinc (v := (21 : Int32)) (lv' := [(1, .int (21 : Int32)), (0, .int y10)]) hx hb dJ6_numberOfLeadingZeros_0f7a4_66 hl (k := 1) rfl (by first | rfl | decide) (by decide) rfl (fun ls hl => ?_)
            refine lv_iload_n hx hb dJ6_numberOfLeadingZeros_0f7a4_69 rfl (lv_at hl 1 rfl) ?_
            refine lv_iconst (v := (2 : Int32)) hx hb dJ6_numberOfLeadingZeros_0f7a4_70 (by decide) ?_
            refine lv_iushr (v := (y10.toUInt32 >>> ((2 : Int32).toUInt32 &&& Int32.toUInt32 31)).toInt32) hx hb dJ6_numberOfLeadingZeros_0f7a4_71 rfl ?_
            refine lv_topi (fun y13 ey13 => ?_)
            rw [← ey13] at hJ
            rw [jJ6_numberOfLeadingZeros_0f7a4_y13] at hJ
            refine lv_istore_n (lv' := [(0, .int y13), (1, .int (21 : Int32))]) hx hb dJ6_numberOfLeadingZeros_0f7a4_72 rfl hl (by decide) rfl (fun ls hl => ?_)
            refine lv_iload_n hx hb dJ6_numberOfLeadingZeros_0f7a4_73 rfl (lv_at hl 1 rfl) ?_
            refine lv_iload_n hx hb dJ6_numberOfLeadingZeros_0f7a4_74 rfl (lv_at hl 0 rfl) ?_
            refine lv_iconst (v := (1 : Int32)) hx hb dJ6_numberOfLeadingZeros_0f7a4_75 (by decide) ?_
            refine lv_iushr (v := (y13.toUInt32 >>> ((1 : Int32).toUInt32 &&& Int32.toUInt32 31)).toInt32) hx hb dJ6_numberOfLeadingZeros_0f7a4_76 rfl ?_
            refine lv_isub hx hb dJ6_numberOfLeadingZeros_0f7a4_77 ?_
            exact W.iret hx hb hr (fun t ht hW => ⟨_, rfl, hJ.trans hE.symm, ht⟩) (fun q h => absurd h List.not_mem_nil) dJ6_numberOfLeadingZeros_0f7a4_78
        · skip
          rw [if_neg c11] at hJ
          refine lv_iinc (v := (19 : Int32)) (lv' := [(1, .int (19 : Int32)), (0, .int y10)]) hx hb dJ6_numberOfLeadingZeros_0f7a4_54 hl (k := 1) rfl (by first | rfl | decide) (by decide) rfl (fun ls hl => ?_)
          refine lv_iload_n hx hb dJ6_numberOfLeadingZeros_0f7a4_57 rfl (lv_at hl 1 rfl) ?_
          refine lv_iconst (v := (4 : Int32)) hx hb dJ6_numberOfLeadingZeros_0f7a4_58 (by decide) ?_
          refine lv_iushr (v := (y10.toUInt32 >>> ((4 : Int32).toUInt32 &&& Int32.toUInt32 31)).toInt32) hx hb dJ6_numberOfLeadingZeros_0f7a4_59 rfl ?_
          refine lv_topi (fun y14 ey14 => ?_)
          rw [← ey14] at hJ
          rw [jJ6_numberOfLeadingZeros_0f7a4_y14] at hJ
          refine lv_istore_n (lv' := [(0, .int y14), (1, .int (19 : Int32))]) hx hb dJ6_numberOfLeadingZeros_0f7a4_60 rfl hl (by decide) rfl (fun ls hl => ?_)
          refine lv_iload_n hx hb dJ6_numberOfLeadingZeros_0f7a4_61 rfl (lv_at hl 0 rfl) ?_
          refine lv_iconst (v := (4 : Int32)) hx hb dJ6_numberOfLeadingZeros_0f7a4_62 (by decide) ?_
          refine lv_icmp_lt (tgt := 73) hx hb dJ6_numberOfLeadingZeros_0f7a4_63 (by decide) (fun c15 => ?_) (fun c15 => ?_)
          · skip
            rw [if_pos c15] at hJ
            refine lv_iload_n hx hb dJ6_numberOfLeadingZeros_0f7a4_73 rfl (lv_at hl 1 rfl) ?_
            refine lv_iload_n hx hb dJ6_numberOfLeadingZeros_0f7a4_74 rfl (lv_at hl 0 rfl) ?_
            refine lv_iconst (v := (1 : Int32)) hx hb dJ6_numberOfLeadingZeros_0f7a4_75 (by decide) ?_
            refine lv_iushr (v := (y14.toUInt32 >>> ((1 : Int32).toUInt32 &&& Int32.toUInt32 31)).toInt32) hx hb dJ6_numberOfLeadingZeros_0f7a4_76 rfl ?_
            refine lv_isub hx hb dJ6_numberOfLeadingZeros_0f7a4_77 ?_
            exact W.iret hx hb hr (fun t ht hW => ⟨_, rfl, hJ.trans hE.symm, ht⟩) (fun q h => absurd h List.not_mem_nil) dJ6_numberOfLeadingZeros_0f7a4_78
          · skip
            rw [if_neg c15] at hJ
            refine lv_iinc (v := (17 : Int32)) (lv' := [(1, .int (17 : Int32)), (0, .int y14)]) hx hb dJ6_numberOfLeadingZeros_0f7a4_66 hl (k := 1) rfl (by first | rfl | decide) (by decide) rfl (fun ls hl => ?_)
            refine lv_iload_n hx hb dJ6_numberOfLeadingZeros_0f7a4_69 rfl (lv_at hl 1 rfl) ?_
            refine lv_iconst (v := (2 : Int32)) hx hb dJ6_numberOfLeadingZeros_0f7a4_70 (by decide) ?_
            refine lv_iushr (v := (y14.toUInt32 >>> ((2 : Int32).toUInt32 &&& Int32.toUInt32 31)).toInt32) hx hb dJ6_numberOfLeadingZeros_0f7a4_71 rfl ?_
            refine lv_topi (fun y16 ey16 => ?_)
            rw [← ey16] at hJ
            rw [jJ6_numberOfLeadingZeros_0f7a4_y16] at hJ
            refine lv_istore_n (lv' := [(0, .int y16), (1, .int (17 : Int32))]) hx hb dJ6_numberOfLeadingZeros_0f7a4_72 rfl hl (by decide) rfl (fun ls hl => ?_)
            refine lv_iload_n hx hb dJ6_numberOfLeadingZeros_0f7a4_73 rfl (lv_at hl 1 rfl) ?_
            refine lv_iload_n hx hb dJ6_numberOfLeadingZeros_0f7a4_74 rfl (lv_at hl 0 rfl) ?_
            refine lv_iconst (v := (1 : Int32)) hx hb dJ6_numberOfLeadingZeros_0f7a4_75 (by decide) ?_
            refine lv_iushr (v := (y16.toUInt32 >>> ((1 : Int32).toUInt32 &&& Int32.toUInt32 31)).toInt32) hx hb dJ6_numberOfLeadingZeros_0f7a4_76 rfl ?_
            refine lv_isub hx hb dJ6_numberOfLeadingZeros_0f7a4_77 ?_
            exact W.iret hx hb hr (fun t ht hW => ⟨_, rfl, hJ.trans hE.symm, ht⟩) (fun q h => absurd h List.not_mem_nil) dJ6_numberOfLeadingZeros_0f7a4_78
    · skip
      rw [if_neg c2] at hJ
      refine lv_iinc (v := (15 : Int32)) (lv' := [(1, .int (15 : Int32)), (0, .int a0)]) hx hb dJ6_numberOfLeadingZeros_0f7a4_25 hl (k := 0) rfl (by first | rfl | decide) (by decide) rfl (fun ls hl => ?_)
      refine lv_iload_n hx hb dJ6_numberOfLeadingZeros_0f7a4_28 rfl (lv_at hl 1 rfl) ?_
      refine lv_bipush (v := (16 : Int32)) hx hb dJ6_numberOfLeadingZeros_0f7a4_29 (by decide) ?_
      refine lv_iushr (v := (a0.toUInt32 >>> ((16 : Int32).toUInt32 &&& Int32.toUInt32 31)).toInt32) hx hb dJ6_numberOfLeadingZeros_0f7a4_31 rfl ?_
      refine lv_topi (fun y17 ey17 => ?_)
      rw [← ey17] at hJ
      rw [jJ6_numberOfLeadingZeros_0f7a4_y17] at hJ
      refine lv_istore_n (lv' := [(0, .int y17), (1, .int (15 : Int32))]) hx hb dJ6_numberOfLeadingZeros_0f7a4_32 rfl hl (by decide) rfl (fun ls hl => ?_)
      refine lv_iload_n hx hb dJ6_numberOfLeadingZeros_0f7a4_33 rfl (lv_at hl 0 rfl) ?_
      refine lv_sipush (v := (256 : Int32)) hx hb dJ6_numberOfLeadingZeros_0f7a4_34 (by decide) ?_
      refine lv_icmp_lt (tgt := 48) hx hb dJ6_numberOfLeadingZeros_0f7a4_37 (by decide) (fun c18 => ?_) (fun c18 => ?_)
      · skip
        rw [if_pos c18] at hJ
        refine lv_iload_n hx hb dJ6_numberOfLeadingZeros_0f7a4_48 rfl (lv_at hl 0 rfl) ?_
        refine lv_bipush (v := (16 : Int32)) hx hb dJ6_numberOfLeadingZeros_0f7a4_49 (by decide) ?_
        refine lv_icmp_lt (tgt := 61) hx hb dJ6_numberOfLeadingZeros_0f7a4_51 (by decide) (fun c19 => ?_) (fun c19 => ?_)
        · skip
          rw [if_pos c19] at hJ
          refine lv_iload_n hx hb dJ6_numberOfLeadingZeros_0f7a4_61 rfl (lv_at hl 0 rfl) ?_
          refine lv_iconst (v := (4 : Int32)) hx hb dJ6_numberOfLeadingZeros_0f7a4_62 (by decide) ?_
          refine lv_icmp_lt (tgt := 73) hx hb dJ6_numberOfLeadingZeros_0f7a4_63 (by decide) (fun c20 => ?_) (fun c20 => ?_)
          · skip
            rw [if_pos c20] at hJ
            refine lv_iload_n hx hb dJ6_numberOfLeadingZeros_0f7a4_73 rfl (lv_at hl 1 rfl) ?_
            refine lv_iload_n hx hb dJ6_numberOfLeadingZeros_0f7a4_74 rfl (lv_at hl 0 rfl) ?_
            refine lv_iconst (v := (1 : Int32)) hx hb dJ6_numberOfLeadingZeros_0f7a4_75 (by decide) ?_
            refine lv_iushr (v := (y17.toUInt32 >>> ((1 : Int32).toUInt32 &&& Int32.toUInt32 31)).toInt32) hx hb dJ6_numberOfLeadingZeros_0f7a4_76 rfl ?_
            refine lv_isub hx hb dJ6_numberOfLeadingZeros_0f7a4_77 ?_
            exact W.iret hx hb hr (fun t ht hW => ⟨_, rfl, hJ.trans hE.symm, ht⟩) (fun q h => absurd h List.not_mem_nil) dJ6_numberOfLeadingZeros_0f7a4_78
          · skip
            rw [if_neg c20] at hJ
            refine lv_iinc (v := (13 : Int32)) (lv' := [(1, .int (13 : Int32)), (0, .int y17)]) hx hb dJ6_numberOfLeadingZeros_0f7a4_66 hl (k := 1) rfl (by first | rfl | decide) (by decide) rfl (fun ls hl => ?_)
            refine lv_iload_n hx hb dJ6_numberOfLeadingZeros_0f7a4_69 rfl (lv_at hl 1 rfl) ?_
            refine lv_iconst (v := (2 : Int32)) hx hb dJ6_numberOfLeadingZeros_0f7a4_70 (by decide) ?_
            refine lv_iushr (v := (y17.toUInt32 >>> ((2 : Int32).toUInt32 &&& Int32.toUInt32 31)).toInt32) hx hb dJ6_numberOfLeadingZeros_0f7a4_71 rfl ?_
            refine lv_topi (fun y21 ey21 => ?_)
            rw [← ey21] at hJ
            rw [jJ6_numberOfLeadingZeros_0f7a4_y21] at hJ
            refine lv_istore_n (lv' := [(0, .int y21), (1, .int (13 : Int32))]) hx hb dJ6_numberOfLeadingZeros_0f7a4_72 rfl hl (by decide) rfl (fun ls hl => ?_)
            refine lv_iload_n hx hb dJ6_numberOfLeadingZeros_0f7a4_73 rfl (lv_at hl 1 rfl) ?_
            refine lv_iload_n hx hb dJ6_numberOfLeadingZeros_0f7a4_74 rfl (lv_at hl 0 rfl) ?_
            refine lv_iconst (v := (1 : Int32)) hx hb dJ6_numberOfLeadingZeros_0f7a4_75 (by decide) ?_
            refine lv_iushr (v := (y21.toUInt32 >>> ((1 : Int32).toUInt32 &&& Int32.toUInt32 31)).toInt32) hx hb dJ6_numberOfLeadingZeros_0f7a4_76 rfl ?_
            refine lv_isub hx hb dJ6_numberOfLeadingZeros_0f7a4_77 ?_
            exact W.iret hx hb hr (fun t ht hW => ⟨_, rfl, hJ.trans hE.symm, ht⟩) (fun q h => absurd h List.not_mem_nil) dJ6_numberOfLeadingZeros_0f7a4_78
        · skip
          rw [if_neg c19] at hJ
          refine lv_iinc (v := (11 : Int32)) (lv' := [(1, .int (11 : Int32)), (0, .int y17)]) hx hb dJ6_numberOfLeadingZeros_0f7a4_54 hl (k := 1) rfl (by first | rfl | decide) (by decide) rfl (fun ls hl => ?_)
          refine lv_iload_n hx hb dJ6_numberOfLeadingZeros_0f7a4_57 rfl (lv_at hl 1 rfl) ?_
          refine lv_iconst (v := (4 : Int32)) hx hb dJ6_numberOfLeadingZeros_0f7a4_58 (by decide) ?_
          refine lv_iushr (v := (y17.toUInt32 >>> ((4 : Int32).toUInt32 &&& Int32.toUInt32 31)).toInt32) hx hb dJ6_numberOfLeadingZeros_0f7a4_59 rfl ?_
          refine lv_topi (fun y22 ey22 => ?_)
          rw [← ey22] at hJ
          rw [jJ6_numberOfLeadingZeros_0f7a4_y22] at hJ
          refine lv_istore_n (lv' := [(0, .int y22), (1, .int (11 : Int32))]) hx hb dJ6_numberOfLeadingZeros_0f7a4_60 rfl hl (by decide) rfl (fun ls hl => ?_)
          refine lv_iload_n hx hb dJ6_numberOfLeadingZeros_0f7a4_61 rfl (lv_at hl 0 rfl) ?_
          refine lv_iconst (v := (4 : Int32)) hx hb dJ6_numberOfLeadingZeros_0f7a4_62 (by decide) ?_
          refine lv_icmp_lt (tgt := 73) hx hb dJ6_numberOfLeadingZeros_0f7a4_63 (by decide) (fun c23 => ?_) (fun c23 => ?_)
          · skip
            rw [if_pos c23] at hJ
            refine lv_iload_n hx hb dJ6_numberOfLeadingZeros_0f7a4_73 rfl (lv_at hl 1 rfl) ?_
            refine lv_iload_n hx hb dJ6_numberOfLeadingZeros_0f7a4_74 rfl (lv_at hl 0 rfl) ?_
            refine lv_iconst (v := (1 : Int32)) hx hb dJ6_numberOfLeadingZeros_0f7a4_75 (by decide) ?_
            refine lv_iushr (v := (y22.toUInt32 >>> ((1 : Int32).toUInt32 &&& Int32.toUInt32 31)).toInt32) hx hb dJ6_numberOfLeadingZeros_0f7a4_76 rfl ?_
            refine lv_isub hx hb dJ6_numberOfLeadingZeros_0f7a4_77 ?_
            exact W.iret hx hb hr (fun t ht hW => ⟨_, rfl, hJ.trans hE.symm, ht⟩) (fun q h => absurd h List.not_mem_nil) dJ6_numberOfLeadingZeros_0f7a4_78
          · skip
            rw [if_neg c23] at hJ
            refine lv_iinc (v := (9 : Int32)) (lv' := [(1, .int (9 : Int32)), (0, .int y22)]) hx hb dJ6_numberOfLeadingZeros_0f7a4_66 hl (k := 1) rfl (by first | rfl | decide) (by decide) rfl (fun ls hl => ?_)
            refine lv_iload_n hx hb dJ6_numberOfLeadingZeros_0f7a4_69 rfl (lv_at hl 1 rfl) ?_
            refine lv_iconst (v := (2 : Int32)) hx hb dJ6_numberOfLeadingZeros_0f7a4_70 (by decide) ?_
            refine lv_iushr (v := (y22.toUInt32 >>> ((2 : Int32).toUInt32 &&& Int32.toUInt32 31)).toInt32) hx hb dJ6_numberOfLeadingZeros_0f7a4_71 rfl ?_
            refine lv_topi (fun y24 ey24 => ?_)
            rw [← ey24] at hJ
            rw [jJ6_numberOfLeadingZeros_0f7a4_y24] at hJ
            refine lv_istore_n (lv' := [(0, .int y24), (1, .int (9 : Int32))]) hx hb dJ6_numberOfLeadingZeros_0f7a4_72 rfl hl (by decide) rfl (fun ls hl => ?_)
            refine lv_iload_n hx hb dJ6_numberOfLeadingZeros_0f7a4_73 rfl (lv_at hl 1 rfl) ?_
            refine lv_iload_n hx hb dJ6_numberOfLeadingZeros_0f7a4_74 rfl (lv_at hl 0 rfl) ?_
            refine lv_iconst (v := (1 : Int32)) hx hb dJ6_numberOfLeadingZeros_0f7a4_75 (by decide) ?_
            refine lv_iushr (v := (y24.toUInt32 >>> ((1 : Int32).toUInt32 &&& Int32.toUInt32 31)).toInt32) hx hb dJ6_numberOfLeadingZeros_0f7a4_76 rfl ?_
            refine lv_isub hx hb dJ6_numberOfLeadingZeros_0f7a4_77 ?_
            exact W.iret hx hb hr (fun t ht hW => ⟨_, rfl, hJ.trans hE.symm, ht⟩) (fun q h => absurd h List.not_mem_nil) dJ6_numberOfLeadingZeros_0f7a4_78
      · skip
        rw [if_neg c18] at hJ
        refine lv_iinc (v := (7 : Int32)) (lv' := [(1, .int (7 : Int32)), (0, .int y17)]) hx hb dJ6_numberOfLeadingZeros_0f7a4_40 hl (k := 1) rfl (by first | rfl | decide) (by decide) rfl (fun ls hl => ?_)
        refine lv_iload_n hx hb dJ6_numberOfLeadingZeros_0f7a4_43 rfl (lv_at hl 1 rfl) ?_
        refine lv_bipush (v := (8 : Int32)) hx hb dJ6_numberOfLeadingZeros_0f7a4_44 (by decide) ?_
        refine lv_iushr (v := (y17.toUInt32 >>> ((8 : Int32).toUInt32 &&& Int32.toUInt32 31)).toInt32) hx hb dJ6_numberOfLeadingZeros_0f7a4_46 rfl ?_
        refine lv_topi (fun y25 ey25 => ?_)
        rw [← ey25] at hJ
        rw [jJ6_numberOfLeadingZeros_0f7a4_y25] at hJ
        refine lv_istore_n (lv' := [(0, .int y25), (1, .int (7 : Int32))]) hx hb dJ6_numberOfLeadingZeros_0f7a4_47 rfl hl (by decide) rfl (fun ls hl => ?_)
        refine lv_iload_n hx hb dJ6_numberOfLeadingZeros_0f7a4_48 rfl (lv_at hl 0 rfl) ?_
        refine lv_bipush (v := (16 : Int32)) hx hb dJ6_numberOfLeadingZeros_0f7a4_49 (by decide) ?_
        refine lv_icmp_lt (tgt := 61) hx hb dJ6_numberOfLeadingZeros_0f7a4_51 (by decide) (fun c26 => ?_) (fun c26 => ?_)
        · skip
          rw [if_pos c26] at hJ
          refine lv_iload_n hx hb dJ6_numberOfLeadingZeros_0f7a4_61 rfl (lv_at hl 0 rfl) ?_
          refine lv_iconst (v := (4 : Int32)) hx hb dJ6_numberOfLeadingZeros_0f7a4_62 (by decide) ?_
          refine lv_icmp_lt (tgt := 73) hx hb dJ6_numberOfLeadingZeros_0f7a4_63 (by decide) (fun c27 => ?_) (fun c27 => ?_)
          · skip
            rw [if_pos c27] at hJ
            refine lv_iload_n hx hb dJ6_numberOfLeadingZeros_0f7a4_73 rfl (lv_at hl 1 rfl) ?_
            refine lv_iload_n hx hb dJ6_numberOfLeadingZeros_0f7a4_74 rfl (lv_at hl 0 rfl) ?_
            refine lv_iconst (v := (1 : Int32)) hx hb dJ6_numberOfLeadingZeros_0f7a4_75 (by decide) ?_
            refine lv_iushr (v := (y25.toUInt32 >>> ((1 : Int32).toUInt32 &&& Int32.toUInt32 31)).toInt32) hx hb dJ6_numberOfLeadingZeros_0f7a4_76 rfl ?_
            refine lv_isub hx hb dJ6_numberOfLeadingZeros_0f7a4_77 ?_
            exact W.iret hx hb hr (fun t ht hW => ⟨_, rfl, hJ.trans hE.symm, ht⟩) (fun q h => absurd h List.not_mem_nil) dJ6_numberOfLeadingZeros_0f7a4_78
          · skip
            rw [if_neg c27] at hJ
            refine lv_iinc (v := (5 : Int32)) (lv' := [(1, .int (5 : Int32)), (0, .int y25)]) hx hb dJ6_numberOfLeadingZeros_0f7a4_66 hl (k := 1) rfl (by first | rfl | decide) (by decide) rfl (fun ls hl => ?_)
            refine lv_iload_n hx hb dJ6_numberOfLeadingZeros_0f7a4_69 rfl (lv_at hl 1 rfl) ?_
            refine lv_iconst (v := (2 : Int32)) hx hb dJ6_numberOfLeadingZeros_0f7a4_70 (by decide) ?_
            refine lv_iushr (v := (y25.toUInt32 >>> ((2 : Int32).toUInt32 &&& Int32.toUInt32 31)).toInt32) hx hb dJ6_numberOfLeadingZeros_0f7a4_71 rfl ?_
            refine lv_topi (fun y28 ey28 => ?_)
            rw [← ey28] at hJ
            rw [jJ6_numberOfLeadingZeros_0f7a4_y28] at hJ
            refine lv_istore_n (lv' := [(0, .int y28), (1, .int (5 : Int32))]) hx hb dJ6_numberOfLeadingZeros_0f7a4_72 rfl hl (by decide) rfl (fun ls hl => ?_)
            refine lv_iload_n hx hb dJ6_numberOfLeadingZeros_0f7a4_73 rfl (lv_at hl 1 rfl) ?_
            refine lv_iload_n hx hb dJ6_numberOfLeadingZeros_0f7a4_74 rfl (lv_at hl 0 rfl) ?_
            refine lv_iconst (v := (1 : Int32)) hx hb dJ6_numberOfLeadingZeros_0f7a4_75 (by decide) ?_
            refine lv_iushr (v := (y28.toUInt32 >>> ((1 : Int32).toUInt32 &&& Int32.toUInt32 31)).toInt32) hx hb dJ6_numberOfLeadingZeros_0f7a4_76 rfl ?_
            refine lv_isub hx hb dJ6_numberOfLeadingZeros_0f7a4_77 ?_
            exact W.iret hx hb hr (fun t ht hW => ⟨_, rfl, hJ.trans hE.symm, ht⟩) (fun q h => absurd h List.not_mem_nil) dJ6_numberOfLeadingZeros_0f7a4_78
        · skip
          rw [if_neg c26] at hJ
          refine lv_iinc (v := (3 : Int32)) (lv' := [(1, .int (3 : Int32)), (0, .int y25)]) hx hb dJ6_numberOfLeadingZeros_0f7a4_54 hl (k := 1) rfl (by first | rfl | decide) (by decide) rfl (fun ls hl => ?_)
          refine lv_iload_n hx hb dJ6_numberOfLeadingZeros_0f7a4_57 rfl (lv_at hl 1 rfl) ?_
          refine lv_iconst (v := (4 : Int32)) hx hb dJ6_numberOfLeadingZeros_0f7a4_58 (by decide) ?_
          refine lv_iushr (v := (y25.toUInt32 >>> ((4 : Int32).toUInt32 &&& Int32.toUInt32 31)).toInt32) hx hb dJ6_numberOfLeadingZeros_0f7a4_59 rfl ?_
          refine lv_topi (fun y29 ey29 => ?_)
          rw [← ey29] at hJ
          rw [jJ6_numberOfLeadingZeros_0f7a4_y29] at hJ
          refine lv_istore_n (lv' := [(0, .int y29), (1, .int (3 : Int32))]) hx hb dJ6_numberOfLeadingZeros_0f7a4_60 rfl hl (by decide) rfl (fun ls hl => ?_)
          refine lv_iload_n hx hb dJ6_numberOfLeadingZeros_0f7a4_61 rfl (lv_at hl 0 rfl) ?_
          refine lv_iconst (v := (4 : Int32)) hx hb dJ6_numberOfLeadingZeros_0f7a4_62 (by decide) ?_
          refine lv_icmp_lt (tgt := 73) hx hb dJ6_numberOfLeadingZeros_0f7a4_63 (by decide) (fun c30 => ?_) (fun c30 => ?_)
          · skip
            rw [if_pos c30] at hJ
            refine lv_iload_n hx hb dJ6_numberOfLeadingZeros_0f7a4_73 rfl (lv_at hl 1 rfl) ?_
            refine lv_iload_n hx hb dJ6_numberOfLeadingZeros_0f7a4_74 rfl (lv_at hl 0 rfl) ?_
            refine lv_iconst (v := (1 : Int32)) hx hb dJ6_numberOfLeadingZeros_0f7a4_75 (by decide) ?_
            refine lv_iushr (v := (y29.toUInt32 >>> ((1 : Int32).toUInt32 &&& Int32.toUInt32 31)).toInt32) hx hb dJ6_numberOfLeadingZeros_0f7a4_76 rfl ?_
            refine lv_isub hx hb dJ6_numberOfLeadingZeros_0f7a4_77 ?_
            exact W.iret hx hb hr (fun t ht hW => ⟨_, rfl, hJ.trans hE.symm, ht⟩) (fun q h => absurd h List.not_mem_nil) dJ6_numberOfLeadingZeros_0f7a4_78
          · skip
            rw [if_neg c30] at hJ
            refine lv_iinc (v := (1 : Int32)) (lv' := [(1, .int (1 : Int32)), (0, .int y29)]) hx hb dJ6_numberOfLeadingZeros_0f7a4_66 hl (k := 1) rfl (by first | rfl | decide) (by decide) rfl (fun ls hl => ?_)
            refine lv_iload_n hx hb dJ6_numberOfLeadingZeros_0f7a4_69 rfl (lv_at hl 1 rfl) ?_
            refine lv_iconst (v := (2 : Int32)) hx hb dJ6_numberOfLeadingZeros_0f7a4_70 (by decide) ?_
            refine lv_iushr (v := (y29.toUInt32 >>> ((2 : Int32).toUInt32 &&& Int32.toUInt32 31)).toInt32) hx hb dJ6_numberOfLeadingZeros_0f7a4_71 rfl ?_
            refine lv_topi (fun y31 ey31 => ?_)
            rw [← ey31] at hJ
            rw [jJ6_numberOfLeadingZeros_0f7a4_y31] at hJ
            refine lv_istore_n (lv' := [(0, .int y31), (1, .int (1 : Int32))]) hx hb dJ6_numberOfLeadingZeros_0f7a4_72 rfl hl (by decide) rfl (fun ls hl => ?_)
            refine lv_iload_n hx hb dJ6_numberOfLeadingZeros_0f7a4_73 rfl (lv_at hl 1 rfl) ?_
            refine lv_iload_n hx hb dJ6_numberOfLeadingZeros_0f7a4_74 rfl (lv_at hl 0 rfl) ?_
            refine lv_iconst (v := (1 : Int32)) hx hb dJ6_numberOfLeadingZeros_0f7a4_75 (by decide) ?_
            refine lv_iushr (v := (y31.toUInt32 >>> ((1 : Int32).toUInt32 &&& Int32.toUInt32 31)).toInt32) hx hb dJ6_numberOfLeadingZeros_0f7a4_76 rfl ?_
            refine lv_isub hx hb dJ6_numberOfLeadingZeros_0f7a4_77 ?_
            exact W.iret hx hb hr (fun t ht hW => ⟨_, rfl, hJ.trans hE.symm, ht⟩) (fun q h => absurd h List.not_mem_nil) dJ6_numberOfLeadingZeros_0f7a4_78
  · skip
    rw [if_neg c1] at hJ
    refine lv_iload_n hx hb dJ6_numberOfLeadingZeros_0f7a4_4 rfl (lv_at hl 0 rfl) ?_
    refine lv_if_ne (tgt := 13) hx hb dJ6_numberOfLeadingZeros_0f7a4_5 (by decide) (fun c32 => ?_) (fun c32 => ?_)
    · skip
      rw [if_neg c32] at hJ
      refine lv_iconst (v := (0 : Int32)) hx hb dJ6_numberOfLeadingZeros_0f7a4_13 (by decide) ?_
      exact W.iret hx hb hr (fun t ht hW => ⟨_, rfl, hJ.trans hE.symm, ht⟩) (fun q h => absurd h List.not_mem_nil) dJ6_numberOfLeadingZeros_0f7a4_14
    · skip
      rw [if_pos c32] at hJ
      refine lv_bipush (v := (32 : Int32)) hx hb dJ6_numberOfLeadingZeros_0f7a4_8 (by decide) ?_
      refine lv_goto (tgt := 14) hx hb dJ6_numberOfLeadingZeros_0f7a4_10 (by decide) ?_
      exact W.iret hx hb hr (fun t ht hW => ⟨_, rfl, hJ.trans hE.symm, ht⟩) (fun q h => absurd h List.not_mem_nil) dJ6_numberOfLeadingZeros_0f7a4_14
def jJ13_numberOfLeadingZeros_95d88_y1 (a0 : Int64) (y1 : Int32) : Int32 := (if y1 = 0 then ((32 : Int32) + (jJ6_numberOfLeadingZeros_0f7a4 (a0.toInt32))) else (jJ6_numberOfLeadingZeros_0f7a4 y1))
def jJ13_numberOfLeadingZeros_95d88 (a0 : Int64) : Int32 := (jJ13_numberOfLeadingZeros_95d88_y1 a0 (((a0.toUInt64 >>> ((32 : Int32).toInt64.toUInt64 &&& Int64.toUInt64 63)).toInt64).toInt32))
set_option maxHeartbeats 4000000 in
set_option maxRecDepth 100000 in
theorem qJ13_numberOfLeadingZeros_95d88 (l : Launch) (a0 : Int64) : Met l yJ13_numberOfLeadingZeros_95d88 wsJ13_numberOfLeadingZeros_95d88 ({ frames := 1, cells := 0, slots := 0, locals := 21 }) (fun v _ => v = ([.long a0] : List Value).toArray) (vp_Si (fun r => r = jJ13_numberOfLeadingZeros_95d88 a0)) 0 0 (fun _ => False) := by
  refine Met.ofW (cc := cJ13_numberOfLeadingZeros_95d88) (maxL := 3) (ret := some .int) (by decide) rfl ?_
  intro p e s m args below meth c s₁ B hml hv
  subst hv
  have hx := B.exec
  have hb := B.bytes
  have hr := B.returns
  have hts := atoms_spec (ws := wsJ13_numberOfLeadingZeros_95d88) B.pre
  have hown : s.vm.findClass RJ13 = some m.cls := findClass_of_methodNamed B.named
  have hlocks := B.notSynchronized
  obtain ⟨JR, hE⟩ : ∃ q, jJ13_numberOfLeadingZeros_95d88 a0 = q := ⟨_, rfl⟩
  have hJ := hE
  rw [jJ13_numberOfLeadingZeros_95d88] at hJ
  have hl := lv_entry ([.long a0]) (n := 3) (Nat.le_of_ble_eq_true rfl)
  rw [lg_entry_eq]
  generalize (lg_sl ([.long a0]) ++ List.replicate (3 - (lg_sl ([.long a0])).length) Slot.unset).toArray = ls at hl ⊢
  have hl : lv_has ls 3 [(0, .long a0)] := hl
  refine lv_lload_n hx hb dJ13_numberOfLeadingZeros_95d88_0 rfl (lv_at hl 0 rfl) ?_
  refine lv_bipush (v := (32 : Int32)) hx hb dJ13_numberOfLeadingZeros_95d88_1 (by decide) ?_
  refine lv_lushr (v := (a0.toUInt64 >>> ((32 : Int32).toInt64.toUInt64 &&& Int64.toUInt64 63)).toInt64) hx hb dJ13_numberOfLeadingZeros_95d88_3 rfl ?_
  refine lv_l2i (v := ((a0.toUInt64 >>> ((32 : Int32).toInt64.toUInt64 &&& Int64.toUInt64 63)).toInt64).toInt32) hx hb dJ13_numberOfLeadingZeros_95d88_4 rfl ?_
  refine lv_topi (fun y1 ey1 => ?_)
  rw [← ey1] at hJ
  rw [jJ13_numberOfLeadingZeros_95d88_y1] at hJ
  refine lv_istore_n (lv' := [(2, .int y1), (0, .long a0)]) hx hb dJ13_numberOfLeadingZeros_95d88_5 rfl hl (by decide) rfl (fun ls hl => ?_)
  refine lv_iload_n hx hb dJ13_numberOfLeadingZeros_95d88_6 rfl (lv_at hl 0 rfl) ?_
  refine lv_if_ne (tgt := 21) hx hb dJ13_numberOfLeadingZeros_95d88_7 (by decide) (fun c2 => ?_) (fun c2 => ?_)
  · skip
    rw [if_neg c2] at hJ
    refine lv_iload_n hx hb dJ13_numberOfLeadingZeros_95d88_21 rfl (lv_at hl 0 rfl) ?_
    refine vp_callSi (W.runS (As := [.int y1]) (rest := []) ⟨hx, hb, hml, hown, hts⟩ (qJ6_numberOfLeadingZeros_0f7a4 l y1) (va_cwS 1 hts gJ13_numberOfLeadingZeros_95d88_J6_numberOfLeadingZeros_0f7a4 rfl rfl rfl (by decide +kernel) ⟨Nat.le_of_ble_eq_true rfl, Nat.le_of_ble_eq_true rfl⟩) ⟨fun _ _ _ _ q => q, fun U hU hW => rfl⟩ rfl rfl hl.1 rfl (lv_room (Nat.le_of_ble_eq_true rfl)) dJ13_numberOfLeadingZeros_95d88_22 ⟨Nat.le_of_ble_eq_true rfl, Nat.le_of_ble_eq_true rfl⟩) (fun r hr => ?_)
    subst hr
    exact W.iret hx hb hr (fun t ht hW => ⟨_, rfl, hJ.trans hE.symm, ht⟩) (fun q h => absurd h List.not_mem_nil) dJ13_numberOfLeadingZeros_95d88_25
  · skip
    rw [if_pos c2] at hJ
    refine lv_bipush (v := (32 : Int32)) hx hb dJ13_numberOfLeadingZeros_95d88_10 (by decide) ?_
    refine lv_lload_n hx hb dJ13_numberOfLeadingZeros_95d88_12 rfl (lv_at hl 1 rfl) ?_
    refine lv_l2i (v := a0.toInt32) hx hb dJ13_numberOfLeadingZeros_95d88_13 rfl ?_
    refine vp_callSi (W.runS (As := [.int (a0.toInt32)]) (rest := [.int (32 : Int32)]) ⟨hx, hb, hml, hown, hts⟩ (qJ6_numberOfLeadingZeros_0f7a4 l (a0.toInt32)) (va_cwS 1 hts gJ13_numberOfLeadingZeros_95d88_J6_numberOfLeadingZeros_0f7a4 rfl rfl rfl (by decide +kernel) ⟨Nat.le_of_ble_eq_true rfl, Nat.le_of_ble_eq_true rfl⟩) ⟨fun _ _ _ _ q => q, fun U hU hW => rfl⟩ rfl rfl hl.1 rfl (lv_room (Nat.le_of_ble_eq_true rfl)) dJ13_numberOfLeadingZeros_95d88_14 ⟨Nat.le_of_ble_eq_true rfl, Nat.le_of_ble_eq_true rfl⟩) (fun r hr => ?_)
    subst hr
    refine lv_iadd hx hb dJ13_numberOfLeadingZeros_95d88_17 ?_
    refine lv_goto (tgt := 25) hx hb dJ13_numberOfLeadingZeros_95d88_18 (by decide) ?_
    exact W.iret hx hb hr (fun t ht hW => ⟨_, rfl, hJ.trans hE.symm, ht⟩) (fun q h => absurd h List.not_mem_nil) dJ13_numberOfLeadingZeros_95d88_25
def jX4_lengthOf (a0 : Int64) : Int32 := ((64 : Int32) - (jJ13_numberOfLeadingZeros_95d88 a0))
set_option maxHeartbeats 4000000 in
set_option maxRecDepth 100000 in
theorem qX4_lengthOf (l : Launch) (a0 : Int64) : Met l yX4_lengthOf wsX4_lengthOf ({ frames := 2, cells := 0, slots := 0, locals := 43 }) (fun v _ => v = ([.long a0] : List Value).toArray) (vp_Si (fun r => r = jX4_lengthOf a0)) 0 0 (fun _ => False) := by
  refine Met.ofW (cc := cX4_lengthOf) (maxL := 2) (ret := some .int) (by decide) rfl ?_
  intro p e s m args below meth c s₁ B hml hv
  subst hv
  have hx := B.exec
  have hb := B.bytes
  have hr := B.returns
  have hts := atoms_spec (ws := wsX4_lengthOf) B.pre
  have hown : s.vm.findClass RX4 = some m.cls := findClass_of_methodNamed B.named
  have hlocks := B.notSynchronized
  obtain ⟨JR, hE⟩ : ∃ q, jX4_lengthOf a0 = q := ⟨_, rfl⟩
  have hJ := hE
  rw [jX4_lengthOf] at hJ
  have hl := lv_entry ([.long a0]) (n := 2) (Nat.le_of_ble_eq_true rfl)
  rw [lg_entry_eq]
  generalize (lg_sl ([.long a0]) ++ List.replicate (2 - (lg_sl ([.long a0])).length) Slot.unset).toArray = ls at hl ⊢
  have hl : lv_has ls 2 [(0, .long a0)] := hl
  refine lv_bipush (v := (64 : Int32)) hx hb dX4_lengthOf_0 (by decide) ?_
  refine lv_lload_n hx hb dX4_lengthOf_2 rfl (lv_at hl 0 rfl) ?_
  refine vp_callSi (W.runS (As := [.long a0]) (rest := [.int (64 : Int32)]) ⟨hx, hb, hml, hown, hts⟩ (qJ13_numberOfLeadingZeros_95d88 l a0) (va_cwS 1 hts gX4_lengthOf_J13_numberOfLeadingZeros_95d88 rfl rfl rfl (by decide +kernel) ⟨Nat.le_of_ble_eq_true rfl, Nat.le_of_ble_eq_true rfl⟩) ⟨fun _ _ _ _ q => q, fun U hU hW => rfl⟩ rfl rfl hl.1 rfl (lv_room (Nat.le_of_ble_eq_true rfl)) dX4_lengthOf_3 ⟨Nat.le_of_ble_eq_true rfl, Nat.le_of_ble_eq_true rfl⟩) (fun r hr => ?_)
  subst hr
  refine lv_isub hx hb dX4_lengthOf_6 ?_
  exact W.iret hx hb hr (fun t ht hW => ⟨_, rfl, hJ.trans hE.symm, ht⟩) (fun q h => absurd h List.not_mem_nil) dX4_lengthOf_7
def jX4_endless (a0 : Int32) : Int64 := (if a0 = 0 then (2139095040 : Int64) else (9218868437227405312 : Int64))
set_option maxHeartbeats 4000000 in
set_option maxRecDepth 100000 in
theorem qX4_endless (l : Launch) (a0 : Int32) : Met l yX4_endless wsX4_endless ({ frames := 0, cells := 0, slots := 0, locals := 0 }) (fun v _ => v = ([.int a0] : List Value).toArray) (vp_Sl (fun r => r = jX4_endless a0)) 0 0 (fun _ => False) := by
  refine Met.ofW (cc := cX4_endless) (maxL := 1) (ret := some .long) (by decide) rfl ?_
  intro p e s m args below meth c s₁ B hml hv
  subst hv
  have hx := B.exec
  have hb := B.bytes
  have hr := B.returns
  have hts := atoms_spec (ws := wsX4_endless) B.pre
  have hown : s.vm.findClass RX4 = some m.cls := findClass_of_methodNamed B.named
  have hlocks := B.notSynchronized
  obtain ⟨JR, hE⟩ : ∃ q, jX4_endless a0 = q := ⟨_, rfl⟩
  have hJ := hE
  rw [jX4_endless] at hJ
  have hl := lv_entry ([.int a0]) (n := 1) (Nat.le_of_ble_eq_true rfl)
  rw [lg_entry_eq]
  generalize (lg_sl ([.int a0]) ++ List.replicate (1 - (lg_sl ([.int a0])).length) Slot.unset).toArray = ls at hl ⊢
  have hl : lv_has ls 1 [(0, .int a0)] := hl
  refine lv_iload_n hx hb dX4_endless_0 rfl (lv_at hl 0 rfl) ?_
  refine lv_if_eq (tgt := 10) hx hb dX4_endless_1 (by decide) (fun c1 => ?_) (fun c1 => ?_)
  · skip
    rw [if_pos c1] at hJ
    refine lv_ldc2 (v := (2139095040 : Int64)) hx hb hown (hts (.constantLong RX4 88 (2139095040)) (by decide +kernel)) dX4_endless_10 ?_
    exact W.lret hx hb hr (fun t ht hW => ⟨_, rfl, hJ.trans hE.symm, ht⟩) (fun q h => absurd h List.not_mem_nil) dX4_endless_13
  · skip
    rw [if_neg c1] at hJ
    refine lv_ldc2 (v := (9218868437227405312 : Int64)) hx hb hown (hts (.constantLong RX4 86 (9218868437227405312)) (by decide +kernel)) dX4_endless_4 ?_
    refine lv_goto (tgt := 13) hx hb dX4_endless_7 (by decide) ?_
    exact W.lret hx hb hr (fun t ht hW => ⟨_, rfl, hJ.trans hE.symm, ht⟩) (fun q h => absurd h List.not_mem_nil) dX4_endless_13
def jX4_rounded_y6 (a0 : Int64) (a2 : Int32) (y3 : Int64) (y4 : Int64) (y5 : Int64) (y6 : Int32) : Int64 := (if y6 = 0 then y3 else (y3 + (1 : Int64)))
def jX4_rounded_y5 (a0 : Int64) (a2 : Int32) (y3 : Int64) (y4 : Int64) (y5 : Int64) : Int64 := (jX4_rounded_y6 a0 a2 y3 y4 y5 (if y5 < y4 then (1 : Int32) else (if y4 = y5 then (if (y3 &&& (1 : Int64)) = (0 : Int64) then (0 : Int32) else (1 : Int32)) else (0 : Int32))))
def jX4_rounded_y4 (a0 : Int64) (a2 : Int32) (y3 : Int64) (y4 : Int64) : Int64 := (jX4_rounded_y5 a0 a2 y3 y4 ((1 : Int64) <<< ((a2 - (1 : Int32)).toInt64 &&& 63)))
def jX4_rounded_y3 (a0 : Int64) (a2 : Int32) (y3 : Int64) : Int64 := (jX4_rounded_y4 a0 a2 y3 (a0 &&& (((1 : Int64) <<< (a2.toInt64 &&& 63)) - (1 : Int64))))
def jX4_rounded (a0 : Int64) (a2 : Int32) : Int64 := (if 0 < a2 then (if a2 ≤ (63 : Int32) then (jX4_rounded_y3 a0 a2 ((a0.toUInt64 >>> (a2.toInt64.toUInt64 &&& Int64.toUInt64 63)).toInt64)) else (0 : Int64)) else (a0 <<< ((-a2).toInt64 &&& 63)))
set_option maxHeartbeats 4000000 in
set_option maxRecDepth 100000 in
theorem qX4_rounded (l : Launch) (a0 : Int64) (a2 : Int32) : Met l yX4_rounded wsX4_rounded ({ frames := 0, cells := 0, slots := 0, locals := 0 }) (fun v _ => v = ([.long a0, .int a2] : List Value).toArray) (vp_Sl (fun r => r = jX4_rounded a0 a2)) 0 0 (fun _ => False) := by
  refine Met.ofW (cc := cX4_rounded) (maxL := 10) (ret := some .long) (by decide) rfl ?_
  intro p e s m args below meth c s₁ B hml hv
  subst hv
  have hx := B.exec
  have hb := B.bytes
  have hr := B.returns
  have hts := atoms_spec (ws := wsX4_rounded) B.pre
  have hown : s.vm.findClass RX4 = some m.cls := findClass_of_methodNamed B.named
  have hlocks := B.notSynchronized
  obtain ⟨JR, hE⟩ : ∃ q, jX4_rounded a0 a2 = q := ⟨_, rfl⟩
  have hJ := hE
  rw [jX4_rounded] at hJ
  have hl := lv_entry ([.long a0, .int a2]) (n := 10) (Nat.le_of_ble_eq_true rfl)
  rw [lg_entry_eq]
  generalize (lg_sl ([.long a0, .int a2]) ++ List.replicate (10 - (lg_sl ([.long a0, .int a2])).length) Slot.unset).toArray = ls at hl ⊢
  have hl : lv_has ls 10 [(0, .long a0), (2, .int a2)] := hl
  refine lv_iload_n hx hb dX4_rounded_0 rfl (lv_at hl 1 rfl) ?_
  refine lv_if_gt (tgt := 9) hx hb dX4_rounded_1 (by decide) (fun c1 => ?_) (fun c1 => ?_)
  · skip
    rw [if_pos c1] at hJ
    refine lv_iload_n hx hb dX4_rounded_9 rfl (lv_at hl 1 rfl) ?_
    refine lv_bipush (v := (63 : Int32)) hx hb dX4_rounded_10 (by decide) ?_
    refine lv_icmp_le (tgt := 17) hx hb dX4_rounded_12 (by decide) (fun c2 => ?_) (fun c2 => ?_)
    · skip
      rw [if_pos c2] at hJ
      refine lv_lload_n hx hb dX4_rounded_17 rfl (lv_at hl 0 rfl) ?_
      refine lv_iload_n hx hb dX4_rounded_18 rfl (lv_at hl 1 rfl) ?_
      refine lv_lushr (v := (a0.toUInt64 >>> (a2.toInt64.toUInt64 &&& Int64.toUInt64 63)).toInt64) hx hb dX4_rounded_19 rfl ?_
      refine lv_topl (fun y3 ey3 => ?_)
      rw [← ey3] at hJ
      rw [jX4_rounded_y3] at hJ
      refine lv_lstore_n (lv' := [(3, .long y3), (0, .long a0), (2, .int a2)]) hx hb dX4_rounded_20 rfl hl (by decide) rfl (fun ls hl => ?_)
      refine lv_lload_n hx hb dX4_rounded_21 rfl (lv_at hl 1 rfl) ?_
      refine lv_lconst (v := (1 : Int64)) hx hb dX4_rounded_22 (by decide) ?_
      refine lv_iload_n hx hb dX4_rounded_23 rfl (lv_at hl 2 rfl) ?_
      refine lv_lshl (v := ((1 : Int64) <<< (a2.toInt64 &&& 63))) hx hb dX4_rounded_24 rfl ?_
      refine lv_lconst (v := (1 : Int64)) hx hb dX4_rounded_25 (by decide) ?_
      refine lv_lsub hx hb dX4_rounded_26 ?_
      refine lv_land hx hb dX4_rounded_27 ?_
      refine lv_topl (fun y4 ey4 => ?_)
      rw [← ey4] at hJ
      rw [jX4_rounded_y4] at hJ
      refine lv_lstore (lv' := [(5, .long y4), (3, .long y3), (0, .long a0), (2, .int a2)]) hx hb dX4_rounded_28 hl (by decide) rfl (fun ls hl => ?_)
      refine lv_lconst (v := (1 : Int64)) hx hb dX4_rounded_30 (by decide) ?_
      refine lv_iload_n hx hb dX4_rounded_31 rfl (lv_at hl 3 rfl) ?_
      refine lv_iconst (v := (1 : Int32)) hx hb dX4_rounded_32 (by decide) ?_
      refine lv_isub hx hb dX4_rounded_33 ?_
      refine lv_lshl (v := ((1 : Int64) <<< ((a2 - (1 : Int32)).toInt64 &&& 63))) hx hb dX4_rounded_34 rfl ?_
      refine lv_topl (fun y5 ey5 => ?_)
      rw [← ey5] at hJ
      rw [jX4_rounded_y5] at hJ
      refine lv_lstore (lv' := [(7, .long y5), (5, .long y4), (3, .long y3), (0, .long a0), (2, .int a2)]) hx hb dX4_rounded_35 hl (by decide) rfl (fun ls hl => ?_)
      refine lv_lload hx hb dX4_rounded_37 (lv_at hl 1 rfl) ?_
      refine lv_lload hx hb dX4_rounded_39 (lv_at hl 0 rfl) ?_
      refine W.lcmp hx hb dX4_rounded_41 ?_
      refine jn_i (J := 66) (ls := ls) (v := (if y5 < y4 then (1 : Int32) else (if y4 = y5 then (if (y3 &&& (1 : Int64)) = (0 : Int64) then (0 : Int32) else (1 : Int32)) else (0 : Int32)))) (rest := []) ?_ (fun y6 ey6 => ?_)
      · intro hj
        refine lv_if_gt (tgt := 61) hx hb dX4_rounded_42 (by decide) (fun c7 => ?_) (fun c7 => ?_)
        · have c7 := (lg_cmp_gt _ _).mp c7
          rw [if_pos c7] at hj
          refine lv_iconst (v := (1 : Int32)) hx hb dX4_rounded_61 (by decide) ?_
          refine lv_goto (tgt := 66) hx hb dX4_rounded_62 (by decide) ?_
          exact hj
        · have c7 := mt (lg_cmp_gt _ _).mpr c7
          rw [if_neg c7] at hj
          refine lv_lload hx hb dX4_rounded_45 (lv_at hl 1 rfl) ?_
          refine lv_lload hx hb dX4_rounded_47 (lv_at hl 0 rfl) ?_
          refine W.lcmp hx hb dX4_rounded_49 ?_
          refine lv_if_ne (tgt := 65) hx hb dX4_rounded_50 (by decide) (fun c8 => ?_) (fun c8 => ?_)
          · have c8 := mt (lg_cmp_eq _ _).mpr c8
            rw [if_neg c8] at hj
            refine lv_iconst (v := (0 : Int32)) hx hb dX4_rounded_65 (by decide) ?_
            exact hj
          · have c8 := (lg_cmp_eq _ _).mp c8
            rw [if_pos c8] at hj
            refine lv_lload_n hx hb dX4_rounded_53 rfl (lv_at hl 2 rfl) ?_
            refine lv_lconst (v := (1 : Int64)) hx hb dX4_rounded_54 (by decide) ?_
            refine lv_land hx hb dX4_rounded_55 ?_
            refine lv_lconst (v := (0 : Int64)) hx hb dX4_rounded_56 (by decide) ?_
            refine W.lcmp hx hb dX4_rounded_57 ?_
            refine lv_if_eq (tgt := 65) hx hb dX4_rounded_58 (by decide) (fun c9 => ?_) (fun c9 => ?_)
            · have c9 := (lg_cmp_eq _ _).mp c9
              rw [if_pos c9] at hj
              refine lv_iconst (v := (0 : Int32)) hx hb dX4_rounded_65 (by decide) ?_
              exact hj
            · have c9 := mt (lg_cmp_eq _ _).mpr c9
              rw [if_neg c9] at hj
              refine lv_iconst (v := (1 : Int32)) hx hb dX4_rounded_61 (by decide) ?_
              refine lv_goto (tgt := 66) hx hb dX4_rounded_62 (by decide) ?_
              exact hj
      rw [← ey6] at hJ
      rw [jX4_rounded_y6] at hJ
      refine lv_istore (lv' := [(9, .int y6), (7, .long y5), (5, .long y4), (3, .long y3), (0, .long a0), (2, .int a2)]) hx hb dX4_rounded_66 hl (by decide) rfl (fun ls hl => ?_)
      refine lv_iload hx hb dX4_rounded_68 (lv_at hl 0 rfl) ?_
      refine lv_if_eq (tgt := 79) hx hb dX4_rounded_70 (by decide) (fun c10 => ?_) (fun c10 => ?_)
      · skip
        rw [if_pos c10] at hJ
        refine lv_lload_n hx hb dX4_rounded_79 rfl (lv_at hl 3 rfl) ?_
        exact W.lret hx hb hr (fun t ht hW => ⟨_, rfl, hJ.trans hE.symm, ht⟩) (fun q h => absurd h List.not_mem_nil) dX4_rounded_80
      · skip
        rw [if_neg c10] at hJ
        refine lv_lload_n hx hb dX4_rounded_73 rfl (lv_at hl 3 rfl) ?_
        refine lv_lconst (v := (1 : Int64)) hx hb dX4_rounded_74 (by decide) ?_
        refine lv_ladd hx hb dX4_rounded_75 ?_
        refine lv_goto (tgt := 80) hx hb dX4_rounded_76 (by decide) ?_
        exact W.lret hx hb hr (fun t ht hW => ⟨_, rfl, hJ.trans hE.symm, ht⟩) (fun q h => absurd h List.not_mem_nil) dX4_rounded_80
    · skip
      rw [if_neg c2] at hJ
      refine lv_lconst (v := (0 : Int64)) hx hb dX4_rounded_15 (by decide) ?_
      exact W.lret hx hb hr (fun t ht hW => ⟨_, rfl, hJ.trans hE.symm, ht⟩) (fun q h => absurd h List.not_mem_nil) dX4_rounded_16
  · skip
    rw [if_neg c1] at hJ
    refine lv_lload_n hx hb dX4_rounded_4 rfl (lv_at hl 0 rfl) ?_
    refine lv_iload_n hx hb dX4_rounded_5 rfl (lv_at hl 1 rfl) ?_
    refine lv_ineg hx hb dX4_rounded_6 ?_
    refine lv_lshl (v := (a0 <<< ((-a2).toInt64 &&& 63))) hx hb dX4_rounded_7 rfl ?_
    exact W.lret hx hb hr (fun t ht hW => ⟨_, rfl, hJ.trans hE.symm, ht⟩) (fun q h => absurd h List.not_mem_nil) dX4_rounded_8
def jX4_withMore (a0 : Int64) (a2 : Int64) : Int64 := (if a2 = (0 : Int64) then a0 else (a0 ||| (1 : Int64)))
set_option maxHeartbeats 4000000 in
set_option maxRecDepth 100000 in
theorem qX4_withMore (l : Launch) (a0 : Int64) (a2 : Int64) : Met l yX4_withMore wsX4_withMore ({ frames := 0, cells := 0, slots := 0, locals := 0 }) (fun v _ => v = ([.long a0, .long a2] : List Value).toArray) (vp_Sl (fun r => r = jX4_withMore a0 a2)) 0 0 (fun _ => False) := by
  refine Met.ofW (cc := cX4_withMore) (maxL := 4) (ret := some .long) (by decide) rfl ?_
  intro p e s m args below meth c s₁ B hml hv
  subst hv
  have hx := B.exec
  have hb := B.bytes
  have hr := B.returns
  have hts := atoms_spec (ws := wsX4_withMore) B.pre
  have hown : s.vm.findClass RX4 = some m.cls := findClass_of_methodNamed B.named
  have hlocks := B.notSynchronized
  obtain ⟨JR, hE⟩ : ∃ q, jX4_withMore a0 a2 = q := ⟨_, rfl⟩
  have hJ := hE
  rw [jX4_withMore] at hJ
  have hl := lv_entry ([.long a0, .long a2]) (n := 4) (Nat.le_of_ble_eq_true rfl)
  rw [lg_entry_eq]
  generalize (lg_sl ([.long a0, .long a2]) ++ List.replicate (4 - (lg_sl ([.long a0, .long a2])).length) Slot.unset).toArray = ls at hl ⊢
  have hl : lv_has ls 4 [(0, .long a0), (2, .long a2)] := hl
  refine lv_lload_n hx hb dX4_withMore_0 rfl (lv_at hl 1 rfl) ?_
  refine lv_lconst (v := (0 : Int64)) hx hb dX4_withMore_1 (by decide) ?_
  refine W.lcmp hx hb dX4_withMore_2 ?_
  refine lv_if_ne (tgt := 10) hx hb dX4_withMore_3 (by decide) (fun c1 => ?_) (fun c1 => ?_)
  · have c1 := mt (lg_cmp_eq _ _).mpr c1
    rw [if_neg c1] at hJ
    refine lv_lload_n hx hb dX4_withMore_10 rfl (lv_at hl 0 rfl) ?_
    refine lv_lconst (v := (1 : Int64)) hx hb dX4_withMore_11 (by decide) ?_
    refine lv_lor hx hb dX4_withMore_12 ?_
    exact W.lret hx hb hr (fun t ht hW => ⟨_, rfl, hJ.trans hE.symm, ht⟩) (fun q h => absurd h List.not_mem_nil) dX4_withMore_13
  · have c1 := (lg_cmp_eq _ _).mp c1
    rw [if_pos c1] at hJ
    refine lv_lload_n hx hb dX4_withMore_6 rfl (lv_at hl 0 rfl) ?_
    refine lv_goto (tgt := 13) hx hb dX4_withMore_7 (by decide) ?_
    exact W.lret hx hb hr (fun t ht hW => ⟨_, rfl, hJ.trans hE.symm, ht⟩) (fun q h => absurd h List.not_mem_nil) dX4_withMore_13
def jX4_shiftedOut (a0 : Int64) (a2 : Int32) : Int64 := (if a2 ≤ (63 : Int32) then (jX4_withMore ((a0.toUInt64 >>> (a2.toInt64.toUInt64 &&& Int64.toUInt64 63)).toInt64) (a0 &&& (((1 : Int64) <<< (a2.toInt64 &&& 63)) - (1 : Int64)))) else (jX4_withMore (0 : Int64) a0))
set_option maxHeartbeats 4000000 in
set_option maxRecDepth 100000 in
theorem qX4_shiftedOut (l : Launch) (a0 : Int64) (a2 : Int32) : Met l yX4_shiftedOut wsX4_shiftedOut ({ frames := 1, cells := 0, slots := 0, locals := 23 }) (fun v _ => v = ([.long a0, .int a2] : List Value).toArray) (vp_Sl (fun r => r = jX4_shiftedOut a0 a2)) 0 0 (fun _ => False) := by
  refine Met.ofW (cc := cX4_shiftedOut) (maxL := 3) (ret := some .long) (by decide) rfl ?_
  intro p e s m args below meth c s₁ B hml hv
  subst hv
  have hx := B.exec
  have hb := B.bytes
  have hr := B.returns
  have hts := atoms_spec (ws := wsX4_shiftedOut) B.pre
  have hown : s.vm.findClass RX4 = some m.cls := findClass_of_methodNamed B.named
  have hlocks := B.notSynchronized
  obtain ⟨JR, hE⟩ : ∃ q, jX4_shiftedOut a0 a2 = q := ⟨_, rfl⟩
  have hJ := hE
  rw [jX4_shiftedOut] at hJ
  have hl := lv_entry ([.long a0, .int a2]) (n := 3) (Nat.le_of_ble_eq_true rfl)
  rw [lg_entry_eq]
  generalize (lg_sl ([.long a0, .int a2]) ++ List.replicate (3 - (lg_sl ([.long a0, .int a2])).length) Slot.unset).toArray = ls at hl ⊢
  have hl : lv_has ls 3 [(0, .long a0), (2, .int a2)] := hl
  refine lv_iload_n hx hb dX4_shiftedOut_0 rfl (lv_at hl 1 rfl) ?_
  refine lv_bipush (v := (63 : Int32)) hx hb dX4_shiftedOut_1 (by decide) ?_
  refine lv_icmp_le (tgt := 12) hx hb dX4_shiftedOut_3 (by decide) (fun c1 => ?_) (fun c1 => ?_)
  · skip
    rw [if_pos c1] at hJ
    refine lv_lload_n hx hb dX4_shiftedOut_12 rfl (lv_at hl 0 rfl) ?_
    refine lv_iload_n hx hb dX4_shiftedOut_13 rfl (lv_at hl 1 rfl) ?_
    refine lv_lushr (v := (a0.toUInt64 >>> (a2.toInt64.toUInt64 &&& Int64.toUInt64 63)).toInt64) hx hb dX4_shiftedOut_14 rfl ?_
    refine lv_lload_n hx hb dX4_shiftedOut_15 rfl (lv_at hl 0 rfl) ?_
    refine lv_lconst (v := (1 : Int64)) hx hb dX4_shiftedOut_16 (by decide) ?_
    refine lv_iload_n hx hb dX4_shiftedOut_17 rfl (lv_at hl 1 rfl) ?_
    refine lv_lshl (v := ((1 : Int64) <<< (a2.toInt64 &&& 63))) hx hb dX4_shiftedOut_18 rfl ?_
    refine lv_lconst (v := (1 : Int64)) hx hb dX4_shiftedOut_19 (by decide) ?_
    refine lv_lsub hx hb dX4_shiftedOut_20 ?_
    refine lv_land hx hb dX4_shiftedOut_21 ?_
    refine vp_callSl (W.runS (As := [.long ((a0.toUInt64 >>> (a2.toInt64.toUInt64 &&& Int64.toUInt64 63)).toInt64), .long (a0 &&& (((1 : Int64) <<< (a2.toInt64 &&& 63)) - (1 : Int64)))]) (rest := []) ⟨hx, hb, hml, hown, hts⟩ (qX4_withMore l ((a0.toUInt64 >>> (a2.toInt64.toUInt64 &&& Int64.toUInt64 63)).toInt64) (a0 &&& (((1 : Int64) <<< (a2.toInt64 &&& 63)) - (1 : Int64)))) (va_cwS 2 hts gX4_shiftedOut_X4_withMore rfl rfl rfl (by decide +kernel) ⟨Nat.le_of_ble_eq_true rfl, Nat.le_of_ble_eq_true rfl⟩) ⟨fun _ _ _ _ q => q, fun U hU hW => rfl⟩ rfl rfl hl.1 rfl (lv_room (Nat.le_of_ble_eq_true rfl)) dX4_shiftedOut_22 ⟨Nat.le_of_ble_eq_true rfl, Nat.le_of_ble_eq_true rfl⟩) (fun r hr => ?_)
    subst hr
    exact W.lret hx hb hr (fun t ht hW => ⟨_, rfl, hJ.trans hE.symm, ht⟩) (fun q h => absurd h List.not_mem_nil) dX4_shiftedOut_25
  · skip
    rw [if_neg c1] at hJ
    refine lv_lconst (v := (0 : Int64)) hx hb dX4_shiftedOut_6 (by decide) ?_
    refine lv_lload_n hx hb dX4_shiftedOut_7 rfl (lv_at hl 0 rfl) ?_
    refine vp_callSl (W.runS (As := [.long (0 : Int64), .long a0]) (rest := []) ⟨hx, hb, hml, hown, hts⟩ (qX4_withMore l (0 : Int64) a0) (va_cwS 2 hts gX4_shiftedOut_X4_withMore rfl rfl rfl (by decide +kernel) ⟨Nat.le_of_ble_eq_true rfl, Nat.le_of_ble_eq_true rfl⟩) ⟨fun _ _ _ _ q => q, fun U hU hW => rfl⟩ rfl rfl hl.1 rfl (lv_room (Nat.le_of_ble_eq_true rfl)) dX4_shiftedOut_8 ⟨Nat.le_of_ble_eq_true rfl, Nat.le_of_ble_eq_true rfl⟩) (fun r hr => ?_)
    subst hr
    exact W.lret hx hb hr (fun t ht hW => ⟨_, rfl, hJ.trans hE.symm, ht⟩) (fun q h => absurd h List.not_mem_nil) dX4_shiftedOut_11
def jX4_told (a0 : Int32) (a1 : Int64) : Int64 := (if a0 = 0 then ((a1.toInt32).toInt64) else a1)
set_option maxHeartbeats 4000000 in
set_option maxRecDepth 100000 in
theorem qX4_told (l : Launch) (a0 : Int32) (a1 : Int64) : Met l yX4_told wsX4_told ({ frames := 0, cells := 0, slots := 0, locals := 0 }) (fun v _ => v = ([.int a0, .long a1] : List Value).toArray) (vp_Sl (fun r => r = jX4_told a0 a1)) 0 0 (fun _ => False) := by
  refine Met.ofW (cc := cX4_told) (maxL := 3) (ret := some .long) (by decide) rfl ?_
  intro p e s m args below meth c s₁ B hml hv
  subst hv
  have hx := B.exec
  have hb := B.bytes
  have hr := B.returns
  have hts := atoms_spec (ws := wsX4_told) B.pre
  have hown : s.vm.findClass RX4 = some m.cls := findClass_of_methodNamed B.named
  have hlocks := B.notSynchronized
  obtain ⟨JR, hE⟩ : ∃ q, jX4_told a0 a1 = q := ⟨_, rfl⟩
  have hJ := hE
  rw [jX4_told] at hJ
  have hl := lv_entry ([.int a0, .long a1]) (n := 3) (Nat.le_of_ble_eq_true rfl)
  rw [lg_entry_eq]
  generalize (lg_sl ([.int a0, .long a1]) ++ List.replicate (3 - (lg_sl ([.int a0, .long a1])).length) Slot.unset).toArray = ls at hl ⊢
  have hl : lv_has ls 3 [(0, .int a0), (1, .long a1)] := hl
  refine lv_iload_n hx hb dX4_told_0 rfl (lv_at hl 0 rfl) ?_
  refine lv_if_eq (tgt := 8) hx hb dX4_told_1 (by decide) (fun c1 => ?_) (fun c1 => ?_)
  · skip
    rw [if_pos c1] at hJ
    refine lv_lload_n hx hb dX4_told_8 rfl (lv_at hl 1 rfl) ?_
    refine lv_l2i (v := a1.toInt32) hx hb dX4_told_9 rfl ?_
    refine lv_i2l (v := (a1.toInt32).toInt64) hx hb dX4_told_10 rfl ?_
    exact W.lret hx hb hr (fun t ht hW => ⟨_, rfl, hJ.trans hE.symm, ht⟩) (fun q h => absurd h List.not_mem_nil) dX4_told_11
  · skip
    rw [if_neg c1] at hJ
    refine lv_lload_n hx hb dX4_told_4 rfl (lv_at hl 1 rfl) ?_
    refine lv_goto (tgt := 11) hx hb dX4_told_5 (by decide) ?_
    exact W.lret hx hb hr (fun t ht hW => ⟨_, rfl, hJ.trans hE.symm, ht⟩) (fun q h => absurd h List.not_mem_nil) dX4_told_11
def jX4_isNumber (a0 : Int32) (a1 : Int64) : Int32 := (if (jX4_endless a0) < (jX4_sizeOf a0 a1) then (0 : Int32) else (1 : Int32))
set_option maxHeartbeats 4000000 in
set_option maxRecDepth 100000 in
theorem qX4_isNumber (l : Launch) (a0 : Int32) (a1 : Int64) : Met l yX4_isNumber wsX4_isNumber ({ frames := 1, cells := 0, slots := 0, locals := 22 }) (fun v _ => v = ([.int a0, .long a1] : List Value).toArray) (vp_Si (fun r => r = jX4_isNumber a0 a1)) 0 0 (fun _ => False) := by
  refine Met.ofW (cc := cX4_isNumber) (maxL := 3) (ret := some .boolean) (by decide) rfl ?_
  intro p e s m args below meth c s₁ B hml hv
  subst hv
  have hx := B.exec
  have hb := B.bytes
  have hr := B.returns
  have hts := atoms_spec (ws := wsX4_isNumber) B.pre
  have hown : s.vm.findClass RX4 = some m.cls := findClass_of_methodNamed B.named
  have hlocks := B.notSynchronized
  obtain ⟨JR, hE⟩ : ∃ q, jX4_isNumber a0 a1 = q := ⟨_, rfl⟩
  have hJ := hE
  rw [jX4_isNumber] at hJ
  have hl := lv_entry ([.int a0, .long a1]) (n := 3) (Nat.le_of_ble_eq_true rfl)
  rw [lg_entry_eq]
  generalize (lg_sl ([.int a0, .long a1]) ++ List.replicate (3 - (lg_sl ([.int a0, .long a1])).length) Slot.unset).toArray = ls at hl ⊢
  have hl : lv_has ls 3 [(0, .int a0), (1, .long a1)] := hl
  refine lv_iload_n hx hb dX4_isNumber_0 rfl (lv_at hl 0 rfl) ?_
  refine lv_lload_n hx hb dX4_isNumber_1 rfl (lv_at hl 1 rfl) ?_
  refine vp_callSl (W.runS (As := [.int a0, .long a1]) (rest := []) ⟨hx, hb, hml, hown, hts⟩ (qX4_sizeOf l a0 a1) (va_cwS 2 hts gX4_isNumber_X4_sizeOf rfl rfl rfl (by decide +kernel) ⟨Nat.le_of_ble_eq_true rfl, Nat.le_of_ble_eq_true rfl⟩) ⟨fun _ _ _ _ q => q, fun U hU hW => rfl⟩ rfl rfl hl.1 rfl (lv_room (Nat.le_of_ble_eq_true rfl)) dX4_isNumber_2 ⟨Nat.le_of_ble_eq_true rfl, Nat.le_of_ble_eq_true rfl⟩) (fun r hr => ?_)
  subst hr
  refine lv_iload_n hx hb dX4_isNumber_5 rfl (lv_at hl 0 rfl) ?_
  refine vp_callSl (W.runS (As := [.int a0]) (rest := [.long (jX4_sizeOf a0 a1)]) ⟨hx, hb, hml, hown, hts⟩ (qX4_endless l a0) (va_cwS 1 hts gX4_isNumber_X4_endless rfl rfl rfl (by decide +kernel) ⟨Nat.le_of_ble_eq_true rfl, Nat.le_of_ble_eq_true rfl⟩) ⟨fun _ _ _ _ q => q, fun U hU hW => rfl⟩ rfl rfl hl.1 rfl (lv_room (Nat.le_of_ble_eq_true rfl)) dX4_isNumber_6 ⟨Nat.le_of_ble_eq_true rfl, Nat.le_of_ble_eq_true rfl⟩) (fun r hr => ?_)
  subst hr
  refine W.lcmp hx hb dX4_isNumber_9 ?_
  refine lv_if_gt (tgt := 17) hx hb dX4_isNumber_10 (by decide) (fun c1 => ?_) (fun c1 => ?_)
  · have c1 := (lg_cmp_gt _ _).mp c1
    rw [if_pos c1] at hJ
    refine lv_iconst (v := (0 : Int32)) hx hb dX4_isNumber_17 (by decide) ?_
    exact W.zret hx hb hr rfl (fun t ht hW => ⟨_, rfl, hJ.trans hE.symm, ht⟩) (fun q h => absurd h List.not_mem_nil) dX4_isNumber_18
  · have c1 := mt (lg_cmp_gt _ _).mpr c1
    rw [if_neg c1] at hJ
    refine lv_iconst (v := (1 : Int32)) hx hb dX4_isNumber_13 (by decide) ?_
    refine lv_goto (tgt := 18) hx hb dX4_isNumber_14 (by decide) ?_
    exact W.zret hx hb hr rfl (fun t ht hW => ⟨_, rfl, hJ.trans hE.symm, ht⟩) (fun q h => absurd h List.not_mem_nil) dX4_isNumber_18
def jX4_isFit (a0 : Int32) (a1 : Int64) : Int32 := (if (jX4_endless a0) ≤ (jX4_sizeOf a0 a1) then (0 : Int32) else (1 : Int32))
set_option maxHeartbeats 4000000 in
set_option maxRecDepth 100000 in
theorem qX4_isFit (l : Launch) (a0 : Int32) (a1 : Int64) : Met l yX4_isFit wsX4_isFit ({ frames := 1, cells := 0, slots := 0, locals := 22 }) (fun v _ => v = ([.int a0, .long a1] : List Value).toArray) (vp_Si (fun r => r = jX4_isFit a0 a1)) 0 0 (fun _ => False) := by
  refine Met.ofW (cc := cX4_isFit) (maxL := 3) (ret := some .boolean) (by decide) rfl ?_
  intro p e s m args below meth c s₁ B hml hv
  subst hv
  have hx := B.exec
  have hb := B.bytes
  have hr := B.returns
  have hts := atoms_spec (ws := wsX4_isFit) B.pre
  have hown : s.vm.findClass RX4 = some m.cls := findClass_of_methodNamed B.named
  have hlocks := B.notSynchronized
  obtain ⟨JR, hE⟩ : ∃ q, jX4_isFit a0 a1 = q := ⟨_, rfl⟩
  have hJ := hE
  rw [jX4_isFit] at hJ
  have hl := lv_entry ([.int a0, .long a1]) (n := 3) (Nat.le_of_ble_eq_true rfl)
  rw [lg_entry_eq]
  generalize (lg_sl ([.int a0, .long a1]) ++ List.replicate (3 - (lg_sl ([.int a0, .long a1])).length) Slot.unset).toArray = ls at hl ⊢
  have hl : lv_has ls 3 [(0, .int a0), (1, .long a1)] := hl
  refine lv_iload_n hx hb dX4_isFit_0 rfl (lv_at hl 0 rfl) ?_
  refine lv_lload_n hx hb dX4_isFit_1 rfl (lv_at hl 1 rfl) ?_
  refine vp_callSl (W.runS (As := [.int a0, .long a1]) (rest := []) ⟨hx, hb, hml, hown, hts⟩ (qX4_sizeOf l a0 a1) (va_cwS 2 hts gX4_isFit_X4_sizeOf rfl rfl rfl (by decide +kernel) ⟨Nat.le_of_ble_eq_true rfl, Nat.le_of_ble_eq_true rfl⟩) ⟨fun _ _ _ _ q => q, fun U hU hW => rfl⟩ rfl rfl hl.1 rfl (lv_room (Nat.le_of_ble_eq_true rfl)) dX4_isFit_2 ⟨Nat.le_of_ble_eq_true rfl, Nat.le_of_ble_eq_true rfl⟩) (fun r hr => ?_)
  subst hr
  refine lv_iload_n hx hb dX4_isFit_5 rfl (lv_at hl 0 rfl) ?_
  refine vp_callSl (W.runS (As := [.int a0]) (rest := [.long (jX4_sizeOf a0 a1)]) ⟨hx, hb, hml, hown, hts⟩ (qX4_endless l a0) (va_cwS 1 hts gX4_isFit_X4_endless rfl rfl rfl (by decide +kernel) ⟨Nat.le_of_ble_eq_true rfl, Nat.le_of_ble_eq_true rfl⟩) ⟨fun _ _ _ _ q => q, fun U hU hW => rfl⟩ rfl rfl hl.1 rfl (lv_room (Nat.le_of_ble_eq_true rfl)) dX4_isFit_6 ⟨Nat.le_of_ble_eq_true rfl, Nat.le_of_ble_eq_true rfl⟩) (fun r hr => ?_)
  subst hr
  refine W.lcmp hx hb dX4_isFit_9 ?_
  refine lv_if_ge (tgt := 17) hx hb dX4_isFit_10 (by decide) (fun c1 => ?_) (fun c1 => ?_)
  · have c1 := (lg_cmp_ge _ _).mp c1
    rw [if_pos c1] at hJ
    refine lv_iconst (v := (0 : Int32)) hx hb dX4_isFit_17 (by decide) ?_
    exact W.zret hx hb hr rfl (fun t ht hW => ⟨_, rfl, hJ.trans hE.symm, ht⟩) (fun q h => absurd h List.not_mem_nil) dX4_isFit_18
  · have c1 := mt (lg_cmp_ge _ _).mpr c1
    rw [if_neg c1] at hJ
    refine lv_iconst (v := (1 : Int32)) hx hb dX4_isFit_13 (by decide) ?_
    refine lv_goto (tgt := 18) hx hb dX4_isFit_14 (by decide) ?_
    exact W.zret hx hb hr rfl (fun t ht hW => ⟨_, rfl, hJ.trans hE.symm, ht⟩) (fun q h => absurd h List.not_mem_nil) dX4_isFit_18
def jX4_isZero (a0 : Int32) (a1 : Int64) : Int32 := (if (jX4_sizeOf a0 a1) = (0 : Int64) then (1 : Int32) else (0 : Int32))
set_option maxHeartbeats 4000000 in
set_option maxRecDepth 100000 in
theorem qX4_isZero (l : Launch) (a0 : Int32) (a1 : Int64) : Met l yX4_isZero wsX4_isZero ({ frames := 1, cells := 0, slots := 0, locals := 22 }) (fun v _ => v = ([.int a0, .long a1] : List Value).toArray) (vp_Si (fun r => r = jX4_isZero a0 a1)) 0 0 (fun _ => False) := by
  refine Met.ofW (cc := cX4_isZero) (maxL := 3) (ret := some .boolean) (by decide) rfl ?_
  intro p e s m args below meth c s₁ B hml hv
  subst hv
  have hx := B.exec
  have hb := B.bytes
  have hr := B.returns
  have hts := atoms_spec (ws := wsX4_isZero) B.pre
  have hown : s.vm.findClass RX4 = some m.cls := findClass_of_methodNamed B.named
  have hlocks := B.notSynchronized
  obtain ⟨JR, hE⟩ : ∃ q, jX4_isZero a0 a1 = q := ⟨_, rfl⟩
  have hJ := hE
  rw [jX4_isZero] at hJ
  have hl := lv_entry ([.int a0, .long a1]) (n := 3) (Nat.le_of_ble_eq_true rfl)
  rw [lg_entry_eq]
  generalize (lg_sl ([.int a0, .long a1]) ++ List.replicate (3 - (lg_sl ([.int a0, .long a1])).length) Slot.unset).toArray = ls at hl ⊢
  have hl : lv_has ls 3 [(0, .int a0), (1, .long a1)] := hl
  refine lv_iload_n hx hb dX4_isZero_0 rfl (lv_at hl 0 rfl) ?_
  refine lv_lload_n hx hb dX4_isZero_1 rfl (lv_at hl 1 rfl) ?_
  refine vp_callSl (W.runS (As := [.int a0, .long a1]) (rest := []) ⟨hx, hb, hml, hown, hts⟩ (qX4_sizeOf l a0 a1) (va_cwS 2 hts gX4_isZero_X4_sizeOf rfl rfl rfl (by decide +kernel) ⟨Nat.le_of_ble_eq_true rfl, Nat.le_of_ble_eq_true rfl⟩) ⟨fun _ _ _ _ q => q, fun U hU hW => rfl⟩ rfl rfl hl.1 rfl (lv_room (Nat.le_of_ble_eq_true rfl)) dX4_isZero_2 ⟨Nat.le_of_ble_eq_true rfl, Nat.le_of_ble_eq_true rfl⟩) (fun r hr => ?_)
  subst hr
  refine lv_lconst (v := (0 : Int64)) hx hb dX4_isZero_5 (by decide) ?_
  refine W.lcmp hx hb dX4_isZero_6 ?_
  refine lv_if_ne (tgt := 14) hx hb dX4_isZero_7 (by decide) (fun c1 => ?_) (fun c1 => ?_)
  · have c1 := mt (lg_cmp_eq _ _).mpr c1
    rw [if_neg c1] at hJ
    refine lv_iconst (v := (0 : Int32)) hx hb dX4_isZero_14 (by decide) ?_
    exact W.zret hx hb hr rfl (fun t ht hW => ⟨_, rfl, hJ.trans hE.symm, ht⟩) (fun q h => absurd h List.not_mem_nil) dX4_isZero_15
  · have c1 := (lg_cmp_eq _ _).mp c1
    rw [if_pos c1] at hJ
    refine lv_iconst (v := (1 : Int32)) hx hb dX4_isZero_10 (by decide) ?_
    refine lv_goto (tgt := 15) hx hb dX4_isZero_11 (by decide) ?_
    exact W.zret hx hb hr rfl (fun t ht hW => ⟨_, rfl, hJ.trans hE.symm, ht⟩) (fun q h => absurd h List.not_mem_nil) dX4_isZero_15
def jX4_negated (a0 : Int64) : Int64 := (a0 ^^^ (-9223372036854775808 : Int64))
set_option maxHeartbeats 4000000 in
set_option maxRecDepth 100000 in
theorem qX4_negated (l : Launch) (a0 : Int64) : Met l yX4_negated wsX4_negated ({ frames := 0, cells := 0, slots := 0, locals := 0 }) (fun v _ => v = ([.long a0] : List Value).toArray) (vp_Sl (fun r => r = jX4_negated a0)) 0 0 (fun _ => False) := by
  refine Met.ofW (cc := cX4_negated) (maxL := 2) (ret := some .long) (by decide) rfl ?_
  intro p e s m args below meth c s₁ B hml hv
  subst hv
  have hx := B.exec
  have hb := B.bytes
  have hr := B.returns
  have hts := atoms_spec (ws := wsX4_negated) B.pre
  have hown : s.vm.findClass RX4 = some m.cls := findClass_of_methodNamed B.named
  have hlocks := B.notSynchronized
  obtain ⟨JR, hE⟩ : ∃ q, jX4_negated a0 = q := ⟨_, rfl⟩
  have hJ := hE
  rw [jX4_negated] at hJ
  have hl := lv_entry ([.long a0]) (n := 2) (Nat.le_of_ble_eq_true rfl)
  rw [lg_entry_eq]
  generalize (lg_sl ([.long a0]) ++ List.replicate (2 - (lg_sl ([.long a0])).length) Slot.unset).toArray = ls at hl ⊢
  have hl : lv_has ls 2 [(0, .long a0)] := hl
  refine lv_lload_n hx hb dX4_negated_0 rfl (lv_at hl 0 rfl) ?_
  refine lv_ldc2 (v := (-9223372036854775808 : Int64)) hx hb hown (hts (.constantLong RX4 19 (-9223372036854775808)) (by decide +kernel)) dX4_negated_1 ?_
  refine lv_lxor hx hb dX4_negated_4 ?_
  exact W.lret hx hb hr (fun t ht hW => ⟨_, rfl, hJ.trans hE.symm, ht⟩) (fun q h => absurd h List.not_mem_nil) dX4_negated_5
