def jJxe99ae_isNaN_b9ae7 (a0 : UInt64) : Int32 := (if (Op.cmpValue (FP.dcmp a0 a0) .l) = 0 then (0 : Int32) else (1 : Int32))
set_option linter.constructorNameAsVariable false in
set_option maxHeartbeats 8000000 in
set_option maxRecDepth 100000 in
theorem qJxe99ae_isNaN_b9ae7 (l : Launch) (a0 : UInt64) : Met l yJxe99ae_isNaN_b9ae7 wsJxe99ae_isNaN_b9ae7 ({ frames := 0, cells := 0, slots := 0, locals := 0 }) (fun v _ => v = ([.double a0] : List Value).toArray) (vp_Si (fun r => r = jJxe99ae_isNaN_b9ae7 a0)) 0 0 (fun _ => False) := by
  refine Met.ofW (cc := cJxe99ae_isNaN_b9ae7) (maxL := 2) (ret := some .boolean) (by decide) rfl ?_
  intro p e s m args below meth c s₁ B hml hv
  subst hv
  have hx := B.exec
  have hb := B.bytes
  have hr := B.returns
  have hts := atoms_spec (ws := wsJxe99ae_isNaN_b9ae7) B.pre
  have hown : s.vm.findClass RJxe99ae = some m.cls := findClass_of_methodNamed B.named
  have hlocks := B.notSynchronized
  obtain ⟨JR, hE⟩ : ∃ q, jJxe99ae_isNaN_b9ae7 a0 = q := ⟨_, rfl⟩
  have hJ := hE
  rw [jJxe99ae_isNaN_b9ae7] at hJ
  have hl := lv_entry ([.double a0]) (n := 2) (Nat.le_of_ble_eq_true rfl)
  rw [lg_entry_eq]
  generalize (lg_sl ([.double a0]) ++ List.replicate (2 - (lg_sl ([.double a0])).length) Slot.unset).toArray = ls at hl ⊢
  have hl : lv_has ls 2 [(0, .double a0)] := hl
  refine lv_dload_n hx hb dJxe99ae_isNaN_b9ae7_0 rfl (lv_at hl 0 rfl) ?_
  refine lv_dload_n hx hb dJxe99ae_isNaN_b9ae7_1 rfl (lv_at hl 0 rfl) ?_
  refine lv_dcmp hx hb dJxe99ae_isNaN_b9ae7_2 ?_
  refine lv_if_eq (tgt := 10) hx hb dJxe99ae_isNaN_b9ae7_3 (by decide) (fun c1 => ?_) (fun c1 => ?_)
  · skip
    rw [if_pos c1] at hJ
    refine lv_iconst (v := (0 : Int32)) hx hb dJxe99ae_isNaN_b9ae7_10 (by decide) ?_
    exact W.zret hx hb hr rfl (fun t ht hW => ⟨_, rfl, hJ.trans hE.symm, ht⟩) (fun q h => absurd h List.not_mem_nil) dJxe99ae_isNaN_b9ae7_11
  · skip
    rw [if_neg c1] at hJ
    refine lv_iconst (v := (1 : Int32)) hx hb dJxe99ae_isNaN_b9ae7_6 (by decide) ?_
    refine lv_goto (tgt := 11) hx hb dJxe99ae_isNaN_b9ae7_7 (by decide) ?_
    exact W.zret hx hb hr rfl (fun t ht hW => ⟨_, rfl, hJ.trans hE.symm, ht⟩) (fun q h => absurd h List.not_mem_nil) dJxe99ae_isNaN_b9ae7_11
theorem bJxe99ae_isNaN_b9ae7 (a0 : UInt64) : (jJxe99ae_isNaN_b9ae7 a0) = 0 ∨ (jJxe99ae_isNaN_b9ae7 a0) = 1 := by
  unfold jJxe99ae_isNaN_b9ae7
  exact (ibs (Or.inl rfl) (Or.inr rfl))
def jJxe99ae_doubleToLongBits_ccdee (a0 : UInt64) : Int64 := (if (jJxe99ae_isNaN_b9ae7 a0) = 0 then (a0.toInt64) else (9221120237041090560 : Int64))
set_option linter.constructorNameAsVariable false in
set_option maxHeartbeats 8000000 in
set_option maxRecDepth 100000 in
theorem qJxe99ae_doubleToLongBits_ccdee (l : Launch) (a0 : UInt64) : Met l yJxe99ae_doubleToLongBits_ccdee wsJxe99ae_doubleToLongBits_ccdee ({ frames := 1, cells := 0, slots := 0, locals := 23 }) (fun v _ => v = ([.double a0] : List Value).toArray) (vp_Sl (fun r => r = jJxe99ae_doubleToLongBits_ccdee a0)) 0 0 (fun _ => False) := by
  refine Met.ofW (cc := cJxe99ae_doubleToLongBits_ccdee) (maxL := 2) (ret := some .long) (by decide) rfl ?_
  intro p e s m args below meth c s₁ B hml hv
  subst hv
  have hx := B.exec
  have hb := B.bytes
  have hr := B.returns
  have hts := atoms_spec (ws := wsJxe99ae_doubleToLongBits_ccdee) B.pre
  have hown : s.vm.findClass RJxe99ae = some m.cls := findClass_of_methodNamed B.named
  have hlocks := B.notSynchronized
  obtain ⟨JR, hE⟩ : ∃ q, jJxe99ae_doubleToLongBits_ccdee a0 = q := ⟨_, rfl⟩
  have hJ := hE
  rw [jJxe99ae_doubleToLongBits_ccdee] at hJ
  have hl := lv_entry ([.double a0]) (n := 2) (Nat.le_of_ble_eq_true rfl)
  rw [lg_entry_eq]
  generalize (lg_sl ([.double a0]) ++ List.replicate (2 - (lg_sl ([.double a0])).length) Slot.unset).toArray = ls at hl ⊢
  have hl : lv_has ls 2 [(0, .double a0)] := hl
  refine lv_dload_n hx hb dJxe99ae_doubleToLongBits_ccdee_0 rfl (lv_at hl 0 rfl) ?_
  refine vp_callSi (W.runS (As := [.double a0]) (rest := []) ⟨hx, hb, hml, hown, hts⟩ (qJxe99ae_isNaN_b9ae7 l a0) (va_cwS 1 hts gJxe99ae_doubleToLongBits_ccdee_Jxe99ae_isNaN_b9ae7 rfl rfl rfl (by decide +kernel) ⟨Nat.le_of_ble_eq_true rfl, Nat.le_of_ble_eq_true rfl⟩) ⟨fun _ _ _ _ q => q, fun U hU hW => rfl⟩ rfl rfl hl.1 rfl (lv_room (Nat.le_of_ble_eq_true rfl)) dJxe99ae_doubleToLongBits_ccdee_1 ⟨Nat.le_of_ble_eq_true rfl, Nat.le_of_ble_eq_true rfl⟩) (fun r hq9 => ?_)
  rw [hq9]
  refine lv_if_ne (tgt := 12) hx hb dJxe99ae_doubleToLongBits_ccdee_4 (by decide) (fun c1 => ?_) (fun c1 => ?_)
  · skip
    rw [if_neg c1] at hJ
    refine lv_ldc2 (v := (9221120237041090560 : Int64)) hx hb hown (hts (.constantLong RJxe99ae 137 (9221120237041090560)) (by decide +kernel)) dJxe99ae_doubleToLongBits_ccdee_12 ?_
    exact W.lret hx hb hr (fun t ht hW => ⟨_, rfl, hJ.trans hE.symm, ht⟩) (fun q h => absurd h List.not_mem_nil) dJxe99ae_doubleToLongBits_ccdee_15
  · skip
    rw [if_pos c1] at hJ
    refine lv_dload_n hx hb dJxe99ae_doubleToLongBits_ccdee_7 rfl (lv_at hl 0 rfl) ?_
    refine vn_d2l hx hb (hml.trans hl.1.symm) hown (hts (.methodLink RJxe99ae 134 ⟨"java/lang/Double", "doubleToRawLongBits", "(D)J"⟩) (by decide +kernel)) (hts (.native ⟨"java/lang/Double", "doubleToRawLongBits", "(D)J"⟩) (by decide +kernel)) (hts (.static ⟨"java/lang/Double", "doubleToRawLongBits", "(D)J"⟩) (by decide +kernel)) (hts (.initialized "java/lang/Double") (by decide +kernel)) (Nat.le_of_ble_eq_true rfl) (Nat.le_of_ble_eq_true rfl) dJxe99ae_doubleToLongBits_ccdee_8 ?_
    exact W.lret hx hb hr (fun t ht hW => ⟨_, rfl, hJ.trans hE.symm, ht⟩) (fun q h => absurd h List.not_mem_nil) dJxe99ae_doubleToLongBits_ccdee_11
def jJxf58ca_isNaN_12338 (a0 : UInt32) : Int32 := (if (Op.cmpValue (FP.fcmp a0 a0) .l) = 0 then (0 : Int32) else (1 : Int32))
set_option linter.constructorNameAsVariable false in
set_option maxHeartbeats 8000000 in
set_option maxRecDepth 100000 in
theorem qJxf58ca_isNaN_12338 (l : Launch) (a0 : UInt32) : Met l yJxf58ca_isNaN_12338 wsJxf58ca_isNaN_12338 ({ frames := 0, cells := 0, slots := 0, locals := 0 }) (fun v _ => v = ([.float a0] : List Value).toArray) (vp_Si (fun r => r = jJxf58ca_isNaN_12338 a0)) 0 0 (fun _ => False) := by
  refine va_MetF (cc := cJxf58ca_isNaN_12338) (maxL := 1) (ret := some .boolean) (by decide +kernel) rfl ?_
  intro p e s m args below meth c s₁ B hml hv
  subst hv
  have hx := B.exec
  have hb := B.bytes
  have hr := B.returns
  have hts := atoms_spec (ws := wsJxf58ca_isNaN_12338) B.pre
  have hown : s.vm.findClass RJxf58ca = some m.cls := findClass_of_methodNamed B.named
  have hlocks := B.notSynchronized
  obtain ⟨JR, hE⟩ : ∃ q, jJxf58ca_isNaN_12338 a0 = q := ⟨_, rfl⟩
  have hJ := hE
  rw [jJxf58ca_isNaN_12338] at hJ
  have hl := lv_entry ([.float a0]) (n := 1) (Nat.le_of_ble_eq_true rfl)
  rw [lg_entry_eq]
  generalize (lg_sl ([.float a0]) ++ List.replicate (1 - (lg_sl ([.float a0])).length) Slot.unset).toArray = ls at hl ⊢
  have hl : lv_has ls 1 [(0, .float a0)] := hl
  refine lv_fload_n hx hb dJxf58ca_isNaN_12338_0 rfl (lv_at hl 0 rfl) ?_
  refine lv_fload_n hx hb dJxf58ca_isNaN_12338_1 rfl (lv_at hl 0 rfl) ?_
  refine lv_fcmp hx hb dJxf58ca_isNaN_12338_2 ?_
  refine lv_if_eq (tgt := 10) hx hb dJxf58ca_isNaN_12338_3 (by decide) (fun c1 => ?_) (fun c1 => ?_)
  · skip
    rw [if_pos c1] at hJ
    refine lv_iconst (v := (0 : Int32)) hx hb dJxf58ca_isNaN_12338_10 (by decide) ?_
    exact W.zret hx hb hr rfl (fun t ht hW => ⟨_, rfl, hJ.trans hE.symm, ht⟩) (fun q h => absurd h List.not_mem_nil) dJxf58ca_isNaN_12338_11
  · skip
    rw [if_neg c1] at hJ
    refine lv_iconst (v := (1 : Int32)) hx hb dJxf58ca_isNaN_12338_6 (by decide) ?_
    refine lv_goto (tgt := 11) hx hb dJxf58ca_isNaN_12338_7 (by decide) ?_
    exact W.zret hx hb hr rfl (fun t ht hW => ⟨_, rfl, hJ.trans hE.symm, ht⟩) (fun q h => absurd h List.not_mem_nil) dJxf58ca_isNaN_12338_11
theorem bJxf58ca_isNaN_12338 (a0 : UInt32) : (jJxf58ca_isNaN_12338 a0) = 0 ∨ (jJxf58ca_isNaN_12338 a0) = 1 := by
  unfold jJxf58ca_isNaN_12338
  exact (ibs (Or.inl rfl) (Or.inr rfl))
def jJxf58ca_floatToIntBits_5c35a (a0 : UInt32) : Int32 := (if (jJxf58ca_isNaN_12338 a0) = 0 then (a0.toInt32) else (2143289344 : Int32))
set_option linter.constructorNameAsVariable false in
set_option maxHeartbeats 8000000 in
set_option maxRecDepth 100000 in
theorem qJxf58ca_floatToIntBits_5c35a (l : Launch) (a0 : UInt32) : Met l yJxf58ca_floatToIntBits_5c35a wsJxf58ca_floatToIntBits_5c35a ({ frames := 1, cells := 0, slots := 0, locals := 23 }) (fun v _ => v = ([.float a0] : List Value).toArray) (vp_Si (fun r => r = jJxf58ca_floatToIntBits_5c35a a0)) 0 0 (fun _ => False) := by
  refine va_MetF (cc := cJxf58ca_floatToIntBits_5c35a) (maxL := 1) (ret := some .int) (by decide +kernel) rfl ?_
  intro p e s m args below meth c s₁ B hml hv
  subst hv
  have hx := B.exec
  have hb := B.bytes
  have hr := B.returns
  have hts := atoms_spec (ws := wsJxf58ca_floatToIntBits_5c35a) B.pre
  have hown : s.vm.findClass RJxf58ca = some m.cls := findClass_of_methodNamed B.named
  have hlocks := B.notSynchronized
  obtain ⟨JR, hE⟩ : ∃ q, jJxf58ca_floatToIntBits_5c35a a0 = q := ⟨_, rfl⟩
  have hJ := hE
  rw [jJxf58ca_floatToIntBits_5c35a] at hJ
  have hl := lv_entry ([.float a0]) (n := 1) (Nat.le_of_ble_eq_true rfl)
  rw [lg_entry_eq]
  generalize (lg_sl ([.float a0]) ++ List.replicate (1 - (lg_sl ([.float a0])).length) Slot.unset).toArray = ls at hl ⊢
  have hl : lv_has ls 1 [(0, .float a0)] := hl
  refine lv_fload_n hx hb dJxf58ca_floatToIntBits_5c35a_0 rfl (lv_at hl 0 rfl) ?_
  refine vp_callSi (W.runS (As := [.float a0]) (rest := []) ⟨hx, hb, hml, hown, hts⟩ (qJxf58ca_isNaN_12338 l a0) (va_cwS 1 hts gJxf58ca_floatToIntBits_5c35a_Jxf58ca_isNaN_12338 rfl rfl rfl (by decide +kernel) ⟨Nat.le_of_ble_eq_true rfl, Nat.le_of_ble_eq_true rfl⟩) ⟨fun _ _ _ _ q => q, fun U hU hW => rfl⟩ rfl rfl hl.1 rfl (lv_room (Nat.le_of_ble_eq_true rfl)) dJxf58ca_floatToIntBits_5c35a_1 ⟨Nat.le_of_ble_eq_true rfl, Nat.le_of_ble_eq_true rfl⟩) (fun r hq9 => ?_)
  rw [hq9]
  refine lv_if_ne (tgt := 12) hx hb dJxf58ca_floatToIntBits_5c35a_4 (by decide) (fun c1 => ?_) (fun c1 => ?_)
  · skip
    rw [if_neg c1] at hJ
    refine lv_ldc (v := (2143289344 : Int32)) hx hb hown (hts (.constant RJxf58ca 77 (2143289344)) (by decide +kernel)) dJxf58ca_floatToIntBits_5c35a_12 ?_
    exact W.iret hx hb hr (fun t ht hW => ⟨_, rfl, hJ.trans hE.symm, ht⟩) (fun q h => absurd h List.not_mem_nil) dJxf58ca_floatToIntBits_5c35a_14
  · skip
    rw [if_pos c1] at hJ
    refine lv_fload_n hx hb dJxf58ca_floatToIntBits_5c35a_7 rfl (lv_at hl 0 rfl) ?_
    refine vn_f2i hx hb (hml.trans hl.1.symm) hown (hts (.methodLink RJxf58ca 74 ⟨"java/lang/Float", "floatToRawIntBits", "(F)I"⟩) (by decide +kernel)) (hts (.native ⟨"java/lang/Float", "floatToRawIntBits", "(F)I"⟩) (by decide +kernel)) (hts (.static ⟨"java/lang/Float", "floatToRawIntBits", "(F)I"⟩) (by decide +kernel)) (hts (.initialized "java/lang/Float") (by decide +kernel)) (Nat.le_of_ble_eq_true rfl) (Nat.le_of_ble_eq_true rfl) dJxf58ca_floatToIntBits_5c35a_8 ?_
    exact W.iret hx hb hr (fun t ht hW => ⟨_, rfl, hJ.trans hE.symm, ht⟩) (fun q h => absurd h List.not_mem_nil) dJxf58ca_floatToIntBits_5c35a_11
def jX8_in (a0 : Int64) (a2 : Int64) (a4 : Int64) : Int32 := (if a0 < a2 then (0 : Int32) else (if a4 < a0 then (0 : Int32) else (1 : Int32)))
set_option linter.constructorNameAsVariable false in
set_option maxHeartbeats 8000000 in
set_option maxRecDepth 100000 in
theorem qX8_in (l : Launch) (a0 : Int64) (a2 : Int64) (a4 : Int64) : Met l yX8_in wsX8_in ({ frames := 0, cells := 0, slots := 0, locals := 0 }) (fun v _ => v = ([.long a0, .long a2, .long a4] : List Value).toArray) (vp_Si (fun r => r = jX8_in a0 a2 a4)) 0 0 (fun _ => False) := by
  refine Met.ofW (cc := cX8_in) (maxL := 6) (ret := some .boolean) (by decide) rfl ?_
  intro p e s m args below meth c s₁ B hml hv
  subst hv
  have hx := B.exec
  have hb := B.bytes
  have hr := B.returns
  have hts := atoms_spec (ws := wsX8_in) B.pre
  have hown : s.vm.findClass RX8 = some m.cls := findClass_of_methodNamed B.named
  have hlocks := B.notSynchronized
  obtain ⟨JR, hE⟩ : ∃ q, jX8_in a0 a2 a4 = q := ⟨_, rfl⟩
  have hJ := hE
  rw [jX8_in] at hJ
  have hl := lv_entry ([.long a0, .long a2, .long a4]) (n := 6) (Nat.le_of_ble_eq_true rfl)
  rw [lg_entry_eq]
  generalize (lg_sl ([.long a0, .long a2, .long a4]) ++ List.replicate (6 - (lg_sl ([.long a0, .long a2, .long a4])).length) Slot.unset).toArray = ls at hl ⊢
  have hl : lv_has ls 6 [(0, .long a0), (2, .long a2), (4, .long a4)] := hl
  refine lv_lload_n hx hb dX8_in_0 rfl (lv_at hl 0 rfl) ?_
  refine lv_lload_n hx hb dX8_in_1 rfl (lv_at hl 1 rfl) ?_
  refine W.lcmp hx hb dX8_in_2 ?_
  refine lv_if_lt (tgt := 17) hx hb dX8_in_3 (by decide) (fun c1 => ?_) (fun c1 => ?_)
  · have c1 := (lg_cmp_lt _ _).mp c1
    rw [if_pos c1] at hJ
    refine lv_iconst (v := (0 : Int32)) hx hb dX8_in_17 (by decide) ?_
    exact W.zret hx hb hr rfl (fun t ht hW => ⟨_, rfl, hJ.trans hE.symm, ht⟩) (fun q h => absurd h List.not_mem_nil) dX8_in_18
  · have c1 := mt (lg_cmp_lt _ _).mpr c1
    rw [if_neg c1] at hJ
    refine lv_lload_n hx hb dX8_in_6 rfl (lv_at hl 0 rfl) ?_
    refine lv_lload hx hb dX8_in_7 (lv_at hl 2 rfl) ?_
    refine W.lcmp hx hb dX8_in_9 ?_
    refine lv_if_gt (tgt := 17) hx hb dX8_in_10 (by decide) (fun c2 => ?_) (fun c2 => ?_)
    · have c2 := (lg_cmp_gt _ _).mp c2
      rw [if_pos c2] at hJ
      refine lv_iconst (v := (0 : Int32)) hx hb dX8_in_17 (by decide) ?_
      exact W.zret hx hb hr rfl (fun t ht hW => ⟨_, rfl, hJ.trans hE.symm, ht⟩) (fun q h => absurd h List.not_mem_nil) dX8_in_18
    · have c2 := mt (lg_cmp_gt _ _).mpr c2
      rw [if_neg c2] at hJ
      refine lv_iconst (v := (1 : Int32)) hx hb dX8_in_13 (by decide) ?_
      refine lv_goto (tgt := 18) hx hb dX8_in_14 (by decide) ?_
      exact W.zret hx hb hr rfl (fun t ht hW => ⟨_, rfl, hJ.trans hE.symm, ht⟩) (fun q h => absurd h List.not_mem_nil) dX8_in_18
theorem bX8_in (a0 : Int64) (a2 : Int64) (a4 : Int64) : (jX8_in a0 a2 a4) = 0 ∨ (jX8_in a0 a2 a4) = 1 := by
  unfold jX8_in
  exact (ibs (Or.inl rfl) (ibs (Or.inl rfl) (Or.inr rfl)))
def jX8_done (o : Ms) (a1 : Int32) : Int32 × Ms := (a1, (s_failed o (0 : Int32)))
set_option linter.constructorNameAsVariable false in
set_option maxHeartbeats 8000000 in
set_option maxRecDepth 100000 in
theorem qX8_done (l : Launch) (dC : Nat → ClassId) (dI : Nat → Nat → Nat) (cy : Nat → ClassId) (y : Nat) (bd : Nat → Nat) (sz : Nat) (o : Ms) (a1 : Int32) : Met l yX8_done wsX8_done ({ frames := 0, cells := 0, slots := 0, locals := 0 }) (va_Pc [.ref y, .int a1] (wI (dC, dI) (tyA cy) (WM cy y bd o) sz)) (va_Qi (fun r u => (r, u) = jX8_done o a1) (fun u t => wO (dC, dI) (tyA cy) (va_A (WM cy y bd o) sz) (WM cy y bd u) t) (va_A (WM cy y bd o) sz)) 0 0 (va_A (WM cy y bd o) sz) := by
  refine Met.ofW (cc := cX8_done) (maxL := 2) (ret := some .int) (by decide) rfl ?_
  intro p e s m args below meth c s₁ B hml hv
  obtain ⟨rfl, hsz, hP, hK, hD0, hk⟩ := hv
  have hx := B.exec
  have hb := B.bytes
  have hr := B.returns
  have hts := atoms_spec (ws := wsX8_done) B.pre
  have hown : s.vm.findClass RX8 = some m.cls := findClass_of_methodNamed B.named
  have hlocks := B.notSynchronized
  subst hsz
  have hD := hD0.self (sz := s.heap.size)
  generalize hAe : va_A (WM cy y bd o) s.heap.size = A at hD ⊢
  have hA : ∀ q : Nat, s.heap.size ≤ q → A q := fun q h => by rw [← hAe]; exact Or.inr h
  obtain ⟨H, hHe⟩ : ∃ H, s.heap = H := ⟨_, rfl⟩
  have hP : va_P (dC, dI) vwCl (WM cy y bd o) H := by rw [← hHe]; exact hP
  have hS : va_S A s.heap H [] := by rw [← hHe]; exact va_S.rf
  rw [w_heap hHe]
  have hi_wsX80 : ∀ w ∈ wsX80, w ∈ wsX8_done := fun _ h => List.mem_cons_of_mem _ (List.mem_append_right _ h)
  obtain ⟨JR, hE⟩ : ∃ q, jX8_done o a1 = q := ⟨_, rfl⟩
  have hJ := hE
  rw [jX8_done] at hJ
  have hl := lv_entry ([.ref y, .int a1]) (n := 2) (Nat.le_of_ble_eq_true rfl)
  rw [lg_entry_eq]
  generalize (lg_sl ([.ref y, .int a1]) ++ List.replicate (2 - (lg_sl ([.ref y, .int a1])).length) Slot.unset).toArray = ls at hl ⊢
  have hl : lv_has ls 2 [(0, .ref y), (1, .int a1)] := hl
  refine lv_aload_n hx hb dX8_done_0 rfl (lv_at hl 0 rfl) ?_
  refine lv_iconst (v := (0 : Int32)) hx hb dX8_done_1 (by decide) ?_
  refine va_put (D := (dC, dI)) (ci := 6) (v := .int (0 : Int32)) (ty := .int) (C := RX8) (T := TX8) (N := 20) (fs := wm_f bd o) hx hb hts hi_wsX80 tyX8 tyX8_ok nmX8 hown hK hP hD hS 0 rfl rfl 18 (by decide) (hts (.fieldLink RX8 66 "OrreryDialsModel" "failed" "I") (by decide +kernel)) (fun _ h9 => h9) rfl (by decide +kernel) rfl rfl (by rw [wm_len]; decide) dX8_done_2 (fun H locs hP hD hS => ?_)
  rw [wm_p_failed] at hP hD
  refine lv_iload_n hx hb dX8_done_5 rfl (lv_at hl 1 rfl) ?_
  exact W.iret hx hb hr (fun t ht hW => ⟨⟨_, _, rfl, hJ.trans hE.symm, by rw [ht]; exact hP, va_K.moved hW.alike hK, hD⟩, hS.F ht⟩) hS.2.2 dX8_done_6
def jX8_fails_o3 (o : Ms) (a1 : Int32) (o3 : Ms) : Int32 × Ms := (a1, o3)
def sX8_fails_o3 (o : Ms) (a1 : Int32) (o3 : Ms) : Prop := True ∧ True
def jX8_fails (o : Ms) (a1 : Int32) : Int32 × Ms := (jX8_fails_o3 o a1 (s_counts (s_failed o a1) (upd (m_counts (s_failed o a1)) ((-11 : Int32) - a1).toNatClampNeg ((m_counts (s_failed o a1) ((-11 : Int32) - a1).toNatClampNeg) + (1 : Int32)))))
def sX8_fails (o : Ms) (a1 : Int32) : Prop := True ∧ (vp_in ((-11 : Int32) - a1) 5 ∧ (vp_in ((-11 : Int32) - a1) 5 ∧ (sX8_fails_o3 o a1 (s_counts (s_failed o a1) (upd (m_counts (s_failed o a1)) ((-11 : Int32) - a1).toNatClampNeg ((m_counts (s_failed o a1) ((-11 : Int32) - a1).toNatClampNeg) + (1 : Int32)))))))
set_option linter.constructorNameAsVariable false in
set_option maxHeartbeats 8000000 in
set_option maxRecDepth 100000 in
theorem qX8_fails (l : Launch) (dC : Nat → ClassId) (dI : Nat → Nat → Nat) (cy : Nat → ClassId) (y : Nat) (bd : Nat → Nat) (sz : Nat) (o : Ms) (a1 : Int32) (hV : sX8_fails o a1) : Met l yX8_fails wsX8_fails ({ frames := 0, cells := 0, slots := 0, locals := 0 }) (va_Pc [.ref y, .int a1] (wI (dC, dI) (tyA cy) (WM cy y bd o) sz)) (va_Qi (fun r u => (r, u) = jX8_fails o a1) (fun u t => wO (dC, dI) (tyA cy) (va_A (WM cy y bd o) sz) (WM cy y bd u) t) (va_A (WM cy y bd o) sz)) 0 0 (va_A (WM cy y bd o) sz) := by
  refine Met.ofW (cc := cX8_fails) (maxL := 2) (ret := some .int) (by decide) rfl ?_
  intro p e s m args below meth c s₁ B hml hv
  obtain ⟨rfl, hsz, hP, hK, hD0, hk⟩ := hv
  have hx := B.exec
  have hb := B.bytes
  have hr := B.returns
  have hts := atoms_spec (ws := wsX8_fails) B.pre
  have hown : s.vm.findClass RX8 = some m.cls := findClass_of_methodNamed B.named
  have hlocks := B.notSynchronized
  subst hsz
  have hD := hD0.self (sz := s.heap.size)
  generalize hAe : va_A (WM cy y bd o) s.heap.size = A at hD ⊢
  have hA : ∀ q : Nat, s.heap.size ≤ q → A q := fun q h => by rw [← hAe]; exact Or.inr h
  obtain ⟨H, hHe⟩ : ∃ H, s.heap = H := ⟨_, rfl⟩
  have hP : va_P (dC, dI) vwCl (WM cy y bd o) H := by rw [← hHe]; exact hP
  have hS : va_S A s.heap H [] := by rw [← hHe]; exact va_S.rf
  rw [w_heap hHe]
  have hi_wsX80 : ∀ w ∈ wsX80, w ∈ wsX8_fails := fun _ h => List.mem_cons_of_mem _ (List.mem_append_right _ h)
  obtain ⟨JR, hE⟩ : ∃ q, jX8_fails o a1 = q := ⟨_, rfl⟩
  have hJ := hE
  rw [jX8_fails] at hJ
  rw [sX8_fails] at hV
  have hV := hV.2
  have hl := lv_entry ([.ref y, .int a1]) (n := 2) (Nat.le_of_ble_eq_true rfl)
  rw [lg_entry_eq]
  generalize (lg_sl ([.ref y, .int a1]) ++ List.replicate (2 - (lg_sl ([.ref y, .int a1])).length) Slot.unset).toArray = ls at hl ⊢
  have hl : lv_has ls 2 [(0, .ref y), (1, .int a1)] := hl
  refine lv_aload_n hx hb dX8_fails_0 rfl (lv_at hl 0 rfl) ?_
  refine lv_iload_n hx hb dX8_fails_1 rfl (lv_at hl 1 rfl) ?_
  refine va_put (D := (dC, dI)) (ci := 6) (v := .int a1) (ty := .int) (C := RX8) (T := TX8) (N := 20) (fs := wm_f bd o) hx hb hts hi_wsX80 tyX8 tyX8_ok nmX8 hown hK hP hD hS 0 rfl rfl 18 (by decide) (hts (.fieldLink RX8 66 "OrreryDialsModel" "failed" "I") (by decide +kernel)) (fun _ h9 => h9) rfl (by decide +kernel) rfl rfl (by rw [wm_len]; decide) dX8_fails_2 (fun H locs hP hD hS => ?_)
  rw [wm_p_failed] at hP hD
  refine lv_aload_n hx hb dX8_fails_5 rfl (lv_at hl 0 rfl) ?_
  refine va_get (D := (dC, dI)) (ci := 6) (v := .ref (bd 15)) (C := RX8) (T := TX8) (N := 20) (fs := wm_f bd (s_failed o a1)) hx hb hts hi_wsX80 hown hK hP 0 rfl rfl 19 (by decide) (hts (.fieldLink RX8 59 "OrreryDialsModel" "counts" "[I") (by decide +kernel)) (fun _ h9 => h9) rfl dX8_fails_6 ?_
  refine lv_bipush (v := (-11 : Int32)) hx hb dX8_fails_9 (by decide) ?_
  refine lv_iload_n hx hb dX8_fails_11 rfl (lv_at hl 1 rfl) ?_
  refine lv_isub hx hb dX8_fails_12 ?_
  refine lv_dup2_11 hx hb dX8_fails_13 rfl rfl ?_
  obtain ⟨hk1, hV⟩ := hV
  refine va_iald hx hb hK hP 16 0 rfl rfl hk1 dX8_fails_14 ?_
  refine lv_iconst (v := (1 : Int32)) hx hb dX8_fails_15 (by decide) ?_
  refine lv_iadd hx hb dX8_fails_16 ?_
  obtain ⟨hk2, hV⟩ := hV
  refine va_iast hx hb hK hP hD hS 16 0 rfl rfl hk2 dX8_fails_17 (fun H locs hP hD hS => ?_)
  rw [wm_a_counts] at hP hD
  obtain ⟨o3, eo3⟩ : ∃ z, z = (s_counts (s_failed o a1) (upd (m_counts (s_failed o a1)) ((-11 : Int32) - a1).toNatClampNeg ((m_counts (s_failed o a1) ((-11 : Int32) - a1).toNatClampNeg) + (1 : Int32)))) := ⟨_, rfl⟩
  rw [← eo3] at hP hD hJ hV
  rw [jX8_fails_o3] at hJ
  rw [sX8_fails_o3] at hV
  have hV := hV.2
  refine lv_iload_n hx hb dX8_fails_18 rfl (lv_at hl 1 rfl) ?_
  exact W.iret hx hb hr (fun t ht hW => ⟨⟨_, _, rfl, hJ.trans hE.symm, by rw [ht]; exact hP, va_K.moved hW.alike hK, hD⟩, hS.F ht⟩) hS.2.2 dX8_fails_19
def jX8_isFitFloat (a0 : Int64) : Int32 := (if ((a0.toInt32) &&& (2139095040 : Int32)) = (2139095040 : Int32) then (0 : Int32) else (1 : Int32))
set_option linter.constructorNameAsVariable false in
set_option maxHeartbeats 8000000 in
set_option maxRecDepth 100000 in
theorem qX8_isFitFloat (l : Launch) (a0 : Int64) : Met l yX8_isFitFloat wsX8_isFitFloat ({ frames := 0, cells := 0, slots := 0, locals := 0 }) (fun v _ => v = ([.long a0] : List Value).toArray) (vp_Si (fun r => r = jX8_isFitFloat a0)) 0 0 (fun _ => False) := by
  refine Met.ofW (cc := cX8_isFitFloat) (maxL := 2) (ret := some .boolean) (by decide) rfl ?_
  intro p e s m args below meth c s₁ B hml hv
  subst hv
  have hx := B.exec
  have hb := B.bytes
  have hr := B.returns
  have hts := atoms_spec (ws := wsX8_isFitFloat) B.pre
  have hown : s.vm.findClass RX8 = some m.cls := findClass_of_methodNamed B.named
  have hlocks := B.notSynchronized
  obtain ⟨JR, hE⟩ : ∃ q, jX8_isFitFloat a0 = q := ⟨_, rfl⟩
  have hJ := hE
  rw [jX8_isFitFloat] at hJ
  have hl := lv_entry ([.long a0]) (n := 2) (Nat.le_of_ble_eq_true rfl)
  rw [lg_entry_eq]
  generalize (lg_sl ([.long a0]) ++ List.replicate (2 - (lg_sl ([.long a0])).length) Slot.unset).toArray = ls at hl ⊢
  have hl : lv_has ls 2 [(0, .long a0)] := hl
  refine lv_lload_n hx hb dX8_isFitFloat_0 rfl (lv_at hl 0 rfl) ?_
  refine lv_l2i (v := a0.toInt32) hx hb dX8_isFitFloat_1 rfl ?_
  refine lv_ldc (v := (2139095040 : Int32)) hx hb hown (hts (.constant RX8 69 (2139095040)) (by decide +kernel)) dX8_isFitFloat_2 ?_
  refine lv_iand hx hb dX8_isFitFloat_4 ?_
  refine lv_ldc (v := (2139095040 : Int32)) hx hb hown (hts (.constant RX8 69 (2139095040)) (by decide +kernel)) dX8_isFitFloat_5 ?_
  refine lv_icmp_eq (tgt := 14) hx hb dX8_isFitFloat_7 (by decide) (fun c1 => ?_) (fun c1 => ?_)
  · skip
    rw [if_pos c1] at hJ
    refine lv_iconst (v := (0 : Int32)) hx hb dX8_isFitFloat_14 (by decide) ?_
    exact W.zret hx hb hr rfl (fun t ht hW => ⟨_, rfl, hJ.trans hE.symm, ht⟩) (fun q h => absurd h List.not_mem_nil) dX8_isFitFloat_15
  · skip
    rw [if_neg c1] at hJ
    refine lv_iconst (v := (1 : Int32)) hx hb dX8_isFitFloat_10 (by decide) ?_
    refine lv_goto (tgt := 15) hx hb dX8_isFitFloat_11 (by decide) ?_
    exact W.zret hx hb hr rfl (fun t ht hW => ⟨_, rfl, hJ.trans hE.symm, ht⟩) (fun q h => absurd h List.not_mem_nil) dX8_isFitFloat_15
theorem bX8_isFitFloat (a0 : Int64) : (jX8_isFitFloat a0) = 0 ∨ (jX8_isFitFloat a0) = 1 := by
  unfold jX8_isFitFloat
  exact (ibs (Or.inl rfl) (Or.inr rfl))
def jX8_isFitDouble (a0 : Int64) : Int32 := (if (a0 &&& (9218868437227405312 : Int64)) = (9218868437227405312 : Int64) then (0 : Int32) else (1 : Int32))
set_option linter.constructorNameAsVariable false in
set_option maxHeartbeats 8000000 in
set_option maxRecDepth 100000 in
theorem qX8_isFitDouble (l : Launch) (a0 : Int64) : Met l yX8_isFitDouble wsX8_isFitDouble ({ frames := 0, cells := 0, slots := 0, locals := 0 }) (fun v _ => v = ([.long a0] : List Value).toArray) (vp_Si (fun r => r = jX8_isFitDouble a0)) 0 0 (fun _ => False) := by
  refine Met.ofW (cc := cX8_isFitDouble) (maxL := 2) (ret := some .boolean) (by decide) rfl ?_
  intro p e s m args below meth c s₁ B hml hv
  subst hv
  have hx := B.exec
  have hb := B.bytes
  have hr := B.returns
  have hts := atoms_spec (ws := wsX8_isFitDouble) B.pre
  have hown : s.vm.findClass RX8 = some m.cls := findClass_of_methodNamed B.named
  have hlocks := B.notSynchronized
  obtain ⟨JR, hE⟩ : ∃ q, jX8_isFitDouble a0 = q := ⟨_, rfl⟩
  have hJ := hE
  rw [jX8_isFitDouble] at hJ
  have hl := lv_entry ([.long a0]) (n := 2) (Nat.le_of_ble_eq_true rfl)
  rw [lg_entry_eq]
  generalize (lg_sl ([.long a0]) ++ List.replicate (2 - (lg_sl ([.long a0])).length) Slot.unset).toArray = ls at hl ⊢
  have hl : lv_has ls 2 [(0, .long a0)] := hl
  refine lv_lload_n hx hb dX8_isFitDouble_0 rfl (lv_at hl 0 rfl) ?_
  refine lv_ldc2 (v := (9218868437227405312 : Int64)) hx hb hown (hts (.constantLong RX8 70 (9218868437227405312)) (by decide +kernel)) dX8_isFitDouble_1 ?_
  refine lv_land hx hb dX8_isFitDouble_4 ?_
  refine lv_ldc2 (v := (9218868437227405312 : Int64)) hx hb hown (hts (.constantLong RX8 70 (9218868437227405312)) (by decide +kernel)) dX8_isFitDouble_5 ?_
  refine W.lcmp hx hb dX8_isFitDouble_8 ?_
  refine lv_if_eq (tgt := 16) hx hb dX8_isFitDouble_9 (by decide) (fun c1 => ?_) (fun c1 => ?_)
  · have c1 := (lg_cmp_eq _ _).mp c1
    rw [if_pos c1] at hJ
    refine lv_iconst (v := (0 : Int32)) hx hb dX8_isFitDouble_16 (by decide) ?_
    exact W.zret hx hb hr rfl (fun t ht hW => ⟨_, rfl, hJ.trans hE.symm, ht⟩) (fun q h => absurd h List.not_mem_nil) dX8_isFitDouble_17
  · have c1 := mt (lg_cmp_eq _ _).mpr c1
    rw [if_neg c1] at hJ
    refine lv_iconst (v := (1 : Int32)) hx hb dX8_isFitDouble_12 (by decide) ?_
    refine lv_goto (tgt := 17) hx hb dX8_isFitDouble_13 (by decide) ?_
    exact W.zret hx hb hr rfl (fun t ht hW => ⟨_, rfl, hJ.trans hE.symm, ht⟩) (fun q h => absurd h List.not_mem_nil) dX8_isFitDouble_17
theorem bX8_isFitDouble (a0 : Int64) : (jX8_isFitDouble a0) = 0 ∨ (jX8_isFitDouble a0) = 1 := by
  unfold jX8_isFitDouble
  exact (ibs (Or.inl rfl) (Or.inr rfl))
def jX8_isFit (a0 : Int32) (a1 : Int64) : Int32 := (if a0 = 0 then (jX8_isFitFloat a1) else (jX8_isFitDouble a1))
set_option linter.constructorNameAsVariable false in
set_option maxHeartbeats 8000000 in
set_option maxRecDepth 100000 in
theorem qX8_isFit (l : Launch) (a0 : Int32) (a1 : Int64) : Met l yX8_isFit wsX8_isFit ({ frames := 1, cells := 0, slots := 0, locals := 21 }) (fun v _ => v = ([.int a0, .long a1] : List Value).toArray) (vp_Si (fun r => r = jX8_isFit a0 a1)) 0 0 (fun _ => False) := by
  refine Met.ofW (cc := cX8_isFit) (maxL := 3) (ret := some .boolean) (by decide) rfl ?_
  intro p e s m args below meth c s₁ B hml hv
  subst hv
  have hx := B.exec
  have hb := B.bytes
  have hr := B.returns
  have hts := atoms_spec (ws := wsX8_isFit) B.pre
  have hown : s.vm.findClass RX8 = some m.cls := findClass_of_methodNamed B.named
  have hlocks := B.notSynchronized
  obtain ⟨JR, hE⟩ : ∃ q, jX8_isFit a0 a1 = q := ⟨_, rfl⟩
  have hJ := hE
  rw [jX8_isFit] at hJ
  have hl := lv_entry ([.int a0, .long a1]) (n := 3) (Nat.le_of_ble_eq_true rfl)
  rw [lg_entry_eq]
  generalize (lg_sl ([.int a0, .long a1]) ++ List.replicate (3 - (lg_sl ([.int a0, .long a1])).length) Slot.unset).toArray = ls at hl ⊢
  have hl : lv_has ls 3 [(0, .int a0), (1, .long a1)] := hl
  refine lv_iload_n hx hb dX8_isFit_0 rfl (lv_at hl 0 rfl) ?_
  refine lv_if_eq (tgt := 11) hx hb dX8_isFit_1 (by decide) (fun c1 => ?_) (fun c1 => ?_)
  · skip
    rw [if_pos c1] at hJ
    refine lv_lload_n hx hb dX8_isFit_11 rfl (lv_at hl 1 rfl) ?_
    refine vp_callSi (W.runS (As := [.long a1]) (rest := []) ⟨hx, hb, hml, hown, hts⟩ (qX8_isFitFloat l a1) (va_cwS 1 hts gX8_isFit_X8_isFitFloat rfl rfl rfl (by decide +kernel) ⟨Nat.le_of_ble_eq_true rfl, Nat.le_of_ble_eq_true rfl⟩) ⟨fun _ _ _ _ q => q, fun U hU hW => rfl⟩ rfl rfl hl.1 rfl (lv_room (Nat.le_of_ble_eq_true rfl)) dX8_isFit_12 ⟨Nat.le_of_ble_eq_true rfl, Nat.le_of_ble_eq_true rfl⟩) (fun r hq9 => ?_)
    rw [hq9]
    exact W.zret hx hb hr (narrow_bool (bX8_isFitFloat a1)) (fun t ht hW => ⟨_, rfl, hJ.trans hE.symm, ht⟩) (fun q h => absurd h List.not_mem_nil) dX8_isFit_15
  · skip
    rw [if_neg c1] at hJ
    refine lv_lload_n hx hb dX8_isFit_4 rfl (lv_at hl 1 rfl) ?_
    refine vp_callSi (W.runS (As := [.long a1]) (rest := []) ⟨hx, hb, hml, hown, hts⟩ (qX8_isFitDouble l a1) (va_cwS 1 hts gX8_isFit_X8_isFitDouble rfl rfl rfl (by decide +kernel) ⟨Nat.le_of_ble_eq_true rfl, Nat.le_of_ble_eq_true rfl⟩) ⟨fun _ _ _ _ q => q, fun U hU hW => rfl⟩ rfl rfl hl.1 rfl (lv_room (Nat.le_of_ble_eq_true rfl)) dX8_isFit_5 ⟨Nat.le_of_ble_eq_true rfl, Nat.le_of_ble_eq_true rfl⟩) (fun r hq9 => ?_)
    rw [hq9]
    refine lv_goto (tgt := 15) hx hb dX8_isFit_8 (by decide) ?_
    exact W.zret hx hb hr (narrow_bool (bX8_isFitDouble a1)) (fun t ht hW => ⟨_, rfl, hJ.trans hE.symm, ht⟩) (fun q h => absurd h List.not_mem_nil) dX8_isFit_15
theorem bX8_isFit (a0 : Int32) (a1 : Int64) : (jX8_isFit a0 a1) = 0 ∨ (jX8_isFit a0 a1) = 1 := by
  unfold jX8_isFit
  exact (ibs (bX8_isFitFloat a1) (bX8_isFitDouble a1))
def jX8_isNone (a0 : Int32) (a1 : Int64) : Int32 := (if a0 = (2 : Int32) then (if ((a1.toInt32) &&& (2147483647 : Int32)) ≤ (2139095040 : Int32) then (0 : Int32) else (1 : Int32)) else (if a0 = (3 : Int32) then (if (a1 &&& (9223372036854775807 : Int64)) ≤ (9218868437227405312 : Int64) then (0 : Int32) else (1 : Int32)) else (0 : Int32)))
set_option linter.constructorNameAsVariable false in
set_option maxHeartbeats 8000000 in
set_option maxRecDepth 100000 in
theorem qX8_isNone (l : Launch) (a0 : Int32) (a1 : Int64) : Met l yX8_isNone wsX8_isNone ({ frames := 0, cells := 0, slots := 0, locals := 0 }) (fun v _ => v = ([.int a0, .long a1] : List Value).toArray) (vp_Si (fun r => r = jX8_isNone a0 a1)) 0 0 (fun _ => False) := by
  refine Met.ofW (cc := cX8_isNone) (maxL := 3) (ret := some .boolean) (by decide) rfl ?_
  intro p e s m args below meth c s₁ B hml hv
  subst hv
  have hx := B.exec
  have hb := B.bytes
  have hr := B.returns
  have hts := atoms_spec (ws := wsX8_isNone) B.pre
  have hown : s.vm.findClass RX8 = some m.cls := findClass_of_methodNamed B.named
  have hlocks := B.notSynchronized
  obtain ⟨JR, hE⟩ : ∃ q, jX8_isNone a0 a1 = q := ⟨_, rfl⟩
  have hJ := hE
  rw [jX8_isNone] at hJ
  have hl := lv_entry ([.int a0, .long a1]) (n := 3) (Nat.le_of_ble_eq_true rfl)
  rw [lg_entry_eq]
  generalize (lg_sl ([.int a0, .long a1]) ++ List.replicate (3 - (lg_sl ([.int a0, .long a1])).length) Slot.unset).toArray = ls at hl ⊢
  have hl : lv_has ls 3 [(0, .int a0), (1, .long a1)] := hl
  refine lv_iload_n hx hb dX8_isNone_0 rfl (lv_at hl 0 rfl) ?_
  refine lv_iconst (v := (2 : Int32)) hx hb dX8_isNone_1 (by decide) ?_
  refine lv_icmp_ne (tgt := 23) hx hb dX8_isNone_2 (by decide) (fun c1 => ?_) (fun c1 => ?_)
  · skip
    rw [if_neg c1] at hJ
    refine lv_iload_n hx hb dX8_isNone_23 rfl (lv_at hl 0 rfl) ?_
    refine lv_iconst (v := (3 : Int32)) hx hb dX8_isNone_24 (by decide) ?_
    refine lv_icmp_ne (tgt := 44) hx hb dX8_isNone_25 (by decide) (fun c2 => ?_) (fun c2 => ?_)
    · skip
      rw [if_neg c2] at hJ
      refine lv_iconst (v := (0 : Int32)) hx hb dX8_isNone_44 (by decide) ?_
      exact W.zret hx hb hr rfl (fun t ht hW => ⟨_, rfl, hJ.trans hE.symm, ht⟩) (fun q h => absurd h List.not_mem_nil) dX8_isNone_45
    · skip
      rw [if_pos c2] at hJ
      refine lv_lload_n hx hb dX8_isNone_28 rfl (lv_at hl 1 rfl) ?_
      refine lv_ldc2 (v := (9223372036854775807 : Int64)) hx hb hown (hts (.constantLong RX8 80 (9223372036854775807)) (by decide +kernel)) dX8_isNone_29 ?_
      refine lv_land hx hb dX8_isNone_32 ?_
      refine lv_ldc2 (v := (9218868437227405312 : Int64)) hx hb hown (hts (.constantLong RX8 70 (9218868437227405312)) (by decide +kernel)) dX8_isNone_33 ?_
      refine W.lcmp hx hb dX8_isNone_36 ?_
      refine lv_if_le (tgt := 44) hx hb dX8_isNone_37 (by decide) (fun c3 => ?_) (fun c3 => ?_)
      · have c3 := (lg_cmp_le _ _).mp c3
        rw [if_pos c3] at hJ
        refine lv_iconst (v := (0 : Int32)) hx hb dX8_isNone_44 (by decide) ?_
        exact W.zret hx hb hr rfl (fun t ht hW => ⟨_, rfl, hJ.trans hE.symm, ht⟩) (fun q h => absurd h List.not_mem_nil) dX8_isNone_45
      · have c3 := mt (lg_cmp_le _ _).mpr c3
        rw [if_neg c3] at hJ
        refine lv_iconst (v := (1 : Int32)) hx hb dX8_isNone_40 (by decide) ?_
        refine lv_goto (tgt := 45) hx hb dX8_isNone_41 (by decide) ?_
        exact W.zret hx hb hr rfl (fun t ht hW => ⟨_, rfl, hJ.trans hE.symm, ht⟩) (fun q h => absurd h List.not_mem_nil) dX8_isNone_45
  · skip
    rw [if_pos c1] at hJ
    refine lv_lload_n hx hb dX8_isNone_5 rfl (lv_at hl 1 rfl) ?_
    refine lv_l2i (v := a1.toInt32) hx hb dX8_isNone_6 rfl ?_
    refine lv_ldc (v := (2147483647 : Int32)) hx hb hown (hts (.constant RX8 79 (2147483647)) (by decide +kernel)) dX8_isNone_7 ?_
    refine lv_iand hx hb dX8_isNone_9 ?_
    refine lv_ldc (v := (2139095040 : Int32)) hx hb hown (hts (.constant RX8 69 (2139095040)) (by decide +kernel)) dX8_isNone_10 ?_
    refine lv_icmp_le (tgt := 19) hx hb dX8_isNone_12 (by decide) (fun c4 => ?_) (fun c4 => ?_)
    · skip
      rw [if_pos c4] at hJ
      refine lv_iconst (v := (0 : Int32)) hx hb dX8_isNone_19 (by decide) ?_
      refine lv_goto (tgt := 45) hx hb dX8_isNone_20 (by decide) ?_
      exact W.zret hx hb hr rfl (fun t ht hW => ⟨_, rfl, hJ.trans hE.symm, ht⟩) (fun q h => absurd h List.not_mem_nil) dX8_isNone_45
    · skip
      rw [if_neg c4] at hJ
      refine lv_iconst (v := (1 : Int32)) hx hb dX8_isNone_15 (by decide) ?_
      refine lv_goto (tgt := 45) hx hb dX8_isNone_16 (by decide) ?_
      exact W.zret hx hb hr rfl (fun t ht hW => ⟨_, rfl, hJ.trans hE.symm, ht⟩) (fun q h => absurd h List.not_mem_nil) dX8_isNone_45
theorem bX8_isNone (a0 : Int32) (a1 : Int64) : (jX8_isNone a0 a1) = 0 ∨ (jX8_isNone a0 a1) = 1 := by
  unfold jX8_isNone
  exact (ibs (ibs (Or.inl rfl) (Or.inr rfl)) (ibs (ibs (Or.inl rfl) (Or.inr rfl)) (Or.inl rfl)))
def jX8_isEndless (a0 : UInt64) : Int32 := (if 0 < (Op.cmpValue (FP.dcmp a0 (9218868437227405311 : UInt64)) .l) then (1 : Int32) else (if 0 ≤ (Op.cmpValue (FP.dcmp a0 (18442240474082181119 : UInt64)) .g) then (0 : Int32) else (1 : Int32)))
set_option linter.constructorNameAsVariable false in
set_option maxHeartbeats 8000000 in
set_option maxRecDepth 100000 in
theorem qX8_isEndless (l : Launch) (a0 : UInt64) : Met l yX8_isEndless wsX8_isEndless ({ frames := 0, cells := 0, slots := 0, locals := 0 }) (fun v _ => v = ([.double a0] : List Value).toArray) (vp_Si (fun r => r = jX8_isEndless a0)) 0 0 (fun _ => False) := by
  refine Met.ofW (cc := cX8_isEndless) (maxL := 2) (ret := some .boolean) (by decide) rfl ?_
  intro p e s m args below meth c s₁ B hml hv
  subst hv
  have hx := B.exec
  have hb := B.bytes
  have hr := B.returns
  have hts := atoms_spec (ws := wsX8_isEndless) B.pre
  have hown : s.vm.findClass RX8 = some m.cls := findClass_of_methodNamed B.named
  have hlocks := B.notSynchronized
  obtain ⟨JR, hE⟩ : ∃ q, jX8_isEndless a0 = q := ⟨_, rfl⟩
  have hJ := hE
  rw [jX8_isEndless] at hJ
  have hl := lv_entry ([.double a0]) (n := 2) (Nat.le_of_ble_eq_true rfl)
  rw [lg_entry_eq]
  generalize (lg_sl ([.double a0]) ++ List.replicate (2 - (lg_sl ([.double a0])).length) Slot.unset).toArray = ls at hl ⊢
  have hl : lv_has ls 2 [(0, .double a0)] := hl
  refine lv_dload_n hx hb dX8_isEndless_0 rfl (lv_at hl 0 rfl) ?_
  refine lv_ldc2d (v := (9218868437227405311 : UInt64)) hx hb hown (hts (.constantDouble RX8 82 (9218868437227405311)) (by decide +kernel)) dX8_isEndless_1 ?_
  refine lv_dcmp hx hb dX8_isEndless_4 ?_
  refine lv_if_gt (tgt := 16) hx hb dX8_isEndless_5 (by decide) (fun c1 => ?_) (fun c1 => ?_)
  · skip
    rw [if_pos c1] at hJ
    refine lv_iconst (v := (1 : Int32)) hx hb dX8_isEndless_16 (by decide) ?_
    refine lv_goto (tgt := 21) hx hb dX8_isEndless_17 (by decide) ?_
    exact W.zret hx hb hr rfl (fun t ht hW => ⟨_, rfl, hJ.trans hE.symm, ht⟩) (fun q h => absurd h List.not_mem_nil) dX8_isEndless_21
  · skip
    rw [if_neg c1] at hJ
    refine lv_dload_n hx hb dX8_isEndless_8 rfl (lv_at hl 0 rfl) ?_
    refine lv_ldc2d (v := (18442240474082181119 : UInt64)) hx hb hown (hts (.constantDouble RX8 84 (18442240474082181119)) (by decide +kernel)) dX8_isEndless_9 ?_
    refine lv_dcmp hx hb dX8_isEndless_12 ?_
    refine lv_if_ge (tgt := 20) hx hb dX8_isEndless_13 (by decide) (fun c2 => ?_) (fun c2 => ?_)
    · skip
      rw [if_pos c2] at hJ
      refine lv_iconst (v := (0 : Int32)) hx hb dX8_isEndless_20 (by decide) ?_
      exact W.zret hx hb hr rfl (fun t ht hW => ⟨_, rfl, hJ.trans hE.symm, ht⟩) (fun q h => absurd h List.not_mem_nil) dX8_isEndless_21
    · skip
      rw [if_neg c2] at hJ
      refine lv_iconst (v := (1 : Int32)) hx hb dX8_isEndless_16 (by decide) ?_
      refine lv_goto (tgt := 21) hx hb dX8_isEndless_17 (by decide) ?_
      exact W.zret hx hb hr rfl (fun t ht hW => ⟨_, rfl, hJ.trans hE.symm, ht⟩) (fun q h => absurd h List.not_mem_nil) dX8_isEndless_21
theorem bX8_isEndless (a0 : UInt64) : (jX8_isEndless a0) = 0 ∨ (jX8_isEndless a0) = 1 := by
  unfold jX8_isEndless
  exact (ibs (Or.inr rfl) (ibs (Or.inl rfl) (Or.inr rfl)))
def jX8_isEndlessFloat (a0 : UInt32) : Int32 := (if 0 < (Op.cmpValue (FP.fcmp a0 (2139095039 : UInt32)) .l) then (1 : Int32) else (if 0 ≤ (Op.cmpValue (FP.fcmp a0 (4286578687 : UInt32)) .g) then (0 : Int32) else (1 : Int32)))
set_option linter.constructorNameAsVariable false in
set_option maxHeartbeats 8000000 in
set_option maxRecDepth 100000 in
theorem qX8_isEndlessFloat (l : Launch) (a0 : UInt32) : Met l yX8_isEndlessFloat wsX8_isEndlessFloat ({ frames := 0, cells := 0, slots := 0, locals := 0 }) (fun v _ => v = ([.float a0] : List Value).toArray) (vp_Si (fun r => r = jX8_isEndlessFloat a0)) 0 0 (fun _ => False) := by
  refine Met.ofW (cc := cX8_isEndlessFloat) (maxL := 1) (ret := some .boolean) (by decide) rfl ?_
  intro p e s m args below meth c s₁ B hml hv
  subst hv
  have hx := B.exec
  have hb := B.bytes
  have hr := B.returns
  have hts := atoms_spec (ws := wsX8_isEndlessFloat) B.pre
  have hown : s.vm.findClass RX8 = some m.cls := findClass_of_methodNamed B.named
  have hlocks := B.notSynchronized
  obtain ⟨JR, hE⟩ : ∃ q, jX8_isEndlessFloat a0 = q := ⟨_, rfl⟩
  have hJ := hE
  rw [jX8_isEndlessFloat] at hJ
  have hl := lv_entry ([.float a0]) (n := 1) (Nat.le_of_ble_eq_true rfl)
  rw [lg_entry_eq]
  generalize (lg_sl ([.float a0]) ++ List.replicate (1 - (lg_sl ([.float a0])).length) Slot.unset).toArray = ls at hl ⊢
  have hl : lv_has ls 1 [(0, .float a0)] := hl
  refine lv_fload_n hx hb dX8_isEndlessFloat_0 rfl (lv_at hl 0 rfl) ?_
  refine lv_ldcf (v := (2139095039 : UInt32)) hx hb hown (hts (.constantFloat RX8 86 (2139095039)) (by decide +kernel)) dX8_isEndlessFloat_1 ?_
  refine lv_fcmp hx hb dX8_isEndlessFloat_3 ?_
  refine lv_if_gt (tgt := 14) hx hb dX8_isEndlessFloat_4 (by decide) (fun c1 => ?_) (fun c1 => ?_)
  · skip
    rw [if_pos c1] at hJ
    refine lv_iconst (v := (1 : Int32)) hx hb dX8_isEndlessFloat_14 (by decide) ?_
    refine lv_goto (tgt := 19) hx hb dX8_isEndlessFloat_15 (by decide) ?_
    exact W.zret hx hb hr rfl (fun t ht hW => ⟨_, rfl, hJ.trans hE.symm, ht⟩) (fun q h => absurd h List.not_mem_nil) dX8_isEndlessFloat_19
  · skip
    rw [if_neg c1] at hJ
    refine lv_fload_n hx hb dX8_isEndlessFloat_7 rfl (lv_at hl 0 rfl) ?_
    refine lv_ldcf (v := (4286578687 : UInt32)) hx hb hown (hts (.constantFloat RX8 87 (4286578687)) (by decide +kernel)) dX8_isEndlessFloat_8 ?_
    refine lv_fcmp hx hb dX8_isEndlessFloat_10 ?_
    refine lv_if_ge (tgt := 18) hx hb dX8_isEndlessFloat_11 (by decide) (fun c2 => ?_) (fun c2 => ?_)
    · skip
      rw [if_pos c2] at hJ
      refine lv_iconst (v := (0 : Int32)) hx hb dX8_isEndlessFloat_18 (by decide) ?_
      exact W.zret hx hb hr rfl (fun t ht hW => ⟨_, rfl, hJ.trans hE.symm, ht⟩) (fun q h => absurd h List.not_mem_nil) dX8_isEndlessFloat_19
    · skip
      rw [if_neg c2] at hJ
      refine lv_iconst (v := (1 : Int32)) hx hb dX8_isEndlessFloat_14 (by decide) ?_
      refine lv_goto (tgt := 19) hx hb dX8_isEndlessFloat_15 (by decide) ?_
      exact W.zret hx hb hr rfl (fun t ht hW => ⟨_, rfl, hJ.trans hE.symm, ht⟩) (fun q h => absurd h List.not_mem_nil) dX8_isEndlessFloat_19
theorem bX8_isEndlessFloat (a0 : UInt32) : (jX8_isEndlessFloat a0) = 0 ∨ (jX8_isEndlessFloat a0) = 1 := by
  unfold jX8_isEndlessFloat
  exact (ibs (Or.inr rfl) (ibs (Or.inl rfl) (Or.inr rfl)))
def jX8_floatOf (a0 : Int64) : UInt32 := ((a0.toInt32).toUInt32)
def sX8_floatOf (a0 : Int64) : Prop := True ∧ (vn_sni2f (a0.toInt32) = false ∧ True)
set_option linter.constructorNameAsVariable false in
set_option maxHeartbeats 8000000 in
set_option maxRecDepth 100000 in
theorem qX8_floatOf (l : Launch) (a0 : Int64) (hV : sX8_floatOf a0) : Met l yX8_floatOf wsX8_floatOf ({ frames := 1, cells := 0, slots := 0, locals := 23 }) (fun v _ => v = ([.long a0] : List Value).toArray) (vp_Sf (fun r => r = jX8_floatOf a0)) 0 0 (fun _ => False) := by
  refine Met.ofW (cc := cX8_floatOf) (maxL := 2) (ret := some .float) (by decide) rfl ?_
  intro p e s m args below meth c s₁ B hml hv
  subst hv
  have hx := B.exec
  have hb := B.bytes
  have hr := B.returns
  have hts := atoms_spec (ws := wsX8_floatOf) B.pre
  have hown : s.vm.findClass RX8 = some m.cls := findClass_of_methodNamed B.named
  have hlocks := B.notSynchronized
  obtain ⟨JR, hE⟩ : ∃ q, jX8_floatOf a0 = q := ⟨_, rfl⟩
  have hJ := hE
  rw [jX8_floatOf] at hJ
  rw [sX8_floatOf] at hV
  have hV := hV.2
  have hl := lv_entry ([.long a0]) (n := 2) (Nat.le_of_ble_eq_true rfl)
  rw [lg_entry_eq]
  generalize (lg_sl ([.long a0]) ++ List.replicate (2 - (lg_sl ([.long a0])).length) Slot.unset).toArray = ls at hl ⊢
  have hl : lv_has ls 2 [(0, .long a0)] := hl
  refine lv_lload_n hx hb dX8_floatOf_0 rfl (lv_at hl 0 rfl) ?_
  refine lv_l2i (v := a0.toInt32) hx hb dX8_floatOf_1 rfl ?_
  obtain ⟨hk1, hV⟩ := hV
  refine vn_i2f hx hb (hml.trans hl.1.symm) hown (hts (.methodLink RX8 88 ⟨"java/lang/Float", "intBitsToFloat", "(I)F"⟩) (by decide +kernel)) (hts (.native ⟨"java/lang/Float", "intBitsToFloat", "(I)F"⟩) (by decide +kernel)) (hts (.static ⟨"java/lang/Float", "intBitsToFloat", "(I)F"⟩) (by decide +kernel)) (hts (.initialized "java/lang/Float") (by decide +kernel)) hk1 (Nat.le_of_ble_eq_true rfl) (Nat.le_of_ble_eq_true rfl) dX8_floatOf_2 ?_
  exact W.fret hx hb hr (fun t ht hW => ⟨_, rfl, hJ.trans hE.symm, ht⟩) (fun q h => absurd h List.not_mem_nil) dX8_floatOf_5
def jX8_doubleOf (a0 : Int64) : UInt64 := (a0.toUInt64)
def sX8_doubleOf (a0 : Int64) : Prop := True ∧ (vn_snl2d a0 = false ∧ True)
set_option linter.constructorNameAsVariable false in
set_option maxHeartbeats 8000000 in
set_option maxRecDepth 100000 in
theorem qX8_doubleOf (l : Launch) (a0 : Int64) (hV : sX8_doubleOf a0) : Met l yX8_doubleOf wsX8_doubleOf ({ frames := 1, cells := 0, slots := 0, locals := 23 }) (fun v _ => v = ([.long a0] : List Value).toArray) (vp_Sd (fun r => r = jX8_doubleOf a0)) 0 0 (fun _ => False) := by
  refine Met.ofW (cc := cX8_doubleOf) (maxL := 2) (ret := some .double) (by decide) rfl ?_
  intro p e s m args below meth c s₁ B hml hv
  subst hv
  have hx := B.exec
  have hb := B.bytes
  have hr := B.returns
  have hts := atoms_spec (ws := wsX8_doubleOf) B.pre
  have hown : s.vm.findClass RX8 = some m.cls := findClass_of_methodNamed B.named
  have hlocks := B.notSynchronized
  obtain ⟨JR, hE⟩ : ∃ q, jX8_doubleOf a0 = q := ⟨_, rfl⟩
  have hJ := hE
  rw [jX8_doubleOf] at hJ
  rw [sX8_doubleOf] at hV
  have hV := hV.2
  have hl := lv_entry ([.long a0]) (n := 2) (Nat.le_of_ble_eq_true rfl)
  rw [lg_entry_eq]
  generalize (lg_sl ([.long a0]) ++ List.replicate (2 - (lg_sl ([.long a0])).length) Slot.unset).toArray = ls at hl ⊢
  have hl : lv_has ls 2 [(0, .long a0)] := hl
  refine lv_lload_n hx hb dX8_doubleOf_0 rfl (lv_at hl 0 rfl) ?_
  obtain ⟨hk1, hV⟩ := hV
  refine vn_l2d hx hb (hml.trans hl.1.symm) hown (hts (.methodLink RX8 94 ⟨"java/lang/Double", "longBitsToDouble", "(J)D"⟩) (by decide +kernel)) (hts (.native ⟨"java/lang/Double", "longBitsToDouble", "(J)D"⟩) (by decide +kernel)) (hts (.static ⟨"java/lang/Double", "longBitsToDouble", "(J)D"⟩) (by decide +kernel)) (hts (.initialized "java/lang/Double") (by decide +kernel)) hk1 (Nat.le_of_ble_eq_true rfl) (Nat.le_of_ble_eq_true rfl) dX8_doubleOf_1 ?_
  exact W.dret hx hb hr (fun t ht hW => ⟨_, rfl, hJ.trans hE.symm, ht⟩) (fun q h => absurd h List.not_mem_nil) dX8_doubleOf_4
