def jX8_drive_o10 (o : Ms) (a1 : Int32) (a2 : Int64) (o7 : Ms) (o10 : Ms) : Int32 × Ms := (((m_drives (s_drives o10 ((m_drives o10) + (1 : Int32)))) - (1 : Int32)), (s_drives o10 ((m_drives o10) + (1 : Int32))))
def sX8_drive_o10 (o : Ms) (a1 : Int32) (a2 : Int64) (o7 : Ms) (o10 : Ms) : Prop := True ∧ True
def jX8_drive_o7 (o : Ms) (a1 : Int32) (a2 : Int64) (o7 : Ms) : Int32 × Ms := (jX8_drive_o10 o a1 a2 o7 (s_pulled (s_gearOf o7 (upd (m_gearOf o7) (m_drives o7).toNatClampNeg (1 : Int32))) (upd (m_pulled (s_gearOf o7 (upd (m_gearOf o7) (m_drives o7).toNatClampNeg (1 : Int32)))) (m_drives (s_gearOf o7 (upd (m_gearOf o7) (m_drives o7).toNatClampNeg (1 : Int32)))).toNatClampNeg (0 : Int32))))
def sX8_drive_o7 (o : Ms) (a1 : Int32) (a2 : Int64) (o7 : Ms) : Prop := True ∧ (vp_in (m_drives o7) 20 ∧ (vp_in (m_drives (s_gearOf o7 (upd (m_gearOf o7) (m_drives o7).toNatClampNeg (1 : Int32)))) 20 ∧ (sX8_drive_o10 o a1 a2 o7 (s_pulled (s_gearOf o7 (upd (m_gearOf o7) (m_drives o7).toNatClampNeg (1 : Int32))) (upd (m_pulled (s_gearOf o7 (upd (m_gearOf o7) (m_drives o7).toNatClampNeg (1 : Int32)))) (m_drives (s_gearOf o7 (upd (m_gearOf o7) (m_drives o7).toNatClampNeg (1 : Int32)))).toNatClampNeg (0 : Int32))))))
def jX8_drive (o : Ms) (a1 : Int32) (a2 : Int64) : Int32 × Ms := (if (jX8_in (a1.toInt64) (0 : Int64) (2 : Int64)) = 0 then ((-102 : Int32), o) else (if (jX8_isFitDouble a2) = 0 then ((-102 : Int32), o) else (if (m_drives o) = (20 : Int32) then ((-103 : Int32), o) else (jX8_drive_o7 o a1 a2 (s_pullOf (s_sortOf o (upd (m_sortOf o) (m_drives o).toNatClampNeg a1)) (vf_upd (m_pullOf (s_sortOf o (upd (m_sortOf o) (m_drives o).toNatClampNeg a1))) (m_drives (s_sortOf o (upd (m_sortOf o) (m_drives o).toNatClampNeg a1))).toNatClampNeg (jX8_doubleOf a2)))))))
def sX8_drive (o : Ms) (a1 : Int32) (a2 : Int64) : Prop := True ∧ (if (jX8_in (a1.toInt64) (0 : Int64) (2 : Int64)) = 0 then True else (if (jX8_isFitDouble a2) = 0 then True else (if (m_drives o) = (20 : Int32) then True else (vp_in (m_drives o) 20 ∧ (sX8_doubleOf a2 ∧ (vp_in (m_drives (s_sortOf o (upd (m_sortOf o) (m_drives o).toNatClampNeg a1))) 20 ∧ (sX8_drive_o7 o a1 a2 (s_pullOf (s_sortOf o (upd (m_sortOf o) (m_drives o).toNatClampNeg a1)) (vf_upd (m_pullOf (s_sortOf o (upd (m_sortOf o) (m_drives o).toNatClampNeg a1))) (m_drives (s_sortOf o (upd (m_sortOf o) (m_drives o).toNatClampNeg a1))).toNatClampNeg (jX8_doubleOf a2))))))))))
set_option linter.constructorNameAsVariable false in
set_option maxHeartbeats 8000000 in
set_option maxRecDepth 100000 in
theorem qX8_drive (l : Launch) (dC : Nat → ClassId) (dI : Nat → Nat → Nat) (cy : Nat → ClassId) (y : Nat) (bd : Nat → Nat) (sz : Nat) (o : Ms) (a1 : Int32) (a2 : Int64) (hV : sX8_drive o a1 a2) : Met l yX8_drive wsX8_drive ({ frames := 2, cells := 0, slots := 0, locals := 44 }) (va_Pc [.ref y, .int a1, .long a2] (wI (dC, dI) (tyA cy) (WM cy y bd o) sz)) (va_Qi (fun r u => (r, u) = jX8_drive o a1 a2) (fun u t => wO (dC, dI) (tyA cy) (va_A (WM cy y bd o) sz) (WM cy y bd u) t) (va_A (WM cy y bd o) sz)) 0 0 (va_A (WM cy y bd o) sz) := by
  refine Met.ofW (cc := cX8_drive) (maxL := 4) (ret := some .int) (by decide) rfl ?_
  intro p e s m args below meth c s₁ B hml hv
  obtain ⟨rfl, hsz, hP, hK, hD0, hk⟩ := hv
  have hx := B.exec
  have hb := B.bytes
  have hr := B.returns
  have hts := atoms_spec (ws := wsX8_drive) B.pre
  have hown : s.vm.findClass RX8 = some m.cls := findClass_of_methodNamed B.named
  have hlocks := B.notSynchronized
  subst hsz
  have hD := hD0.self (sz := s.heap.size)
  generalize hAe : va_A (WM cy y bd o) s.heap.size = A at hD ⊢
  have hA : ∀ q : Nat, s.heap.size ≤ q → A q := fun q h => by rw [← hAe]; exact Or.inr h
  obtain ⟨H, hHe⟩ : ∃ H, s.heap = H := ⟨_, rfl⟩
  have hP : va_P (dC, dI) vwCl (WM cy y bd o) H := by rw [← hHe]; exact hP
  have hS : va_S A s.heap H [] := by rw [← hHe]; exact va_S.rf
  rw [w_heap hHe]
  have hi_wsX80 : ∀ w ∈ wsX80, w ∈ wsX8_drive := fun _ h => List.mem_cons_of_mem _ (List.mem_append_right _ h)
  obtain ⟨JR, hE⟩ : ∃ q, jX8_drive o a1 a2 = q := ⟨_, rfl⟩
  have hJ := hE
  rw [jX8_drive] at hJ
  rw [sX8_drive] at hV
  have hV := hV.2
  have hl := lv_entry ([.ref y, .int a1, .long a2]) (n := 4) (Nat.le_of_ble_eq_true rfl)
  rw [lg_entry_eq]
  generalize (lg_sl ([.ref y, .int a1, .long a2]) ++ List.replicate (4 - (lg_sl ([.ref y, .int a1, .long a2])).length) Slot.unset).toArray = ls at hl ⊢
  have hl : lv_has ls 4 [(0, .ref y), (1, .int a1), (2, .long a2)] := hl
  refine lv_iload_n hx hb dX8_drive_0 rfl (lv_at hl 1 rfl) ?_
  refine lv_i2l (v := a1.toInt64) hx hb dX8_drive_1 rfl ?_
  refine lv_lconst (v := (0 : Int64)) hx hb dX8_drive_2 (by decide) ?_
  refine lv_ldc2 (v := (2 : Int64)) hx hb hown (hts (.constantLong RX8 161 (2)) (by decide +kernel)) dX8_drive_3 ?_
  refine vp_callSi (W.runS (As := [.long (a1.toInt64), .long (0 : Int64), .long (2 : Int64)]) (rest := []) ⟨hx, hb, hml, hown, hts⟩ (qX8_in l (a1.toInt64) (0 : Int64) (2 : Int64)) (va_cwS 3 hts gX8_drive_X8_in rfl rfl rfl (by decide +kernel) ⟨Nat.le_of_ble_eq_true rfl, Nat.le_of_ble_eq_true rfl⟩) ⟨fun _ _ _ _ q => q, fun U hU hW => rfl⟩ rfl rfl hl.1 rfl (lv_room (Nat.le_of_ble_eq_true rfl)) dX8_drive_6 ⟨Nat.le_of_ble_eq_true rfl, Nat.le_of_ble_eq_true rfl⟩) (fun r hq9 => ?_)
  rw [hq9]
  refine lv_if_eq (tgt := 19) hx hb dX8_drive_9 (by decide) (fun c1 => ?_) (fun c1 => ?_)
  · skip
    rw [if_pos c1] at hJ
    rw [if_pos c1] at hV
    refine lv_bipush (v := (-102 : Int32)) hx hb dX8_drive_19 (by decide) ?_
    exact W.iret hx hb hr (fun t ht hW => ⟨⟨_, _, rfl, hJ.trans hE.symm, by rw [ht]; exact hP, va_K.moved hW.alike hK, hD⟩, hS.F ht⟩) hS.2.2 dX8_drive_21
  · skip
    rw [if_neg c1] at hJ
    rw [if_neg c1] at hV
    refine lv_lload_n hx hb dX8_drive_12 rfl (lv_at hl 2 rfl) ?_
    refine vp_callSi (W.runS (As := [.long a2]) (rest := []) ⟨hx, hb, hml, hown, hts⟩ (qX8_isFitDouble l a2) (va_cwS 1 hts gX8_drive_X8_isFitDouble rfl rfl rfl (by decide +kernel) ⟨Nat.le_of_ble_eq_true rfl, Nat.le_of_ble_eq_true rfl⟩) ⟨fun _ _ _ _ q => q, fun U hU hW => rfl⟩ rfl rfl hl.1 rfl (lv_room (Nat.le_of_ble_eq_true rfl)) dX8_drive_13 ⟨Nat.le_of_ble_eq_true rfl, Nat.le_of_ble_eq_true rfl⟩) (fun r hq9 => ?_)
    rw [hq9]
    refine lv_if_ne (tgt := 22) hx hb dX8_drive_16 (by decide) (fun c2 => ?_) (fun c2 => ?_)
    · skip
      rw [if_neg c2] at hJ
      rw [if_neg c2] at hV
      refine lv_aload_n hx hb dX8_drive_22 rfl (lv_at hl 0 rfl) ?_
      refine va_get (D := (dC, dI)) (ci := 6) (v := .int (m_drives o)) (C := RX8) (T := TX8) (N := 20) (fs := wm_f bd o) hx hb hts hi_wsX80 hown hK hP 0 rfl rfl 7 (by decide) (hts (.fieldLink RX8 156 "OrreryDialsModel" "drives" "I") (by decide +kernel)) (fun _ h9 => h9) rfl dX8_drive_23 ?_
      refine lv_bipush (v := (20 : Int32)) hx hb dX8_drive_26 (by decide) ?_
      refine lv_icmp_ne (tgt := 34) hx hb dX8_drive_28 (by decide) (fun c3 => ?_) (fun c3 => ?_)
      · skip
        rw [if_neg c3] at hJ
        rw [if_neg c3] at hV
        refine lv_aload_n hx hb dX8_drive_34 rfl (lv_at hl 0 rfl) ?_
        refine va_get (D := (dC, dI)) (ci := 6) (v := .ref (bd 6)) (C := RX8) (T := TX8) (N := 20) (fs := wm_f bd o) hx hb hts hi_wsX80 hown hK hP 0 rfl rfl 8 (by decide) (hts (.fieldLink RX8 31 "OrreryDialsModel" "sortOf" "[I") (by decide +kernel)) (fun _ h9 => h9) rfl dX8_drive_35 ?_
        refine lv_aload_n hx hb dX8_drive_38 rfl (lv_at hl 0 rfl) ?_
        refine va_get (D := (dC, dI)) (ci := 6) (v := .int (m_drives o)) (C := RX8) (T := TX8) (N := 20) (fs := wm_f bd o) hx hb hts hi_wsX80 hown hK hP 0 rfl rfl 7 (by decide) (hts (.fieldLink RX8 156 "OrreryDialsModel" "drives" "I") (by decide +kernel)) (fun _ h9 => h9) rfl dX8_drive_39 ?_
        refine lv_iload_n hx hb dX8_drive_42 rfl (lv_at hl 1 rfl) ?_
        obtain ⟨hk4, hV⟩ := hV
        refine va_iast hx hb hK hP hD hS 7 0 rfl rfl hk4 dX8_drive_43 (fun H locs hP hD hS => ?_)
        rw [wm_a_sortOf] at hP hD
        refine lv_aload_n hx hb dX8_drive_44 rfl (lv_at hl 0 rfl) ?_
        refine va_get (D := (dC, dI)) (ci := 6) (v := .ref (bd 7)) (C := RX8) (T := TX8) (N := 20) (fs := wm_f bd (s_sortOf o (upd (m_sortOf o) (m_drives o).toNatClampNeg a1))) hx hb hts hi_wsX80 hown hK hP 0 rfl rfl 9 (by decide) (hts (.fieldLink RX8 35 "OrreryDialsModel" "pullOf" "[D") (by decide +kernel)) (fun _ h9 => h9) rfl dX8_drive_45 ?_
        refine lv_aload_n hx hb dX8_drive_48 rfl (lv_at hl 0 rfl) ?_
        refine va_get (D := (dC, dI)) (ci := 6) (v := .int (m_drives (s_sortOf o (upd (m_sortOf o) (m_drives o).toNatClampNeg a1)))) (C := RX8) (T := TX8) (N := 20) (fs := wm_f bd (s_sortOf o (upd (m_sortOf o) (m_drives o).toNatClampNeg a1))) hx hb hts hi_wsX80 hown hK hP 0 rfl rfl 7 (by decide) (hts (.fieldLink RX8 156 "OrreryDialsModel" "drives" "I") (by decide +kernel)) (fun _ h9 => h9) rfl dX8_drive_49 ?_
        refine lv_lload_n hx hb dX8_drive_52 rfl (lv_at hl 2 rfl) ?_
        obtain ⟨hk5, hV⟩ := hV
        refine vp_callSd (W.runS (As := [.long a2]) (rest := [.int (m_drives (s_sortOf o (upd (m_sortOf o) (m_drives o).toNatClampNeg a1))), .ref (bd 7)]) ⟨hx, hb, hml, hown, hts⟩ (qX8_doubleOf l a2 hk5) (va_cwS 1 hts gX8_drive_X8_doubleOf rfl rfl rfl (by decide +kernel) ⟨Nat.le_of_ble_eq_true rfl, Nat.le_of_ble_eq_true rfl⟩) ⟨fun _ _ _ _ q => q, fun U hU hW => rfl⟩ rfl rfl hl.1 rfl (lv_room (Nat.le_of_ble_eq_true rfl)) dX8_drive_53 ⟨Nat.le_of_ble_eq_true rfl, Nat.le_of_ble_eq_true rfl⟩) (fun r hq9 => ?_)
        rw [hq9]
        obtain ⟨hk6, hV⟩ := hV
        refine va_dast hx hb hK hP hD hS 8 4 rfl rfl hk6 dX8_drive_56 (fun H locs hP hD hS => ?_)
        rw [wm_a_pullOf] at hP hD
        obtain ⟨o7, eo7⟩ : ∃ z, z = (s_pullOf (s_sortOf o (upd (m_sortOf o) (m_drives o).toNatClampNeg a1)) (vf_upd (m_pullOf (s_sortOf o (upd (m_sortOf o) (m_drives o).toNatClampNeg a1))) (m_drives (s_sortOf o (upd (m_sortOf o) (m_drives o).toNatClampNeg a1))).toNatClampNeg (jX8_doubleOf a2))) := ⟨_, rfl⟩
        rw [← eo7] at hP hD hJ hV
        rw [jX8_drive_o7] at hJ
        rw [sX8_drive_o7] at hV
        have hV := hV.2
        refine lv_aload_n hx hb dX8_drive_57 rfl (lv_at hl 0 rfl) ?_
        refine va_get (D := (dC, dI)) (ci := 6) (v := .ref (bd 8)) (C := RX8) (T := TX8) (N := 20) (fs := wm_f bd o7) hx hb hts hi_wsX80 hown hK hP 0 rfl rfl 10 (by decide) (hts (.fieldLink RX8 38 "OrreryDialsModel" "gearOf" "[I") (by decide +kernel)) (fun _ h9 => h9) rfl dX8_drive_58 ?_
        refine lv_aload_n hx hb dX8_drive_61 rfl (lv_at hl 0 rfl) ?_
        refine va_get (D := (dC, dI)) (ci := 6) (v := .int (m_drives o7)) (C := RX8) (T := TX8) (N := 20) (fs := wm_f bd o7) hx hb hts hi_wsX80 hown hK hP 0 rfl rfl 7 (by decide) (hts (.fieldLink RX8 156 "OrreryDialsModel" "drives" "I") (by decide +kernel)) (fun _ h9 => h9) rfl dX8_drive_62 ?_
        refine lv_iconst (v := (1 : Int32)) hx hb dX8_drive_65 (by decide) ?_
        obtain ⟨hk8, hV⟩ := hV
        refine va_iast hx hb hK hP hD hS 9 0 rfl rfl hk8 dX8_drive_66 (fun H locs hP hD hS => ?_)
        rw [wm_a_gearOf] at hP hD
        refine lv_aload_n hx hb dX8_drive_67 rfl (lv_at hl 0 rfl) ?_
        refine va_get (D := (dC, dI)) (ci := 6) (v := .ref (bd 9)) (C := RX8) (T := TX8) (N := 20) (fs := wm_f bd (s_gearOf o7 (upd (m_gearOf o7) (m_drives o7).toNatClampNeg (1 : Int32)))) hx hb hts hi_wsX80 hown hK hP 0 rfl rfl 11 (by decide) (hts (.fieldLink RX8 41 "OrreryDialsModel" "pulled" "[I") (by decide +kernel)) (fun _ h9 => h9) rfl dX8_drive_68 ?_
        refine lv_aload_n hx hb dX8_drive_71 rfl (lv_at hl 0 rfl) ?_
        refine va_get (D := (dC, dI)) (ci := 6) (v := .int (m_drives (s_gearOf o7 (upd (m_gearOf o7) (m_drives o7).toNatClampNeg (1 : Int32))))) (C := RX8) (T := TX8) (N := 20) (fs := wm_f bd (s_gearOf o7 (upd (m_gearOf o7) (m_drives o7).toNatClampNeg (1 : Int32)))) hx hb hts hi_wsX80 hown hK hP 0 rfl rfl 7 (by decide) (hts (.fieldLink RX8 156 "OrreryDialsModel" "drives" "I") (by decide +kernel)) (fun _ h9 => h9) rfl dX8_drive_72 ?_
        refine lv_iconst (v := (0 : Int32)) hx hb dX8_drive_75 (by decide) ?_
        obtain ⟨hk9, hV⟩ := hV
        refine va_iast hx hb hK hP hD hS 10 0 rfl rfl hk9 dX8_drive_76 (fun H locs hP hD hS => ?_)
        rw [wm_a_pulled] at hP hD
        obtain ⟨o10, eo10⟩ : ∃ z, z = (s_pulled (s_gearOf o7 (upd (m_gearOf o7) (m_drives o7).toNatClampNeg (1 : Int32))) (upd (m_pulled (s_gearOf o7 (upd (m_gearOf o7) (m_drives o7).toNatClampNeg (1 : Int32)))) (m_drives (s_gearOf o7 (upd (m_gearOf o7) (m_drives o7).toNatClampNeg (1 : Int32)))).toNatClampNeg (0 : Int32))) := ⟨_, rfl⟩
        rw [← eo10] at hP hD hJ hV
        rw [jX8_drive_o10] at hJ
        rw [sX8_drive_o10] at hV
        have hV := hV.2
        refine lv_aload_n hx hb dX8_drive_77 rfl (lv_at hl 0 rfl) ?_
        refine lv_dup hx hb dX8_drive_78 rfl ?_
        refine va_get (D := (dC, dI)) (ci := 6) (v := .int (m_drives o10)) (C := RX8) (T := TX8) (N := 20) (fs := wm_f bd o10) hx hb hts hi_wsX80 hown hK hP 0 rfl rfl 7 (by decide) (hts (.fieldLink RX8 156 "OrreryDialsModel" "drives" "I") (by decide +kernel)) (fun _ h9 => h9) rfl dX8_drive_79 ?_
        refine lv_iconst (v := (1 : Int32)) hx hb dX8_drive_82 (by decide) ?_
        refine lv_iadd hx hb dX8_drive_83 ?_
        refine va_put (D := (dC, dI)) (ci := 6) (v := .int ((m_drives o10) + (1 : Int32))) (ty := .int) (C := RX8) (T := TX8) (N := 20) (fs := wm_f bd o10) hx hb hts hi_wsX80 tyX8 tyX8_ok nmX8 hown hK hP hD hS 0 rfl rfl 7 (by decide) (hts (.fieldLink RX8 156 "OrreryDialsModel" "drives" "I") (by decide +kernel)) (fun _ h9 => h9) rfl (by decide +kernel) rfl rfl (by rw [wm_len]; decide) dX8_drive_84 (fun H locs hP hD hS => ?_)
        rw [wm_p_drives] at hP hD
        refine lv_aload_n hx hb dX8_drive_87 rfl (lv_at hl 0 rfl) ?_
        refine va_get (D := (dC, dI)) (ci := 6) (v := .int (m_drives (s_drives o10 ((m_drives o10) + (1 : Int32))))) (C := RX8) (T := TX8) (N := 20) (fs := wm_f bd (s_drives o10 ((m_drives o10) + (1 : Int32)))) hx hb hts hi_wsX80 hown hK hP 0 rfl rfl 7 (by decide) (hts (.fieldLink RX8 156 "OrreryDialsModel" "drives" "I") (by decide +kernel)) (fun _ h9 => h9) rfl dX8_drive_88 ?_
        refine lv_iconst (v := (1 : Int32)) hx hb dX8_drive_91 (by decide) ?_
        refine lv_isub hx hb dX8_drive_92 ?_
        exact W.iret hx hb hr (fun t ht hW => ⟨⟨_, _, rfl, hJ.trans hE.symm, by rw [ht]; exact hP, va_K.moved hW.alike hK, hD⟩, hS.F ht⟩) hS.2.2 dX8_drive_93
      · skip
        rw [if_pos c3] at hJ
        rw [if_pos c3] at hV
        refine lv_bipush (v := (-103 : Int32)) hx hb dX8_drive_31 (by decide) ?_
        exact W.iret hx hb hr (fun t ht hW => ⟨⟨_, _, rfl, hJ.trans hE.symm, by rw [ht]; exact hP, va_K.moved hW.alike hK, hD⟩, hS.F ht⟩) hS.2.2 dX8_drive_33
    · skip
      rw [if_pos c2] at hJ
      rw [if_pos c2] at hV
      refine lv_bipush (v := (-102 : Int32)) hx hb dX8_drive_19 (by decide) ?_
      exact W.iret hx hb hr (fun t ht hW => ⟨⟨_, _, rfl, hJ.trans hE.symm, by rw [ht]; exact hP, va_K.moved hW.alike hK, hD⟩, hS.F ht⟩) hS.2.2 dX8_drive_21
def jX8_fit (o : Ms) (a1 : Int32) (a2 : Int32) : Int32 × Ms := (if (jX8_isSlot a1) = 0 then ((-101 : Int32), o) else (if a2 = (-1 : Int32) then ((1 : Int32), (s_slots o (upd (m_slots o) a1.toNatClampNeg a2))) else (if (jX8_isDrive o a2) = 0 then ((-101 : Int32), o) else ((1 : Int32), (s_slots o (upd (m_slots o) a1.toNatClampNeg a2))))))
def sX8_fit (o : Ms) (a1 : Int32) (a2 : Int32) : Prop := True ∧ (if (jX8_isSlot a1) = 0 then True else (if a2 = (-1 : Int32) then (vp_in a1 6 ∧ True) else (if (jX8_isDrive o a2) = 0 then True else (vp_in a1 6 ∧ True))))
set_option linter.constructorNameAsVariable false in
set_option maxHeartbeats 8000000 in
set_option maxRecDepth 100000 in
theorem qX8_fit (l : Launch) (dC : Nat → ClassId) (dI : Nat → Nat → Nat) (cy : Nat → ClassId) (y : Nat) (bd : Nat → Nat) (sz : Nat) (o : Ms) (a1 : Int32) (a2 : Int32) (hV : sX8_fit o a1 a2) : Met l yX8_fit wsX8_fit ({ frames := 2, cells := 0, slots := 0, locals := 46 }) (va_Pc [.ref y, .int a1, .int a2] (wI (dC, dI) (tyA cy) (WM cy y bd o) sz)) (va_Qi (fun r u => (r, u) = jX8_fit o a1 a2) (fun u t => wO (dC, dI) (tyA cy) (va_A (WM cy y bd o) sz) (WM cy y bd u) t) (va_A (WM cy y bd o) sz)) 0 0 (va_A (WM cy y bd o) sz) := by
  refine Met.ofW (cc := cX8_fit) (maxL := 3) (ret := some .int) (by decide) rfl ?_
  intro p e s m args below meth c s₁ B hml hv
  obtain ⟨rfl, hsz, hP, hK, hD0, hk⟩ := hv
  have hx := B.exec
  have hb := B.bytes
  have hr := B.returns
  have hts := atoms_spec (ws := wsX8_fit) B.pre
  have hown : s.vm.findClass RX8 = some m.cls := findClass_of_methodNamed B.named
  have hlocks := B.notSynchronized
  subst hsz
  have hD := hD0.self (sz := s.heap.size)
  generalize hAe : va_A (WM cy y bd o) s.heap.size = A at hD ⊢
  have hA : ∀ q : Nat, s.heap.size ≤ q → A q := fun q h => by rw [← hAe]; exact Or.inr h
  obtain ⟨H, hHe⟩ : ∃ H, s.heap = H := ⟨_, rfl⟩
  have hP : va_P (dC, dI) vwCl (WM cy y bd o) H := by rw [← hHe]; exact hP
  have hS : va_S A s.heap H [] := by rw [← hHe]; exact va_S.rf
  rw [w_heap hHe]
  have hi_wsX80 : ∀ w ∈ wsX80, w ∈ wsX8_fit := fun _ h => List.mem_cons_of_mem _ (List.mem_append_right _ h)
  obtain ⟨JR, hE⟩ : ∃ q, jX8_fit o a1 a2 = q := ⟨_, rfl⟩
  have hJ := hE
  rw [jX8_fit] at hJ
  rw [sX8_fit] at hV
  have hV := hV.2
  have hl := lv_entry ([.ref y, .int a1, .int a2]) (n := 3) (Nat.le_of_ble_eq_true rfl)
  rw [lg_entry_eq]
  generalize (lg_sl ([.ref y, .int a1, .int a2]) ++ List.replicate (3 - (lg_sl ([.ref y, .int a1, .int a2])).length) Slot.unset).toArray = ls at hl ⊢
  have hl : lv_has ls 3 [(0, .ref y), (1, .int a1), (2, .int a2)] := hl
  refine lv_iload_n hx hb dX8_fit_0 rfl (lv_at hl 1 rfl) ?_
  refine vp_callSi (W.runS (As := [.int a1]) (rest := []) ⟨hx, hb, hml, hown, hts⟩ (qX8_isSlot l a1) (va_cwS 1 hts gX8_fit_X8_isSlot rfl rfl rfl (by decide +kernel) ⟨Nat.le_of_ble_eq_true rfl, Nat.le_of_ble_eq_true rfl⟩) ⟨fun _ _ _ _ q => q, fun U hU hW => rfl⟩ rfl rfl hl.1 rfl (lv_room (Nat.le_of_ble_eq_true rfl)) dX8_fit_1 ⟨Nat.le_of_ble_eq_true rfl, Nat.le_of_ble_eq_true rfl⟩) (fun r hq9 => ?_)
  rw [hq9]
  refine lv_if_eq (tgt := 20) hx hb dX8_fit_4 (by decide) (fun c1 => ?_) (fun c1 => ?_)
  · skip
    rw [if_pos c1] at hJ
    rw [if_pos c1] at hV
    refine lv_bipush (v := (-101 : Int32)) hx hb dX8_fit_20 (by decide) ?_
    exact W.iret hx hb hr (fun t ht hW => ⟨⟨_, _, rfl, hJ.trans hE.symm, by rw [ht]; exact hP, va_K.moved hW.alike hK, hD⟩, hS.F ht⟩) hS.2.2 dX8_fit_22
  · skip
    rw [if_neg c1] at hJ
    rw [if_neg c1] at hV
    refine lv_iload_n hx hb dX8_fit_7 rfl (lv_at hl 2 rfl) ?_
    refine lv_iconst (v := (-1 : Int32)) hx hb dX8_fit_8 (by decide) ?_
    refine lv_icmp_eq (tgt := 23) hx hb dX8_fit_9 (by decide) (fun c2 => ?_) (fun c2 => ?_)
    · skip
      rw [if_pos c2] at hJ
      rw [if_pos c2] at hV
      refine lv_aload_n hx hb dX8_fit_23 rfl (lv_at hl 0 rfl) ?_
      refine va_get (D := (dC, dI)) (ci := 6) (v := .ref (bd 10)) (C := RX8) (T := TX8) (N := 20) (fs := wm_f bd o) hx hb hts hi_wsX80 hown hK hP 0 rfl rfl 12 (by decide) (hts (.fieldLink RX8 44 "OrreryDialsModel" "slots" "[I") (by decide +kernel)) (fun _ h9 => h9) rfl dX8_fit_24 ?_
      refine lv_iload_n hx hb dX8_fit_27 rfl (lv_at hl 1 rfl) ?_
      refine lv_iload_n hx hb dX8_fit_28 rfl (lv_at hl 2 rfl) ?_
      obtain ⟨hk3, hV⟩ := hV
      refine va_iast hx hb hK hP hD hS 11 0 rfl rfl hk3 dX8_fit_29 (fun H locs hP hD hS => ?_)
      rw [wm_a_slots] at hP hD
      refine lv_iconst (v := (1 : Int32)) hx hb dX8_fit_30 (by decide) ?_
      exact W.iret hx hb hr (fun t ht hW => ⟨⟨_, _, rfl, hJ.trans hE.symm, by rw [ht]; exact hP, va_K.moved hW.alike hK, hD⟩, hS.F ht⟩) hS.2.2 dX8_fit_31
    · skip
      rw [if_neg c2] at hJ
      rw [if_neg c2] at hV
      refine lv_aload_n hx hb dX8_fit_12 rfl (lv_at hl 0 rfl) ?_
      refine lv_iload_n hx hb dX8_fit_13 rfl (lv_at hl 2 rfl) ?_
      refine vp_callSi (W.runV (As := [.int a2]) (rest := []) ⟨hx, hb, hml, hown, hts⟩ (qX8_isDrive l dC dI cy y bd H.size o a2) (cwV 1 hts gX8_fit_X8_isDrive rfl rfl rfl (by decide +kernel) ⟨Nat.le_of_ble_eq_true rfl, Nat.le_of_ble_eq_true rfl⟩) (pV hK hP hD hk (q0 := 0) rfl rfl) rfl rfl hl.1 rfl (lv_room (Nat.le_of_ble_eq_true rfl)) dX8_fit_14 ⟨Nat.le_of_ble_eq_true rfl, Nat.le_of_ble_eq_true rfl⟩) (fun r hq9 => ?_)
      rw [hq9]
      refine lv_if_ne (tgt := 23) hx hb dX8_fit_17 (by decide) (fun c4 => ?_) (fun c4 => ?_)
      · skip
        rw [if_neg c4] at hJ
        rw [if_neg c4] at hV
        refine lv_aload_n hx hb dX8_fit_23 rfl (lv_at hl 0 rfl) ?_
        refine va_get (D := (dC, dI)) (ci := 6) (v := .ref (bd 10)) (C := RX8) (T := TX8) (N := 20) (fs := wm_f bd o) hx hb hts hi_wsX80 hown hK hP 0 rfl rfl 12 (by decide) (hts (.fieldLink RX8 44 "OrreryDialsModel" "slots" "[I") (by decide +kernel)) (fun _ h9 => h9) rfl dX8_fit_24 ?_
        refine lv_iload_n hx hb dX8_fit_27 rfl (lv_at hl 1 rfl) ?_
        refine lv_iload_n hx hb dX8_fit_28 rfl (lv_at hl 2 rfl) ?_
        obtain ⟨hk5, hV⟩ := hV
        refine va_iast hx hb hK hP hD hS 11 0 rfl rfl hk5 dX8_fit_29 (fun H locs hP hD hS => ?_)
        rw [wm_a_slots] at hP hD
        refine lv_iconst (v := (1 : Int32)) hx hb dX8_fit_30 (by decide) ?_
        exact W.iret hx hb hr (fun t ht hW => ⟨⟨_, _, rfl, hJ.trans hE.symm, by rw [ht]; exact hP, va_K.moved hW.alike hK, hD⟩, hS.F ht⟩) hS.2.2 dX8_fit_31
      · skip
        rw [if_pos c4] at hJ
        rw [if_pos c4] at hV
        refine lv_bipush (v := (-101 : Int32)) hx hb dX8_fit_20 (by decide) ?_
        exact W.iret hx hb hr (fun t ht hW => ⟨⟨_, _, rfl, hJ.trans hE.symm, by rw [ht]; exact hP, va_K.moved hW.alike hK, hD⟩, hS.F ht⟩) hS.2.2 dX8_fit_22
def jX8_hauls_o35 (o : Ms) (a1 : Int32) (a2 : Int32) (y2 : UInt64) (y4 : UInt64) (y16 : UInt64) (y25 : UInt64) (y32 : UInt32) (o35 : Ms) : Int32 × Ms := (if ((jX8_goesFloat (s_pulled o (upd (m_pulled o) a1.toNatClampNeg ((m_pulled o a1.toNatClampNeg) + (1 : Int32)))) a2 y32).1) = 0 then ((0 : Int32), o35) else ((1 : Int32), o35))
def sX8_hauls_o35 (o : Ms) (a1 : Int32) (a2 : Int32) (y2 : UInt64) (y4 : UInt64) (y16 : UInt64) (y25 : UInt64) (y32 : UInt32) (o35 : Ms) : Prop := True ∧ (if ((jX8_goesFloat (s_pulled o (upd (m_pulled o) a1.toNatClampNeg ((m_pulled o a1.toNatClampNeg) + (1 : Int32)))) a2 y32).1) = 0 then True else True)
def jX8_hauls_y32 (o : Ms) (a1 : Int32) (a2 : Int32) (y2 : UInt64) (y4 : UInt64) (y16 : UInt64) (y25 : UInt64) (y32 : UInt32) : Int32 × Ms := (if (jX8_isEndlessFloat y32) = 0 then (jX8_hauls_o35 o a1 a2 y2 y4 y16 y25 y32 ((jX8_goesFloat (s_pulled o (upd (m_pulled o) a1.toNatClampNeg ((m_pulled o a1.toNatClampNeg) + (1 : Int32)))) a2 y32).2)) else ((0 : Int32), (s_pulled o (upd (m_pulled o) a1.toNatClampNeg ((m_pulled o a1.toNatClampNeg) + (1 : Int32))))))
def sX8_hauls_y32 (o : Ms) (a1 : Int32) (a2 : Int32) (y2 : UInt64) (y4 : UInt64) (y16 : UInt64) (y25 : UInt64) (y32 : UInt32) : Prop := True ∧ (if (jX8_isEndlessFloat y32) = 0 then (sX8_goesFloat (s_pulled o (upd (m_pulled o) a1.toNatClampNeg ((m_pulled o a1.toNatClampNeg) + (1 : Int32)))) a2 y32 ∧ (sX8_hauls_o35 o a1 a2 y2 y4 y16 y25 y32 ((jX8_goesFloat (s_pulled o (upd (m_pulled o) a1.toNatClampNeg ((m_pulled o a1.toNatClampNeg) + (1 : Int32)))) a2 y32).2))) else True)
def jX8_hauls_y25 (o : Ms) (a1 : Int32) (a2 : Int32) (y2 : UInt64) (y4 : UInt64) (y16 : UInt64) (y25 : UInt64) : Int32 × Ms := (if (jX8_isEndless y25) = 0 then (if (m_isFine (s_pulled o (upd (m_pulled o) a1.toNatClampNeg ((m_pulled o a1.toNatClampNeg) + (1 : Int32)))) a2.toNatClampNeg) = 0 then (jX8_hauls_y32 o a1 a2 y2 y4 y16 y25 (FP.d2f y25)) else ((jX8_goesDouble (s_pulled o (upd (m_pulled o) a1.toNatClampNeg ((m_pulled o a1.toNatClampNeg) + (1 : Int32)))) a2 y25).1, (jX8_goesDouble (s_pulled o (upd (m_pulled o) a1.toNatClampNeg ((m_pulled o a1.toNatClampNeg) + (1 : Int32)))) a2 y25).2)) else ((0 : Int32), (s_pulled o (upd (m_pulled o) a1.toNatClampNeg ((m_pulled o a1.toNatClampNeg) + (1 : Int32))))))
def sX8_hauls_y25 (o : Ms) (a1 : Int32) (a2 : Int32) (y2 : UInt64) (y4 : UInt64) (y16 : UInt64) (y25 : UInt64) : Prop := True ∧ (if (jX8_isEndless y25) = 0 then (vp_in a2 12 ∧ (if (m_isFine (s_pulled o (upd (m_pulled o) a1.toNatClampNeg ((m_pulled o a1.toNatClampNeg) + (1 : Int32)))) a2.toNatClampNeg) = 0 then (vf_n32 (FP.d2f y25) ∧ (sX8_hauls_y32 o a1 a2 y2 y4 y16 y25 (FP.d2f y25))) else (sX8_goesDouble (s_pulled o (upd (m_pulled o) a1.toNatClampNeg ((m_pulled o a1.toNatClampNeg) + (1 : Int32)))) a2 y25 ∧ True))) else True)
def jX8_hauls_y16 (o : Ms) (a1 : Int32) (a2 : Int32) (y2 : UInt64) (y4 : UInt64) (y16 : UInt64) : Int32 × Ms := (if (jX8_isEndless y4) = 0 then (if (jX8_isEndless y16) = 0 then (jX8_hauls_y25 o a1 a2 y2 y4 y16 (if (m_sortOf (s_pulled o (upd (m_pulled o) a1.toNatClampNeg ((m_pulled o a1.toNatClampNeg) + (1 : Int32)))) a1.toNatClampNeg) = (2 : Int32) then (FP.dadd y4 y16) else y4)) else ((0 : Int32), (s_pulled o (upd (m_pulled o) a1.toNatClampNeg ((m_pulled o a1.toNatClampNeg) + (1 : Int32)))))) else ((0 : Int32), (s_pulled o (upd (m_pulled o) a1.toNatClampNeg ((m_pulled o a1.toNatClampNeg) + (1 : Int32))))))
def sX8_hauls_y16 (o : Ms) (a1 : Int32) (a2 : Int32) (y2 : UInt64) (y4 : UInt64) (y16 : UInt64) : Prop := True ∧ (vp_in a1 20 ∧ (vp_in a1 20 ∧ (if (jX8_isEndless y4) = 0 then (if (jX8_isEndless y16) = 0 then (vp_in a1 20 ∧ ((if (m_sortOf (s_pulled o (upd (m_pulled o) a1.toNatClampNeg ((m_pulled o a1.toNatClampNeg) + (1 : Int32)))) a1.toNatClampNeg) = (2 : Int32) then (vf_n64 (FP.dadd y4 y16) ∧ True) else True) ∧ (sX8_hauls_y25 o a1 a2 y2 y4 y16 (if (m_sortOf (s_pulled o (upd (m_pulled o) a1.toNatClampNeg ((m_pulled o a1.toNatClampNeg) + (1 : Int32)))) a1.toNatClampNeg) = (2 : Int32) then (FP.dadd y4 y16) else y4)))) else True) else True)))
def jX8_hauls_y4 (o : Ms) (a1 : Int32) (a2 : Int32) (y2 : UInt64) (y4 : UInt64) : Int32 × Ms := (jX8_hauls_y16 o a1 a2 y2 y4 (if (m_sortOf o a1.toNatClampNeg) = (2 : Int32) then (FP.dmul y2 (FP.i2d (m_pulled o a1.toNatClampNeg))) else FP.dconst0))
def sX8_hauls_y4 (o : Ms) (a1 : Int32) (a2 : Int32) (y2 : UInt64) (y4 : UInt64) : Prop := True ∧ (vp_in a1 20 ∧ ((if (m_sortOf o a1.toNatClampNeg) = (2 : Int32) then (vp_in a1 20 ∧ (vf_n64 (FP.dmul y2 (FP.i2d (m_pulled o a1.toNatClampNeg))) ∧ True)) else True) ∧ (sX8_hauls_y16 o a1 a2 y2 y4 (if (m_sortOf o a1.toNatClampNeg) = (2 : Int32) then (FP.dmul y2 (FP.i2d (m_pulled o a1.toNatClampNeg))) else FP.dconst0))))
def jX8_hauls_y2 (o : Ms) (a1 : Int32) (a2 : Int32) (y2 : UInt64) : Int32 × Ms := (jX8_hauls_y4 o a1 a2 y2 (if (m_sortOf o a1.toNatClampNeg) = 0 then (if (m_isFine o a2.toNatClampNeg) = 0 then (FP.dsub y2 (FP.f2d (m_placeF o a2.toNatClampNeg))) else (FP.dsub y2 (m_placeD o a2.toNatClampNeg))) else (FP.dmul y2 (FP.i2d (m_gearOf o a1.toNatClampNeg)))))
def sX8_hauls_y2 (o : Ms) (a1 : Int32) (a2 : Int32) (y2 : UInt64) : Prop := True ∧ (vp_in a1 20 ∧ ((if (m_sortOf o a1.toNatClampNeg) = 0 then (vp_in a2 12 ∧ (if (m_isFine o a2.toNatClampNeg) = 0 then (vp_in a2 12 ∧ (vf_n64 (FP.f2d (m_placeF o a2.toNatClampNeg)) ∧ (vf_n64 (FP.dsub y2 (FP.f2d (m_placeF o a2.toNatClampNeg))) ∧ True))) else (vp_in a2 12 ∧ (vf_n64 (FP.dsub y2 (m_placeD o a2.toNatClampNeg)) ∧ True)))) else (vp_in a1 20 ∧ (vf_n64 (FP.dmul y2 (FP.i2d (m_gearOf o a1.toNatClampNeg))) ∧ True))) ∧ (sX8_hauls_y4 o a1 a2 y2 (if (m_sortOf o a1.toNatClampNeg) = 0 then (if (m_isFine o a2.toNatClampNeg) = 0 then (FP.dsub y2 (FP.f2d (m_placeF o a2.toNatClampNeg))) else (FP.dsub y2 (m_placeD o a2.toNatClampNeg))) else (FP.dmul y2 (FP.i2d (m_gearOf o a1.toNatClampNeg)))))))
def jX8_hauls (o : Ms) (a1 : Int32) (a2 : Int32) : Int32 × Ms := (jX8_hauls_y2 o a1 a2 (m_pullOf o a1.toNatClampNeg))
def sX8_hauls (o : Ms) (a1 : Int32) (a2 : Int32) : Prop := True ∧ (vp_in a1 20 ∧ (sX8_hauls_y2 o a1 a2 (m_pullOf o a1.toNatClampNeg)))
set_option linter.constructorNameAsVariable false in
set_option maxHeartbeats 8000000 in
set_option maxRecDepth 100000 in
theorem qX8_hauls (l : Launch) (dC : Nat → ClassId) (dI : Nat → Nat → Nat) (cy : Nat → ClassId) (y : Nat) (bd : Nat → Nat) (sz : Nat) (o : Ms) (a1 : Int32) (a2 : Int32) (hV : sX8_hauls o a1 a2) : Met l yX8_hauls wsX8_hauls ({ frames := 2, cells := 0, slots := 0, locals := 46 }) (va_Pc [.ref y, .int a1, .int a2] (wI (dC, dI) (tyA cy) (WM cy y bd o) sz)) (va_Qi (fun r u => (r, u) = jX8_hauls o a1 a2) (fun u t => wO (dC, dI) (tyA cy) (va_A (WM cy y bd o) sz) (WM cy y bd u) t) (va_A (WM cy y bd o) sz)) 0 0 (va_A (WM cy y bd o) sz) := by
  refine Met.ofW (cc := cX8_hauls) (maxL := 12) (ret := some .boolean) (by decide) rfl ?_
  intro p e s m args below meth c s₁ B hml hv
  obtain ⟨rfl, hsz, hP, hK, hD0, hk⟩ := hv
  have hx := B.exec
  have hb := B.bytes
  have hr := B.returns
  have hts := atoms_spec (ws := wsX8_hauls) B.pre
  have hown : s.vm.findClass RX8 = some m.cls := findClass_of_methodNamed B.named
  have hlocks := B.notSynchronized
  subst hsz
  have hD := hD0.self (sz := s.heap.size)
  generalize hAe : va_A (WM cy y bd o) s.heap.size = A at hD ⊢
  have hA : ∀ q : Nat, s.heap.size ≤ q → A q := fun q h => by rw [← hAe]; exact Or.inr h
  obtain ⟨H, hHe⟩ : ∃ H, s.heap = H := ⟨_, rfl⟩
  have hP : va_P (dC, dI) vwCl (WM cy y bd o) H := by rw [← hHe]; exact hP
  have hS : va_S A s.heap H [] := by rw [← hHe]; exact va_S.rf
  rw [w_heap hHe]
  have hi_wsX80 : ∀ w ∈ wsX80, w ∈ wsX8_hauls := fun _ h => List.mem_cons_of_mem _ (List.mem_append_right _ h)
  obtain ⟨JR, hE⟩ : ∃ q, jX8_hauls o a1 a2 = q := ⟨_, rfl⟩
  have hJ := hE
  rw [jX8_hauls] at hJ
  rw [sX8_hauls] at hV
  have hV := hV.2
  have hl := lv_entry ([.ref y, .int a1, .int a2]) (n := 12) (Nat.le_of_ble_eq_true rfl)
  rw [lg_entry_eq]
  generalize (lg_sl ([.ref y, .int a1, .int a2]) ++ List.replicate (12 - (lg_sl ([.ref y, .int a1, .int a2])).length) Slot.unset).toArray = ls at hl ⊢
  have hl : lv_has ls 12 [(0, .ref y), (1, .int a1), (2, .int a2)] := hl
  refine lv_aload_n hx hb dX8_hauls_0 rfl (lv_at hl 0 rfl) ?_
  refine va_get (D := (dC, dI)) (ci := 6) (v := .ref (bd 7)) (C := RX8) (T := TX8) (N := 20) (fs := wm_f bd o) hx hb hts hi_wsX80 hown hK hP 0 rfl rfl 9 (by decide) (hts (.fieldLink RX8 35 "OrreryDialsModel" "pullOf" "[D") (by decide +kernel)) (fun _ h9 => h9) rfl dX8_hauls_1 ?_
  refine lv_iload_n hx hb dX8_hauls_4 rfl (lv_at hl 1 rfl) ?_
  obtain ⟨hk1, hV⟩ := hV
  refine va_dald hx hb hK hP 8 4 rfl rfl hk1 dX8_hauls_5 ?_
  refine lv_topd (fun y2 ey2 => ?_)
  rw [← ey2] at hJ
  rw [jX8_hauls_y2] at hJ
  rw [← ey2] at hV
  rw [sX8_hauls_y2] at hV
  have hV := hV.2
  refine lv_dstore_n (lv' := [(3, .double y2), (0, .ref y), (1, .int a1), (2, .int a2)]) hx hb dX8_hauls_6 rfl hl (by decide) rfl (fun ls hl => ?_)
  refine lv_aload_n hx hb dX8_hauls_7 rfl (lv_at hl 1 rfl) ?_
  refine va_get (D := (dC, dI)) (ci := 6) (v := .ref (bd 6)) (C := RX8) (T := TX8) (N := 20) (fs := wm_f bd o) hx hb hts hi_wsX80 hown hK hP 0 rfl rfl 8 (by decide) (hts (.fieldLink RX8 31 "OrreryDialsModel" "sortOf" "[I") (by decide +kernel)) (fun _ h9 => h9) rfl dX8_hauls_8 ?_
  refine lv_iload_n hx hb dX8_hauls_11 rfl (lv_at hl 2 rfl) ?_
  obtain ⟨hk3, hV⟩ := hV
  refine va_iald hx hb hK hP 7 0 rfl rfl hk3 dX8_hauls_12 ?_
  obtain ⟨hv, hV⟩ := hV
  refine jn_d (J := 55) (ls := ls) (v := (if (m_sortOf o a1.toNatClampNeg) = 0 then (if (m_isFine o a2.toNatClampNeg) = 0 then (FP.dsub y2 (FP.f2d (m_placeF o a2.toNatClampNeg))) else (FP.dsub y2 (m_placeD o a2.toNatClampNeg))) else (FP.dmul y2 (FP.i2d (m_gearOf o a1.toNatClampNeg))))) (rest := []) ?_ (fun y4 ey4 => ?_)
  · intro hj
    refine lv_if_ne (tgt := 46) hx hb dX8_hauls_13 (by decide) (fun c5 => ?_) (fun c5 => ?_)
    · skip
      rw [if_neg c5] at hj
      try rw [if_neg c5] at hv
      refine lv_dload_n hx hb dX8_hauls_46 rfl (lv_at hl 0 rfl) ?_
      refine lv_aload_n hx hb dX8_hauls_47 rfl (lv_at hl 1 rfl) ?_
      refine va_get (D := (dC, dI)) (ci := 6) (v := .ref (bd 8)) (C := RX8) (T := TX8) (N := 20) (fs := wm_f bd o) hx hb hts hi_wsX80 hown hK hP 0 rfl rfl 10 (by decide) (hts (.fieldLink RX8 38 "OrreryDialsModel" "gearOf" "[I") (by decide +kernel)) (fun _ h9 => h9) rfl dX8_hauls_48 ?_
      refine lv_iload_n hx hb dX8_hauls_51 rfl (lv_at hl 2 rfl) ?_
      obtain ⟨hk6, hv⟩ := hv
      refine va_iald hx hb hK hP 9 0 rfl rfl hk6 dX8_hauls_52 ?_
      refine lv_i2d hx hb dX8_hauls_53 ?_
      obtain ⟨hk7, hv⟩ := hv
      refine lv_dmul hx hb dX8_hauls_54 hk7 ?_
      exact hj
    · skip
      rw [if_pos c5] at hj
      try rw [if_pos c5] at hv
      refine lv_dload_n hx hb dX8_hauls_16 rfl (lv_at hl 0 rfl) ?_
      refine lv_aload_n hx hb dX8_hauls_17 rfl (lv_at hl 1 rfl) ?_
      refine va_get (D := (dC, dI)) (ci := 6) (v := .ref (bd 0)) (C := RX8) (T := TX8) (N := 20) (fs := wm_f bd o) hx hb hts hi_wsX80 hown hK hP 0 rfl rfl 1 (by decide) (hts (.fieldLink RX8 7 "OrreryDialsModel" "isFine" "[Z") (by decide +kernel)) (fun _ h9 => h9) rfl dX8_hauls_18 ?_
      refine lv_iload_n hx hb dX8_hauls_21 rfl (lv_at hl 3 rfl) ?_
      obtain ⟨hk8, hv⟩ := hv
      refine va_zald hx hb hK hP 1 2 rfl rfl hk8 dX8_hauls_22 ?_
      refine lv_if_eq (tgt := 35) hx hb dX8_hauls_23 (by decide) (fun c9 => ?_) (fun c9 => ?_)
      · skip
        rw [if_pos c9] at hj
        try rw [if_pos c9] at hv
        refine lv_aload_n hx hb dX8_hauls_35 rfl (lv_at hl 1 rfl) ?_
        refine va_get (D := (dC, dI)) (ci := 6) (v := .ref (bd 2)) (C := RX8) (T := TX8) (N := 20) (fs := wm_f bd o) hx hb hts hi_wsX80 hown hK hP 0 rfl rfl 3 (by decide) (hts (.fieldLink RX8 17 "OrreryDialsModel" "placeF" "[F") (by decide +kernel)) (fun _ h9 => h9) rfl dX8_hauls_36 ?_
        refine lv_iload_n hx hb dX8_hauls_39 rfl (lv_at hl 3 rfl) ?_
        obtain ⟨hk10, hv⟩ := hv
        refine va_fald hx hb hK hP 3 3 rfl rfl hk10 dX8_hauls_40 ?_
        obtain ⟨hk11, hv⟩ := hv
        refine lv_f2d hx hb dX8_hauls_41 hk11 ?_
        obtain ⟨hk12, hv⟩ := hv
        refine lv_dsub hx hb dX8_hauls_42 hk12 ?_
        refine lv_goto (tgt := 55) hx hb dX8_hauls_43 (by decide) ?_
        exact hj
      · skip
        rw [if_neg c9] at hj
        try rw [if_neg c9] at hv
        refine lv_aload_n hx hb dX8_hauls_26 rfl (lv_at hl 1 rfl) ?_
        refine va_get (D := (dC, dI)) (ci := 6) (v := .ref (bd 4)) (C := RX8) (T := TX8) (N := 20) (fs := wm_f bd o) hx hb hts hi_wsX80 hown hK hP 0 rfl rfl 5 (by decide) (hts (.fieldLink RX8 24 "OrreryDialsModel" "placeD" "[D") (by decide +kernel)) (fun _ h9 => h9) rfl dX8_hauls_27 ?_
        refine lv_iload_n hx hb dX8_hauls_30 rfl (lv_at hl 3 rfl) ?_
        obtain ⟨hk13, hv⟩ := hv
        refine va_dald hx hb hK hP 5 4 rfl rfl hk13 dX8_hauls_31 ?_
        refine lv_goto (tgt := 42) hx hb dX8_hauls_32 (by decide) ?_
        obtain ⟨hk14, hv⟩ := hv
        refine lv_dsub hx hb dX8_hauls_42 hk14 ?_
        refine lv_goto (tgt := 55) hx hb dX8_hauls_43 (by decide) ?_
        exact hj
  rw [← ey4] at hJ
  rw [jX8_hauls_y4] at hJ
  rw [← ey4] at hV
  rw [sX8_hauls_y4] at hV
  have hV := hV.2
  refine lv_dstore (lv' := [(5, .double y4), (3, .double y2), (0, .ref y), (1, .int a1), (2, .int a2)]) hx hb dX8_hauls_55 hl (by decide) rfl (fun ls hl => ?_)
  refine lv_aload_n hx hb dX8_hauls_57 rfl (lv_at hl 2 rfl) ?_
  refine va_get (D := (dC, dI)) (ci := 6) (v := .ref (bd 6)) (C := RX8) (T := TX8) (N := 20) (fs := wm_f bd o) hx hb hts hi_wsX80 hown hK hP 0 rfl rfl 8 (by decide) (hts (.fieldLink RX8 31 "OrreryDialsModel" "sortOf" "[I") (by decide +kernel)) (fun _ h9 => h9) rfl dX8_hauls_58 ?_
  refine lv_iload_n hx hb dX8_hauls_61 rfl (lv_at hl 3 rfl) ?_
  obtain ⟨hk15, hV⟩ := hV
  refine va_iald hx hb hK hP 7 0 rfl rfl hk15 dX8_hauls_62 ?_
  refine lv_iconst (v := (2 : Int32)) hx hb dX8_hauls_63 (by decide) ?_
  obtain ⟨hv, hV⟩ := hV
  refine jn_d (J := 80) (ls := ls) (v := (if (m_sortOf o a1.toNatClampNeg) = (2 : Int32) then (FP.dmul y2 (FP.i2d (m_pulled o a1.toNatClampNeg))) else FP.dconst0)) (rest := []) ?_ (fun y16 ey16 => ?_)
  · intro hj
    refine lv_icmp_ne (tgt := 79) hx hb dX8_hauls_64 (by decide) (fun c17 => ?_) (fun c17 => ?_)
    · skip
      rw [if_neg c17] at hj
      try rw [if_neg c17] at hv
      refine lv_dconst0 hx hb dX8_hauls_79 ?_
      exact hj
    · skip
      rw [if_pos c17] at hj
      try rw [if_pos c17] at hv
      refine lv_dload_n hx hb dX8_hauls_67 rfl (lv_at hl 1 rfl) ?_
      refine lv_aload_n hx hb dX8_hauls_68 rfl (lv_at hl 2 rfl) ?_
      refine va_get (D := (dC, dI)) (ci := 6) (v := .ref (bd 9)) (C := RX8) (T := TX8) (N := 20) (fs := wm_f bd o) hx hb hts hi_wsX80 hown hK hP 0 rfl rfl 11 (by decide) (hts (.fieldLink RX8 41 "OrreryDialsModel" "pulled" "[I") (by decide +kernel)) (fun _ h9 => h9) rfl dX8_hauls_69 ?_
      refine lv_iload_n hx hb dX8_hauls_72 rfl (lv_at hl 3 rfl) ?_
      obtain ⟨hk18, hv⟩ := hv
      refine va_iald hx hb hK hP 10 0 rfl rfl hk18 dX8_hauls_73 ?_
      refine lv_i2d hx hb dX8_hauls_74 ?_
      obtain ⟨hk19, hv⟩ := hv
      refine lv_dmul hx hb dX8_hauls_75 hk19 ?_
      refine lv_goto (tgt := 80) hx hb dX8_hauls_76 (by decide) ?_
      exact hj
  rw [← ey16] at hJ
  rw [jX8_hauls_y16] at hJ
  rw [← ey16] at hV
  rw [sX8_hauls_y16] at hV
  have hV := hV.2
  refine lv_dstore (lv' := [(7, .double y16), (5, .double y4), (3, .double y2), (0, .ref y), (1, .int a1), (2, .int a2)]) hx hb dX8_hauls_80 hl (by decide) rfl (fun ls hl => ?_)
  refine lv_aload_n hx hb dX8_hauls_82 rfl (lv_at hl 3 rfl) ?_
  refine va_get (D := (dC, dI)) (ci := 6) (v := .ref (bd 9)) (C := RX8) (T := TX8) (N := 20) (fs := wm_f bd o) hx hb hts hi_wsX80 hown hK hP 0 rfl rfl 11 (by decide) (hts (.fieldLink RX8 41 "OrreryDialsModel" "pulled" "[I") (by decide +kernel)) (fun _ h9 => h9) rfl dX8_hauls_83 ?_
  refine lv_iload_n hx hb dX8_hauls_86 rfl (lv_at hl 4 rfl) ?_
  refine lv_dup2_11 hx hb dX8_hauls_87 rfl rfl ?_
  obtain ⟨hk20, hV⟩ := hV
  refine va_iald hx hb hK hP 10 0 rfl rfl hk20 dX8_hauls_88 ?_
  refine lv_iconst (v := (1 : Int32)) hx hb dX8_hauls_89 (by decide) ?_
  refine lv_iadd hx hb dX8_hauls_90 ?_
  obtain ⟨hk21, hV⟩ := hV
  refine va_iast hx hb hK hP hD hS 10 0 rfl rfl hk21 dX8_hauls_91 (fun H locs hP hD hS => ?_)
  rw [wm_a_pulled] at hP hD
  refine lv_dload hx hb dX8_hauls_92 (lv_at hl 1 rfl) ?_
  refine vp_callSi (W.runS (As := [.double y4]) (rest := []) ⟨hx, hb, hml, hown, hts⟩ (qX8_isEndless l y4) (va_cwS 1 hts gX8_hauls_X8_isEndless rfl rfl rfl (by decide +kernel) ⟨Nat.le_of_ble_eq_true rfl, Nat.le_of_ble_eq_true rfl⟩) ⟨fun _ _ _ _ q => q, fun U hU hW => rfl⟩ rfl rfl hl.1 rfl (lv_room (Nat.le_of_ble_eq_true rfl)) dX8_hauls_94 ⟨Nat.le_of_ble_eq_true rfl, Nat.le_of_ble_eq_true rfl⟩) (fun r hq9 => ?_)
  rw [hq9]
  refine lv_if_ne (tgt := 108) hx hb dX8_hauls_97 (by decide) (fun c22 => ?_) (fun c22 => ?_)
  · skip
    rw [if_neg c22] at hJ
    rw [if_neg c22] at hV
    refine lv_iconst (v := (0 : Int32)) hx hb dX8_hauls_108 (by decide) ?_
    exact W.zret hx hb hr rfl (fun t ht hW => ⟨⟨_, _, rfl, hJ.trans hE.symm, by rw [ht]; exact hP, va_K.moved hW.alike hK, hD⟩, hS.F ht⟩) hS.2.2 dX8_hauls_109
  · skip
    rw [if_pos c22] at hJ
    rw [if_pos c22] at hV
    refine lv_dload hx hb dX8_hauls_100 (lv_at hl 0 rfl) ?_
    refine vp_callSi (W.runS (As := [.double y16]) (rest := []) ⟨hx, hb, hml, hown, hts⟩ (qX8_isEndless l y16) (va_cwS 1 hts gX8_hauls_X8_isEndless rfl rfl rfl (by decide +kernel) ⟨Nat.le_of_ble_eq_true rfl, Nat.le_of_ble_eq_true rfl⟩) ⟨fun _ _ _ _ q => q, fun U hU hW => rfl⟩ rfl rfl hl.1 rfl (lv_room (Nat.le_of_ble_eq_true rfl)) dX8_hauls_102 ⟨Nat.le_of_ble_eq_true rfl, Nat.le_of_ble_eq_true rfl⟩) (fun r hq9 => ?_)
    rw [hq9]
    refine lv_if_eq (tgt := 110) hx hb dX8_hauls_105 (by decide) (fun c23 => ?_) (fun c23 => ?_)
    · skip
      rw [if_pos c23] at hJ
      rw [if_pos c23] at hV
      refine lv_aload_n hx hb dX8_hauls_110 rfl (lv_at hl 3 rfl) ?_
      refine va_get (D := (dC, dI)) (ci := 6) (v := .ref (bd 6)) (C := RX8) (T := TX8) (N := 20) (fs := wm_f bd (s_pulled o (upd (m_pulled o) a1.toNatClampNeg ((m_pulled o a1.toNatClampNeg) + (1 : Int32))))) hx hb hts hi_wsX80 hown hK hP 0 rfl rfl 8 (by decide) (hts (.fieldLink RX8 31 "OrreryDialsModel" "sortOf" "[I") (by decide +kernel)) (fun _ h9 => h9) rfl dX8_hauls_111 ?_
      refine lv_iload_n hx hb dX8_hauls_114 rfl (lv_at hl 4 rfl) ?_
      obtain ⟨hk24, hV⟩ := hV
      refine va_iald hx hb hK hP 7 0 rfl rfl hk24 dX8_hauls_115 ?_
      refine lv_iconst (v := (2 : Int32)) hx hb dX8_hauls_116 (by decide) ?_
      obtain ⟨hv, hV⟩ := hV
      refine jn_d (J := 130) (ls := ls) (v := (if (m_sortOf (s_pulled o (upd (m_pulled o) a1.toNatClampNeg ((m_pulled o a1.toNatClampNeg) + (1 : Int32)))) a1.toNatClampNeg) = (2 : Int32) then (FP.dadd y4 y16) else y4)) (rest := []) ?_ (fun y25 ey25 => ?_)
      · intro hj
        refine lv_icmp_ne (tgt := 128) hx hb dX8_hauls_117 (by decide) (fun c26 => ?_) (fun c26 => ?_)
        · skip
          rw [if_neg c26] at hj
          try rw [if_neg c26] at hv
          refine lv_dload hx hb dX8_hauls_128 (lv_at hl 1 rfl) ?_
          exact hj
        · skip
          rw [if_pos c26] at hj
          try rw [if_pos c26] at hv
          refine lv_dload hx hb dX8_hauls_120 (lv_at hl 1 rfl) ?_
          refine lv_dload hx hb dX8_hauls_122 (lv_at hl 0 rfl) ?_
          obtain ⟨hk27, hv⟩ := hv
          refine lv_dadd hx hb dX8_hauls_124 hk27 ?_
          refine lv_goto (tgt := 130) hx hb dX8_hauls_125 (by decide) ?_
          exact hj
      rw [← ey25] at hJ
      rw [jX8_hauls_y25] at hJ
      rw [← ey25] at hV
      rw [sX8_hauls_y25] at hV
      have hV := hV.2
      refine lv_dstore (lv' := [(9, .double y25), (7, .double y16), (5, .double y4), (3, .double y2), (0, .ref y), (1, .int a1), (2, .int a2)]) hx hb dX8_hauls_130 hl (by decide) rfl (fun ls hl => ?_)
      refine lv_dload hx hb dX8_hauls_132 (lv_at hl 0 rfl) ?_
      refine vp_callSi (W.runS (As := [.double y25]) (rest := []) ⟨hx, hb, hml, hown, hts⟩ (qX8_isEndless l y25) (va_cwS 1 hts gX8_hauls_X8_isEndless rfl rfl rfl (by decide +kernel) ⟨Nat.le_of_ble_eq_true rfl, Nat.le_of_ble_eq_true rfl⟩) ⟨fun _ _ _ _ q => q, fun U hU hW => rfl⟩ rfl rfl hl.1 rfl (lv_room (Nat.le_of_ble_eq_true rfl)) dX8_hauls_134 ⟨Nat.le_of_ble_eq_true rfl, Nat.le_of_ble_eq_true rfl⟩) (fun r hq9 => ?_)
      rw [hq9]
      refine lv_if_eq (tgt := 142) hx hb dX8_hauls_137 (by decide) (fun c28 => ?_) (fun c28 => ?_)
      · skip
        rw [if_pos c28] at hJ
        rw [if_pos c28] at hV
        refine lv_aload_n hx hb dX8_hauls_142 rfl (lv_at hl 4 rfl) ?_
        refine va_get (D := (dC, dI)) (ci := 6) (v := .ref (bd 0)) (C := RX8) (T := TX8) (N := 20) (fs := wm_f bd (s_pulled o (upd (m_pulled o) a1.toNatClampNeg ((m_pulled o a1.toNatClampNeg) + (1 : Int32))))) hx hb hts hi_wsX80 hown hK hP 0 rfl rfl 1 (by decide) (hts (.fieldLink RX8 7 "OrreryDialsModel" "isFine" "[Z") (by decide +kernel)) (fun _ h9 => h9) rfl dX8_hauls_143 ?_
        refine lv_iload_n hx hb dX8_hauls_146 rfl (lv_at hl 6 rfl) ?_
        obtain ⟨hk29, hV⟩ := hV
        refine va_zald hx hb hK hP 1 2 rfl rfl hk29 dX8_hauls_147 ?_
        refine lv_if_eq (tgt := 159) hx hb dX8_hauls_148 (by decide) (fun c30 => ?_) (fun c30 => ?_)
        · skip
          rw [if_pos c30] at hJ
          rw [if_pos c30] at hV
          refine lv_dload hx hb dX8_hauls_159 (lv_at hl 0 rfl) ?_
          obtain ⟨hk31, hV⟩ := hV
          refine lv_d2f hx hb dX8_hauls_161 hk31 ?_
          refine lv_topf (fun y32 ey32 => ?_)
          rw [← ey32] at hJ
          rw [jX8_hauls_y32] at hJ
          rw [← ey32] at hV
          rw [sX8_hauls_y32] at hV
          have hV := hV.2
          refine lv_fstore (lv' := [(11, .float y32), (9, .double y25), (7, .double y16), (5, .double y4), (3, .double y2), (0, .ref y), (1, .int a1), (2, .int a2)]) hx hb dX8_hauls_162 hl (by decide) rfl (fun ls hl => ?_)
          refine lv_fload hx hb dX8_hauls_164 (lv_at hl 0 rfl) ?_
          refine vp_callSi (W.runS (As := [.float y32]) (rest := []) ⟨hx, hb, hml, hown, hts⟩ (qX8_isEndlessFloat l y32) (va_cwS 1 hts gX8_hauls_X8_isEndlessFloat rfl rfl rfl (by decide +kernel) ⟨Nat.le_of_ble_eq_true rfl, Nat.le_of_ble_eq_true rfl⟩) ⟨fun _ _ _ _ q => q, fun U hU hW => rfl⟩ rfl rfl hl.1 rfl (lv_room (Nat.le_of_ble_eq_true rfl)) dX8_hauls_166 ⟨Nat.le_of_ble_eq_true rfl, Nat.le_of_ble_eq_true rfl⟩) (fun r hq9 => ?_)
          rw [hq9]
          refine lv_if_ne (tgt := 186) hx hb dX8_hauls_169 (by decide) (fun c33 => ?_) (fun c33 => ?_)
          · skip
            rw [if_neg c33] at hJ
            rw [if_neg c33] at hV
            refine lv_iconst (v := (0 : Int32)) hx hb dX8_hauls_186 (by decide) ?_
            exact W.zret hx hb hr rfl (fun t ht hW => ⟨⟨_, _, rfl, hJ.trans hE.symm, by rw [ht]; exact hP, va_K.moved hW.alike hK, hD⟩, hS.F ht⟩) hS.2.2 dX8_hauls_187
          · skip
            rw [if_pos c33] at hJ
            rw [if_pos c33] at hV
            refine lv_aload_n hx hb dX8_hauls_172 rfl (lv_at hl 5 rfl) ?_
            refine lv_iload_n hx hb dX8_hauls_173 rfl (lv_at hl 7 rfl) ?_
            refine lv_fload hx hb dX8_hauls_174 (lv_at hl 0 rfl) ?_
            obtain ⟨hk34, hV⟩ := hV
            refine cl_i (va_runV (As := [.int a2, .float y32]) (rest := []) ⟨hx, hb, hml, hown, hts⟩ (qX8_goesFloat l dC dI cy y bd H.size (s_pulled o (upd (m_pulled o) a1.toNatClampNeg ((m_pulled o a1.toNatClampNeg) + (1 : Int32)))) a2 y32 hk34) (cwV 2 hts gX8_hauls_X8_goesFloat rfl rfl rfl (by decide +kernel) ⟨Nat.le_of_ble_eq_true rfl, Nat.le_of_ble_eq_true rfl⟩) (pV hK hP hD hk (q0 := 0) rfl rfl) rfl rfl hl.1 rfl (lv_room (Nat.le_of_ble_eq_true rfl)) dX8_hauls_176 ⟨Nat.le_of_ble_eq_true rfl, Nat.le_of_ble_eq_true rfl⟩) hD hS hA (fun r u H locs hw hP hD hS => ?_)
            have hr1 : r = (jX8_goesFloat (s_pulled o (upd (m_pulled o) a1.toNatClampNeg ((m_pulled o a1.toNatClampNeg) + (1 : Int32)))) a2 y32).1 := congrArg Prod.fst hw
            have hu1 : u = (jX8_goesFloat (s_pulled o (upd (m_pulled o) a1.toNatClampNeg ((m_pulled o a1.toNatClampNeg) + (1 : Int32)))) a2 y32).2 := congrArg Prod.snd hw
            rw [hu1] at hP hD
            rw [hr1]
            obtain ⟨o35, eo35⟩ : ∃ z, z = (jX8_goesFloat (s_pulled o (upd (m_pulled o) a1.toNatClampNeg ((m_pulled o a1.toNatClampNeg) + (1 : Int32)))) a2 y32).2 := ⟨_, rfl⟩
            rw [← eo35] at hP hD hJ hV
            rw [jX8_hauls_o35] at hJ
            rw [sX8_hauls_o35] at hV
            have hV := hV.2
            refine lv_if_eq (tgt := 186) hx hb dX8_hauls_179 (by decide) (fun c36 => ?_) (fun c36 => ?_)
            · skip
              rw [if_pos c36] at hJ
              rw [if_pos c36] at hV
              refine lv_iconst (v := (0 : Int32)) hx hb dX8_hauls_186 (by decide) ?_
              exact W.zret hx hb hr rfl (fun t ht hW => ⟨⟨_, _, rfl, hJ.trans hE.symm, by rw [ht]; exact hP, va_K.moved hW.alike hK, hD⟩, hS.F ht⟩) hS.2.2 dX8_hauls_187
            · skip
              rw [if_neg c36] at hJ
              rw [if_neg c36] at hV
              refine lv_iconst (v := (1 : Int32)) hx hb dX8_hauls_182 (by decide) ?_
              refine lv_goto (tgt := 187) hx hb dX8_hauls_183 (by decide) ?_
              exact W.zret hx hb hr rfl (fun t ht hW => ⟨⟨_, _, rfl, hJ.trans hE.symm, by rw [ht]; exact hP, va_K.moved hW.alike hK, hD⟩, hS.F ht⟩) hS.2.2 dX8_hauls_187
        · skip
          rw [if_neg c30] at hJ
          rw [if_neg c30] at hV
          refine lv_aload_n hx hb dX8_hauls_151 rfl (lv_at hl 4 rfl) ?_
          refine lv_iload_n hx hb dX8_hauls_152 rfl (lv_at hl 6 rfl) ?_
          refine lv_dload hx hb dX8_hauls_153 (lv_at hl 0 rfl) ?_
          obtain ⟨hk37, hV⟩ := hV
          refine cl_i (va_runV (As := [.int a2, .double y25]) (rest := []) ⟨hx, hb, hml, hown, hts⟩ (qX8_goesDouble l dC dI cy y bd H.size (s_pulled o (upd (m_pulled o) a1.toNatClampNeg ((m_pulled o a1.toNatClampNeg) + (1 : Int32)))) a2 y25 hk37) (cwV 2 hts gX8_hauls_X8_goesDouble rfl rfl rfl (by decide +kernel) ⟨Nat.le_of_ble_eq_true rfl, Nat.le_of_ble_eq_true rfl⟩) (pV hK hP hD hk (q0 := 0) rfl rfl) rfl rfl hl.1 rfl (lv_room (Nat.le_of_ble_eq_true rfl)) dX8_hauls_155 ⟨Nat.le_of_ble_eq_true rfl, Nat.le_of_ble_eq_true rfl⟩) hD hS hA (fun r u H locs hw hP hD hS => ?_)
          have hr1 : r = (jX8_goesDouble (s_pulled o (upd (m_pulled o) a1.toNatClampNeg ((m_pulled o a1.toNatClampNeg) + (1 : Int32)))) a2 y25).1 := congrArg Prod.fst hw
          have hu1 : u = (jX8_goesDouble (s_pulled o (upd (m_pulled o) a1.toNatClampNeg ((m_pulled o a1.toNatClampNeg) + (1 : Int32)))) a2 y25).2 := congrArg Prod.snd hw
          rw [hu1] at hP hD
          rw [hr1]
          exact W.zret hx hb hr (narrow_bool (bX8_goesDouble (s_pulled o (upd (m_pulled o) a1.toNatClampNeg ((m_pulled o a1.toNatClampNeg) + (1 : Int32)))) a2 y25)) (fun t ht hW => ⟨⟨_, _, rfl, hJ.trans hE.symm, by rw [ht]; exact hP, va_K.moved hW.alike hK, hD⟩, hS.F ht⟩) hS.2.2 dX8_hauls_158
      · skip
        rw [if_neg c28] at hJ
        rw [if_neg c28] at hV
        refine lv_iconst (v := (0 : Int32)) hx hb dX8_hauls_140 (by decide) ?_
        exact W.zret hx hb hr rfl (fun t ht hW => ⟨⟨_, _, rfl, hJ.trans hE.symm, by rw [ht]; exact hP, va_K.moved hW.alike hK, hD⟩, hS.F ht⟩) hS.2.2 dX8_hauls_141
    · skip
      rw [if_neg c23] at hJ
      rw [if_neg c23] at hV
      refine lv_iconst (v := (0 : Int32)) hx hb dX8_hauls_108 (by decide) ?_
      exact W.zret hx hb hr rfl (fun t ht hW => ⟨⟨_, _, rfl, hJ.trans hE.symm, by rw [ht]; exact hP, va_K.moved hW.alike hK, hD⟩, hS.F ht⟩) hS.2.2 dX8_hauls_109
theorem bX8_hauls_o35 (o : Ms) (a1 : Int32) (a2 : Int32) (y2 : UInt64) (y4 : UInt64) (y16 : UInt64) (y25 : UInt64) (y32 : UInt32) (o35 : Ms) : (jX8_hauls_o35 o a1 a2 y2 y4 y16 y25 y32 o35).1 = 0 ∨ (jX8_hauls_o35 o a1 a2 y2 y4 y16 y25 y32 o35).1 = 1 := by
  unfold jX8_hauls_o35
  exact (ib (Or.inl rfl) (Or.inr rfl))
theorem bX8_hauls_y32 (o : Ms) (a1 : Int32) (a2 : Int32) (y2 : UInt64) (y4 : UInt64) (y16 : UInt64) (y25 : UInt64) (y32 : UInt32) : (jX8_hauls_y32 o a1 a2 y2 y4 y16 y25 y32).1 = 0 ∨ (jX8_hauls_y32 o a1 a2 y2 y4 y16 y25 y32).1 = 1 := by
  unfold jX8_hauls_y32
  exact (ib (bX8_hauls_o35 o a1 a2 y2 y4 y16 y25 y32 ((jX8_goesFloat (s_pulled o (upd (m_pulled o) a1.toNatClampNeg ((m_pulled o a1.toNatClampNeg) + (1 : Int32)))) a2 y32).2)) (Or.inl rfl))
theorem bX8_hauls_y25 (o : Ms) (a1 : Int32) (a2 : Int32) (y2 : UInt64) (y4 : UInt64) (y16 : UInt64) (y25 : UInt64) : (jX8_hauls_y25 o a1 a2 y2 y4 y16 y25).1 = 0 ∨ (jX8_hauls_y25 o a1 a2 y2 y4 y16 y25).1 = 1 := by
  unfold jX8_hauls_y25
  exact (ib (ib (bX8_hauls_y32 o a1 a2 y2 y4 y16 y25 (FP.d2f y25)) (bX8_goesDouble (s_pulled o (upd (m_pulled o) a1.toNatClampNeg ((m_pulled o a1.toNatClampNeg) + (1 : Int32)))) a2 y25)) (Or.inl rfl))
theorem bX8_hauls_y16 (o : Ms) (a1 : Int32) (a2 : Int32) (y2 : UInt64) (y4 : UInt64) (y16 : UInt64) : (jX8_hauls_y16 o a1 a2 y2 y4 y16).1 = 0 ∨ (jX8_hauls_y16 o a1 a2 y2 y4 y16).1 = 1 := by
  unfold jX8_hauls_y16
  exact (ib (ib (bX8_hauls_y25 o a1 a2 y2 y4 y16 (if (m_sortOf (s_pulled o (upd (m_pulled o) a1.toNatClampNeg ((m_pulled o a1.toNatClampNeg) + (1 : Int32)))) a1.toNatClampNeg) = (2 : Int32) then (FP.dadd y4 y16) else y4)) (Or.inl rfl)) (Or.inl rfl))
theorem bX8_hauls_y4 (o : Ms) (a1 : Int32) (a2 : Int32) (y2 : UInt64) (y4 : UInt64) : (jX8_hauls_y4 o a1 a2 y2 y4).1 = 0 ∨ (jX8_hauls_y4 o a1 a2 y2 y4).1 = 1 := by
  unfold jX8_hauls_y4
  exact (bX8_hauls_y16 o a1 a2 y2 y4 (if (m_sortOf o a1.toNatClampNeg) = (2 : Int32) then (FP.dmul y2 (FP.i2d (m_pulled o a1.toNatClampNeg))) else FP.dconst0))
theorem bX8_hauls_y2 (o : Ms) (a1 : Int32) (a2 : Int32) (y2 : UInt64) : (jX8_hauls_y2 o a1 a2 y2).1 = 0 ∨ (jX8_hauls_y2 o a1 a2 y2).1 = 1 := by
  unfold jX8_hauls_y2
  exact (bX8_hauls_y4 o a1 a2 y2 (if (m_sortOf o a1.toNatClampNeg) = 0 then (if (m_isFine o a2.toNatClampNeg) = 0 then (FP.dsub y2 (FP.f2d (m_placeF o a2.toNatClampNeg))) else (FP.dsub y2 (m_placeD o a2.toNatClampNeg))) else (FP.dmul y2 (FP.i2d (m_gearOf o a1.toNatClampNeg)))))
theorem bX8_hauls (o : Ms) (a1 : Int32) (a2 : Int32) : (jX8_hauls o a1 a2).1 = 0 ∨ (jX8_hauls o a1 a2).1 = 1 := by
  unfold jX8_hauls
  exact (bX8_hauls_y2 o a1 a2 (m_pullOf o a1.toNatClampNeg))
def jX8_pullCause (o : Ms) (a1 : Int32) (a2 : Int32) : Int32 × Ms := (if a1 = (-1 : Int32) then ((-11 : Int32), o) else (if ((jX8_hauls o a1 a2).1) = 0 then ((-15 : Int32), (jX8_hauls o a1 a2).2) else ((0 : Int32), (jX8_hauls o a1 a2).2)))
def sX8_pullCause (o : Ms) (a1 : Int32) (a2 : Int32) : Prop := True ∧ (if a1 = (-1 : Int32) then True else (sX8_hauls o a1 a2 ∧ (if ((jX8_hauls o a1 a2).1) = 0 then True else True)))
set_option linter.constructorNameAsVariable false in
set_option maxHeartbeats 8000000 in
set_option maxRecDepth 100000 in
theorem qX8_pullCause (l : Launch) (dC : Nat → ClassId) (dI : Nat → Nat → Nat) (cy : Nat → ClassId) (y : Nat) (bd : Nat → Nat) (sz : Nat) (o : Ms) (a1 : Int32) (a2 : Int32) (hV : sX8_pullCause o a1 a2) : Met l yX8_pullCause wsX8_pullCause ({ frames := 3, cells := 0, slots := 0, locals := 77 }) (va_Pc [.ref y, .int a1, .int a2] (wI (dC, dI) (tyA cy) (WM cy y bd o) sz)) (va_Qi (fun r u => (r, u) = jX8_pullCause o a1 a2) (fun u t => wO (dC, dI) (tyA cy) (va_A (WM cy y bd o) sz) (WM cy y bd u) t) (va_A (WM cy y bd o) sz)) 0 0 (va_A (WM cy y bd o) sz) := by
  refine Met.ofW (cc := cX8_pullCause) (maxL := 3) (ret := some .int) (by decide) rfl ?_
  intro p e s m args below meth c s₁ B hml hv
  obtain ⟨rfl, hsz, hP, hK, hD0, hk⟩ := hv
  have hx := B.exec
  have hb := B.bytes
  have hr := B.returns
  have hts := atoms_spec (ws := wsX8_pullCause) B.pre
  have hown : s.vm.findClass RX8 = some m.cls := findClass_of_methodNamed B.named
  have hlocks := B.notSynchronized
  subst hsz
  have hD := hD0.self (sz := s.heap.size)
  generalize hAe : va_A (WM cy y bd o) s.heap.size = A at hD ⊢
  have hA : ∀ q : Nat, s.heap.size ≤ q → A q := fun q h => by rw [← hAe]; exact Or.inr h
  obtain ⟨H, hHe⟩ : ∃ H, s.heap = H := ⟨_, rfl⟩
  have hP : va_P (dC, dI) vwCl (WM cy y bd o) H := by rw [← hHe]; exact hP
  have hS : va_S A s.heap H [] := by rw [← hHe]; exact va_S.rf
  rw [w_heap hHe]
  have hi_wsX80 : ∀ w ∈ wsX80, w ∈ wsX8_pullCause := fun _ h => List.mem_cons_of_mem _ (List.mem_append_right _ h)
  obtain ⟨JR, hE⟩ : ∃ q, jX8_pullCause o a1 a2 = q := ⟨_, rfl⟩
  have hJ := hE
  rw [jX8_pullCause] at hJ
  rw [sX8_pullCause] at hV
  have hV := hV.2
  have hl := lv_entry ([.ref y, .int a1, .int a2]) (n := 3) (Nat.le_of_ble_eq_true rfl)
  rw [lg_entry_eq]
  generalize (lg_sl ([.ref y, .int a1, .int a2]) ++ List.replicate (3 - (lg_sl ([.ref y, .int a1, .int a2])).length) Slot.unset).toArray = ls at hl ⊢
  have hl : lv_has ls 3 [(0, .ref y), (1, .int a1), (2, .int a2)] := hl
  refine lv_iload_n hx hb dX8_pullCause_0 rfl (lv_at hl 1 rfl) ?_
  refine lv_iconst (v := (-1 : Int32)) hx hb dX8_pullCause_1 (by decide) ?_
  refine lv_icmp_ne (tgt := 10) hx hb dX8_pullCause_2 (by decide) (fun c1 => ?_) (fun c1 => ?_)
  · skip
    rw [if_neg c1] at hJ
    rw [if_neg c1] at hV
    refine lv_aload_n hx hb dX8_pullCause_10 rfl (lv_at hl 0 rfl) ?_
    refine lv_iload_n hx hb dX8_pullCause_11 rfl (lv_at hl 1 rfl) ?_
    refine lv_iload_n hx hb dX8_pullCause_12 rfl (lv_at hl 2 rfl) ?_
    obtain ⟨hk2, hV⟩ := hV
    refine cl_i (va_runV (As := [.int a1, .int a2]) (rest := []) ⟨hx, hb, hml, hown, hts⟩ (qX8_hauls l dC dI cy y bd H.size o a1 a2 hk2) (cwV 2 hts gX8_pullCause_X8_hauls rfl rfl rfl (by decide +kernel) ⟨Nat.le_of_ble_eq_true rfl, Nat.le_of_ble_eq_true rfl⟩) (pV hK hP hD hk (q0 := 0) rfl rfl) rfl rfl hl.1 rfl (lv_room (Nat.le_of_ble_eq_true rfl)) dX8_pullCause_13 ⟨Nat.le_of_ble_eq_true rfl, Nat.le_of_ble_eq_true rfl⟩) hD hS hA (fun r u H locs hw hP hD hS => ?_)
    have hr1 : r = (jX8_hauls o a1 a2).1 := congrArg Prod.fst hw
    have hu1 : u = (jX8_hauls o a1 a2).2 := congrArg Prod.snd hw
    rw [hu1] at hP hD
    rw [hr1]
    refine lv_if_eq (tgt := 23) hx hb dX8_pullCause_16 (by decide) (fun c3 => ?_) (fun c3 => ?_)
    · skip
      rw [if_pos c3] at hJ
      rw [if_pos c3] at hV
      refine lv_bipush (v := (-15 : Int32)) hx hb dX8_pullCause_23 (by decide) ?_
      exact W.iret hx hb hr (fun t ht hW => ⟨⟨_, _, rfl, hJ.trans hE.symm, by rw [ht]; exact hP, va_K.moved hW.alike hK, hD⟩, hS.F ht⟩) hS.2.2 dX8_pullCause_25
    · skip
      rw [if_neg c3] at hJ
      rw [if_neg c3] at hV
      refine lv_iconst (v := (0 : Int32)) hx hb dX8_pullCause_19 (by decide) ?_
      refine lv_goto (tgt := 25) hx hb dX8_pullCause_20 (by decide) ?_
      exact W.iret hx hb hr (fun t ht hW => ⟨⟨_, _, rfl, hJ.trans hE.symm, by rw [ht]; exact hP, va_K.moved hW.alike hK, hD⟩, hS.F ht⟩) hS.2.2 dX8_pullCause_25
  · skip
    rw [if_pos c1] at hJ
    rw [if_pos c1] at hV
    refine lv_bipush (v := (-11 : Int32)) hx hb dX8_pullCause_5 (by decide) ?_
    refine lv_goto (tgt := 25) hx hb dX8_pullCause_7 (by decide) ?_
    exact W.iret hx hb hr (fun t ht hW => ⟨⟨_, _, rfl, hJ.trans hE.symm, by rw [ht]; exact hP, va_K.moved hW.alike hK, hD⟩, hS.F ht⟩) hS.2.2 dX8_pullCause_25
def jX8_pull_y5 (o : Ms) (a1 : Int32) (a2 : Int32) (y5 : Int32) : Int32 × Ms := (if y5 = 0 then ((jX8_done ((jX8_pullCause o (m_slots o a1.toNatClampNeg) a2).2) (1 : Int32)).1, (jX8_done ((jX8_pullCause o (m_slots o a1.toNatClampNeg) a2).2) (1 : Int32)).2) else ((jX8_fails ((jX8_pullCause o (m_slots o a1.toNatClampNeg) a2).2) y5).1, (jX8_fails ((jX8_pullCause o (m_slots o a1.toNatClampNeg) a2).2) y5).2))
def sX8_pull_y5 (o : Ms) (a1 : Int32) (a2 : Int32) (y5 : Int32) : Prop := True ∧ (if y5 = 0 then True else (sX8_fails ((jX8_pullCause o (m_slots o a1.toNatClampNeg) a2).2) y5 ∧ True))
def jX8_pull (o : Ms) (a1 : Int32) (a2 : Int32) : Int32 × Ms := (if (jX8_isSlot a1) = 0 then ((-101 : Int32), o) else (if (jX8_isDial o a2) = 0 then ((-101 : Int32), o) else (jX8_pull_y5 o a1 a2 ((jX8_pullCause o (m_slots o a1.toNatClampNeg) a2).1))))
def sX8_pull (o : Ms) (a1 : Int32) (a2 : Int32) : Prop := True ∧ (if (jX8_isSlot a1) = 0 then True else (if (jX8_isDial o a2) = 0 then True else (vp_in a1 6 ∧ (sX8_pullCause o (m_slots o a1.toNatClampNeg) a2 ∧ (sX8_pull_y5 o a1 a2 ((jX8_pullCause o (m_slots o a1.toNatClampNeg) a2).1))))))
set_option linter.constructorNameAsVariable false in
set_option maxHeartbeats 8000000 in
set_option maxRecDepth 100000 in
theorem qX8_pull (l : Launch) (dC : Nat → ClassId) (dI : Nat → Nat → Nat) (cy : Nat → ClassId) (y : Nat) (bd : Nat → Nat) (sz : Nat) (o : Ms) (a1 : Int32) (a2 : Int32) (hV : sX8_pull o a1 a2) : Met l yX8_pull wsX8_pull ({ frames := 4, cells := 0, slots := 0, locals := 99 }) (va_Pc [.ref y, .int a1, .int a2] (wI (dC, dI) (tyA cy) (WM cy y bd o) sz)) (va_Qi (fun r u => (r, u) = jX8_pull o a1 a2) (fun u t => wO (dC, dI) (tyA cy) (va_A (WM cy y bd o) sz) (WM cy y bd u) t) (va_A (WM cy y bd o) sz)) 0 0 (va_A (WM cy y bd o) sz) := by
  refine Met.ofW (cc := cX8_pull) (maxL := 4) (ret := some .int) (by decide) rfl ?_
  intro p e s m args below meth c s₁ B hml hv
  obtain ⟨rfl, hsz, hP, hK, hD0, hk⟩ := hv
  have hx := B.exec
  have hb := B.bytes
  have hr := B.returns
  have hts := atoms_spec (ws := wsX8_pull) B.pre
  have hown : s.vm.findClass RX8 = some m.cls := findClass_of_methodNamed B.named
  have hlocks := B.notSynchronized
  subst hsz
  have hD := hD0.self (sz := s.heap.size)
  generalize hAe : va_A (WM cy y bd o) s.heap.size = A at hD ⊢
  have hA : ∀ q : Nat, s.heap.size ≤ q → A q := fun q h => by rw [← hAe]; exact Or.inr h
  obtain ⟨H, hHe⟩ : ∃ H, s.heap = H := ⟨_, rfl⟩
  have hP : va_P (dC, dI) vwCl (WM cy y bd o) H := by rw [← hHe]; exact hP
  have hS : va_S A s.heap H [] := by rw [← hHe]; exact va_S.rf
  rw [w_heap hHe]
  have hi_wsX80 : ∀ w ∈ wsX80, w ∈ wsX8_pull := fun _ h => List.mem_cons_of_mem _ (List.mem_append_right _ h)
  obtain ⟨JR, hE⟩ : ∃ q, jX8_pull o a1 a2 = q := ⟨_, rfl⟩
  have hJ := hE
  rw [jX8_pull] at hJ
  rw [sX8_pull] at hV
  have hV := hV.2
  have hl := lv_entry ([.ref y, .int a1, .int a2]) (n := 4) (Nat.le_of_ble_eq_true rfl)
  rw [lg_entry_eq]
  generalize (lg_sl ([.ref y, .int a1, .int a2]) ++ List.replicate (4 - (lg_sl ([.ref y, .int a1, .int a2])).length) Slot.unset).toArray = ls at hl ⊢
  have hl : lv_has ls 4 [(0, .ref y), (1, .int a1), (2, .int a2)] := hl
  refine lv_iload_n hx hb dX8_pull_0 rfl (lv_at hl 1 rfl) ?_
  refine vp_callSi (W.runS (As := [.int a1]) (rest := []) ⟨hx, hb, hml, hown, hts⟩ (qX8_isSlot l a1) (va_cwS 1 hts gX8_pull_X8_isSlot rfl rfl rfl (by decide +kernel) ⟨Nat.le_of_ble_eq_true rfl, Nat.le_of_ble_eq_true rfl⟩) ⟨fun _ _ _ _ q => q, fun U hU hW => rfl⟩ rfl rfl hl.1 rfl (lv_room (Nat.le_of_ble_eq_true rfl)) dX8_pull_1 ⟨Nat.le_of_ble_eq_true rfl, Nat.le_of_ble_eq_true rfl⟩) (fun r hq9 => ?_)
  rw [hq9]
  refine lv_if_eq (tgt := 15) hx hb dX8_pull_4 (by decide) (fun c1 => ?_) (fun c1 => ?_)
  · skip
    rw [if_pos c1] at hJ
    rw [if_pos c1] at hV
    refine lv_bipush (v := (-101 : Int32)) hx hb dX8_pull_15 (by decide) ?_
    exact W.iret hx hb hr (fun t ht hW => ⟨⟨_, _, rfl, hJ.trans hE.symm, by rw [ht]; exact hP, va_K.moved hW.alike hK, hD⟩, hS.F ht⟩) hS.2.2 dX8_pull_17
  · skip
    rw [if_neg c1] at hJ
    rw [if_neg c1] at hV
    refine lv_aload_n hx hb dX8_pull_7 rfl (lv_at hl 0 rfl) ?_
    refine lv_iload_n hx hb dX8_pull_8 rfl (lv_at hl 2 rfl) ?_
    refine vp_callSi (W.runV (As := [.int a2]) (rest := []) ⟨hx, hb, hml, hown, hts⟩ (qX8_isDial l dC dI cy y bd H.size o a2) (cwV 1 hts gX8_pull_X8_isDial rfl rfl rfl (by decide +kernel) ⟨Nat.le_of_ble_eq_true rfl, Nat.le_of_ble_eq_true rfl⟩) (pV hK hP hD hk (q0 := 0) rfl rfl) rfl rfl hl.1 rfl (lv_room (Nat.le_of_ble_eq_true rfl)) dX8_pull_9 ⟨Nat.le_of_ble_eq_true rfl, Nat.le_of_ble_eq_true rfl⟩) (fun r hq9 => ?_)
    rw [hq9]
    refine lv_if_ne (tgt := 18) hx hb dX8_pull_12 (by decide) (fun c2 => ?_) (fun c2 => ?_)
    · skip
      rw [if_neg c2] at hJ
      rw [if_neg c2] at hV
      refine lv_aload_n hx hb dX8_pull_18 rfl (lv_at hl 0 rfl) ?_
      refine lv_aload_n hx hb dX8_pull_19 rfl (lv_at hl 0 rfl) ?_
      refine va_get (D := (dC, dI)) (ci := 6) (v := .ref (bd 10)) (C := RX8) (T := TX8) (N := 20) (fs := wm_f bd o) hx hb hts hi_wsX80 hown hK hP 0 rfl rfl 12 (by decide) (hts (.fieldLink RX8 44 "OrreryDialsModel" "slots" "[I") (by decide +kernel)) (fun _ h9 => h9) rfl dX8_pull_20 ?_
      refine lv_iload_n hx hb dX8_pull_23 rfl (lv_at hl 1 rfl) ?_
      obtain ⟨hk3, hV⟩ := hV
      refine va_iald hx hb hK hP 11 0 rfl rfl hk3 dX8_pull_24 ?_
      refine lv_iload_n hx hb dX8_pull_25 rfl (lv_at hl 2 rfl) ?_
      obtain ⟨hk4, hV⟩ := hV
      refine cl_i (va_runV (As := [.int (m_slots o a1.toNatClampNeg), .int a2]) (rest := []) ⟨hx, hb, hml, hown, hts⟩ (qX8_pullCause l dC dI cy y bd H.size o (m_slots o a1.toNatClampNeg) a2 hk4) (cwV 2 hts gX8_pull_X8_pullCause rfl rfl rfl (by decide +kernel) ⟨Nat.le_of_ble_eq_true rfl, Nat.le_of_ble_eq_true rfl⟩) (pV hK hP hD hk (q0 := 0) rfl rfl) rfl rfl hl.1 rfl (lv_room (Nat.le_of_ble_eq_true rfl)) dX8_pull_26 ⟨Nat.le_of_ble_eq_true rfl, Nat.le_of_ble_eq_true rfl⟩) hD hS hA (fun r u H locs hw hP hD hS => ?_)
      have hr1 : r = (jX8_pullCause o (m_slots o a1.toNatClampNeg) a2).1 := congrArg Prod.fst hw
      have hu1 : u = (jX8_pullCause o (m_slots o a1.toNatClampNeg) a2).2 := congrArg Prod.snd hw
      rw [hu1] at hP hD
      rw [hr1]
      refine lv_topi (fun y5 ey5 => ?_)
      rw [← ey5] at hJ
      rw [jX8_pull_y5] at hJ
      rw [← ey5] at hV
      rw [sX8_pull_y5] at hV
      have hV := hV.2
      refine lv_istore_n (lv' := [(3, .int y5), (0, .ref y), (1, .int a1), (2, .int a2)]) hx hb dX8_pull_29 rfl hl (by decide) rfl (fun ls hl => ?_)
      refine lv_iload_n hx hb dX8_pull_30 rfl (lv_at hl 0 rfl) ?_
      refine lv_if_ne (tgt := 42) hx hb dX8_pull_31 (by decide) (fun c6 => ?_) (fun c6 => ?_)
      · skip
        rw [if_neg c6] at hJ
        rw [if_neg c6] at hV
        refine lv_aload_n hx hb dX8_pull_42 rfl (lv_at hl 1 rfl) ?_
        refine lv_iload_n hx hb dX8_pull_43 rfl (lv_at hl 0 rfl) ?_
        obtain ⟨hk7, hV⟩ := hV
        refine cl_i (va_runV (As := [.int y5]) (rest := []) ⟨hx, hb, hml, hown, hts⟩ (qX8_fails l dC dI cy y bd H.size ((jX8_pullCause o (m_slots o a1.toNatClampNeg) a2).2) y5 hk7) (cwV 1 hts gX8_pull_X8_fails rfl rfl rfl (by decide +kernel) ⟨Nat.le_of_ble_eq_true rfl, Nat.le_of_ble_eq_true rfl⟩) (pV hK hP hD hk (q0 := 0) rfl rfl) rfl rfl hl.1 rfl (lv_room (Nat.le_of_ble_eq_true rfl)) dX8_pull_44 ⟨Nat.le_of_ble_eq_true rfl, Nat.le_of_ble_eq_true rfl⟩) hD hS hA (fun r u H locs hw hP hD hS => ?_)
        have hr1 : r = (jX8_fails ((jX8_pullCause o (m_slots o a1.toNatClampNeg) a2).2) y5).1 := congrArg Prod.fst hw
        have hu1 : u = (jX8_fails ((jX8_pullCause o (m_slots o a1.toNatClampNeg) a2).2) y5).2 := congrArg Prod.snd hw
        rw [hu1] at hP hD
        rw [hr1]
        exact W.iret hx hb hr (fun t ht hW => ⟨⟨_, _, rfl, hJ.trans hE.symm, by rw [ht]; exact hP, va_K.moved hW.alike hK, hD⟩, hS.F ht⟩) hS.2.2 dX8_pull_47
      · skip
        rw [if_pos c6] at hJ
        rw [if_pos c6] at hV
        refine lv_aload_n hx hb dX8_pull_34 rfl (lv_at hl 1 rfl) ?_
        refine lv_iconst (v := (1 : Int32)) hx hb dX8_pull_35 (by decide) ?_
        refine cl_i (va_runV (As := [.int (1 : Int32)]) (rest := []) ⟨hx, hb, hml, hown, hts⟩ (qX8_done l dC dI cy y bd H.size ((jX8_pullCause o (m_slots o a1.toNatClampNeg) a2).2) (1 : Int32)) (cwV 1 hts gX8_pull_X8_done rfl rfl rfl (by decide +kernel) ⟨Nat.le_of_ble_eq_true rfl, Nat.le_of_ble_eq_true rfl⟩) (pV hK hP hD hk (q0 := 0) rfl rfl) rfl rfl hl.1 rfl (lv_room (Nat.le_of_ble_eq_true rfl)) dX8_pull_36 ⟨Nat.le_of_ble_eq_true rfl, Nat.le_of_ble_eq_true rfl⟩) hD hS hA (fun r u H locs hw hP hD hS => ?_)
        have hr1 : r = (jX8_done ((jX8_pullCause o (m_slots o a1.toNatClampNeg) a2).2) (1 : Int32)).1 := congrArg Prod.fst hw
        have hu1 : u = (jX8_done ((jX8_pullCause o (m_slots o a1.toNatClampNeg) a2).2) (1 : Int32)).2 := congrArg Prod.snd hw
        rw [hu1] at hP hD
        rw [hr1]
        refine lv_goto (tgt := 47) hx hb dX8_pull_39 (by decide) ?_
        exact W.iret hx hb hr (fun t ht hW => ⟨⟨_, _, rfl, hJ.trans hE.symm, by rw [ht]; exact hP, va_K.moved hW.alike hK, hD⟩, hS.F ht⟩) hS.2.2 dX8_pull_47
    · skip
      rw [if_pos c2] at hJ
      rw [if_pos c2] at hV
      refine lv_bipush (v := (-101 : Int32)) hx hb dX8_pull_15 (by decide) ?_
      exact W.iret hx hb hr (fun t ht hW => ⟨⟨_, _, rfl, hJ.trans hE.symm, by rw [ht]; exact hP, va_K.moved hW.alike hK, hD⟩, hS.F ht⟩) hS.2.2 dX8_pull_17
def jX8_gear_y6 (o : Ms) (a1 : Int32) (a2 : Int32) (y4 : Int32) (y6 : Int32) : Int32 × Ms := ((jX8_fails o y6).1, (jX8_fails o y6).2)
def sX8_gear_y6 (o : Ms) (a1 : Int32) (a2 : Int32) (y4 : Int32) (y6 : Int32) : Prop := True ∧ (sX8_fails o y6 ∧ True)
def jX8_gear_y12 (o : Ms) (a1 : Int32) (a2 : Int32) (y4 : Int32) (y12 : Int32) : Int32 × Ms := ((jX8_done (s_gearOf o (upd (m_gearOf o) y4.toNatClampNeg a2)) y12).1, (jX8_done (s_gearOf o (upd (m_gearOf o) y4.toNatClampNeg a2)) y12).2)
def sX8_gear_y12 (o : Ms) (a1 : Int32) (a2 : Int32) (y4 : Int32) (y12 : Int32) : Prop := True ∧ (vp_in y4 20 ∧ True)
def jX8_gear_y14 (o : Ms) (a1 : Int32) (a2 : Int32) (y4 : Int32) (y14 : Int32) : Int32 × Ms := ((jX8_fails o y14).1, (jX8_fails o y14).2)
def sX8_gear_y14 (o : Ms) (a1 : Int32) (a2 : Int32) (y4 : Int32) (y14 : Int32) : Prop := True ∧ (sX8_fails o y14 ∧ True)
def jX8_gear_y4 (o : Ms) (a1 : Int32) (a2 : Int32) (y4 : Int32) : Int32 × Ms := (if y4 = (-1 : Int32) then (jX8_gear_y6 o a1 a2 y4 (if y4 = (-1 : Int32) then (-11 : Int32) else (-13 : Int32))) else (if (m_sortOf o y4.toNatClampNeg) = 0 then (jX8_gear_y14 o a1 a2 y4 (if y4 = (-1 : Int32) then (-11 : Int32) else (-13 : Int32))) else (jX8_gear_y12 o a1 a2 y4 (m_gearOf o y4.toNatClampNeg))))
def sX8_gear_y4 (o : Ms) (a1 : Int32) (a2 : Int32) (y4 : Int32) : Prop := True ∧ (if y4 = (-1 : Int32) then (sX8_gear_y6 o a1 a2 y4 (if y4 = (-1 : Int32) then (-11 : Int32) else (-13 : Int32))) else (vp_in y4 20 ∧ (if (m_sortOf o y4.toNatClampNeg) = 0 then (sX8_gear_y14 o a1 a2 y4 (if y4 = (-1 : Int32) then (-11 : Int32) else (-13 : Int32))) else (vp_in y4 20 ∧ (sX8_gear_y12 o a1 a2 y4 (m_gearOf o y4.toNatClampNeg))))))
def jX8_gear (o : Ms) (a1 : Int32) (a2 : Int32) : Int32 × Ms := (if (jX8_isSlot a1) = 0 then ((-101 : Int32), o) else (if (jX8_in (a2.toInt64) (-1000 : Int64) (1000 : Int64)) = 0 then ((-102 : Int32), o) else (jX8_gear_y4 o a1 a2 (m_slots o a1.toNatClampNeg))))
def sX8_gear (o : Ms) (a1 : Int32) (a2 : Int32) : Prop := True ∧ (if (jX8_isSlot a1) = 0 then True else (if (jX8_in (a2.toInt64) (-1000 : Int64) (1000 : Int64)) = 0 then True else (vp_in a1 6 ∧ (sX8_gear_y4 o a1 a2 (m_slots o a1.toNatClampNeg)))))
set_option linter.constructorNameAsVariable false in
set_option maxHeartbeats 8000000 in
set_option maxRecDepth 100000 in
theorem qX8_gear (l : Launch) (dC : Nat → ClassId) (dI : Nat → Nat → Nat) (cy : Nat → ClassId) (y : Nat) (bd : Nat → Nat) (sz : Nat) (o : Ms) (a1 : Int32) (a2 : Int32) (hV : sX8_gear o a1 a2) : Met l yX8_gear wsX8_gear ({ frames := 2, cells := 0, slots := 0, locals := 45 }) (va_Pc [.ref y, .int a1, .int a2] (wI (dC, dI) (tyA cy) (WM cy y bd o) sz)) (va_Qi (fun r u => (r, u) = jX8_gear o a1 a2) (fun u t => wO (dC, dI) (tyA cy) (va_A (WM cy y bd o) sz) (WM cy y bd u) t) (va_A (WM cy y bd o) sz)) 0 0 (va_A (WM cy y bd o) sz) := by
  refine Met.ofW (cc := cX8_gear) (maxL := 5) (ret := some .int) (by decide) rfl ?_
  intro p e s m args below meth c s₁ B hml hv
  obtain ⟨rfl, hsz, hP, hK, hD0, hk⟩ := hv
  have hx := B.exec
  have hb := B.bytes
  have hr := B.returns
  have hts := atoms_spec (ws := wsX8_gear) B.pre
  have hown : s.vm.findClass RX8 = some m.cls := findClass_of_methodNamed B.named
  have hlocks := B.notSynchronized
  subst hsz
  have hD := hD0.self (sz := s.heap.size)
  generalize hAe : va_A (WM cy y bd o) s.heap.size = A at hD ⊢
  have hA : ∀ q : Nat, s.heap.size ≤ q → A q := fun q h => by rw [← hAe]; exact Or.inr h
  obtain ⟨H, hHe⟩ : ∃ H, s.heap = H := ⟨_, rfl⟩
  have hP : va_P (dC, dI) vwCl (WM cy y bd o) H := by rw [← hHe]; exact hP
  have hS : va_S A s.heap H [] := by rw [← hHe]; exact va_S.rf
  rw [w_heap hHe]
  have hi_wsX80 : ∀ w ∈ wsX80, w ∈ wsX8_gear := fun _ h => List.mem_cons_of_mem _ (List.mem_append_right _ h)
  obtain ⟨JR, hE⟩ : ∃ q, jX8_gear o a1 a2 = q := ⟨_, rfl⟩
  have hJ := hE
  rw [jX8_gear] at hJ
  rw [sX8_gear] at hV
  have hV := hV.2
  have hl := lv_entry ([.ref y, .int a1, .int a2]) (n := 5) (Nat.le_of_ble_eq_true rfl)
  rw [lg_entry_eq]
  generalize (lg_sl ([.ref y, .int a1, .int a2]) ++ List.replicate (5 - (lg_sl ([.ref y, .int a1, .int a2])).length) Slot.unset).toArray = ls at hl ⊢
  have hl : lv_has ls 5 [(0, .ref y), (1, .int a1), (2, .int a2)] := hl
  refine lv_iload_n hx hb dX8_gear_0 rfl (lv_at hl 1 rfl) ?_
  refine vp_callSi (W.runS (As := [.int a1]) (rest := []) ⟨hx, hb, hml, hown, hts⟩ (qX8_isSlot l a1) (va_cwS 1 hts gX8_gear_X8_isSlot rfl rfl rfl (by decide +kernel) ⟨Nat.le_of_ble_eq_true rfl, Nat.le_of_ble_eq_true rfl⟩) ⟨fun _ _ _ _ q => q, fun U hU hW => rfl⟩ rfl rfl hl.1 rfl (lv_room (Nat.le_of_ble_eq_true rfl)) dX8_gear_1 ⟨Nat.le_of_ble_eq_true rfl, Nat.le_of_ble_eq_true rfl⟩) (fun r hq9 => ?_)
  rw [hq9]
  refine lv_if_ne (tgt := 10) hx hb dX8_gear_4 (by decide) (fun c1 => ?_) (fun c1 => ?_)
  · skip
    rw [if_neg c1] at hJ
    rw [if_neg c1] at hV
    refine lv_iload_n hx hb dX8_gear_10 rfl (lv_at hl 2 rfl) ?_
    refine lv_i2l (v := a2.toInt64) hx hb dX8_gear_11 rfl ?_
    refine lv_ldc2 (v := (-1000 : Int64)) hx hb hown (hts (.constantLong RX8 177 (-1000)) (by decide +kernel)) dX8_gear_12 ?_
    refine lv_ldc2 (v := (1000 : Int64)) hx hb hown (hts (.constantLong RX8 179 (1000)) (by decide +kernel)) dX8_gear_15 ?_
    refine vp_callSi (W.runS (As := [.long (a2.toInt64), .long (-1000 : Int64), .long (1000 : Int64)]) (rest := []) ⟨hx, hb, hml, hown, hts⟩ (qX8_in l (a2.toInt64) (-1000 : Int64) (1000 : Int64)) (va_cwS 3 hts gX8_gear_X8_in rfl rfl rfl (by decide +kernel) ⟨Nat.le_of_ble_eq_true rfl, Nat.le_of_ble_eq_true rfl⟩) ⟨fun _ _ _ _ q => q, fun U hU hW => rfl⟩ rfl rfl hl.1 rfl (lv_room (Nat.le_of_ble_eq_true rfl)) dX8_gear_18 ⟨Nat.le_of_ble_eq_true rfl, Nat.le_of_ble_eq_true rfl⟩) (fun r hq9 => ?_)
    rw [hq9]
    refine lv_if_ne (tgt := 27) hx hb dX8_gear_21 (by decide) (fun c2 => ?_) (fun c2 => ?_)
    · skip
      rw [if_neg c2] at hJ
      rw [if_neg c2] at hV
      refine lv_aload_n hx hb dX8_gear_27 rfl (lv_at hl 0 rfl) ?_
      refine va_get (D := (dC, dI)) (ci := 6) (v := .ref (bd 10)) (C := RX8) (T := TX8) (N := 20) (fs := wm_f bd o) hx hb hts hi_wsX80 hown hK hP 0 rfl rfl 12 (by decide) (hts (.fieldLink RX8 44 "OrreryDialsModel" "slots" "[I") (by decide +kernel)) (fun _ h9 => h9) rfl dX8_gear_28 ?_
      refine lv_iload_n hx hb dX8_gear_31 rfl (lv_at hl 1 rfl) ?_
      obtain ⟨hk3, hV⟩ := hV
      refine va_iald hx hb hK hP 11 0 rfl rfl hk3 dX8_gear_32 ?_
      refine lv_topi (fun y4 ey4 => ?_)
      rw [← ey4] at hJ
      rw [jX8_gear_y4] at hJ
      rw [← ey4] at hV
      rw [sX8_gear_y4] at hV
      have hV := hV.2
      refine lv_istore_n (lv' := [(3, .int y4), (0, .ref y), (1, .int a1), (2, .int a2)]) hx hb dX8_gear_33 rfl hl (by decide) rfl (fun ls hl => ?_)
      refine lv_iload_n hx hb dX8_gear_34 rfl (lv_at hl 0 rfl) ?_
      refine lv_iconst (v := (-1 : Int32)) hx hb dX8_gear_35 (by decide) ?_
      refine lv_icmp_eq (tgt := 48) hx hb dX8_gear_36 (by decide) (fun c5 => ?_) (fun c5 => ?_)
      · skip
        rw [if_pos c5] at hJ
        rw [if_pos c5] at hV
        refine lv_aload_n hx hb dX8_gear_48 rfl (lv_at hl 1 rfl) ?_
        refine lv_iload_n hx hb dX8_gear_49 rfl (lv_at hl 0 rfl) ?_
        refine lv_iconst (v := (-1 : Int32)) hx hb dX8_gear_50 (by decide) ?_
        refine jn_i (J := 61) (ls := ls) (v := (if y4 = (-1 : Int32) then (-11 : Int32) else (-13 : Int32))) (rest := [.ref y]) ?_ (fun y6 ey6 => ?_)
        · intro hj
          refine lv_icmp_ne (tgt := 59) hx hb dX8_gear_51 (by decide) (fun c7 => ?_) (fun c7 => ?_)
          · skip
            rw [if_neg c7] at hj
            try rw [if_neg c7] at hv
            refine lv_bipush (v := (-13 : Int32)) hx hb dX8_gear_59 (by decide) ?_
            exact hj
          · skip
            rw [if_pos c7] at hj
            try rw [if_pos c7] at hv
            refine lv_bipush (v := (-11 : Int32)) hx hb dX8_gear_54 (by decide) ?_
            refine lv_goto (tgt := 61) hx hb dX8_gear_56 (by decide) ?_
            exact hj
        rw [← ey6] at hJ
        rw [jX8_gear_y6] at hJ
        rw [← ey6] at hV
        rw [sX8_gear_y6] at hV
        have hV := hV.2
        obtain ⟨hk8, hV⟩ := hV
        refine cl_i (va_runV (As := [.int y6]) (rest := []) ⟨hx, hb, hml, hown, hts⟩ (qX8_fails l dC dI cy y bd H.size o y6 hk8) (cwV 1 hts gX8_gear_X8_fails rfl rfl rfl (by decide +kernel) ⟨Nat.le_of_ble_eq_true rfl, Nat.le_of_ble_eq_true rfl⟩) (pV hK hP hD hk (q0 := 0) rfl rfl) rfl rfl hl.1 rfl (lv_room (Nat.le_of_ble_eq_true rfl)) dX8_gear_61 ⟨Nat.le_of_ble_eq_true rfl, Nat.le_of_ble_eq_true rfl⟩) hD hS hA (fun r u H locs hw hP hD hS => ?_)
        have hr1 : r = (jX8_fails o y6).1 := congrArg Prod.fst hw
        have hu1 : u = (jX8_fails o y6).2 := congrArg Prod.snd hw
        rw [hu1] at hP hD
        rw [hr1]
        exact W.iret hx hb hr (fun t ht hW => ⟨⟨_, _, rfl, hJ.trans hE.symm, by rw [ht]; exact hP, va_K.moved hW.alike hK, hD⟩, hS.F ht⟩) hS.2.2 dX8_gear_64
      · skip
        rw [if_neg c5] at hJ
        rw [if_neg c5] at hV
        refine lv_aload_n hx hb dX8_gear_39 rfl (lv_at hl 1 rfl) ?_
        refine va_get (D := (dC, dI)) (ci := 6) (v := .ref (bd 6)) (C := RX8) (T := TX8) (N := 20) (fs := wm_f bd o) hx hb hts hi_wsX80 hown hK hP 0 rfl rfl 8 (by decide) (hts (.fieldLink RX8 31 "OrreryDialsModel" "sortOf" "[I") (by decide +kernel)) (fun _ h9 => h9) rfl dX8_gear_40 ?_
        refine lv_iload_n hx hb dX8_gear_43 rfl (lv_at hl 0 rfl) ?_
        obtain ⟨hk9, hV⟩ := hV
        refine va_iald hx hb hK hP 7 0 rfl rfl hk9 dX8_gear_44 ?_
        refine lv_if_ne (tgt := 65) hx hb dX8_gear_45 (by decide) (fun c10 => ?_) (fun c10 => ?_)
        · skip
          rw [if_neg c10] at hJ
          rw [if_neg c10] at hV
          refine lv_aload_n hx hb dX8_gear_65 rfl (lv_at hl 1 rfl) ?_
          refine va_get (D := (dC, dI)) (ci := 6) (v := .ref (bd 8)) (C := RX8) (T := TX8) (N := 20) (fs := wm_f bd o) hx hb hts hi_wsX80 hown hK hP 0 rfl rfl 10 (by decide) (hts (.fieldLink RX8 38 "OrreryDialsModel" "gearOf" "[I") (by decide +kernel)) (fun _ h9 => h9) rfl dX8_gear_66 ?_
          refine lv_iload_n hx hb dX8_gear_69 rfl (lv_at hl 0 rfl) ?_
          obtain ⟨hk11, hV⟩ := hV
          refine va_iald hx hb hK hP 9 0 rfl rfl hk11 dX8_gear_70 ?_
          refine lv_topi (fun y12 ey12 => ?_)
          rw [← ey12] at hJ
          rw [jX8_gear_y12] at hJ
          rw [← ey12] at hV
          rw [sX8_gear_y12] at hV
          have hV := hV.2
          refine lv_istore (lv' := [(4, .int y12), (3, .int y4), (0, .ref y), (1, .int a1), (2, .int a2)]) hx hb dX8_gear_71 hl (by decide) rfl (fun ls hl => ?_)
          refine lv_aload_n hx hb dX8_gear_73 rfl (lv_at hl 2 rfl) ?_
          refine va_get (D := (dC, dI)) (ci := 6) (v := .ref (bd 8)) (C := RX8) (T := TX8) (N := 20) (fs := wm_f bd o) hx hb hts hi_wsX80 hown hK hP 0 rfl rfl 10 (by decide) (hts (.fieldLink RX8 38 "OrreryDialsModel" "gearOf" "[I") (by decide +kernel)) (fun _ h9 => h9) rfl dX8_gear_74 ?_
          refine lv_iload_n hx hb dX8_gear_77 rfl (lv_at hl 1 rfl) ?_
          refine lv_iload_n hx hb dX8_gear_78 rfl (lv_at hl 4 rfl) ?_
          obtain ⟨hk13, hV⟩ := hV
          refine va_iast hx hb hK hP hD hS 9 0 rfl rfl hk13 dX8_gear_79 (fun H locs hP hD hS => ?_)
          rw [wm_a_gearOf] at hP hD
          refine lv_aload_n hx hb dX8_gear_80 rfl (lv_at hl 2 rfl) ?_
          refine lv_iload hx hb dX8_gear_81 (lv_at hl 0 rfl) ?_
          refine cl_i (va_runV (As := [.int y12]) (rest := []) ⟨hx, hb, hml, hown, hts⟩ (qX8_done l dC dI cy y bd H.size (s_gearOf o (upd (m_gearOf o) y4.toNatClampNeg a2)) y12) (cwV 1 hts gX8_gear_X8_done rfl rfl rfl (by decide +kernel) ⟨Nat.le_of_ble_eq_true rfl, Nat.le_of_ble_eq_true rfl⟩) (pV hK hP hD hk (q0 := 0) rfl rfl) rfl rfl hl.1 rfl (lv_room (Nat.le_of_ble_eq_true rfl)) dX8_gear_83 ⟨Nat.le_of_ble_eq_true rfl, Nat.le_of_ble_eq_true rfl⟩) hD hS hA (fun r u H locs hw hP hD hS => ?_)
          have hr1 : r = (jX8_done (s_gearOf o (upd (m_gearOf o) y4.toNatClampNeg a2)) y12).1 := congrArg Prod.fst hw
          have hu1 : u = (jX8_done (s_gearOf o (upd (m_gearOf o) y4.toNatClampNeg a2)) y12).2 := congrArg Prod.snd hw
          rw [hu1] at hP hD
          rw [hr1]
          exact W.iret hx hb hr (fun t ht hW => ⟨⟨_, _, rfl, hJ.trans hE.symm, by rw [ht]; exact hP, va_K.moved hW.alike hK, hD⟩, hS.F ht⟩) hS.2.2 dX8_gear_86
        · skip
          rw [if_pos c10] at hJ
          rw [if_pos c10] at hV
          refine lv_aload_n hx hb dX8_gear_48 rfl (lv_at hl 1 rfl) ?_
          refine lv_iload_n hx hb dX8_gear_49 rfl (lv_at hl 0 rfl) ?_
          refine lv_iconst (v := (-1 : Int32)) hx hb dX8_gear_50 (by decide) ?_
          refine jn_i (J := 61) (ls := ls) (v := (if y4 = (-1 : Int32) then (-11 : Int32) else (-13 : Int32))) (rest := [.ref y]) ?_ (fun y14 ey14 => ?_)
          · intro hj
            refine lv_icmp_ne (tgt := 59) hx hb dX8_gear_51 (by decide) (fun c15 => ?_) (fun c15 => ?_)
            · skip
              rw [if_neg c15] at hj
              try rw [if_neg c15] at hv
              refine lv_bipush (v := (-13 : Int32)) hx hb dX8_gear_59 (by decide) ?_
              exact hj
            · skip
              rw [if_pos c15] at hj
              try rw [if_pos c15] at hv
              refine lv_bipush (v := (-11 : Int32)) hx hb dX8_gear_54 (by decide) ?_
              refine lv_goto (tgt := 61) hx hb dX8_gear_56 (by decide) ?_
              exact hj
          rw [← ey14] at hJ
          rw [jX8_gear_y14] at hJ
          rw [← ey14] at hV
          rw [sX8_gear_y14] at hV
          have hV := hV.2
          obtain ⟨hk16, hV⟩ := hV
          refine cl_i (va_runV (As := [.int y14]) (rest := []) ⟨hx, hb, hml, hown, hts⟩ (qX8_fails l dC dI cy y bd H.size o y14 hk16) (cwV 1 hts gX8_gear_X8_fails rfl rfl rfl (by decide +kernel) ⟨Nat.le_of_ble_eq_true rfl, Nat.le_of_ble_eq_true rfl⟩) (pV hK hP hD hk (q0 := 0) rfl rfl) rfl rfl hl.1 rfl (lv_room (Nat.le_of_ble_eq_true rfl)) dX8_gear_61 ⟨Nat.le_of_ble_eq_true rfl, Nat.le_of_ble_eq_true rfl⟩) hD hS hA (fun r u H locs hw hP hD hS => ?_)
          have hr1 : r = (jX8_fails o y14).1 := congrArg Prod.fst hw
          have hu1 : u = (jX8_fails o y14).2 := congrArg Prod.snd hw
          rw [hu1] at hP hD
          rw [hr1]
          exact W.iret hx hb hr (fun t ht hW => ⟨⟨_, _, rfl, hJ.trans hE.symm, by rw [ht]; exact hP, va_K.moved hW.alike hK, hD⟩, hS.F ht⟩) hS.2.2 dX8_gear_64
    · skip
      rw [if_pos c2] at hJ
      rw [if_pos c2] at hV
      refine lv_bipush (v := (-102 : Int32)) hx hb dX8_gear_24 (by decide) ?_
      exact W.iret hx hb hr (fun t ht hW => ⟨⟨_, _, rfl, hJ.trans hE.symm, by rw [ht]; exact hP, va_K.moved hW.alike hK, hD⟩, hS.F ht⟩) hS.2.2 dX8_gear_26
  · skip
    rw [if_pos c1] at hJ
    rw [if_pos c1] at hV
    refine lv_bipush (v := (-101 : Int32)) hx hb dX8_gear_7 (by decide) ?_
    exact W.iret hx hb hr (fun t ht hW => ⟨⟨_, _, rfl, hJ.trans hE.symm, by rw [ht]; exact hP, va_K.moved hW.alike hK, hD⟩, hS.F ht⟩) hS.2.2 dX8_gear_9
